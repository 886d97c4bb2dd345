def f_X4_clear_7 : Nat → Int32 → Ob → Option (Ob)
  | 0, _, _ => none
  | nn7+1, x7_1, o7_0 => if (81 : Int32) ≤ x7_1 then (some o7_0) else (if x7_1 < 0 ∨ 81 ≤ x7_1.toNatClampNeg then none else bnd (upd (o7_0.2 4) x7_1.toNatClampNeg (vp_nar .boolean (0 : Int32))) fun u3 : Nat → Int32 => bnd (x7_1 + (1 : Int32)) fun x4 : Int32 => (f_X4_clear_7 nn7) x4 (stR o7_0 4 u3))
def f_X4_clear (o0 : Ob) : Option (Ob) := f_X4_clear_7 FU (0 : Int32) (stF o0 5 (0 : Int32))
abbrev rmX4_clear : Room := { frames := 0, cells := 0, slots := 0, locals := 0 }
theorem dsc_X4_clear : yX4_clear.cls ≠ "java/lang/invoke/MethodHandle" ∧ yX4_clear.cls ≠ "java/lang/invoke/VarHandle" ∧ (parseMethodDescriptor yX4_clear.desc).map (fun d => d.parameters.length) = some 0 := by decide +kernel
set_option maxHeartbeats 4000000 in
set_option maxRecDepth 100000 in
theorem c_X4_clear (l : Launch) (dC : Nat → ClassId) (dI : Nat → Nat → Nat) (cB cI cZ cO : ClassId) (a0 : Nat) (g0 : Nat → Nat) (o0 : Ob) {r : Ob} (h : f_X4_clear o0 = some r) : Ct dC dI cB cI cZ cO l yX4_clear wsX4_clear rmX4_clear [.ref a0] ([cX4 a0 g0 o0, cX4_0 cI g0 o0, cX4_1 cI g0 o0, cX4_2 cI g0 o0, cX4_3 cI g0 o0, cX4_4 cZ g0 o0, cX4_6 cI g0 o0]) none ([cX4 a0 g0 r, cX4_0 cI g0 r, cX4_1 cI g0 r, cX4_2 cI g0 r, cX4_3 cI g0 r, cX4_4 cZ g0 r, cX4_6 cI g0 r]) := by
  intro sz
  refine Met.ofW (cc := cX4_clear) (maxL := 2) (ret := none) (by decide) rfl ?_
  intro p e s m args below meth c s₁ B hml hv
  obtain ⟨rfl, hsz, hP, hKK, hD0⟩ := hv
  have hx := B.exec
  have hb := B.bytes
  have hr := B.returns
  have hts := atoms_spec (ws := wsX4_clear) B.pre
  have hown : s.vm.findClass RX4 = some m.cls := findClass_of_methodNamed B.named
  have hlocks := B.notSynchronized
  have hiX4 : ∀ w ∈ u_ws RX4 TX4 8, w ∈ wsX4_clear := fun w h => List.mem_cons_of_mem _ (List.mem_append_right _ h)
  subst hsz
  have hD := hD0.self (sz := s.heap.size)
  generalize hAe : va_A ([cX4 a0 g0 o0, cX4_0 cI g0 o0, cX4_1 cI g0 o0, cX4_2 cI g0 o0, cX4_3 cI g0 o0, cX4_4 cZ g0 o0, cX4_6 cI g0 o0]) s.heap.size = A at hD ⊢
  have hA : ∀ q : Nat, s.heap.size ≤ q → A q := fun q h => by rw [← hAe]; exact Or.inr h
  have hS : va_S A s.heap s.heap [] := va_S.rf
  have hP : va_P (dC, dI) vwCl ([cX4 a0 g0 o0, cX4_0 cI g0 o0, cX4_1 cI g0 o0, cX4_2 cI g0 o0, cX4_3 cI g0 o0, cX4_4 cZ g0 o0, cX4_6 cI g0 o0]) s.heap := hP
  have hD : va_D A ([cX4 a0 g0 o0, cX4_0 cI g0 o0, cX4_1 cI g0 o0, cX4_2 cI g0 o0, cX4_3 cI g0 o0, cX4_4 cZ g0 o0, cX4_6 cI g0 o0]) := hD
  have hl := lv_entry ([.ref a0]) (n := 2) (Nat.le_of_ble_eq_true rfl)
  rw [lg_entry_eq]
  generalize (lg_sl ([.ref a0]) ++ List.replicate (2 - (lg_sl ([.ref a0])).length) Slot.unset).toArray = ls at hl ⊢
  have hl : lv_has ls 2 [(0, .ref a0)] := hl
  obtain ⟨Q, hQ⟩ : ∃ Q, Q = MQ below (Qq dC dI none ([cX4 a0 g0 r, cX4_0 cI g0 r, cX4_1 cI g0 r, cX4_2 cI g0 r, cX4_3 cI g0 r, cX4_4 cZ g0 r, cX4_6 cI g0 r]) A) ([.ref a0] : List Value).toArray s 0 0 A := ⟨_, rfl⟩
  rw [← hQ]
  rw [f_X4_clear] at h
  clear hAe hD0
  refine lv_aload_n hx hb dX4_clear_0 rfl (lv_at hl 0 rfl) ?_
  refine lv_iconst (v := (0 : Int32)) hx hb dX4_clear_1 (by decide) ?_
  refine va_put (D := (dC, dI)) (ci := 4) (v := .int (0 : Int32)) (ty := .int) (C := RX4) (T := TX4) (N := 8) hx hb hts hiX4 tyX4 tyX4_ok nmX4 hown hKK.1 hP hD hS 0 rfl rfl 5 (by decide) (hts (.fieldLink RX4 53 "SlideLand$Route" "queued" "I") (List.mem_of_getElem? (i := 1) rfl)) (fun _ h9 => h9) rfl (by decide +kernel) rfl rfl (Nat.le_of_ble_eq_true rfl) dX4_clear_2 (fun H locs hP hD hS => ?_)
  have hP : va_P (dC, dI) vwCl ([cX4 a0 g0 (stF o0 5 (0 : Int32)), cX4_0 cI g0 (stF o0 5 (0 : Int32)), cX4_1 cI g0 (stF o0 5 (0 : Int32)), cX4_2 cI g0 (stF o0 5 (0 : Int32)), cX4_3 cI g0 (stF o0 5 (0 : Int32)), cX4_4 cZ g0 (stF o0 5 (0 : Int32)), cX4_6 cI g0 (stF o0 5 (0 : Int32))]) H := hP
  have hD : va_D A ([cX4 a0 g0 (stF o0 5 (0 : Int32)), cX4_0 cI g0 (stF o0 5 (0 : Int32)), cX4_1 cI g0 (stF o0 5 (0 : Int32)), cX4_2 cI g0 (stF o0 5 (0 : Int32)), cX4_3 cI g0 (stF o0 5 (0 : Int32)), cX4_4 cZ g0 (stF o0 5 (0 : Int32)), cX4_6 cI g0 (stF o0 5 (0 : Int32))]) := hD
  refine lv_iconst (v := (0 : Int32)) hx hb dX4_clear_5 (by decide) ?_
  refine lv_istore_n (lv' := [(1, .int (0 : Int32)), (0, .ref a0)]) hx hb dX4_clear_6 rfl hl (by decide) rfl (fun ls hl => ?_)
  have lp7 : ∀ (nn7 : Nat) (x7_1 : Int32) (o7_0 : Ob), f_X4_clear_7 nn7 x7_1 o7_0 = some r → ∀ (H : Heap) (locs : List Loc) (ls : Array Slot), va_P (dC, dI) vwCl ([cX4 a0 g0 o7_0, cX4_0 cI g0 o7_0, cX4_1 cI g0 o7_0, cX4_2 cI g0 o7_0, cX4_3 cI g0 o7_0, cX4_4 cZ g0 o7_0, cX4_6 cI g0 o7_0]) H → va_D A ([cX4 a0 g0 o7_0, cX4_0 cI g0 o7_0, cX4_1 cI g0 o7_0, cX4_2 cI g0 o7_0, cX4_3 cI g0 o7_0, cX4_4 cZ g0 o7_0, cX4_6 cI g0 o7_0]) → va_S A s.heap H locs → lv_has ls 2 [(0, .ref a0), (1, .int x7_1)] → W p l e (headSpec wsX4_clear rmX4_clear).room s m ([.ref a0] : List Value).toArray below meth c H locs 0 0 Q (F0 m 7 ls []) := by
    intro nn7
    induction nn7 with
    | zero => intro x7_1 o7_0 h; rw [f_X4_clear_7] at h; cases h
    | succ nn7 ih7 =>
      intro x7_1 o7_0 h H locs ls hP hD hS hl
      rw [f_X4_clear_7] at h
      refine lv_iload_n hx hb dX4_clear_7 rfl (lv_at hl 1 rfl) ?_
      refine lv_aload_n hx hb dX4_clear_8 rfl (lv_at hl 0 rfl) ?_
      refine va_get (D := (dC, dI)) (ci := 4) (v := .ref (g0 4)) (C := RX4) (T := TX4) (N := 8) hx hb hts hiX4 hown hKK.1 hP 0 rfl rfl 4 (by decide) (hts (.fieldLink RX4 24 "SlideLand$Route" "seen" "[Z") (List.mem_of_getElem? (i := 2) rfl)) (fun _ h9 => h9) rfl dX4_clear_9 ?_
      refine va_alen (v := (81 : Int32)) hx hb hKK.1 hP 5 2 rfl (ty := .boolean) rfl (show Int32.ofNat 81 = (81 : Int32) from by decide) dX4_clear_12 ?_
      refine lv_icmp_ge (tgt := 29) hx hb dX4_clear_13 (by decide) (fun k1 => ?_) (fun k1 => ?_)
      · have h := ite_t k1 h
        have h := Option.some.inj h
        subst h
        subst hQ
        exact W.vret hx hb hr (fun t ht hW => ⟨⟨rfl, by rw [ht]; exact hP, hD⟩, hS.F ht⟩) hS.2.2 dX4_clear_29
      · have h := ite_f k1 h
        refine lv_aload_n hx hb dX4_clear_16 rfl (lv_at hl 0 rfl) ?_
        refine va_get (D := (dC, dI)) (ci := 4) (v := .ref (g0 4)) (C := RX4) (T := TX4) (N := 8) hx hb hts hiX4 hown hKK.1 hP 0 rfl rfl 4 (by decide) (hts (.fieldLink RX4 24 "SlideLand$Route" "seen" "[Z") (List.mem_of_getElem? (i := 2) rfl)) (fun _ h9 => h9) rfl dX4_clear_17 ?_
        refine lv_iload_n hx hb dX4_clear_20 rfl (lv_at hl 1 rfl) ?_
        refine lv_iconst (v := (0 : Int32)) hx hb dX4_clear_21 (by decide) ?_
        obtain ⟨k2, h⟩ := ite_n h
        obtain ⟨u3, hu3, h⟩ := bnd_e h
        refine k_zast (f := (o7_0.2 4)) hx hb hKK.1 hP hD hS 5 2 hu3 rfl rfl k2 dX4_clear_22 (fun H locs hP hD hS => ?_)
        have hP : va_P (dC, dI) vwCl ([cX4 a0 g0 (stR o7_0 4 u3), cX4_0 cI g0 (stR o7_0 4 u3), cX4_1 cI g0 (stR o7_0 4 u3), cX4_2 cI g0 (stR o7_0 4 u3), cX4_3 cI g0 (stR o7_0 4 u3), cX4_4 cZ g0 (stR o7_0 4 u3), cX4_6 cI g0 (stR o7_0 4 u3)]) H := hP
        have hD : va_D A ([cX4 a0 g0 (stR o7_0 4 u3), cX4_0 cI g0 (stR o7_0 4 u3), cX4_1 cI g0 (stR o7_0 4 u3), cX4_2 cI g0 (stR o7_0 4 u3), cX4_3 cI g0 (stR o7_0 4 u3), cX4_4 cZ g0 (stR o7_0 4 u3), cX4_6 cI g0 (stR o7_0 4 u3)]) := hD
        obtain ⟨x4, hx4, h⟩ := bnd_e h
        refine lv_iinc (v := x4) (lv' := [(1, .int x4), (0, .ref a0)]) hx hb dX4_clear_23 hl (k := 1) rfl (by rw [← hx4]; rfl) (by decide) rfl (fun ls hl => ?_)
        refine lv_goto (tgt := 7) hx hb dX4_clear_26 (by decide) ?_
        exact ih7 x4 (stR o7_0 4 u3) h _ _ _ hP hD hS (lv_sub hl [1, 0] rfl)
  exact lp7 FU (0 : Int32) (stF o0 5 (0 : Int32)) h _ _ _ hP hD hS (lv_sub hl [1, 0] rfl)
def f_X4_come (o0 : Ob) (v1 : Int32) (v2 : Int32) (v3 : Int32) (v4 : Int32) : Option (Ob) := bnd (v1 + (40 : Int32)) fun x1 : Int32 => if x1 < 0 then (some o0) else (if (81 : Int32) ≤ x1 then (some o0) else (if x1 < 0 ∨ 81 ≤ x1.toNatClampNeg then none else if ((o0.2 4) x1.toNatClampNeg) = 0 then (if x1 < 0 ∨ 81 ≤ x1.toNatClampNeg then none else bnd (upd (o0.2 4) x1.toNatClampNeg (vp_nar .boolean (1 : Int32))) fun u7 : Nat → Int32 => (f_X7_setCell 81 (o0.2 0) (o0.1 5) x1).bind fun q8 : (Nat → Int32) => (f_X7_setCell 81 (o0.2 1) (o0.1 5) v2).bind fun q9 : (Nat → Int32) => (f_X7_setCell 81 (o0.2 2) (o0.1 5) v3).bind fun q10 : (Nat → Int32) => (f_X7_setCell 81 (o0.2 3) (o0.1 5) v4).bind fun q11 : (Nat → Int32) => bnd ((o0.1 5) + (1 : Int32)) fun x12 : Int32 => some (stR (stR (stR (stR (stR (stF o0 5 x12) 0 q8) 1 q9) 2 q10) 3 q11) 4 u7)) else (some o0)))
abbrev rmX4_come : Room := { frames := 1, cells := 0, slots := 0, locals := 22 }
theorem dsc_X4_come : yX4_come.cls ≠ "java/lang/invoke/MethodHandle" ∧ yX4_come.cls ≠ "java/lang/invoke/VarHandle" ∧ (parseMethodDescriptor yX4_come.desc).map (fun d => d.parameters.length) = some 4 := by decide +kernel
set_option maxHeartbeats 4000000 in
set_option maxRecDepth 100000 in
theorem c_X4_come (l : Launch) (dC : Nat → ClassId) (dI : Nat → Nat → Nat) (cB cI cZ cO : ClassId) (a0 : Nat) (g0 : Nat → Nat) (o0 : Ob) (v1 : Int32) (v2 : Int32) (v3 : Int32) (v4 : Int32) {r : Ob} (h : f_X4_come o0 v1 v2 v3 v4 = some r) : Ct dC dI cB cI cZ cO l yX4_come wsX4_come rmX4_come [.ref a0, .int v1, .int v2, .int v3, .int v4] ([cX4 a0 g0 o0, cX4_0 cI g0 o0, cX4_1 cI g0 o0, cX4_2 cI g0 o0, cX4_3 cI g0 o0, cX4_4 cZ g0 o0, cX4_6 cI g0 o0]) none ([cX4 a0 g0 r, cX4_0 cI g0 r, cX4_1 cI g0 r, cX4_2 cI g0 r, cX4_3 cI g0 r, cX4_4 cZ g0 r, cX4_6 cI g0 r]) := by
  intro sz
  refine Met.ofW (cc := cX4_come) (maxL := 6) (ret := none) (by decide) rfl ?_
  intro p e s m args below meth c s₁ B hml hv
  obtain ⟨rfl, hsz, hP, hKK, hD0⟩ := hv
  have hx := B.exec
  have hb := B.bytes
  have hr := B.returns
  have hts := atoms_spec (ws := wsX4_come) B.pre
  have hown : s.vm.findClass RX4 = some m.cls := findClass_of_methodNamed B.named
  have hlocks := B.notSynchronized
  have hiX4 : ∀ w ∈ u_ws RX4 TX4 8, w ∈ wsX4_come := fun w h => List.mem_cons_of_mem _ (List.mem_append_right _ h)
  subst hsz
  have hD := hD0.self (sz := s.heap.size)
  generalize hAe : va_A ([cX4 a0 g0 o0, cX4_0 cI g0 o0, cX4_1 cI g0 o0, cX4_2 cI g0 o0, cX4_3 cI g0 o0, cX4_4 cZ g0 o0, cX4_6 cI g0 o0]) s.heap.size = A at hD ⊢
  have hA : ∀ q : Nat, s.heap.size ≤ q → A q := fun q h => by rw [← hAe]; exact Or.inr h
  have hS : va_S A s.heap s.heap [] := va_S.rf
  have hP : va_P (dC, dI) vwCl ([cX4 a0 g0 o0, cX4_0 cI g0 o0, cX4_1 cI g0 o0, cX4_2 cI g0 o0, cX4_3 cI g0 o0, cX4_4 cZ g0 o0, cX4_6 cI g0 o0]) s.heap := hP
  have hD : va_D A ([cX4 a0 g0 o0, cX4_0 cI g0 o0, cX4_1 cI g0 o0, cX4_2 cI g0 o0, cX4_3 cI g0 o0, cX4_4 cZ g0 o0, cX4_6 cI g0 o0]) := hD
  have hl := lv_entry ([.ref a0, .int v1, .int v2, .int v3, .int v4]) (n := 6) (Nat.le_of_ble_eq_true rfl)
  rw [lg_entry_eq]
  generalize (lg_sl ([.ref a0, .int v1, .int v2, .int v3, .int v4]) ++ List.replicate (6 - (lg_sl ([.ref a0, .int v1, .int v2, .int v3, .int v4])).length) Slot.unset).toArray = ls at hl ⊢
  have hl : lv_has ls 6 [(0, .ref a0), (1, .int v1), (2, .int v2), (3, .int v3), (4, .int v4)] := hl
  obtain ⟨Q, hQ⟩ : ∃ Q, Q = MQ below (Qq dC dI none ([cX4 a0 g0 r, cX4_0 cI g0 r, cX4_1 cI g0 r, cX4_2 cI g0 r, cX4_3 cI g0 r, cX4_4 cZ g0 r, cX4_6 cI g0 r]) A) ([.ref a0, .int v1, .int v2, .int v3, .int v4] : List Value).toArray s 0 0 A := ⟨_, rfl⟩
  rw [← hQ]
  rw [f_X4_come] at h
  clear hAe hD0
  refine lv_iload_n hx hb dX4_come_0 rfl (lv_at hl 1 rfl) ?_
  refine lv_bipush (v := (40 : Int32)) hx hb dX4_come_1 (by decide) ?_
  refine lv_iadd hx hb dX4_come_3 ?_
  obtain ⟨x1, hx1, h⟩ := bnd_e h
  refine lv_topE hx1 ?_
  refine lv_istore (lv' := [(5, .int x1), (0, .ref a0), (1, .int v1), (2, .int v2), (3, .int v3), (4, .int v4)]) hx hb dX4_come_4 hl (by decide) rfl (fun ls hl => ?_)
  refine lv_iload hx hb dX4_come_6 (lv_at hl 0 rfl) ?_
  refine lv_if_lt (tgt := 99) hx hb dX4_come_8 (by decide) (fun k2 => ?_) (fun k2 => ?_)
  · have h := ite_t k2 h
    have h := Option.some.inj h
    subst h
    subst hQ
    exact W.vret hx hb hr (fun t ht hW => ⟨⟨rfl, by rw [ht]; exact hP, hD⟩, hS.F ht⟩) hS.2.2 dX4_come_99
  · have h := ite_f k2 h
    refine lv_iload hx hb dX4_come_11 (lv_at hl 0 rfl) ?_
    refine lv_aload_n hx hb dX4_come_13 rfl (lv_at hl 1 rfl) ?_
    refine va_get (D := (dC, dI)) (ci := 4) (v := .ref (g0 4)) (C := RX4) (T := TX4) (N := 8) hx hb hts hiX4 hown hKK.1 hP 0 rfl rfl 4 (by decide) (hts (.fieldLink RX4 24 "SlideLand$Route" "seen" "[Z") (List.mem_of_getElem? (i := 1) rfl)) (fun _ h9 => h9) rfl dX4_come_14 ?_
    refine va_alen (v := (81 : Int32)) hx hb hKK.1 hP 5 2 rfl (ty := .boolean) rfl (show Int32.ofNat 81 = (81 : Int32) from by decide) dX4_come_17 ?_
    refine lv_icmp_ge (tgt := 99) hx hb dX4_come_18 (by decide) (fun k3 => ?_) (fun k3 => ?_)
    · have h := ite_t k3 h
      have h := Option.some.inj h
      subst h
      subst hQ
      exact W.vret hx hb hr (fun t ht hW => ⟨⟨rfl, by rw [ht]; exact hP, hD⟩, hS.F ht⟩) hS.2.2 dX4_come_99
    · have h := ite_f k3 h
      refine lv_aload_n hx hb dX4_come_21 rfl (lv_at hl 1 rfl) ?_
      refine va_get (D := (dC, dI)) (ci := 4) (v := .ref (g0 4)) (C := RX4) (T := TX4) (N := 8) hx hb hts hiX4 hown hKK.1 hP 0 rfl rfl 4 (by decide) (hts (.fieldLink RX4 24 "SlideLand$Route" "seen" "[Z") (List.mem_of_getElem? (i := 1) rfl)) (fun _ h9 => h9) rfl dX4_come_22 ?_
      refine lv_iload hx hb dX4_come_25 (lv_at hl 0 rfl) ?_
      obtain ⟨k4, h⟩ := ite_n h
      refine va_zald hx hb hKK.1 hP 5 2 rfl rfl k4 dX4_come_27 ?_
      refine lv_if_ne (tgt := 99) hx hb dX4_come_28 (by decide) (fun k5 => ?_) (fun k5 => ?_)
      · have h := ite_f k5 h
        have h := Option.some.inj h
        subst h
        subst hQ
        exact W.vret hx hb hr (fun t ht hW => ⟨⟨rfl, by rw [ht]; exact hP, hD⟩, hS.F ht⟩) hS.2.2 dX4_come_99
      · have h := ite_t k5 h
        refine lv_aload_n hx hb dX4_come_31 rfl (lv_at hl 1 rfl) ?_
        refine va_get (D := (dC, dI)) (ci := 4) (v := .ref (g0 4)) (C := RX4) (T := TX4) (N := 8) hx hb hts hiX4 hown hKK.1 hP 0 rfl rfl 4 (by decide) (hts (.fieldLink RX4 24 "SlideLand$Route" "seen" "[Z") (List.mem_of_getElem? (i := 1) rfl)) (fun _ h9 => h9) rfl dX4_come_32 ?_
        refine lv_iload hx hb dX4_come_35 (lv_at hl 0 rfl) ?_
        refine lv_iconst (v := (1 : Int32)) hx hb dX4_come_37 (by decide) ?_
        obtain ⟨k6, h⟩ := ite_n h
        obtain ⟨u7, hu7, h⟩ := bnd_e h
        refine k_zast (f := (o0.2 4)) hx hb hKK.1 hP hD hS 5 2 hu7 rfl rfl k6 dX4_come_38 (fun H locs hP hD hS => ?_)
        have hP : va_P (dC, dI) vwCl ([cX4 a0 g0 (stR o0 4 u7), cX4_0 cI g0 (stR o0 4 u7), cX4_1 cI g0 (stR o0 4 u7), cX4_2 cI g0 (stR o0 4 u7), cX4_3 cI g0 (stR o0 4 u7), cX4_4 cZ g0 (stR o0 4 u7), cX4_6 cI g0 (stR o0 4 u7)]) H := hP
        have hD : va_D A ([cX4 a0 g0 (stR o0 4 u7), cX4_0 cI g0 (stR o0 4 u7), cX4_1 cI g0 (stR o0 4 u7), cX4_2 cI g0 (stR o0 4 u7), cX4_3 cI g0 (stR o0 4 u7), cX4_4 cZ g0 (stR o0 4 u7), cX4_6 cI g0 (stR o0 4 u7)]) := hD
        refine lv_aload_n hx hb dX4_come_39 rfl (lv_at hl 1 rfl) ?_
        refine va_get (D := (dC, dI)) (ci := 4) (v := .ref (g0 0)) (C := RX4) (T := TX4) (N := 8) hx hb hts hiX4 hown hKK.1 hP 0 rfl rfl 0 (by decide) (hts (.fieldLink RX4 9 "SlideLand$Route" "queue" "[I") (List.mem_of_getElem? (i := 2) rfl)) (fun _ h9 => h9) rfl dX4_come_40 ?_
        refine lv_aload_n hx hb dX4_come_43 rfl (lv_at hl 1 rfl) ?_
        refine va_get (D := (dC, dI)) (ci := 4) (v := .int (o0.1 5)) (C := RX4) (T := TX4) (N := 8) hx hb hts hiX4 hown hKK.1 hP 0 rfl rfl 5 (by decide) (hts (.fieldLink RX4 53 "SlideLand$Route" "queued" "I") (List.mem_of_getElem? (i := 3) rfl)) (fun _ h9 => h9) rfl dX4_come_44 ?_
        refine lv_iload hx hb dX4_come_47 (lv_at hl 0 rfl) ?_
        obtain ⟨q8, hq8, h⟩ := obd_e h
        refine kcN (rest := []) (w2 := ([cX4 a0 g0 (stR (stR o0 0 q8) 4 u7), cX4_0 cI g0 (stR (stR o0 0 q8) 4 u7), cX4_1 cI g0 (stR (stR o0 0 q8) 4 u7), cX4_2 cI g0 (stR (stR o0 0 q8) 4 u7), cX4_3 cI g0 (stR (stR o0 0 q8) 4 u7), cX4_4 cZ g0 (stR (stR o0 0 q8) 4 u7), cX4_6 cI g0 (stR (stR o0 0 q8) 4 u7)])) hx hb hml hown hts hKK hP hD hS hA (c_X7_setCell l dC dI cB cI cZ cO (g0 0) 81 (o0.2 0) (o0.1 5) x1 hq8) [1] (atAll_map ⟨rfl, trivial⟩) (by decide +kernel) (sameAd_map ⟨rfl, trivial⟩) (atAll_map ⟨rfl, trivial⟩) ⟨Or.inl rfl, Or.inr (by decide), Or.inl rfl, Or.inl rfl, Or.inl rfl, Or.inl rfl, Or.inl rfl, trivial⟩ ⟨va_cnB 3 hts gX4_come_X7_setCell_n83 rfl rfl rfl (hKK.2 _ (nws_in 16 rfl)) (hts (.initialized RX7) (List.mem_of_getElem? (i := 8) rfl)) dsc_X7_setCell ⟨Nat.le_of_ble_eq_true rfl, Nat.le_of_ble_eq_true rfl⟩, hts (.static yX7_setCell) (List.mem_of_getElem? (i := 7) rfl), trivial⟩ rfl hl.1 rfl (Nat.le_of_ble_eq_true rfl) dX4_come_49 ⟨Nat.zero_le _, Nat.zero_le _⟩ (fun H locs hP hD hS => ?_)
        refine lv_aload_n hx hb dX4_come_52 rfl (lv_at hl 1 rfl) ?_
        refine va_get (D := (dC, dI)) (ci := 4) (v := .ref (g0 1)) (C := RX4) (T := TX4) (N := 8) hx hb hts hiX4 hown hKK.1 hP 0 rfl rfl 1 (by decide) (hts (.fieldLink RX4 15 "SlideLand$Route" "from" "[I") (List.mem_of_getElem? (i := 4) rfl)) (fun _ h9 => h9) rfl dX4_come_53 ?_
        refine lv_aload_n hx hb dX4_come_56 rfl (lv_at hl 1 rfl) ?_
        refine va_get (D := (dC, dI)) (ci := 4) (v := .int (o0.1 5)) (C := RX4) (T := TX4) (N := 8) hx hb hts hiX4 hown hKK.1 hP 0 rfl rfl 5 (by decide) (hts (.fieldLink RX4 53 "SlideLand$Route" "queued" "I") (List.mem_of_getElem? (i := 3) rfl)) (fun _ h9 => h9) rfl dX4_come_57 ?_
        refine lv_iload_n hx hb dX4_come_60 rfl (lv_at hl 3 rfl) ?_
        obtain ⟨q9, hq9, h⟩ := obd_e h
        refine kcN (rest := []) (w2 := ([cX4 a0 g0 (stR (stR (stR o0 0 q8) 1 q9) 4 u7), cX4_0 cI g0 (stR (stR (stR o0 0 q8) 1 q9) 4 u7), cX4_1 cI g0 (stR (stR (stR o0 0 q8) 1 q9) 4 u7), cX4_2 cI g0 (stR (stR (stR o0 0 q8) 1 q9) 4 u7), cX4_3 cI g0 (stR (stR (stR o0 0 q8) 1 q9) 4 u7), cX4_4 cZ g0 (stR (stR (stR o0 0 q8) 1 q9) 4 u7), cX4_6 cI g0 (stR (stR (stR o0 0 q8) 1 q9) 4 u7)])) hx hb hml hown hts hKK hP hD hS hA (c_X7_setCell l dC dI cB cI cZ cO (g0 1) 81 (o0.2 1) (o0.1 5) v2 hq9) [2] (atAll_map ⟨rfl, trivial⟩) (by decide +kernel) (sameAd_map ⟨rfl, trivial⟩) (atAll_map ⟨rfl, trivial⟩) ⟨Or.inl rfl, Or.inl rfl, Or.inr (by decide), Or.inl rfl, Or.inl rfl, Or.inl rfl, Or.inl rfl, trivial⟩ ⟨va_cnB 3 hts gX4_come_X7_setCell_n83 rfl rfl rfl (hKK.2 _ (nws_in 16 rfl)) (hts (.initialized RX7) (List.mem_of_getElem? (i := 8) rfl)) dsc_X7_setCell ⟨Nat.le_of_ble_eq_true rfl, Nat.le_of_ble_eq_true rfl⟩, hts (.static yX7_setCell) (List.mem_of_getElem? (i := 7) rfl), trivial⟩ rfl hl.1 rfl (Nat.le_of_ble_eq_true rfl) dX4_come_61 ⟨Nat.zero_le _, Nat.zero_le _⟩ (fun H locs hP hD hS => ?_)
        refine lv_aload_n hx hb dX4_come_64 rfl (lv_at hl 1 rfl) ?_
        refine va_get (D := (dC, dI)) (ci := 4) (v := .ref (g0 2)) (C := RX4) (T := TX4) (N := 8) hx hb hts hiX4 hown hKK.1 hP 0 rfl rfl 2 (by decide) (hts (.fieldLink RX4 18 "SlideLand$Route" "move" "[I") (List.mem_of_getElem? (i := 5) rfl)) (fun _ h9 => h9) rfl dX4_come_65 ?_
        refine lv_aload_n hx hb dX4_come_68 rfl (lv_at hl 1 rfl) ?_
        refine va_get (D := (dC, dI)) (ci := 4) (v := .int (o0.1 5)) (C := RX4) (T := TX4) (N := 8) hx hb hts hiX4 hown hKK.1 hP 0 rfl rfl 5 (by decide) (hts (.fieldLink RX4 53 "SlideLand$Route" "queued" "I") (List.mem_of_getElem? (i := 3) rfl)) (fun _ h9 => h9) rfl dX4_come_69 ?_
        refine lv_iload_n hx hb dX4_come_72 rfl (lv_at hl 4 rfl) ?_
        obtain ⟨q10, hq10, h⟩ := obd_e h
        refine kcN (rest := []) (w2 := ([cX4 a0 g0 (stR (stR (stR (stR o0 0 q8) 1 q9) 2 q10) 4 u7), cX4_0 cI g0 (stR (stR (stR (stR o0 0 q8) 1 q9) 2 q10) 4 u7), cX4_1 cI g0 (stR (stR (stR (stR o0 0 q8) 1 q9) 2 q10) 4 u7), cX4_2 cI g0 (stR (stR (stR (stR o0 0 q8) 1 q9) 2 q10) 4 u7), cX4_3 cI g0 (stR (stR (stR (stR o0 0 q8) 1 q9) 2 q10) 4 u7), cX4_4 cZ g0 (stR (stR (stR (stR o0 0 q8) 1 q9) 2 q10) 4 u7), cX4_6 cI g0 (stR (stR (stR (stR o0 0 q8) 1 q9) 2 q10) 4 u7)])) hx hb hml hown hts hKK hP hD hS hA (c_X7_setCell l dC dI cB cI cZ cO (g0 2) 81 (o0.2 2) (o0.1 5) v3 hq10) [3] (atAll_map ⟨rfl, trivial⟩) (by decide +kernel) (sameAd_map ⟨rfl, trivial⟩) (atAll_map ⟨rfl, trivial⟩) ⟨Or.inl rfl, Or.inl rfl, Or.inl rfl, Or.inr (by decide), Or.inl rfl, Or.inl rfl, Or.inl rfl, trivial⟩ ⟨va_cnB 3 hts gX4_come_X7_setCell_n83 rfl rfl rfl (hKK.2 _ (nws_in 16 rfl)) (hts (.initialized RX7) (List.mem_of_getElem? (i := 8) rfl)) dsc_X7_setCell ⟨Nat.le_of_ble_eq_true rfl, Nat.le_of_ble_eq_true rfl⟩, hts (.static yX7_setCell) (List.mem_of_getElem? (i := 7) rfl), trivial⟩ rfl hl.1 rfl (Nat.le_of_ble_eq_true rfl) dX4_come_73 ⟨Nat.zero_le _, Nat.zero_le _⟩ (fun H locs hP hD hS => ?_)
        refine lv_aload_n hx hb dX4_come_76 rfl (lv_at hl 1 rfl) ?_
        refine va_get (D := (dC, dI)) (ci := 4) (v := .ref (g0 3)) (C := RX4) (T := TX4) (N := 8) hx hb hts hiX4 hown hKK.1 hP 0 rfl rfl 3 (by decide) (hts (.fieldLink RX4 21 "SlideLand$Route" "depth" "[I") (List.mem_of_getElem? (i := 6) rfl)) (fun _ h9 => h9) rfl dX4_come_77 ?_
        refine lv_aload_n hx hb dX4_come_80 rfl (lv_at hl 1 rfl) ?_
        refine va_get (D := (dC, dI)) (ci := 4) (v := .int (o0.1 5)) (C := RX4) (T := TX4) (N := 8) hx hb hts hiX4 hown hKK.1 hP 0 rfl rfl 5 (by decide) (hts (.fieldLink RX4 53 "SlideLand$Route" "queued" "I") (List.mem_of_getElem? (i := 3) rfl)) (fun _ h9 => h9) rfl dX4_come_81 ?_
        refine lv_iload hx hb dX4_come_84 (lv_at hl 5 rfl) ?_
        obtain ⟨q11, hq11, h⟩ := obd_e h
        refine kcN (rest := []) (w2 := ([cX4 a0 g0 (stR (stR (stR (stR (stR o0 0 q8) 1 q9) 2 q10) 3 q11) 4 u7), cX4_0 cI g0 (stR (stR (stR (stR (stR o0 0 q8) 1 q9) 2 q10) 3 q11) 4 u7), cX4_1 cI g0 (stR (stR (stR (stR (stR o0 0 q8) 1 q9) 2 q10) 3 q11) 4 u7), cX4_2 cI g0 (stR (stR (stR (stR (stR o0 0 q8) 1 q9) 2 q10) 3 q11) 4 u7), cX4_3 cI g0 (stR (stR (stR (stR (stR o0 0 q8) 1 q9) 2 q10) 3 q11) 4 u7), cX4_4 cZ g0 (stR (stR (stR (stR (stR o0 0 q8) 1 q9) 2 q10) 3 q11) 4 u7), cX4_6 cI g0 (stR (stR (stR (stR (stR o0 0 q8) 1 q9) 2 q10) 3 q11) 4 u7)])) hx hb hml hown hts hKK hP hD hS hA (c_X7_setCell l dC dI cB cI cZ cO (g0 3) 81 (o0.2 3) (o0.1 5) v4 hq11) [4] (atAll_map ⟨rfl, trivial⟩) (by decide +kernel) (sameAd_map ⟨rfl, trivial⟩) (atAll_map ⟨rfl, trivial⟩) ⟨Or.inl rfl, Or.inl rfl, Or.inl rfl, Or.inl rfl, Or.inr (by decide), Or.inl rfl, Or.inl rfl, trivial⟩ ⟨va_cnB 3 hts gX4_come_X7_setCell_n83 rfl rfl rfl (hKK.2 _ (nws_in 16 rfl)) (hts (.initialized RX7) (List.mem_of_getElem? (i := 8) rfl)) dsc_X7_setCell ⟨Nat.le_of_ble_eq_true rfl, Nat.le_of_ble_eq_true rfl⟩, hts (.static yX7_setCell) (List.mem_of_getElem? (i := 7) rfl), trivial⟩ rfl hl.1 rfl (Nat.le_of_ble_eq_true rfl) dX4_come_86 ⟨Nat.zero_le _, Nat.zero_le _⟩ (fun H locs hP hD hS => ?_)
        refine lv_aload_n hx hb dX4_come_89 rfl (lv_at hl 1 rfl) ?_
        refine lv_dup hx hb dX4_come_90 rfl ?_
        refine va_get (D := (dC, dI)) (ci := 4) (v := .int (o0.1 5)) (C := RX4) (T := TX4) (N := 8) hx hb hts hiX4 hown hKK.1 hP 0 rfl rfl 5 (by decide) (hts (.fieldLink RX4 53 "SlideLand$Route" "queued" "I") (List.mem_of_getElem? (i := 3) rfl)) (fun _ h9 => h9) rfl dX4_come_91 ?_
        refine lv_iconst (v := (1 : Int32)) hx hb dX4_come_94 (by decide) ?_
        refine lv_iadd hx hb dX4_come_95 ?_
        obtain ⟨x12, hx12, h⟩ := bnd_e h
        rw [hx12]
        refine va_put (D := (dC, dI)) (ci := 4) (v := .int x12) (ty := .int) (C := RX4) (T := TX4) (N := 8) hx hb hts hiX4 tyX4 tyX4_ok nmX4 hown hKK.1 hP hD hS 0 rfl rfl 5 (by decide) (hts (.fieldLink RX4 53 "SlideLand$Route" "queued" "I") (List.mem_of_getElem? (i := 3) rfl)) (fun _ h9 => h9) rfl (by decide +kernel) rfl rfl (Nat.le_of_ble_eq_true rfl) dX4_come_96 (fun H locs hP hD hS => ?_)
        have hP : va_P (dC, dI) vwCl ([cX4 a0 g0 (stR (stR (stR (stR (stR (stF o0 5 x12) 0 q8) 1 q9) 2 q10) 3 q11) 4 u7), cX4_0 cI g0 (stR (stR (stR (stR (stR (stF o0 5 x12) 0 q8) 1 q9) 2 q10) 3 q11) 4 u7), cX4_1 cI g0 (stR (stR (stR (stR (stR (stF o0 5 x12) 0 q8) 1 q9) 2 q10) 3 q11) 4 u7), cX4_2 cI g0 (stR (stR (stR (stR (stR (stF o0 5 x12) 0 q8) 1 q9) 2 q10) 3 q11) 4 u7), cX4_3 cI g0 (stR (stR (stR (stR (stR (stF o0 5 x12) 0 q8) 1 q9) 2 q10) 3 q11) 4 u7), cX4_4 cZ g0 (stR (stR (stR (stR (stR (stF o0 5 x12) 0 q8) 1 q9) 2 q10) 3 q11) 4 u7), cX4_6 cI g0 (stR (stR (stR (stR (stR (stF o0 5 x12) 0 q8) 1 q9) 2 q10) 3 q11) 4 u7)]) H := hP
        have hD : va_D A ([cX4 a0 g0 (stR (stR (stR (stR (stR (stF o0 5 x12) 0 q8) 1 q9) 2 q10) 3 q11) 4 u7), cX4_0 cI g0 (stR (stR (stR (stR (stR (stF o0 5 x12) 0 q8) 1 q9) 2 q10) 3 q11) 4 u7), cX4_1 cI g0 (stR (stR (stR (stR (stR (stF o0 5 x12) 0 q8) 1 q9) 2 q10) 3 q11) 4 u7), cX4_2 cI g0 (stR (stR (stR (stR (stR (stF o0 5 x12) 0 q8) 1 q9) 2 q10) 3 q11) 4 u7), cX4_3 cI g0 (stR (stR (stR (stR (stR (stF o0 5 x12) 0 q8) 1 q9) 2 q10) 3 q11) 4 u7), cX4_4 cZ g0 (stR (stR (stR (stR (stR (stF o0 5 x12) 0 q8) 1 q9) 2 q10) 3 q11) 4 u7), cX4_6 cI g0 (stR (stR (stR (stR (stR (stF o0 5 x12) 0 q8) 1 q9) 2 q10) 3 q11) 4 u7)]) := hD
        have h := Option.some.inj h
        subst h
        subst hQ
        exact W.vret hx hb hr (fun t ht hW => ⟨⟨rfl, by rw [ht]; exact hP, hD⟩, hS.F ht⟩) hS.2.2 dX4_come_99
def f_X4_writeRow_38 : Nat → Int32 → Int32 → Ob → Option (Ob)
  | 0, _, _, _ => none
  | nn38+1, x38_3, x38_4, o38_0 => if x38_4 < 0 then (some o38_0) else ((f_X7_cell 81 (o38_0.2 2) x38_3).bind fun q6 : Int32 => (f_X7_setCell 9 (o38_0.2 6) x38_4 q6).bind fun q7 : (Nat → Int32) => (f_X7_cell 81 (o38_0.2 1) x38_3).bind fun q8 : Int32 => bnd (x38_4 + (-1 : Int32)) fun x9 : Int32 => (f_X4_writeRow_38 nn38) q8 x9 (stR o38_0 6 q7))
def f_X4_writeRow (o0 : Ob) (v1 : Int32) (v2 : Int32) : Option (Ob) := (f_X7_cell 81 (o0.2 3) v1).bind fun q1 : Int32 => bnd (q1 + (1 : Int32)) fun x2 : Int32 => (f_X7_setCell 9 (o0.2 6) (x2 - (1 : Int32)) v2).bind fun q3 : (Nat → Int32) => bnd (x2 - (2 : Int32)) fun x4 : Int32 => f_X4_writeRow_38 FU v1 x4 (stR (stF o0 7 x2) 6 q3)
abbrev rmX4_writeRow : Room := { frames := 1, cells := 0, slots := 0, locals := 22 }
theorem dsc_X4_writeRow : yX4_writeRow.cls ≠ "java/lang/invoke/MethodHandle" ∧ yX4_writeRow.cls ≠ "java/lang/invoke/VarHandle" ∧ (parseMethodDescriptor yX4_writeRow.desc).map (fun d => d.parameters.length) = some 2 := by decide +kernel
set_option maxHeartbeats 4000000 in
set_option maxRecDepth 100000 in
theorem c_X4_writeRow (l : Launch) (dC : Nat → ClassId) (dI : Nat → Nat → Nat) (cB cI cZ cO : ClassId) (a0 : Nat) (g0 : Nat → Nat) (o0 : Ob) (v1 : Int32) (v2 : Int32) {r : Ob} (h : f_X4_writeRow o0 v1 v2 = some r) : Ct dC dI cB cI cZ cO l yX4_writeRow wsX4_writeRow rmX4_writeRow [.ref a0, .int v1, .int v2] ([cX4 a0 g0 o0, cX4_0 cI g0 o0, cX4_1 cI g0 o0, cX4_2 cI g0 o0, cX4_3 cI g0 o0, cX4_4 cZ g0 o0, cX4_6 cI g0 o0]) none ([cX4 a0 g0 r, cX4_0 cI g0 r, cX4_1 cI g0 r, cX4_2 cI g0 r, cX4_3 cI g0 r, cX4_4 cZ g0 r, cX4_6 cI g0 r]) := by
  intro sz
  refine Met.ofW (cc := cX4_writeRow) (maxL := 5) (ret := none) (by decide) rfl ?_
  intro p e s m args below meth c s₁ B hml hv
  obtain ⟨rfl, hsz, hP, hKK, hD0⟩ := hv
  have hx := B.exec
  have hb := B.bytes
  have hr := B.returns
  have hts := atoms_spec (ws := wsX4_writeRow) B.pre
  have hown : s.vm.findClass RX4 = some m.cls := findClass_of_methodNamed B.named
  have hlocks := B.notSynchronized
  have hiX4 : ∀ w ∈ u_ws RX4 TX4 8, w ∈ wsX4_writeRow := fun w h => List.mem_cons_of_mem _ (List.mem_append_right _ h)
  subst hsz
  have hD := hD0.self (sz := s.heap.size)
  generalize hAe : va_A ([cX4 a0 g0 o0, cX4_0 cI g0 o0, cX4_1 cI g0 o0, cX4_2 cI g0 o0, cX4_3 cI g0 o0, cX4_4 cZ g0 o0, cX4_6 cI g0 o0]) s.heap.size = A at hD ⊢
  have hA : ∀ q : Nat, s.heap.size ≤ q → A q := fun q h => by rw [← hAe]; exact Or.inr h
  have hS : va_S A s.heap s.heap [] := va_S.rf
  have hP : va_P (dC, dI) vwCl ([cX4 a0 g0 o0, cX4_0 cI g0 o0, cX4_1 cI g0 o0, cX4_2 cI g0 o0, cX4_3 cI g0 o0, cX4_4 cZ g0 o0, cX4_6 cI g0 o0]) s.heap := hP
  have hD : va_D A ([cX4 a0 g0 o0, cX4_0 cI g0 o0, cX4_1 cI g0 o0, cX4_2 cI g0 o0, cX4_3 cI g0 o0, cX4_4 cZ g0 o0, cX4_6 cI g0 o0]) := hD
  have hl := lv_entry ([.ref a0, .int v1, .int v2]) (n := 5) (Nat.le_of_ble_eq_true rfl)
  rw [lg_entry_eq]
  generalize (lg_sl ([.ref a0, .int v1, .int v2]) ++ List.replicate (5 - (lg_sl ([.ref a0, .int v1, .int v2])).length) Slot.unset).toArray = ls at hl ⊢
  have hl : lv_has ls 5 [(0, .ref a0), (1, .int v1), (2, .int v2)] := hl
  obtain ⟨Q, hQ⟩ : ∃ Q, Q = MQ below (Qq dC dI none ([cX4 a0 g0 r, cX4_0 cI g0 r, cX4_1 cI g0 r, cX4_2 cI g0 r, cX4_3 cI g0 r, cX4_4 cZ g0 r, cX4_6 cI g0 r]) A) ([.ref a0, .int v1, .int v2] : List Value).toArray s 0 0 A := ⟨_, rfl⟩
  rw [← hQ]
  rw [f_X4_writeRow] at h
  clear hAe hD0
  refine lv_aload_n hx hb dX4_writeRow_0 rfl (lv_at hl 0 rfl) ?_
  refine lv_aload_n hx hb dX4_writeRow_1 rfl (lv_at hl 0 rfl) ?_
  refine va_get (D := (dC, dI)) (ci := 4) (v := .ref (g0 3)) (C := RX4) (T := TX4) (N := 8) hx hb hts hiX4 hown hKK.1 hP 0 rfl rfl 3 (by decide) (hts (.fieldLink RX4 21 "SlideLand$Route" "depth" "[I") (List.mem_of_getElem? (i := 1) rfl)) (fun _ h9 => h9) rfl dX4_writeRow_2 ?_
  refine lv_iload_n hx hb dX4_writeRow_5 rfl (lv_at hl 1 rfl) ?_
  obtain ⟨q1, hq1, h⟩ := obd_e h
  refine kcN (rest := [.ref a0]) (w2 := ([cX4 a0 g0 o0, cX4_0 cI g0 o0, cX4_1 cI g0 o0, cX4_2 cI g0 o0, cX4_3 cI g0 o0, cX4_4 cZ g0 o0, cX4_6 cI g0 o0])) hx hb hml hown hts hKK hP hD hS hA (c_X7_cell l dC dI cB cI cZ cO (g0 3) 81 (o0.2 3) v1 hq1) [4] (atAll_map ⟨rfl, trivial⟩) (by decide +kernel) (sameAd_map ⟨rfl, trivial⟩) (atAll_map ⟨rfl, trivial⟩) (agr_refl _ _ _) ⟨va_cnB 2 hts gX4_writeRow_X7_cell_n56 rfl rfl rfl (hKK.2 _ (nws_in 17 rfl)) (hts (.initialized RX7) (List.mem_of_getElem? (i := 7) rfl)) dsc_X7_cell ⟨Nat.le_of_ble_eq_true rfl, Nat.le_of_ble_eq_true rfl⟩, hts (.static yX7_cell) (List.mem_of_getElem? (i := 6) rfl), trivial⟩ rfl hl.1 rfl (Nat.le_of_ble_eq_true rfl) dX4_writeRow_6 ⟨Nat.zero_le _, Nat.zero_le _⟩ (fun H locs hP hD hS => ?_)
  refine lv_iconst (v := (1 : Int32)) hx hb dX4_writeRow_9 (by decide) ?_
  refine lv_iadd hx hb dX4_writeRow_10 ?_
  obtain ⟨x2, hx2, h⟩ := bnd_e h
  rw [hx2]
  refine va_put (D := (dC, dI)) (ci := 4) (v := .int x2) (ty := .int) (C := RX4) (T := TX4) (N := 8) hx hb hts hiX4 tyX4 tyX4_ok nmX4 hown hKK.1 hP hD hS 0 rfl rfl 7 (by decide) (hts (.fieldLink RX4 31 "SlideLand$Route" "length" "I") (List.mem_of_getElem? (i := 2) rfl)) (fun _ h9 => h9) rfl (by decide +kernel) rfl rfl (Nat.le_of_ble_eq_true rfl) dX4_writeRow_11 (fun H locs hP hD hS => ?_)
  have hP : va_P (dC, dI) vwCl ([cX4 a0 g0 (stF o0 7 x2), cX4_0 cI g0 (stF o0 7 x2), cX4_1 cI g0 (stF o0 7 x2), cX4_2 cI g0 (stF o0 7 x2), cX4_3 cI g0 (stF o0 7 x2), cX4_4 cZ g0 (stF o0 7 x2), cX4_6 cI g0 (stF o0 7 x2)]) H := hP
  have hD : va_D A ([cX4 a0 g0 (stF o0 7 x2), cX4_0 cI g0 (stF o0 7 x2), cX4_1 cI g0 (stF o0 7 x2), cX4_2 cI g0 (stF o0 7 x2), cX4_3 cI g0 (stF o0 7 x2), cX4_4 cZ g0 (stF o0 7 x2), cX4_6 cI g0 (stF o0 7 x2)]) := hD
  refine lv_aload_n hx hb dX4_writeRow_14 rfl (lv_at hl 0 rfl) ?_
  refine va_get (D := (dC, dI)) (ci := 4) (v := .ref (g0 6)) (C := RX4) (T := TX4) (N := 8) hx hb hts hiX4 hown hKK.1 hP 0 rfl rfl 6 (by decide) (hts (.fieldLink RX4 28 "SlideLand$Route" "row" "[I") (List.mem_of_getElem? (i := 3) rfl)) (fun _ h9 => h9) rfl dX4_writeRow_15 ?_
  refine lv_aload_n hx hb dX4_writeRow_18 rfl (lv_at hl 0 rfl) ?_
  refine va_get (D := (dC, dI)) (ci := 4) (v := .int x2) (C := RX4) (T := TX4) (N := 8) hx hb hts hiX4 hown hKK.1 hP 0 rfl rfl 7 (by decide) (hts (.fieldLink RX4 31 "SlideLand$Route" "length" "I") (List.mem_of_getElem? (i := 2) rfl)) (fun _ h9 => h9) rfl dX4_writeRow_19 ?_
  refine lv_iconst (v := (1 : Int32)) hx hb dX4_writeRow_22 (by decide) ?_
  refine lv_isub hx hb dX4_writeRow_23 ?_
  refine lv_iload_n hx hb dX4_writeRow_24 rfl (lv_at hl 2 rfl) ?_
  obtain ⟨q3, hq3, h⟩ := obd_e h
  refine kcN (rest := []) (w2 := ([cX4 a0 g0 (stR (stF o0 7 x2) 6 q3), cX4_0 cI g0 (stR (stF o0 7 x2) 6 q3), cX4_1 cI g0 (stR (stF o0 7 x2) 6 q3), cX4_2 cI g0 (stR (stF o0 7 x2) 6 q3), cX4_3 cI g0 (stR (stF o0 7 x2) 6 q3), cX4_4 cZ g0 (stR (stF o0 7 x2) 6 q3), cX4_6 cI g0 (stR (stF o0 7 x2) 6 q3)])) hx hb hml hown hts hKK hP hD hS hA (c_X7_setCell l dC dI cB cI cZ cO (g0 6) 9 (o0.2 6) (x2 - (1 : Int32)) v2 hq3) [6] (atAll_map ⟨rfl, trivial⟩) (by decide +kernel) (sameAd_map ⟨rfl, trivial⟩) (atAll_map ⟨rfl, trivial⟩) ⟨Or.inl rfl, Or.inl rfl, Or.inl rfl, Or.inl rfl, Or.inl rfl, Or.inl rfl, Or.inr (by decide), trivial⟩ ⟨va_cnB 3 hts gX4_writeRow_X7_setCell_n83 rfl rfl rfl (hKK.2 _ (nws_in 16 rfl)) (hts (.initialized RX7) (List.mem_of_getElem? (i := 7) rfl)) dsc_X7_setCell ⟨Nat.le_of_ble_eq_true rfl, Nat.le_of_ble_eq_true rfl⟩, hts (.static yX7_setCell) (List.mem_of_getElem? (i := 9) rfl), trivial⟩ rfl hl.1 rfl (Nat.le_of_ble_eq_true rfl) dX4_writeRow_25 ⟨Nat.zero_le _, Nat.zero_le _⟩ (fun H locs hP hD hS => ?_)
  refine lv_iload_n hx hb dX4_writeRow_28 rfl (lv_at hl 1 rfl) ?_
  refine lv_istore_n (lv' := [(3, .int v1), (0, .ref a0), (1, .int v1), (2, .int v2)]) hx hb dX4_writeRow_29 rfl hl (by decide) rfl (fun ls hl => ?_)
  refine lv_aload_n hx hb dX4_writeRow_30 rfl (lv_at hl 1 rfl) ?_
  refine va_get (D := (dC, dI)) (ci := 4) (v := .int x2) (C := RX4) (T := TX4) (N := 8) hx hb hts hiX4 hown hKK.1 hP 0 rfl rfl 7 (by decide) (hts (.fieldLink RX4 31 "SlideLand$Route" "length" "I") (List.mem_of_getElem? (i := 2) rfl)) (fun _ h9 => h9) rfl dX4_writeRow_31 ?_
  refine lv_iconst (v := (2 : Int32)) hx hb dX4_writeRow_34 (by decide) ?_
  refine lv_isub hx hb dX4_writeRow_35 ?_
  obtain ⟨x4, hx4, h⟩ := bnd_e h
  refine lv_topE hx4 ?_
  refine lv_istore (lv' := [(4, .int x4), (3, .int v1), (0, .ref a0), (1, .int v1), (2, .int v2)]) hx hb dX4_writeRow_36 hl (by decide) rfl (fun ls hl => ?_)
  have lp38 : ∀ (nn38 : Nat) (x38_3 : Int32) (x38_4 : Int32) (o38_0 : Ob), f_X4_writeRow_38 nn38 x38_3 x38_4 o38_0 = some r → ∀ (H : Heap) (locs : List Loc) (ls : Array Slot), va_P (dC, dI) vwCl ([cX4 a0 g0 o38_0, cX4_0 cI g0 o38_0, cX4_1 cI g0 o38_0, cX4_2 cI g0 o38_0, cX4_3 cI g0 o38_0, cX4_4 cZ g0 o38_0, cX4_6 cI g0 o38_0]) H → va_D A ([cX4 a0 g0 o38_0, cX4_0 cI g0 o38_0, cX4_1 cI g0 o38_0, cX4_2 cI g0 o38_0, cX4_3 cI g0 o38_0, cX4_4 cZ g0 o38_0, cX4_6 cI g0 o38_0]) → va_S A s.heap H locs → lv_has ls 5 [(0, .ref a0), (3, .int x38_3), (4, .int x38_4)] → W p l e (headSpec wsX4_writeRow rmX4_writeRow).room s m ([.ref a0, .int v1, .int v2] : List Value).toArray below meth c H locs 0 0 Q (F0 m 38 ls []) := by
    intro nn38
    induction nn38 with
    | zero => intro x38_3 x38_4 o38_0 h; rw [f_X4_writeRow_38] at h; cases h
    | succ nn38 ih38 =>
      intro x38_3 x38_4 o38_0 h H locs ls hP hD hS hl
      rw [f_X4_writeRow_38] at h
      refine lv_iload hx hb dX4_writeRow_38 (lv_at hl 2 rfl) ?_
      refine lv_if_lt (tgt := 75) hx hb dX4_writeRow_40 (by decide) (fun k5 => ?_) (fun k5 => ?_)
      · have h := ite_t k5 h
        have h := Option.some.inj h
        subst h
        subst hQ
        exact W.vret hx hb hr (fun t ht hW => ⟨⟨rfl, by rw [ht]; exact hP, hD⟩, hS.F ht⟩) hS.2.2 dX4_writeRow_75
      · have h := ite_f k5 h
        refine lv_aload_n hx hb dX4_writeRow_43 rfl (lv_at hl 0 rfl) ?_
        refine va_get (D := (dC, dI)) (ci := 4) (v := .ref (g0 6)) (C := RX4) (T := TX4) (N := 8) hx hb hts hiX4 hown hKK.1 hP 0 rfl rfl 6 (by decide) (hts (.fieldLink RX4 28 "SlideLand$Route" "row" "[I") (List.mem_of_getElem? (i := 3) rfl)) (fun _ h9 => h9) rfl dX4_writeRow_44 ?_
        refine lv_iload hx hb dX4_writeRow_47 (lv_at hl 2 rfl) ?_
        refine lv_aload_n hx hb dX4_writeRow_49 rfl (lv_at hl 0 rfl) ?_
        refine va_get (D := (dC, dI)) (ci := 4) (v := .ref (g0 2)) (C := RX4) (T := TX4) (N := 8) hx hb hts hiX4 hown hKK.1 hP 0 rfl rfl 2 (by decide) (hts (.fieldLink RX4 18 "SlideLand$Route" "move" "[I") (List.mem_of_getElem? (i := 4) rfl)) (fun _ h9 => h9) rfl dX4_writeRow_50 ?_
        refine lv_iload_n hx hb dX4_writeRow_53 rfl (lv_at hl 1 rfl) ?_
        obtain ⟨q6, hq6, h⟩ := obd_e h
        refine kcN (rest := [.int x38_4, .ref (g0 6)]) (w2 := ([cX4 a0 g0 o38_0, cX4_0 cI g0 o38_0, cX4_1 cI g0 o38_0, cX4_2 cI g0 o38_0, cX4_3 cI g0 o38_0, cX4_4 cZ g0 o38_0, cX4_6 cI g0 o38_0])) hx hb hml hown hts hKK hP hD hS hA (c_X7_cell l dC dI cB cI cZ cO (g0 2) 81 (o38_0.2 2) x38_3 hq6) [3] (atAll_map ⟨rfl, trivial⟩) (by decide +kernel) (sameAd_map ⟨rfl, trivial⟩) (atAll_map ⟨rfl, trivial⟩) (agr_refl _ _ _) ⟨va_cnB 2 hts gX4_writeRow_X7_cell_n56 rfl rfl rfl (hKK.2 _ (nws_in 17 rfl)) (hts (.initialized RX7) (List.mem_of_getElem? (i := 7) rfl)) dsc_X7_cell ⟨Nat.le_of_ble_eq_true rfl, Nat.le_of_ble_eq_true rfl⟩, hts (.static yX7_cell) (List.mem_of_getElem? (i := 6) rfl), trivial⟩ rfl hl.1 rfl (Nat.le_of_ble_eq_true rfl) dX4_writeRow_54 ⟨Nat.zero_le _, Nat.zero_le _⟩ (fun H locs hP hD hS => ?_)
        obtain ⟨q7, hq7, h⟩ := obd_e h
        refine kcN (rest := []) (w2 := ([cX4 a0 g0 (stR o38_0 6 q7), cX4_0 cI g0 (stR o38_0 6 q7), cX4_1 cI g0 (stR o38_0 6 q7), cX4_2 cI g0 (stR o38_0 6 q7), cX4_3 cI g0 (stR o38_0 6 q7), cX4_4 cZ g0 (stR o38_0 6 q7), cX4_6 cI g0 (stR o38_0 6 q7)])) hx hb hml hown hts hKK hP hD hS hA (c_X7_setCell l dC dI cB cI cZ cO (g0 6) 9 (o38_0.2 6) x38_4 q6 hq7) [6] (atAll_map ⟨rfl, trivial⟩) (by decide +kernel) (sameAd_map ⟨rfl, trivial⟩) (atAll_map ⟨rfl, trivial⟩) ⟨Or.inl rfl, Or.inl rfl, Or.inl rfl, Or.inl rfl, Or.inl rfl, Or.inl rfl, Or.inr (by decide), trivial⟩ ⟨va_cnB 3 hts gX4_writeRow_X7_setCell_n83 rfl rfl rfl (hKK.2 _ (nws_in 16 rfl)) (hts (.initialized RX7) (List.mem_of_getElem? (i := 7) rfl)) dsc_X7_setCell ⟨Nat.le_of_ble_eq_true rfl, Nat.le_of_ble_eq_true rfl⟩, hts (.static yX7_setCell) (List.mem_of_getElem? (i := 9) rfl), trivial⟩ rfl hl.1 rfl (Nat.le_of_ble_eq_true rfl) dX4_writeRow_57 ⟨Nat.zero_le _, Nat.zero_le _⟩ (fun H locs hP hD hS => ?_)
        refine lv_aload_n hx hb dX4_writeRow_60 rfl (lv_at hl 0 rfl) ?_
        refine va_get (D := (dC, dI)) (ci := 4) (v := .ref (g0 1)) (C := RX4) (T := TX4) (N := 8) hx hb hts hiX4 hown hKK.1 hP 0 rfl rfl 1 (by decide) (hts (.fieldLink RX4 15 "SlideLand$Route" "from" "[I") (List.mem_of_getElem? (i := 5) rfl)) (fun _ h9 => h9) rfl dX4_writeRow_61 ?_
        refine lv_iload_n hx hb dX4_writeRow_64 rfl (lv_at hl 1 rfl) ?_
        obtain ⟨q8, hq8, h⟩ := obd_e h
        refine kcN (rest := []) (w2 := ([cX4 a0 g0 (stR o38_0 6 q7), cX4_0 cI g0 (stR o38_0 6 q7), cX4_1 cI g0 (stR o38_0 6 q7), cX4_2 cI g0 (stR o38_0 6 q7), cX4_3 cI g0 (stR o38_0 6 q7), cX4_4 cZ g0 (stR o38_0 6 q7), cX4_6 cI g0 (stR o38_0 6 q7)])) hx hb hml hown hts hKK hP hD hS hA (c_X7_cell l dC dI cB cI cZ cO (g0 1) 81 (o38_0.2 1) x38_3 hq8) [2] (atAll_map ⟨rfl, trivial⟩) (by decide +kernel) (sameAd_map ⟨rfl, trivial⟩) (atAll_map ⟨rfl, trivial⟩) (agr_refl _ _ _) ⟨va_cnB 2 hts gX4_writeRow_X7_cell_n56 rfl rfl rfl (hKK.2 _ (nws_in 17 rfl)) (hts (.initialized RX7) (List.mem_of_getElem? (i := 7) rfl)) dsc_X7_cell ⟨Nat.le_of_ble_eq_true rfl, Nat.le_of_ble_eq_true rfl⟩, hts (.static yX7_cell) (List.mem_of_getElem? (i := 6) rfl), trivial⟩ rfl hl.1 rfl (Nat.le_of_ble_eq_true rfl) dX4_writeRow_65 ⟨Nat.zero_le _, Nat.zero_le _⟩ (fun H locs hP hD hS => ?_)
        refine lv_istore_n (lv' := [(3, .int q8), (0, .ref a0), (4, .int x38_4)]) hx hb dX4_writeRow_68 rfl hl (by decide) rfl (fun ls hl => ?_)
        obtain ⟨x9, hx9, h⟩ := bnd_e h
        refine lv_iinc (v := x9) (lv' := [(4, .int x9), (3, .int q8), (0, .ref a0)]) hx hb dX4_writeRow_69 hl (k := 2) rfl (by rw [← hx9]; rfl) (by decide) rfl (fun ls hl => ?_)
        refine lv_goto (tgt := 38) hx hb dX4_writeRow_72 (by decide) ?_
        exact ih38 q8 x9 (stR o38_0 6 q7) h _ _ _ hP hD hS (lv_sub hl [2, 1, 0] rfl)
  exact lp38 FU v1 x4 (stR (stF o0 7 x2) 6 q3) h _ _ _ hP hD hS (lv_sub hl [2, 1, 0] rfl)
def f_X4_leave_30 (o1 : Ob) (o3 : Ob) (v1 : Int32) (x18_5 : Int32) (kL18 : (Int32 → Ob → Ob → Option (Bool × Ob × Ob))) : Nat → Int32 → Ob → Ob → Option (Bool × Ob × Ob)
  | 0, _, _, _ => none
  | nn30+1, x30_6, o30_0, o30_2 => if (1 : Int32) < x30_6 then (bnd (x18_5 + (1 : Int32)) fun x5 : Int32 => kL18 x5 o30_0 o30_2) else ((f_X7_cell 4 (o1.2 5) x18_5).bind fun q6 : Int32 => bnd (f_X7_shiftBehind (o30_2.1 1) q6 x30_6) fun q7 : Int32 => (f_X0_allSo o3 o1 (stF o30_2 0 q7)).bind fun q8 : Bool => if (b2i q8) = 0 then ((f_X7_cell 81 (o30_0.2 3) v1).bind fun q10 : Int32 => (f_X4_come o30_0 q7 v1 (((10 : Int32) * x18_5) + x30_6) (q10 + (1 : Int32))).bind fun q11 : Ob => bnd (x30_6 + (1 : Int32)) fun x12 : Int32 => (f_X4_leave_30 o1 o3 v1 x18_5 kL18 nn30) x12 q11 (stF o30_2 0 q7)) else ((f_X4_writeRow o30_0 v1 (((10 : Int32) * x18_5) + x30_6)).bind fun q13 : Ob => some (true, q13, (stF o30_2 0 q7))))
def f_X4_leave_18 (o1 : Ob) (o3 : Ob) (v1 : Int32) : Nat → Int32 → Ob → Ob → Option (Bool × Ob × Ob)
  | 0, _, _, _ => none
  | nn18+1, x18_5, o18_0, o18_2 => if (o1.1 9) ≤ x18_5 then (some (false, o18_0, o18_2)) else (f_X4_leave_30 o1 o3 v1 x18_5 (f_X4_leave_18 o1 o3 v1 nn18) FU (0 : Int32) o18_0 o18_2)
def f_X4_leave (o0 : Ob) (o1 : Ob) (o2 : Ob) (o3 : Ob) (v1 : Int32) : Option (Bool × Ob × Ob) := (f_X7_cell 81 (o0.2 0) v1).bind fun q1 : Int32 => bnd (q1 - (40 : Int32)) fun x2 : Int32 => f_X4_leave_18 o1 o3 v1 FU (0 : Int32) o0 (stF o2 1 x2)
abbrev rmX4_leave : Room := { frames := 4, cells := 0, slots := 0, locals := 91 }
theorem dsc_X4_leave : yX4_leave.cls ≠ "java/lang/invoke/MethodHandle" ∧ yX4_leave.cls ≠ "java/lang/invoke/VarHandle" ∧ (parseMethodDescriptor yX4_leave.desc).map (fun d => d.parameters.length) = some 4 := by decide +kernel
set_option maxHeartbeats 4000000 in
set_option maxRecDepth 100000 in
theorem c_X4_leave (l : Launch) (dC : Nat → ClassId) (dI : Nat → Nat → Nat) (cB cI cZ cO : ClassId) (a0 : Nat) (g0 : Nat → Nat) (o0 : Ob) (a1 : Nat) (g1 : Nat → Nat) (o1 : Ob) (a2 : Nat) (g2 : Nat → Nat) (o2 : Ob) (a3 : Nat) (g3 : Nat → Nat) (o3 : Ob) (v1 : Int32) {r : Bool × Ob × Ob} (h : f_X4_leave o0 o1 o2 o3 v1 = some r) : Ct dC dI cB cI cZ cO l yX4_leave wsX4_leave rmX4_leave [.ref a0, .int v1, .ref a1, .ref a2, .ref a3] ([cX4 a0 g0 o0, cX4_0 cI g0 o0, cX4_1 cI g0 o0, cX4_2 cI g0 o0, cX4_3 cI g0 o0, cX4_4 cZ g0 o0, cX4_6 cI g0 o0, cX6 a1 g1 o1, cX6_0 cI g1 o1, cX6_1 cI g1 o1, cX6_2 cI g1 o1, cX6_3 cI g1 o1, cX6_4 cI g1 o1, cX6_5 cI g1 o1, cX6_6 cI g1 o1, cX6_7 cI g1 o1, cX5 a2 g2 o2, cX5_5 cI g2 o2, cX5_6 cI g2 o2, cX0 a3 g3 o3, cX0_0 cI g3 o3, cX0_1 cI g3 o3]) (some (.int (b2i r.1))) ([cX4 a0 g0 r.2.1, cX4_0 cI g0 r.2.1, cX4_1 cI g0 r.2.1, cX4_2 cI g0 r.2.1, cX4_3 cI g0 r.2.1, cX4_4 cZ g0 r.2.1, cX4_6 cI g0 r.2.1, cX6 a1 g1 o1, cX6_0 cI g1 o1, cX6_1 cI g1 o1, cX6_2 cI g1 o1, cX6_3 cI g1 o1, cX6_4 cI g1 o1, cX6_5 cI g1 o1, cX6_6 cI g1 o1, cX6_7 cI g1 o1, cX5 a2 g2 r.2.2, cX5_5 cI g2 r.2.2, cX5_6 cI g2 r.2.2, cX0 a3 g3 o3, cX0_0 cI g3 o3, cX0_1 cI g3 o3]) := by
  intro sz
  refine Met.ofW (cc := cX4_leave) (maxL := 7) (ret := (some .boolean)) (by decide) rfl ?_
  intro p e s m args below meth c s₁ B hml hv
  obtain ⟨rfl, hsz, hP, hKK, hD0⟩ := hv
  have hx := B.exec
  have hb := B.bytes
  have hr := B.returns
  have hts := atoms_spec (ws := wsX4_leave) B.pre
  have hown : s.vm.findClass RX4 = some m.cls := findClass_of_methodNamed B.named
  have hlocks := B.notSynchronized
  have hiX4 : ∀ w ∈ u_ws RX4 TX4 8, w ∈ wsX4_leave := fun w h => List.mem_cons_of_mem _ (List.mem_append_left _ (List.mem_append_left _ (List.mem_append_left _ (List.mem_append_right _ h))))
  have hiX5 : ∀ w ∈ u_ws RX5 TX5 7, w ∈ wsX4_leave := fun w h => List.mem_cons_of_mem _ (List.mem_append_left _ (List.mem_append_left _ (List.mem_append_right _ h)))
  have hiX6 : ∀ w ∈ u_ws RX6 TX6 11, w ∈ wsX4_leave := fun w h => List.mem_cons_of_mem _ (List.mem_append_left _ (List.mem_append_right _ h))
  subst hsz
  have hD := hD0.self (sz := s.heap.size)
  generalize hAe : va_A ([cX4 a0 g0 o0, cX4_0 cI g0 o0, cX4_1 cI g0 o0, cX4_2 cI g0 o0, cX4_3 cI g0 o0, cX4_4 cZ g0 o0, cX4_6 cI g0 o0, cX6 a1 g1 o1, cX6_0 cI g1 o1, cX6_1 cI g1 o1, cX6_2 cI g1 o1, cX6_3 cI g1 o1, cX6_4 cI g1 o1, cX6_5 cI g1 o1, cX6_6 cI g1 o1, cX6_7 cI g1 o1, cX5 a2 g2 o2, cX5_5 cI g2 o2, cX5_6 cI g2 o2, cX0 a3 g3 o3, cX0_0 cI g3 o3, cX0_1 cI g3 o3]) s.heap.size = A at hD ⊢
  have hA : ∀ q : Nat, s.heap.size ≤ q → A q := fun q h => by rw [← hAe]; exact Or.inr h
  have hS : va_S A s.heap s.heap [] := va_S.rf
  have hP : va_P (dC, dI) vwCl ([cX4 a0 g0 o0, cX4_0 cI g0 o0, cX4_1 cI g0 o0, cX4_2 cI g0 o0, cX4_3 cI g0 o0, cX4_4 cZ g0 o0, cX4_6 cI g0 o0, cX6 a1 g1 o1, cX6_0 cI g1 o1, cX6_1 cI g1 o1, cX6_2 cI g1 o1, cX6_3 cI g1 o1, cX6_4 cI g1 o1, cX6_5 cI g1 o1, cX6_6 cI g1 o1, cX6_7 cI g1 o1, cX5 a2 g2 o2, cX5_5 cI g2 o2, cX5_6 cI g2 o2, cX0 a3 g3 o3, cX0_0 cI g3 o3, cX0_1 cI g3 o3]) s.heap := hP
  have hD : va_D A ([cX4 a0 g0 o0, cX4_0 cI g0 o0, cX4_1 cI g0 o0, cX4_2 cI g0 o0, cX4_3 cI g0 o0, cX4_4 cZ g0 o0, cX4_6 cI g0 o0, cX6 a1 g1 o1, cX6_0 cI g1 o1, cX6_1 cI g1 o1, cX6_2 cI g1 o1, cX6_3 cI g1 o1, cX6_4 cI g1 o1, cX6_5 cI g1 o1, cX6_6 cI g1 o1, cX6_7 cI g1 o1, cX5 a2 g2 o2, cX5_5 cI g2 o2, cX5_6 cI g2 o2, cX0 a3 g3 o3, cX0_0 cI g3 o3, cX0_1 cI g3 o3]) := hD
  have hl := lv_entry ([.ref a0, .int v1, .ref a1, .ref a2, .ref a3]) (n := 7) (Nat.le_of_ble_eq_true rfl)
  rw [lg_entry_eq]
  generalize (lg_sl ([.ref a0, .int v1, .ref a1, .ref a2, .ref a3]) ++ List.replicate (7 - (lg_sl ([.ref a0, .int v1, .ref a1, .ref a2, .ref a3])).length) Slot.unset).toArray = ls at hl ⊢
  have hl : lv_has ls 7 [(0, .ref a0), (1, .int v1), (2, .ref a1), (3, .ref a2), (4, .ref a3)] := hl
  obtain ⟨Q, hQ⟩ : ∃ Q, Q = MQ below (Qq dC dI (some (.int (b2i r.1))) ([cX4 a0 g0 r.2.1, cX4_0 cI g0 r.2.1, cX4_1 cI g0 r.2.1, cX4_2 cI g0 r.2.1, cX4_3 cI g0 r.2.1, cX4_4 cZ g0 r.2.1, cX4_6 cI g0 r.2.1, cX6 a1 g1 o1, cX6_0 cI g1 o1, cX6_1 cI g1 o1, cX6_2 cI g1 o1, cX6_3 cI g1 o1, cX6_4 cI g1 o1, cX6_5 cI g1 o1, cX6_6 cI g1 o1, cX6_7 cI g1 o1, cX5 a2 g2 r.2.2, cX5_5 cI g2 r.2.2, cX5_6 cI g2 r.2.2, cX0 a3 g3 o3, cX0_0 cI g3 o3, cX0_1 cI g3 o3]) A) ([.ref a0, .int v1, .ref a1, .ref a2, .ref a3] : List Value).toArray s 0 0 A := ⟨_, rfl⟩
  rw [← hQ]
  rw [f_X4_leave] at h
  clear hAe hD0
  refine lv_aload_n hx hb dX4_leave_0 rfl (lv_at hl 3 rfl) ?_
  refine lv_aload_n hx hb dX4_leave_1 rfl (lv_at hl 0 rfl) ?_
  refine va_get (D := (dC, dI)) (ci := 4) (v := .ref (g0 0)) (C := RX4) (T := TX4) (N := 8) hx hb hts hiX4 hown hKK.1 hP 0 rfl rfl 0 (by decide) (hts (.fieldLink RX4 9 "SlideLand$Route" "queue" "[I") (List.mem_of_getElem? (i := 1) rfl)) (fun _ h9 => h9) rfl dX4_leave_2 ?_
  refine lv_iload_n hx hb dX4_leave_5 rfl (lv_at hl 1 rfl) ?_
  obtain ⟨q1, hq1, h⟩ := obd_e h
  refine kcN (rest := [.ref a2]) (w2 := ([cX4 a0 g0 o0, cX4_0 cI g0 o0, cX4_1 cI g0 o0, cX4_2 cI g0 o0, cX4_3 cI g0 o0, cX4_4 cZ g0 o0, cX4_6 cI g0 o0, cX6 a1 g1 o1, cX6_0 cI g1 o1, cX6_1 cI g1 o1, cX6_2 cI g1 o1, cX6_3 cI g1 o1, cX6_4 cI g1 o1, cX6_5 cI g1 o1, cX6_6 cI g1 o1, cX6_7 cI g1 o1, cX5 a2 g2 o2, cX5_5 cI g2 o2, cX5_6 cI g2 o2, cX0 a3 g3 o3, cX0_0 cI g3 o3, cX0_1 cI g3 o3])) hx hb hml hown hts hKK hP hD hS hA (c_X7_cell l dC dI cB cI cZ cO (g0 0) 81 (o0.2 0) v1 hq1) [1] (atAll_map ⟨rfl, trivial⟩) (by decide +kernel) (sameAd_map ⟨rfl, trivial⟩) (atAll_map ⟨rfl, trivial⟩) (agr_refl _ _ _) ⟨va_cnB 2 hts gX4_leave_X7_cell_n56 rfl rfl rfl (hKK.2 _ (nws_in 17 rfl)) (hts (.initialized RX7) (List.mem_of_getElem? (i := 8) rfl)) dsc_X7_cell ⟨Nat.le_of_ble_eq_true rfl, Nat.le_of_ble_eq_true rfl⟩, hts (.static yX7_cell) (List.mem_of_getElem? (i := 7) rfl), trivial⟩ rfl hl.1 rfl (Nat.le_of_ble_eq_true rfl) dX4_leave_6 ⟨Nat.zero_le _, Nat.zero_le _⟩ (fun H locs hP hD hS => ?_)
  refine lv_bipush (v := (40 : Int32)) hx hb dX4_leave_9 (by decide) ?_
  refine lv_isub hx hb dX4_leave_11 ?_
  obtain ⟨x2, hx2, h⟩ := bnd_e h
  rw [hx2]
  refine va_put (D := (dC, dI)) (ci := 5) (v := .int x2) (ty := .int) (C := RX5) (T := TX5) (N := 7) hx hb hts hiX5 tyX5 tyX5_ok nmX5 hown hKK.1 hP hD hS 16 rfl rfl 1 (by decide) (hts (.fieldLink RX4 64 "SlideLand$Stand" "before" "I") (List.mem_of_getElem? (i := 2) rfl)) (fun _ h9 => h9) rfl (by decide +kernel) rfl rfl (Nat.le_of_ble_eq_true rfl) dX4_leave_12 (fun H locs hP hD hS => ?_)
  have hP : va_P (dC, dI) vwCl ([cX4 a0 g0 o0, cX4_0 cI g0 o0, cX4_1 cI g0 o0, cX4_2 cI g0 o0, cX4_3 cI g0 o0, cX4_4 cZ g0 o0, cX4_6 cI g0 o0, cX6 a1 g1 o1, cX6_0 cI g1 o1, cX6_1 cI g1 o1, cX6_2 cI g1 o1, cX6_3 cI g1 o1, cX6_4 cI g1 o1, cX6_5 cI g1 o1, cX6_6 cI g1 o1, cX6_7 cI g1 o1, cX5 a2 g2 (stF o2 1 x2), cX5_5 cI g2 (stF o2 1 x2), cX5_6 cI g2 (stF o2 1 x2), cX0 a3 g3 o3, cX0_0 cI g3 o3, cX0_1 cI g3 o3]) H := hP
  have hD : va_D A ([cX4 a0 g0 o0, cX4_0 cI g0 o0, cX4_1 cI g0 o0, cX4_2 cI g0 o0, cX4_3 cI g0 o0, cX4_4 cZ g0 o0, cX4_6 cI g0 o0, cX6 a1 g1 o1, cX6_0 cI g1 o1, cX6_1 cI g1 o1, cX6_2 cI g1 o1, cX6_3 cI g1 o1, cX6_4 cI g1 o1, cX6_5 cI g1 o1, cX6_6 cI g1 o1, cX6_7 cI g1 o1, cX5 a2 g2 (stF o2 1 x2), cX5_5 cI g2 (stF o2 1 x2), cX5_6 cI g2 (stF o2 1 x2), cX0 a3 g3 o3, cX0_0 cI g3 o3, cX0_1 cI g3 o3]) := hD
  refine lv_iconst (v := (0 : Int32)) hx hb dX4_leave_15 (by decide) ?_
  refine lv_istore (lv' := [(5, .int (0 : Int32)), (0, .ref a0), (1, .int v1), (2, .ref a1), (3, .ref a2), (4, .ref a3)]) hx hb dX4_leave_16 hl (by decide) rfl (fun ls hl => ?_)
  have lp18 : ∀ (nn18 : Nat) (x18_5 : Int32) (o18_0 : Ob) (o18_2 : Ob), f_X4_leave_18 o1 o3 v1 nn18 x18_5 o18_0 o18_2 = some r → ∀ (H : Heap) (locs : List Loc) (ls : Array Slot), va_P (dC, dI) vwCl ([cX4 a0 g0 o18_0, cX4_0 cI g0 o18_0, cX4_1 cI g0 o18_0, cX4_2 cI g0 o18_0, cX4_3 cI g0 o18_0, cX4_4 cZ g0 o18_0, cX4_6 cI g0 o18_0, cX6 a1 g1 o1, cX6_0 cI g1 o1, cX6_1 cI g1 o1, cX6_2 cI g1 o1, cX6_3 cI g1 o1, cX6_4 cI g1 o1, cX6_5 cI g1 o1, cX6_6 cI g1 o1, cX6_7 cI g1 o1, cX5 a2 g2 o18_2, cX5_5 cI g2 o18_2, cX5_6 cI g2 o18_2, cX0 a3 g3 o3, cX0_0 cI g3 o3, cX0_1 cI g3 o3]) H → va_D A ([cX4 a0 g0 o18_0, cX4_0 cI g0 o18_0, cX4_1 cI g0 o18_0, cX4_2 cI g0 o18_0, cX4_3 cI g0 o18_0, cX4_4 cZ g0 o18_0, cX4_6 cI g0 o18_0, cX6 a1 g1 o1, cX6_0 cI g1 o1, cX6_1 cI g1 o1, cX6_2 cI g1 o1, cX6_3 cI g1 o1, cX6_4 cI g1 o1, cX6_5 cI g1 o1, cX6_6 cI g1 o1, cX6_7 cI g1 o1, cX5 a2 g2 o18_2, cX5_5 cI g2 o18_2, cX5_6 cI g2 o18_2, cX0 a3 g3 o3, cX0_0 cI g3 o3, cX0_1 cI g3 o3]) → va_S A s.heap H locs → lv_has ls 7 [(0, .ref a0), (1, .int v1), (2, .ref a1), (3, .ref a2), (4, .ref a3), (5, .int x18_5)] → W p l e (headSpec wsX4_leave rmX4_leave).room s m ([.ref a0, .int v1, .ref a1, .ref a2, .ref a3] : List Value).toArray below meth c H locs 0 0 Q (F0 m 18 ls []) := by
    intro nn18
    induction nn18 with
    | zero => intro x18_5 o18_0 o18_2 h; rw [f_X4_leave_18] at h; cases h
    | succ nn18 ih18 =>
      intro x18_5 o18_0 o18_2 h H locs ls hP hD hS hl
      rw [f_X4_leave_18] at h
      refine lv_iload hx hb dX4_leave_18 (lv_at hl 5 rfl) ?_
      refine lv_aload_n hx hb dX4_leave_20 rfl (lv_at hl 2 rfl) ?_
      refine va_get (D := (dC, dI)) (ci := 6) (v := .int (o1.1 9)) (C := RX6) (T := TX6) (N := 11) hx hb hts hiX6 hown hKK.1 hP 7 rfl rfl 9 (by decide) (hts (.fieldLink RX4 67 "SlideLand$Told" "pushes" "I") (List.mem_of_getElem? (i := 3) rfl)) (fun _ h9 => h9) rfl dX4_leave_21 ?_
      refine lv_icmp_ge (tgt := 122) hx hb dX4_leave_24 (by decide) (fun k3 => ?_) (fun k3 => ?_)
      · have h := ite_t k3 h
        refine lv_iconst (v := (0 : Int32)) hx hb dX4_leave_122 (by decide) ?_
        have h := Option.some.inj h
        subst h
        subst hQ
        exact W.zret (v := (0 : Int32)) hx hb hr rfl (fun t ht hW => ⟨⟨rfl, by rw [ht]; exact hP, hD⟩, hS.F ht⟩) hS.2.2 dX4_leave_123
      · have h := ite_f k3 h
        refine lv_iconst (v := (0 : Int32)) hx hb dX4_leave_27 (by decide) ?_
        refine lv_istore (lv' := [(6, .int (0 : Int32)), (0, .ref a0), (1, .int v1), (2, .ref a1), (3, .ref a2), (4, .ref a3), (5, .int x18_5)]) hx hb dX4_leave_28 hl (by decide) rfl (fun ls hl => ?_)
        have lp30 : ∀ (nn30 : Nat) (x30_6 : Int32) (o30_0 : Ob) (o30_2 : Ob), f_X4_leave_30 o1 o3 v1 x18_5 (f_X4_leave_18 o1 o3 v1 nn18) nn30 x30_6 o30_0 o30_2 = some r → ∀ (H : Heap) (locs : List Loc) (ls : Array Slot), va_P (dC, dI) vwCl ([cX4 a0 g0 o30_0, cX4_0 cI g0 o30_0, cX4_1 cI g0 o30_0, cX4_2 cI g0 o30_0, cX4_3 cI g0 o30_0, cX4_4 cZ g0 o30_0, cX4_6 cI g0 o30_0, cX6 a1 g1 o1, cX6_0 cI g1 o1, cX6_1 cI g1 o1, cX6_2 cI g1 o1, cX6_3 cI g1 o1, cX6_4 cI g1 o1, cX6_5 cI g1 o1, cX6_6 cI g1 o1, cX6_7 cI g1 o1, cX5 a2 g2 o30_2, cX5_5 cI g2 o30_2, cX5_6 cI g2 o30_2, cX0 a3 g3 o3, cX0_0 cI g3 o3, cX0_1 cI g3 o3]) H → va_D A ([cX4 a0 g0 o30_0, cX4_0 cI g0 o30_0, cX4_1 cI g0 o30_0, cX4_2 cI g0 o30_0, cX4_3 cI g0 o30_0, cX4_4 cZ g0 o30_0, cX4_6 cI g0 o30_0, cX6 a1 g1 o1, cX6_0 cI g1 o1, cX6_1 cI g1 o1, cX6_2 cI g1 o1, cX6_3 cI g1 o1, cX6_4 cI g1 o1, cX6_5 cI g1 o1, cX6_6 cI g1 o1, cX6_7 cI g1 o1, cX5 a2 g2 o30_2, cX5_5 cI g2 o30_2, cX5_6 cI g2 o30_2, cX0 a3 g3 o3, cX0_0 cI g3 o3, cX0_1 cI g3 o3]) → va_S A s.heap H locs → lv_has ls 7 [(0, .ref a0), (1, .int v1), (2, .ref a1), (3, .ref a2), (4, .ref a3), (5, .int x18_5), (6, .int x30_6)] → W p l e (headSpec wsX4_leave rmX4_leave).room s m ([.ref a0, .int v1, .ref a1, .ref a2, .ref a3] : List Value).toArray below meth c H locs 0 0 Q (F0 m 30 ls []) := by
          intro nn30
          induction nn30 with
          | zero => intro x30_6 o30_0 o30_2 h; rw [f_X4_leave_30] at h; cases h
          | succ nn30 ih30 =>
            intro x30_6 o30_0 o30_2 h H locs ls hP hD hS hl
            rw [f_X4_leave_30] at h
            refine lv_iload hx hb dX4_leave_30 (lv_at hl 6 rfl) ?_
            refine lv_iconst (v := (1 : Int32)) hx hb dX4_leave_32 (by decide) ?_
            refine lv_icmp_gt (tgt := 116) hx hb dX4_leave_33 (by decide) (fun k4 => ?_) (fun k4 => ?_)
            · have h := ite_t k4 h
              obtain ⟨x5, hx5, h⟩ := bnd_e h
              refine lv_iinc (v := x5) (lv' := [(5, .int x5), (0, .ref a0), (1, .int v1), (2, .ref a1), (3, .ref a2), (4, .ref a3), (6, .int x30_6)]) hx hb dX4_leave_116 hl (k := 5) rfl (by rw [← hx5]; rfl) (by decide) rfl (fun ls hl => ?_)
              refine lv_goto (tgt := 18) hx hb dX4_leave_119 (by decide) ?_
              exact ih18 x5 o30_0 o30_2 h _ _ _ hP hD hS (lv_sub hl [1, 2, 3, 4, 5, 0] rfl)
            · have h := ite_f k4 h
              refine lv_aload_n hx hb dX4_leave_36 rfl (lv_at hl 3 rfl) ?_
              refine lv_aload_n hx hb dX4_leave_37 rfl (lv_at hl 3 rfl) ?_
              refine va_get (D := (dC, dI)) (ci := 5) (v := .int (o30_2.1 1)) (C := RX5) (T := TX5) (N := 7) hx hb hts hiX5 hown hKK.1 hP 16 rfl rfl 1 (by decide) (hts (.fieldLink RX4 64 "SlideLand$Stand" "before" "I") (List.mem_of_getElem? (i := 2) rfl)) (fun _ h9 => h9) rfl dX4_leave_38 ?_
              refine lv_aload_n hx hb dX4_leave_41 rfl (lv_at hl 2 rfl) ?_
              refine va_get (D := (dC, dI)) (ci := 6) (v := .ref (g1 5)) (C := RX6) (T := TX6) (N := 11) hx hb hts hiX6 hown hKK.1 hP 7 rfl rfl 5 (by decide) (hts (.fieldLink RX4 72 "SlideLand$Told" "pushed" "[I") (List.mem_of_getElem? (i := 4) rfl)) (fun _ h9 => h9) rfl dX4_leave_42 ?_
              refine lv_iload hx hb dX4_leave_45 (lv_at hl 5 rfl) ?_
              obtain ⟨q6, hq6, h⟩ := obd_e h
              refine kcN (rest := [.int (o30_2.1 1), .ref a2]) (w2 := ([cX4 a0 g0 o30_0, cX4_0 cI g0 o30_0, cX4_1 cI g0 o30_0, cX4_2 cI g0 o30_0, cX4_3 cI g0 o30_0, cX4_4 cZ g0 o30_0, cX4_6 cI g0 o30_0, cX6 a1 g1 o1, cX6_0 cI g1 o1, cX6_1 cI g1 o1, cX6_2 cI g1 o1, cX6_3 cI g1 o1, cX6_4 cI g1 o1, cX6_5 cI g1 o1, cX6_6 cI g1 o1, cX6_7 cI g1 o1, cX5 a2 g2 o30_2, cX5_5 cI g2 o30_2, cX5_6 cI g2 o30_2, cX0 a3 g3 o3, cX0_0 cI g3 o3, cX0_1 cI g3 o3])) hx hb hml hown hts hKK hP hD hS hA (c_X7_cell l dC dI cB cI cZ cO (g1 5) 4 (o1.2 5) x18_5 hq6) [13] (atAll_map ⟨rfl, trivial⟩) (by decide +kernel) (sameAd_map ⟨rfl, trivial⟩) (atAll_map ⟨rfl, trivial⟩) (agr_refl _ _ _) ⟨va_cnB 2 hts gX4_leave_X7_cell_n56 rfl rfl rfl (hKK.2 _ (nws_in 17 rfl)) (hts (.initialized RX7) (List.mem_of_getElem? (i := 8) rfl)) dsc_X7_cell ⟨Nat.le_of_ble_eq_true rfl, Nat.le_of_ble_eq_true rfl⟩, hts (.static yX7_cell) (List.mem_of_getElem? (i := 7) rfl), trivial⟩ rfl hl.1 rfl (Nat.le_of_ble_eq_true rfl) dX4_leave_47 ⟨Nat.zero_le _, Nat.zero_le _⟩ (fun H locs hP hD hS => ?_)
              refine lv_iload hx hb dX4_leave_50 (lv_at hl 6 rfl) ?_
              obtain ⟨q7, hq7, h⟩ := bnd_e h
              refine kcN (rest := [.ref a2]) (w2 := ([cX4 a0 g0 o30_0, cX4_0 cI g0 o30_0, cX4_1 cI g0 o30_0, cX4_2 cI g0 o30_0, cX4_3 cI g0 o30_0, cX4_4 cZ g0 o30_0, cX4_6 cI g0 o30_0, cX6 a1 g1 o1, cX6_0 cI g1 o1, cX6_1 cI g1 o1, cX6_2 cI g1 o1, cX6_3 cI g1 o1, cX6_4 cI g1 o1, cX6_5 cI g1 o1, cX6_6 cI g1 o1, cX6_7 cI g1 o1, cX5 a2 g2 o30_2, cX5_5 cI g2 o30_2, cX5_6 cI g2 o30_2, cX0 a3 g3 o3, cX0_0 cI g3 o3, cX0_1 cI g3 o3])) hx hb hml hown hts hKK hP hD hS hA (c_X7_shiftBehind l dC dI cB cI cZ cO (o30_2.1 1) q6 x30_6 hq7) [] (atAll_map trivial) (by decide +kernel) (sameAd_map trivial) (atAll_map trivial) (agr_refl _ _ _) ⟨va_cnB 3 hts gX4_leave_X7_shiftBehind_n75 rfl rfl rfl (hKK.2 _ (nws_in 18 rfl)) (hts (.initialized RX7) (List.mem_of_getElem? (i := 8) rfl)) dsc_X7_shiftBehind ⟨Nat.le_of_ble_eq_true rfl, Nat.le_of_ble_eq_true rfl⟩, hts (.static yX7_shiftBehind) (List.mem_of_getElem? (i := 10) rfl), trivial⟩ rfl hl.1 rfl (Nat.le_of_ble_eq_true rfl) dX4_leave_52 ⟨Nat.zero_le _, Nat.zero_le _⟩ (fun H locs hP hD hS => ?_)
              refine va_put (D := (dC, dI)) (ci := 5) (v := .int q7) (ty := .int) (C := RX5) (T := TX5) (N := 7) hx hb hts hiX5 tyX5 tyX5_ok nmX5 hown hKK.1 hP hD hS 16 rfl rfl 0 (by decide) (hts (.fieldLink RX4 44 "SlideLand$Stand" "shift" "I") (List.mem_of_getElem? (i := 5) rfl)) (fun _ h9 => h9) rfl (by decide +kernel) rfl rfl (Nat.le_of_ble_eq_true rfl) dX4_leave_55 (fun H locs hP hD hS => ?_)
              have hP : va_P (dC, dI) vwCl ([cX4 a0 g0 o30_0, cX4_0 cI g0 o30_0, cX4_1 cI g0 o30_0, cX4_2 cI g0 o30_0, cX4_3 cI g0 o30_0, cX4_4 cZ g0 o30_0, cX4_6 cI g0 o30_0, cX6 a1 g1 o1, cX6_0 cI g1 o1, cX6_1 cI g1 o1, cX6_2 cI g1 o1, cX6_3 cI g1 o1, cX6_4 cI g1 o1, cX6_5 cI g1 o1, cX6_6 cI g1 o1, cX6_7 cI g1 o1, cX5 a2 g2 (stF o30_2 0 q7), cX5_5 cI g2 (stF o30_2 0 q7), cX5_6 cI g2 (stF o30_2 0 q7), cX0 a3 g3 o3, cX0_0 cI g3 o3, cX0_1 cI g3 o3]) H := hP
              have hD : va_D A ([cX4 a0 g0 o30_0, cX4_0 cI g0 o30_0, cX4_1 cI g0 o30_0, cX4_2 cI g0 o30_0, cX4_3 cI g0 o30_0, cX4_4 cZ g0 o30_0, cX4_6 cI g0 o30_0, cX6 a1 g1 o1, cX6_0 cI g1 o1, cX6_1 cI g1 o1, cX6_2 cI g1 o1, cX6_3 cI g1 o1, cX6_4 cI g1 o1, cX6_5 cI g1 o1, cX6_6 cI g1 o1, cX6_7 cI g1 o1, cX5 a2 g2 (stF o30_2 0 q7), cX5_5 cI g2 (stF o30_2 0 q7), cX5_6 cI g2 (stF o30_2 0 q7), cX0 a3 g3 o3, cX0_0 cI g3 o3, cX0_1 cI g3 o3]) := hD
              refine lv_aload hx hb dX4_leave_58 (lv_at hl 4 rfl) ?_
              refine lv_aload_n hx hb dX4_leave_60 rfl (lv_at hl 2 rfl) ?_
              refine lv_aload_n hx hb dX4_leave_61 rfl (lv_at hl 3 rfl) ?_
              obtain ⟨q8, hq8, h⟩ := obd_e h
              refine kcV (rest := []) (w2 := ([cX4 a0 g0 o30_0, cX4_0 cI g0 o30_0, cX4_1 cI g0 o30_0, cX4_2 cI g0 o30_0, cX4_3 cI g0 o30_0, cX4_4 cZ g0 o30_0, cX4_6 cI g0 o30_0, cX6 a1 g1 o1, cX6_0 cI g1 o1, cX6_1 cI g1 o1, cX6_2 cI g1 o1, cX6_3 cI g1 o1, cX6_4 cI g1 o1, cX6_5 cI g1 o1, cX6_6 cI g1 o1, cX6_7 cI g1 o1, cX5 a2 g2 (stF o30_2 0 q7), cX5_5 cI g2 (stF o30_2 0 q7), cX5_6 cI g2 (stF o30_2 0 q7), cX0 a3 g3 o3, cX0_0 cI g3 o3, cX0_1 cI g3 o3])) hx hb hml hown hts hKK hP hD hS hA (c_X0_allSo l dC dI cB cI cZ cO a3 g3 o3 a1 g1 o1 a2 g2 (stF o30_2 0 q7) hq8) [19, 20, 21, 7, 8, 9, 10, 11, 12, 13, 14, 15, 16, 17, 18] (atAll_map ⟨rfl, rfl, rfl, rfl, rfl, rfl, rfl, rfl, rfl, rfl, rfl, rfl, rfl, rfl, rfl, trivial⟩) (by decide +kernel) (sameAd_map ⟨rfl, rfl, rfl, rfl, rfl, rfl, rfl, rfl, rfl, rfl, rfl, rfl, rfl, rfl, rfl, trivial⟩) (atAll_map ⟨rfl, rfl, rfl, rfl, rfl, rfl, rfl, rfl, rfl, rfl, rfl, rfl, rfl, rfl, rfl, trivial⟩) (agr_refl _ _ _) (cwV 2 hts gX4_leave_X0_allSo rfl rfl rfl ⟨rfl, dsc_X0_allSo⟩ ⟨Nat.le_of_ble_eq_true rfl, Nat.le_of_ble_eq_true rfl⟩) (va_recv hKK.1 hP (ci := 0) (q0 := 19) rfl rfl) rfl hl.1 rfl (Nat.le_of_ble_eq_true rfl) dX4_leave_62 ⟨Nat.zero_le _, Nat.zero_le _⟩ (fun H locs hP hD hS => ?_)
              refine lv_if_eq (tgt := 83) hx hb dX4_leave_65 (by decide) (fun k9 => ?_) (fun k9 => ?_)
              · have h := ite_t k9 h
                refine lv_aload_n hx hb dX4_leave_83 rfl (lv_at hl 0 rfl) ?_
                refine lv_aload_n hx hb dX4_leave_84 rfl (lv_at hl 3 rfl) ?_
                refine va_get (D := (dC, dI)) (ci := 5) (v := .int q7) (C := RX5) (T := TX5) (N := 7) hx hb hts hiX5 hown hKK.1 hP 16 rfl rfl 0 (by decide) (hts (.fieldLink RX4 44 "SlideLand$Stand" "shift" "I") (List.mem_of_getElem? (i := 5) rfl)) (fun _ h9 => h9) rfl dX4_leave_85 ?_
                refine lv_iload_n hx hb dX4_leave_88 rfl (lv_at hl 1 rfl) ?_
                refine lv_bipush (v := (10 : Int32)) hx hb dX4_leave_89 (by decide) ?_
                refine lv_iload hx hb dX4_leave_91 (lv_at hl 5 rfl) ?_
                refine lv_imul hx hb dX4_leave_93 ?_
                refine lv_iload hx hb dX4_leave_94 (lv_at hl 6 rfl) ?_
                refine lv_iadd hx hb dX4_leave_96 ?_
                refine lv_aload_n hx hb dX4_leave_97 rfl (lv_at hl 0 rfl) ?_
                refine va_get (D := (dC, dI)) (ci := 4) (v := .ref (g0 3)) (C := RX4) (T := TX4) (N := 8) hx hb hts hiX4 hown hKK.1 hP 0 rfl rfl 3 (by decide) (hts (.fieldLink RX4 21 "SlideLand$Route" "depth" "[I") (List.mem_of_getElem? (i := 6) rfl)) (fun _ h9 => h9) rfl dX4_leave_98 ?_
                refine lv_iload_n hx hb dX4_leave_101 rfl (lv_at hl 1 rfl) ?_
                obtain ⟨q10, hq10, h⟩ := obd_e h
                refine kcN (rest := [.int (((10 : Int32) * x18_5) + x30_6), .int v1, .int q7, .ref a0]) (w2 := ([cX4 a0 g0 o30_0, cX4_0 cI g0 o30_0, cX4_1 cI g0 o30_0, cX4_2 cI g0 o30_0, cX4_3 cI g0 o30_0, cX4_4 cZ g0 o30_0, cX4_6 cI g0 o30_0, cX6 a1 g1 o1, cX6_0 cI g1 o1, cX6_1 cI g1 o1, cX6_2 cI g1 o1, cX6_3 cI g1 o1, cX6_4 cI g1 o1, cX6_5 cI g1 o1, cX6_6 cI g1 o1, cX6_7 cI g1 o1, cX5 a2 g2 (stF o30_2 0 q7), cX5_5 cI g2 (stF o30_2 0 q7), cX5_6 cI g2 (stF o30_2 0 q7), cX0 a3 g3 o3, cX0_0 cI g3 o3, cX0_1 cI g3 o3])) hx hb hml hown hts hKK hP hD hS hA (c_X7_cell l dC dI cB cI cZ cO (g0 3) 81 (o30_0.2 3) v1 hq10) [4] (atAll_map ⟨rfl, trivial⟩) (by decide +kernel) (sameAd_map ⟨rfl, trivial⟩) (atAll_map ⟨rfl, trivial⟩) (agr_refl _ _ _) ⟨va_cnB 2 hts gX4_leave_X7_cell_n56 rfl rfl rfl (hKK.2 _ (nws_in 17 rfl)) (hts (.initialized RX7) (List.mem_of_getElem? (i := 8) rfl)) dsc_X7_cell ⟨Nat.le_of_ble_eq_true rfl, Nat.le_of_ble_eq_true rfl⟩, hts (.static yX7_cell) (List.mem_of_getElem? (i := 7) rfl), trivial⟩ rfl hl.1 rfl (Nat.le_of_ble_eq_true rfl) dX4_leave_102 ⟨Nat.zero_le _, Nat.zero_le _⟩ (fun H locs hP hD hS => ?_)
                refine lv_iconst (v := (1 : Int32)) hx hb dX4_leave_105 (by decide) ?_
                refine lv_iadd hx hb dX4_leave_106 ?_
                obtain ⟨q11, hq11, h⟩ := obd_e h
                refine kcV (rest := []) (w2 := ([cX4 a0 g0 q11, cX4_0 cI g0 q11, cX4_1 cI g0 q11, cX4_2 cI g0 q11, cX4_3 cI g0 q11, cX4_4 cZ g0 q11, cX4_6 cI g0 q11, cX6 a1 g1 o1, cX6_0 cI g1 o1, cX6_1 cI g1 o1, cX6_2 cI g1 o1, cX6_3 cI g1 o1, cX6_4 cI g1 o1, cX6_5 cI g1 o1, cX6_6 cI g1 o1, cX6_7 cI g1 o1, cX5 a2 g2 (stF o30_2 0 q7), cX5_5 cI g2 (stF o30_2 0 q7), cX5_6 cI g2 (stF o30_2 0 q7), cX0 a3 g3 o3, cX0_0 cI g3 o3, cX0_1 cI g3 o3])) hx hb hml hown hts hKK hP hD hS hA (c_X4_come l dC dI cB cI cZ cO a0 g0 o30_0 q7 v1 (((10 : Int32) * x18_5) + x30_6) (q10 + (1 : Int32)) hq11) [0, 1, 2, 3, 4, 5, 6] (atAll_map ⟨rfl, rfl, rfl, rfl, rfl, rfl, rfl, trivial⟩) (by decide +kernel) (sameAd_map ⟨rfl, rfl, rfl, rfl, rfl, rfl, rfl, trivial⟩) (atAll_map ⟨rfl, rfl, rfl, rfl, rfl, rfl, rfl, trivial⟩) ⟨Or.inr (by decide), Or.inr (by decide), Or.inr (by decide), Or.inr (by decide), Or.inr (by decide), Or.inr (by decide), Or.inr (by decide), Or.inl rfl, Or.inl rfl, Or.inl rfl, Or.inl rfl, Or.inl rfl, Or.inl rfl, Or.inl rfl, Or.inl rfl, Or.inl rfl, Or.inl rfl, Or.inl rfl, Or.inl rfl, Or.inl rfl, Or.inl rfl, Or.inl rfl, trivial⟩ (cwV 4 hts gX4_leave_X4_come rfl rfl rfl ⟨rfl, dsc_X4_come⟩ ⟨Nat.le_of_ble_eq_true rfl, Nat.le_of_ble_eq_true rfl⟩) (va_recv hKK.1 hP (ci := 4) (q0 := 0) rfl rfl) rfl hl.1 rfl (Nat.le_of_ble_eq_true rfl) dX4_leave_107 ⟨Nat.zero_le _, Nat.zero_le _⟩ (fun H locs hP hD hS => ?_)
                obtain ⟨x12, hx12, h⟩ := bnd_e h
                refine lv_iinc (v := x12) (lv' := [(6, .int x12), (0, .ref a0), (1, .int v1), (2, .ref a1), (3, .ref a2), (4, .ref a3), (5, .int x18_5)]) hx hb dX4_leave_110 hl (k := 6) rfl (by rw [← hx12]; rfl) (by decide) rfl (fun ls hl => ?_)
                refine lv_goto (tgt := 30) hx hb dX4_leave_113 (by decide) ?_
                exact ih30 x12 q11 (stF o30_2 0 q7) h _ _ _ hP hD hS (lv_sub hl [1, 2, 3, 4, 5, 6, 0] rfl)
              · have h := ite_f k9 h
                refine lv_aload_n hx hb dX4_leave_68 rfl (lv_at hl 0 rfl) ?_
                refine lv_iload_n hx hb dX4_leave_69 rfl (lv_at hl 1 rfl) ?_
                refine lv_bipush (v := (10 : Int32)) hx hb dX4_leave_70 (by decide) ?_
                refine lv_iload hx hb dX4_leave_72 (lv_at hl 5 rfl) ?_
                refine lv_imul hx hb dX4_leave_74 ?_
                refine lv_iload hx hb dX4_leave_75 (lv_at hl 6 rfl) ?_
                refine lv_iadd hx hb dX4_leave_77 ?_
                obtain ⟨q13, hq13, h⟩ := obd_e h
                refine kcV (rest := []) (w2 := ([cX4 a0 g0 q13, cX4_0 cI g0 q13, cX4_1 cI g0 q13, cX4_2 cI g0 q13, cX4_3 cI g0 q13, cX4_4 cZ g0 q13, cX4_6 cI g0 q13, cX6 a1 g1 o1, cX6_0 cI g1 o1, cX6_1 cI g1 o1, cX6_2 cI g1 o1, cX6_3 cI g1 o1, cX6_4 cI g1 o1, cX6_5 cI g1 o1, cX6_6 cI g1 o1, cX6_7 cI g1 o1, cX5 a2 g2 (stF o30_2 0 q7), cX5_5 cI g2 (stF o30_2 0 q7), cX5_6 cI g2 (stF o30_2 0 q7), cX0 a3 g3 o3, cX0_0 cI g3 o3, cX0_1 cI g3 o3])) hx hb hml hown hts hKK hP hD hS hA (c_X4_writeRow l dC dI cB cI cZ cO a0 g0 o30_0 v1 (((10 : Int32) * x18_5) + x30_6) hq13) [0, 1, 2, 3, 4, 5, 6] (atAll_map ⟨rfl, rfl, rfl, rfl, rfl, rfl, rfl, trivial⟩) (by decide +kernel) (sameAd_map ⟨rfl, rfl, rfl, rfl, rfl, rfl, rfl, trivial⟩) (atAll_map ⟨rfl, rfl, rfl, rfl, rfl, rfl, rfl, trivial⟩) ⟨Or.inr (by decide), Or.inr (by decide), Or.inr (by decide), Or.inr (by decide), Or.inr (by decide), Or.inr (by decide), Or.inr (by decide), Or.inl rfl, Or.inl rfl, Or.inl rfl, Or.inl rfl, Or.inl rfl, Or.inl rfl, Or.inl rfl, Or.inl rfl, Or.inl rfl, Or.inl rfl, Or.inl rfl, Or.inl rfl, Or.inl rfl, Or.inl rfl, Or.inl rfl, trivial⟩ (cwV 2 hts gX4_leave_X4_writeRow rfl rfl rfl ⟨rfl, dsc_X4_writeRow⟩ ⟨Nat.le_of_ble_eq_true rfl, Nat.le_of_ble_eq_true rfl⟩) (va_recv hKK.1 hP (ci := 4) (q0 := 0) rfl rfl) rfl hl.1 rfl (Nat.le_of_ble_eq_true rfl) dX4_leave_78 ⟨Nat.zero_le _, Nat.zero_le _⟩ (fun H locs hP hD hS => ?_)
                refine lv_iconst (v := (1 : Int32)) hx hb dX4_leave_81 (by decide) ?_
                have h := Option.some.inj h
                subst h
                subst hQ
                exact W.zret (v := (1 : Int32)) hx hb hr rfl (fun t ht hW => ⟨⟨rfl, by rw [ht]; exact hP, hD⟩, hS.F ht⟩) hS.2.2 dX4_leave_82
        exact lp30 FU (0 : Int32) o18_0 o18_2 h _ _ _ hP hD hS (lv_sub hl [1, 2, 3, 4, 5, 6, 0] rfl)
  exact lp18 FU (0 : Int32) o0 (stF o2 1 x2) h _ _ _ hP hD hS (lv_sub hl [1, 2, 3, 4, 5, 0] rfl)
def f_X4_find_34 (o1 : Ob) (o3 : Ob) : Nat → Int32 → Ob → Ob → Option (Bool × Ob × Ob)
  | 0, _, _, _ => none
  | nn34+1, x34_4, o34_0, o34_2 => if (81 : Int32) ≤ x34_4 then (some (false, o34_0, o34_2)) else (if (o34_0.1 5) ≤ x34_4 then (some (false, o34_0, o34_2)) else ((f_X7_cell 81 (o34_0.2 3) x34_4).bind fun q7 : Int32 => if q7 < (9 : Int32) then ((f_X4_leave o34_0 o1 o34_2 o3 x34_4).bind fun q9 : Bool × Ob × Ob => if (b2i q9.1) = 0 then (bnd (x34_4 + (1 : Int32)) fun x11 : Int32 => (f_X4_find_34 o1 o3 nn34) x11 q9.2.1 q9.2.2) else (some (true, q9.2.1, q9.2.2))) else (some (false, o34_0, o34_2))))
def f_X4_find (o0 : Ob) (o1 : Ob) (o2 : Ob) (o3 : Ob) : Option (Bool × Ob × Ob) := (f_X0_allSo o3 o1 o2).bind fun q1 : Bool => if (b2i q1) = 0 then ((f_X4_clear (stF o0 7 (0 : Int32))).bind fun q3 : Ob => (f_X4_come q3 (o2.1 0) (0 : Int32) (0 : Int32) (0 : Int32)).bind fun q4 : Ob => f_X4_find_34 o1 o3 FU (0 : Int32) q4 o2) else (some (true, (stF o0 7 (0 : Int32)), o2))
abbrev rmX4_find : Room := { frames := 5, cells := 0, slots := 0, locals := 117 }
theorem dsc_X4_find : yX4_find.cls ≠ "java/lang/invoke/MethodHandle" ∧ yX4_find.cls ≠ "java/lang/invoke/VarHandle" ∧ (parseMethodDescriptor yX4_find.desc).map (fun d => d.parameters.length) = some 3 := by decide +kernel
set_option maxHeartbeats 4000000 in
set_option maxRecDepth 100000 in
theorem c_X4_find (l : Launch) (dC : Nat → ClassId) (dI : Nat → Nat → Nat) (cB cI cZ cO : ClassId) (a0 : Nat) (g0 : Nat → Nat) (o0 : Ob) (a1 : Nat) (g1 : Nat → Nat) (o1 : Ob) (a2 : Nat) (g2 : Nat → Nat) (o2 : Ob) (a3 : Nat) (g3 : Nat → Nat) (o3 : Ob) {r : Bool × Ob × Ob} (h : f_X4_find o0 o1 o2 o3 = some r) : Ct dC dI cB cI cZ cO l yX4_find wsX4_find rmX4_find [.ref a0, .ref a1, .ref a2, .ref a3] ([cX4 a0 g0 o0, cX4_0 cI g0 o0, cX4_1 cI g0 o0, cX4_2 cI g0 o0, cX4_3 cI g0 o0, cX4_4 cZ g0 o0, cX4_6 cI g0 o0, cX6 a1 g1 o1, cX6_0 cI g1 o1, cX6_1 cI g1 o1, cX6_2 cI g1 o1, cX6_3 cI g1 o1, cX6_4 cI g1 o1, cX6_5 cI g1 o1, cX6_6 cI g1 o1, cX6_7 cI g1 o1, cX5 a2 g2 o2, cX5_5 cI g2 o2, cX5_6 cI g2 o2, cX0 a3 g3 o3, cX0_0 cI g3 o3, cX0_1 cI g3 o3]) (some (.int (b2i r.1))) ([cX4 a0 g0 r.2.1, cX4_0 cI g0 r.2.1, cX4_1 cI g0 r.2.1, cX4_2 cI g0 r.2.1, cX4_3 cI g0 r.2.1, cX4_4 cZ g0 r.2.1, cX4_6 cI g0 r.2.1, cX6 a1 g1 o1, cX6_0 cI g1 o1, cX6_1 cI g1 o1, cX6_2 cI g1 o1, cX6_3 cI g1 o1, cX6_4 cI g1 o1, cX6_5 cI g1 o1, cX6_6 cI g1 o1, cX6_7 cI g1 o1, cX5 a2 g2 r.2.2, cX5_5 cI g2 r.2.2, cX5_6 cI g2 r.2.2, cX0 a3 g3 o3, cX0_0 cI g3 o3, cX0_1 cI g3 o3]) := by
  intro sz
  refine Met.ofW (cc := cX4_find) (maxL := 5) (ret := (some .boolean)) (by decide) rfl ?_
  intro p e s m args below meth c s₁ B hml hv
  obtain ⟨rfl, hsz, hP, hKK, hD0⟩ := hv
  have hx := B.exec
  have hb := B.bytes
  have hr := B.returns
  have hts := atoms_spec (ws := wsX4_find) B.pre
  have hown : s.vm.findClass RX4 = some m.cls := findClass_of_methodNamed B.named
  have hlocks := B.notSynchronized
  have hiX4 : ∀ w ∈ u_ws RX4 TX4 8, w ∈ wsX4_find := fun w h => List.mem_cons_of_mem _ (List.mem_append_left _ (List.mem_append_left _ (List.mem_append_left _ (List.mem_append_right _ h))))
  have hiX5 : ∀ w ∈ u_ws RX5 TX5 7, w ∈ wsX4_find := fun w h => List.mem_cons_of_mem _ (List.mem_append_left _ (List.mem_append_left _ (List.mem_append_right _ h)))
  subst hsz
  have hD := hD0.self (sz := s.heap.size)
  generalize hAe : va_A ([cX4 a0 g0 o0, cX4_0 cI g0 o0, cX4_1 cI g0 o0, cX4_2 cI g0 o0, cX4_3 cI g0 o0, cX4_4 cZ g0 o0, cX4_6 cI g0 o0, cX6 a1 g1 o1, cX6_0 cI g1 o1, cX6_1 cI g1 o1, cX6_2 cI g1 o1, cX6_3 cI g1 o1, cX6_4 cI g1 o1, cX6_5 cI g1 o1, cX6_6 cI g1 o1, cX6_7 cI g1 o1, cX5 a2 g2 o2, cX5_5 cI g2 o2, cX5_6 cI g2 o2, cX0 a3 g3 o3, cX0_0 cI g3 o3, cX0_1 cI g3 o3]) s.heap.size = A at hD ⊢
  have hA : ∀ q : Nat, s.heap.size ≤ q → A q := fun q h => by rw [← hAe]; exact Or.inr h
  have hS : va_S A s.heap s.heap [] := va_S.rf
  have hP : va_P (dC, dI) vwCl ([cX4 a0 g0 o0, cX4_0 cI g0 o0, cX4_1 cI g0 o0, cX4_2 cI g0 o0, cX4_3 cI g0 o0, cX4_4 cZ g0 o0, cX4_6 cI g0 o0, cX6 a1 g1 o1, cX6_0 cI g1 o1, cX6_1 cI g1 o1, cX6_2 cI g1 o1, cX6_3 cI g1 o1, cX6_4 cI g1 o1, cX6_5 cI g1 o1, cX6_6 cI g1 o1, cX6_7 cI g1 o1, cX5 a2 g2 o2, cX5_5 cI g2 o2, cX5_6 cI g2 o2, cX0 a3 g3 o3, cX0_0 cI g3 o3, cX0_1 cI g3 o3]) s.heap := hP
  have hD : va_D A ([cX4 a0 g0 o0, cX4_0 cI g0 o0, cX4_1 cI g0 o0, cX4_2 cI g0 o0, cX4_3 cI g0 o0, cX4_4 cZ g0 o0, cX4_6 cI g0 o0, cX6 a1 g1 o1, cX6_0 cI g1 o1, cX6_1 cI g1 o1, cX6_2 cI g1 o1, cX6_3 cI g1 o1, cX6_4 cI g1 o1, cX6_5 cI g1 o1, cX6_6 cI g1 o1, cX6_7 cI g1 o1, cX5 a2 g2 o2, cX5_5 cI g2 o2, cX5_6 cI g2 o2, cX0 a3 g3 o3, cX0_0 cI g3 o3, cX0_1 cI g3 o3]) := hD
  have hl := lv_entry ([.ref a0, .ref a1, .ref a2, .ref a3]) (n := 5) (Nat.le_of_ble_eq_true rfl)
  rw [lg_entry_eq]
  generalize (lg_sl ([.ref a0, .ref a1, .ref a2, .ref a3]) ++ List.replicate (5 - (lg_sl ([.ref a0, .ref a1, .ref a2, .ref a3])).length) Slot.unset).toArray = ls at hl ⊢
  have hl : lv_has ls 5 [(0, .ref a0), (1, .ref a1), (2, .ref a2), (3, .ref a3)] := hl
  obtain ⟨Q, hQ⟩ : ∃ Q, Q = MQ below (Qq dC dI (some (.int (b2i r.1))) ([cX4 a0 g0 r.2.1, cX4_0 cI g0 r.2.1, cX4_1 cI g0 r.2.1, cX4_2 cI g0 r.2.1, cX4_3 cI g0 r.2.1, cX4_4 cZ g0 r.2.1, cX4_6 cI g0 r.2.1, cX6 a1 g1 o1, cX6_0 cI g1 o1, cX6_1 cI g1 o1, cX6_2 cI g1 o1, cX6_3 cI g1 o1, cX6_4 cI g1 o1, cX6_5 cI g1 o1, cX6_6 cI g1 o1, cX6_7 cI g1 o1, cX5 a2 g2 r.2.2, cX5_5 cI g2 r.2.2, cX5_6 cI g2 r.2.2, cX0 a3 g3 o3, cX0_0 cI g3 o3, cX0_1 cI g3 o3]) A) ([.ref a0, .ref a1, .ref a2, .ref a3] : List Value).toArray s 0 0 A := ⟨_, rfl⟩
  rw [← hQ]
  rw [f_X4_find] at h
  clear hAe hD0
  refine lv_aload_n hx hb dX4_find_0 rfl (lv_at hl 0 rfl) ?_
  refine lv_iconst (v := (0 : Int32)) hx hb dX4_find_1 (by decide) ?_
  refine va_put (D := (dC, dI)) (ci := 4) (v := .int (0 : Int32)) (ty := .int) (C := RX4) (T := TX4) (N := 8) hx hb hts hiX4 tyX4 tyX4_ok nmX4 hown hKK.1 hP hD hS 0 rfl rfl 7 (by decide) (hts (.fieldLink RX4 31 "SlideLand$Route" "length" "I") (List.mem_of_getElem? (i := 1) rfl)) (fun _ h9 => h9) rfl (by decide +kernel) rfl rfl (Nat.le_of_ble_eq_true rfl) dX4_find_2 (fun H locs hP hD hS => ?_)
  have hP : va_P (dC, dI) vwCl ([cX4 a0 g0 (stF o0 7 (0 : Int32)), cX4_0 cI g0 (stF o0 7 (0 : Int32)), cX4_1 cI g0 (stF o0 7 (0 : Int32)), cX4_2 cI g0 (stF o0 7 (0 : Int32)), cX4_3 cI g0 (stF o0 7 (0 : Int32)), cX4_4 cZ g0 (stF o0 7 (0 : Int32)), cX4_6 cI g0 (stF o0 7 (0 : Int32)), cX6 a1 g1 o1, cX6_0 cI g1 o1, cX6_1 cI g1 o1, cX6_2 cI g1 o1, cX6_3 cI g1 o1, cX6_4 cI g1 o1, cX6_5 cI g1 o1, cX6_6 cI g1 o1, cX6_7 cI g1 o1, cX5 a2 g2 o2, cX5_5 cI g2 o2, cX5_6 cI g2 o2, cX0 a3 g3 o3, cX0_0 cI g3 o3, cX0_1 cI g3 o3]) H := hP
  have hD : va_D A ([cX4 a0 g0 (stF o0 7 (0 : Int32)), cX4_0 cI g0 (stF o0 7 (0 : Int32)), cX4_1 cI g0 (stF o0 7 (0 : Int32)), cX4_2 cI g0 (stF o0 7 (0 : Int32)), cX4_3 cI g0 (stF o0 7 (0 : Int32)), cX4_4 cZ g0 (stF o0 7 (0 : Int32)), cX4_6 cI g0 (stF o0 7 (0 : Int32)), cX6 a1 g1 o1, cX6_0 cI g1 o1, cX6_1 cI g1 o1, cX6_2 cI g1 o1, cX6_3 cI g1 o1, cX6_4 cI g1 o1, cX6_5 cI g1 o1, cX6_6 cI g1 o1, cX6_7 cI g1 o1, cX5 a2 g2 o2, cX5_5 cI g2 o2, cX5_6 cI g2 o2, cX0 a3 g3 o3, cX0_0 cI g3 o3, cX0_1 cI g3 o3]) := hD
  refine lv_aload_n hx hb dX4_find_5 rfl (lv_at hl 3 rfl) ?_
  refine lv_aload_n hx hb dX4_find_6 rfl (lv_at hl 1 rfl) ?_
  refine lv_aload_n hx hb dX4_find_7 rfl (lv_at hl 2 rfl) ?_
  obtain ⟨q1, hq1, h⟩ := obd_e h
  refine kcV (rest := []) (w2 := ([cX4 a0 g0 (stF o0 7 (0 : Int32)), cX4_0 cI g0 (stF o0 7 (0 : Int32)), cX4_1 cI g0 (stF o0 7 (0 : Int32)), cX4_2 cI g0 (stF o0 7 (0 : Int32)), cX4_3 cI g0 (stF o0 7 (0 : Int32)), cX4_4 cZ g0 (stF o0 7 (0 : Int32)), cX4_6 cI g0 (stF o0 7 (0 : Int32)), cX6 a1 g1 o1, cX6_0 cI g1 o1, cX6_1 cI g1 o1, cX6_2 cI g1 o1, cX6_3 cI g1 o1, cX6_4 cI g1 o1, cX6_5 cI g1 o1, cX6_6 cI g1 o1, cX6_7 cI g1 o1, cX5 a2 g2 o2, cX5_5 cI g2 o2, cX5_6 cI g2 o2, cX0 a3 g3 o3, cX0_0 cI g3 o3, cX0_1 cI g3 o3])) hx hb hml hown hts hKK hP hD hS hA (c_X0_allSo l dC dI cB cI cZ cO a3 g3 o3 a1 g1 o1 a2 g2 o2 hq1) [19, 20, 21, 7, 8, 9, 10, 11, 12, 13, 14, 15, 16, 17, 18] (atAll_map ⟨rfl, rfl, rfl, rfl, rfl, rfl, rfl, rfl, rfl, rfl, rfl, rfl, rfl, rfl, rfl, trivial⟩) (by decide +kernel) (sameAd_map ⟨rfl, rfl, rfl, rfl, rfl, rfl, rfl, rfl, rfl, rfl, rfl, rfl, rfl, rfl, rfl, trivial⟩) (atAll_map ⟨rfl, rfl, rfl, rfl, rfl, rfl, rfl, rfl, rfl, rfl, rfl, rfl, rfl, rfl, rfl, trivial⟩) (agr_refl _ _ _) (cwV 2 hts gX4_find_X0_allSo rfl rfl rfl ⟨rfl, dsc_X0_allSo⟩ ⟨Nat.le_of_ble_eq_true rfl, Nat.le_of_ble_eq_true rfl⟩) (va_recv hKK.1 hP (ci := 0) (q0 := 19) rfl rfl) rfl hl.1 rfl (Nat.le_of_ble_eq_true rfl) dX4_find_8 ⟨Nat.zero_le _, Nat.zero_le _⟩ (fun H locs hP hD hS => ?_)
  refine lv_if_eq (tgt := 16) hx hb dX4_find_11 (by decide) (fun k2 => ?_) (fun k2 => ?_)
  · have h := ite_t k2 h
    refine lv_aload_n hx hb dX4_find_16 rfl (lv_at hl 0 rfl) ?_
    obtain ⟨q3, hq3, h⟩ := obd_e h
    refine kcV (rest := []) (w2 := ([cX4 a0 g0 q3, cX4_0 cI g0 q3, cX4_1 cI g0 q3, cX4_2 cI g0 q3, cX4_3 cI g0 q3, cX4_4 cZ g0 q3, cX4_6 cI g0 q3, cX6 a1 g1 o1, cX6_0 cI g1 o1, cX6_1 cI g1 o1, cX6_2 cI g1 o1, cX6_3 cI g1 o1, cX6_4 cI g1 o1, cX6_5 cI g1 o1, cX6_6 cI g1 o1, cX6_7 cI g1 o1, cX5 a2 g2 o2, cX5_5 cI g2 o2, cX5_6 cI g2 o2, cX0 a3 g3 o3, cX0_0 cI g3 o3, cX0_1 cI g3 o3])) hx hb hml hown hts hKK hP hD hS hA (c_X4_clear l dC dI cB cI cZ cO a0 g0 (stF o0 7 (0 : Int32)) hq3) [0, 1, 2, 3, 4, 5, 6] (atAll_map ⟨rfl, rfl, rfl, rfl, rfl, rfl, rfl, trivial⟩) (by decide +kernel) (sameAd_map ⟨rfl, rfl, rfl, rfl, rfl, rfl, rfl, trivial⟩) (atAll_map ⟨rfl, rfl, rfl, rfl, rfl, rfl, rfl, trivial⟩) ⟨Or.inr (by decide), Or.inr (by decide), Or.inr (by decide), Or.inr (by decide), Or.inr (by decide), Or.inr (by decide), Or.inr (by decide), Or.inl rfl, Or.inl rfl, Or.inl rfl, Or.inl rfl, Or.inl rfl, Or.inl rfl, Or.inl rfl, Or.inl rfl, Or.inl rfl, Or.inl rfl, Or.inl rfl, Or.inl rfl, Or.inl rfl, Or.inl rfl, Or.inl rfl, trivial⟩ (cwV 0 hts gX4_find_X4_clear rfl rfl rfl ⟨rfl, dsc_X4_clear⟩ ⟨Nat.le_of_ble_eq_true rfl, Nat.le_of_ble_eq_true rfl⟩) (va_recv hKK.1 hP (ci := 4) (q0 := 0) rfl rfl) rfl hl.1 rfl (Nat.le_of_ble_eq_true rfl) dX4_find_17 ⟨Nat.zero_le _, Nat.zero_le _⟩ (fun H locs hP hD hS => ?_)
    refine lv_aload_n hx hb dX4_find_20 rfl (lv_at hl 0 rfl) ?_
    refine lv_aload_n hx hb dX4_find_21 rfl (lv_at hl 2 rfl) ?_
    refine va_get (D := (dC, dI)) (ci := 5) (v := .int (o2.1 0)) (C := RX5) (T := TX5) (N := 7) hx hb hts hiX5 hown hKK.1 hP 16 rfl rfl 0 (by decide) (hts (.fieldLink RX4 44 "SlideLand$Stand" "shift" "I") (List.mem_of_getElem? (i := 2) rfl)) (fun _ h9 => h9) rfl dX4_find_22 ?_
    refine lv_iconst (v := (0 : Int32)) hx hb dX4_find_25 (by decide) ?_
    refine lv_iconst (v := (0 : Int32)) hx hb dX4_find_26 (by decide) ?_
    refine lv_iconst (v := (0 : Int32)) hx hb dX4_find_27 (by decide) ?_
    obtain ⟨q4, hq4, h⟩ := obd_e h
    refine kcV (rest := []) (w2 := ([cX4 a0 g0 q4, cX4_0 cI g0 q4, cX4_1 cI g0 q4, cX4_2 cI g0 q4, cX4_3 cI g0 q4, cX4_4 cZ g0 q4, cX4_6 cI g0 q4, cX6 a1 g1 o1, cX6_0 cI g1 o1, cX6_1 cI g1 o1, cX6_2 cI g1 o1, cX6_3 cI g1 o1, cX6_4 cI g1 o1, cX6_5 cI g1 o1, cX6_6 cI g1 o1, cX6_7 cI g1 o1, cX5 a2 g2 o2, cX5_5 cI g2 o2, cX5_6 cI g2 o2, cX0 a3 g3 o3, cX0_0 cI g3 o3, cX0_1 cI g3 o3])) hx hb hml hown hts hKK hP hD hS hA (c_X4_come l dC dI cB cI cZ cO a0 g0 q3 (o2.1 0) (0 : Int32) (0 : Int32) (0 : Int32) hq4) [0, 1, 2, 3, 4, 5, 6] (atAll_map ⟨rfl, rfl, rfl, rfl, rfl, rfl, rfl, trivial⟩) (by decide +kernel) (sameAd_map ⟨rfl, rfl, rfl, rfl, rfl, rfl, rfl, trivial⟩) (atAll_map ⟨rfl, rfl, rfl, rfl, rfl, rfl, rfl, trivial⟩) ⟨Or.inr (by decide), Or.inr (by decide), Or.inr (by decide), Or.inr (by decide), Or.inr (by decide), Or.inr (by decide), Or.inr (by decide), Or.inl rfl, Or.inl rfl, Or.inl rfl, Or.inl rfl, Or.inl rfl, Or.inl rfl, Or.inl rfl, Or.inl rfl, Or.inl rfl, Or.inl rfl, Or.inl rfl, Or.inl rfl, Or.inl rfl, Or.inl rfl, Or.inl rfl, trivial⟩ (cwV 4 hts gX4_find_X4_come rfl rfl rfl ⟨rfl, dsc_X4_come⟩ ⟨Nat.le_of_ble_eq_true rfl, Nat.le_of_ble_eq_true rfl⟩) (va_recv hKK.1 hP (ci := 4) (q0 := 0) rfl rfl) rfl hl.1 rfl (Nat.le_of_ble_eq_true rfl) dX4_find_28 ⟨Nat.zero_le _, Nat.zero_le _⟩ (fun H locs hP hD hS => ?_)
    refine lv_iconst (v := (0 : Int32)) hx hb dX4_find_31 (by decide) ?_
    refine lv_istore (lv' := [(4, .int (0 : Int32)), (0, .ref a0), (1, .ref a1), (2, .ref a2), (3, .ref a3)]) hx hb dX4_find_32 hl (by decide) rfl (fun ls hl => ?_)
    have lp34 : ∀ (nn34 : Nat) (x34_4 : Int32) (o34_0 : Ob) (o34_2 : Ob), f_X4_find_34 o1 o3 nn34 x34_4 o34_0 o34_2 = some r → ∀ (H : Heap) (locs : List Loc) (ls : Array Slot), va_P (dC, dI) vwCl ([cX4 a0 g0 o34_0, cX4_0 cI g0 o34_0, cX4_1 cI g0 o34_0, cX4_2 cI g0 o34_0, cX4_3 cI g0 o34_0, cX4_4 cZ g0 o34_0, cX4_6 cI g0 o34_0, cX6 a1 g1 o1, cX6_0 cI g1 o1, cX6_1 cI g1 o1, cX6_2 cI g1 o1, cX6_3 cI g1 o1, cX6_4 cI g1 o1, cX6_5 cI g1 o1, cX6_6 cI g1 o1, cX6_7 cI g1 o1, cX5 a2 g2 o34_2, cX5_5 cI g2 o34_2, cX5_6 cI g2 o34_2, cX0 a3 g3 o3, cX0_0 cI g3 o3, cX0_1 cI g3 o3]) H → va_D A ([cX4 a0 g0 o34_0, cX4_0 cI g0 o34_0, cX4_1 cI g0 o34_0, cX4_2 cI g0 o34_0, cX4_3 cI g0 o34_0, cX4_4 cZ g0 o34_0, cX4_6 cI g0 o34_0, cX6 a1 g1 o1, cX6_0 cI g1 o1, cX6_1 cI g1 o1, cX6_2 cI g1 o1, cX6_3 cI g1 o1, cX6_4 cI g1 o1, cX6_5 cI g1 o1, cX6_6 cI g1 o1, cX6_7 cI g1 o1, cX5 a2 g2 o34_2, cX5_5 cI g2 o34_2, cX5_6 cI g2 o34_2, cX0 a3 g3 o3, cX0_0 cI g3 o3, cX0_1 cI g3 o3]) → va_S A s.heap H locs → lv_has ls 5 [(0, .ref a0), (1, .ref a1), (2, .ref a2), (3, .ref a3), (4, .int x34_4)] → W p l e (headSpec wsX4_find rmX4_find).room s m ([.ref a0, .ref a1, .ref a2, .ref a3] : List Value).toArray below meth c H locs 0 0 Q (F0 m 34 ls []) := by
      intro nn34
      induction nn34 with
      | zero => intro x34_4 o34_0 o34_2 h; rw [f_X4_find_34] at h; cases h
      | succ nn34 ih34 =>
        intro x34_4 o34_0 o34_2 h H locs ls hP hD hS hl
        rw [f_X4_find_34] at h
        refine lv_iload hx hb dX4_find_34 (lv_at hl 4 rfl) ?_
        refine lv_bipush (v := (81 : Int32)) hx hb dX4_find_36 (by decide) ?_
        refine lv_icmp_ge (tgt := 86) hx hb dX4_find_38 (by decide) (fun k5 => ?_) (fun k5 => ?_)
        · have h := ite_t k5 h
          refine lv_iconst (v := (0 : Int32)) hx hb dX4_find_86 (by decide) ?_
          have h := Option.some.inj h
          subst h
          subst hQ
          exact W.zret (v := (0 : Int32)) hx hb hr rfl (fun t ht hW => ⟨⟨rfl, by rw [ht]; exact hP, hD⟩, hS.F ht⟩) hS.2.2 dX4_find_87
        · have h := ite_f k5 h
          refine lv_iload hx hb dX4_find_41 (lv_at hl 4 rfl) ?_
          refine lv_aload_n hx hb dX4_find_43 rfl (lv_at hl 0 rfl) ?_
          refine va_get (D := (dC, dI)) (ci := 4) (v := .int (o34_0.1 5)) (C := RX4) (T := TX4) (N := 8) hx hb hts hiX4 hown hKK.1 hP 0 rfl rfl 5 (by decide) (hts (.fieldLink RX4 53 "SlideLand$Route" "queued" "I") (List.mem_of_getElem? (i := 3) rfl)) (fun _ h9 => h9) rfl dX4_find_44 ?_
          refine lv_icmp_ge (tgt := 86) hx hb dX4_find_47 (by decide) (fun k6 => ?_) (fun k6 => ?_)
          · have h := ite_t k6 h
            refine lv_iconst (v := (0 : Int32)) hx hb dX4_find_86 (by decide) ?_
            have h := Option.some.inj h
            subst h
            subst hQ
            exact W.zret (v := (0 : Int32)) hx hb hr rfl (fun t ht hW => ⟨⟨rfl, by rw [ht]; exact hP, hD⟩, hS.F ht⟩) hS.2.2 dX4_find_87
          · have h := ite_f k6 h
            refine lv_aload_n hx hb dX4_find_50 rfl (lv_at hl 0 rfl) ?_
            refine va_get (D := (dC, dI)) (ci := 4) (v := .ref (g0 3)) (C := RX4) (T := TX4) (N := 8) hx hb hts hiX4 hown hKK.1 hP 0 rfl rfl 3 (by decide) (hts (.fieldLink RX4 21 "SlideLand$Route" "depth" "[I") (List.mem_of_getElem? (i := 4) rfl)) (fun _ h9 => h9) rfl dX4_find_51 ?_
            refine lv_iload hx hb dX4_find_54 (lv_at hl 4 rfl) ?_
            obtain ⟨q7, hq7, h⟩ := obd_e h
            refine kcN (rest := []) (w2 := ([cX4 a0 g0 o34_0, cX4_0 cI g0 o34_0, cX4_1 cI g0 o34_0, cX4_2 cI g0 o34_0, cX4_3 cI g0 o34_0, cX4_4 cZ g0 o34_0, cX4_6 cI g0 o34_0, cX6 a1 g1 o1, cX6_0 cI g1 o1, cX6_1 cI g1 o1, cX6_2 cI g1 o1, cX6_3 cI g1 o1, cX6_4 cI g1 o1, cX6_5 cI g1 o1, cX6_6 cI g1 o1, cX6_7 cI g1 o1, cX5 a2 g2 o34_2, cX5_5 cI g2 o34_2, cX5_6 cI g2 o34_2, cX0 a3 g3 o3, cX0_0 cI g3 o3, cX0_1 cI g3 o3])) hx hb hml hown hts hKK hP hD hS hA (c_X7_cell l dC dI cB cI cZ cO (g0 3) 81 (o34_0.2 3) x34_4 hq7) [4] (atAll_map ⟨rfl, trivial⟩) (by decide +kernel) (sameAd_map ⟨rfl, trivial⟩) (atAll_map ⟨rfl, trivial⟩) (agr_refl _ _ _) ⟨va_cnB 2 hts gX4_find_X7_cell_n56 rfl rfl rfl (hKK.2 _ (nws_in 17 rfl)) (hts (.initialized RX7) (List.mem_of_getElem? (i := 16) rfl)) dsc_X7_cell ⟨Nat.le_of_ble_eq_true rfl, Nat.le_of_ble_eq_true rfl⟩, hts (.static yX7_cell) (List.mem_of_getElem? (i := 15) rfl), trivial⟩ rfl hl.1 rfl (Nat.le_of_ble_eq_true rfl) dX4_find_56 ⟨Nat.zero_le _, Nat.zero_le _⟩ (fun H locs hP hD hS => ?_)
            refine lv_bipush (v := (9 : Int32)) hx hb dX4_find_59 (by decide) ?_
            refine lv_icmp_lt (tgt := 66) hx hb dX4_find_61 (by decide) (fun k8 => ?_) (fun k8 => ?_)
            · have h := ite_t k8 h
              refine lv_aload_n hx hb dX4_find_66 rfl (lv_at hl 0 rfl) ?_
              refine lv_iload hx hb dX4_find_67 (lv_at hl 4 rfl) ?_
              refine lv_aload_n hx hb dX4_find_69 rfl (lv_at hl 1 rfl) ?_
              refine lv_aload_n hx hb dX4_find_70 rfl (lv_at hl 2 rfl) ?_
              refine lv_aload_n hx hb dX4_find_71 rfl (lv_at hl 3 rfl) ?_
              obtain ⟨q9, hq9, h⟩ := obd_e h
              refine kcV (rest := []) (w2 := ([cX4 a0 g0 q9.2.1, cX4_0 cI g0 q9.2.1, cX4_1 cI g0 q9.2.1, cX4_2 cI g0 q9.2.1, cX4_3 cI g0 q9.2.1, cX4_4 cZ g0 q9.2.1, cX4_6 cI g0 q9.2.1, cX6 a1 g1 o1, cX6_0 cI g1 o1, cX6_1 cI g1 o1, cX6_2 cI g1 o1, cX6_3 cI g1 o1, cX6_4 cI g1 o1, cX6_5 cI g1 o1, cX6_6 cI g1 o1, cX6_7 cI g1 o1, cX5 a2 g2 q9.2.2, cX5_5 cI g2 q9.2.2, cX5_6 cI g2 q9.2.2, cX0 a3 g3 o3, cX0_0 cI g3 o3, cX0_1 cI g3 o3])) hx hb hml hown hts hKK hP hD hS hA (c_X4_leave l dC dI cB cI cZ cO a0 g0 o34_0 a1 g1 o1 a2 g2 o34_2 a3 g3 o3 x34_4 hq9) [0, 1, 2, 3, 4, 5, 6, 7, 8, 9, 10, 11, 12, 13, 14, 15, 16, 17, 18, 19, 20, 21] (atAll_map ⟨rfl, rfl, rfl, rfl, rfl, rfl, rfl, rfl, rfl, rfl, rfl, rfl, rfl, rfl, rfl, rfl, rfl, rfl, rfl, rfl, rfl, rfl, trivial⟩) (by decide +kernel) (sameAd_map ⟨rfl, rfl, rfl, rfl, rfl, rfl, rfl, rfl, rfl, rfl, rfl, rfl, rfl, rfl, rfl, rfl, rfl, rfl, rfl, rfl, rfl, rfl, trivial⟩) (atAll_map ⟨rfl, rfl, rfl, rfl, rfl, rfl, rfl, rfl, rfl, rfl, rfl, rfl, rfl, rfl, rfl, rfl, rfl, rfl, rfl, rfl, rfl, rfl, trivial⟩) ⟨Or.inr (by decide), Or.inr (by decide), Or.inr (by decide), Or.inr (by decide), Or.inr (by decide), Or.inr (by decide), Or.inr (by decide), Or.inl rfl, Or.inl rfl, Or.inl rfl, Or.inl rfl, Or.inl rfl, Or.inl rfl, Or.inl rfl, Or.inl rfl, Or.inl rfl, Or.inr (by decide), Or.inr (by decide), Or.inr (by decide), Or.inl rfl, Or.inl rfl, Or.inl rfl, trivial⟩ (cwV 4 hts gX4_find_X4_leave rfl rfl rfl ⟨rfl, dsc_X4_leave⟩ ⟨Nat.le_of_ble_eq_true rfl, Nat.le_of_ble_eq_true rfl⟩) (va_recv hKK.1 hP (ci := 4) (q0 := 0) rfl rfl) rfl hl.1 rfl (Nat.le_of_ble_eq_true rfl) dX4_find_72 ⟨Nat.zero_le _, Nat.zero_le _⟩ (fun H locs hP hD hS => ?_)
              refine lv_if_eq (tgt := 80) hx hb dX4_find_75 (by decide) (fun k10 => ?_) (fun k10 => ?_)
              · have h := ite_t k10 h
                obtain ⟨x11, hx11, h⟩ := bnd_e h
                refine lv_iinc (v := x11) (lv' := [(4, .int x11), (0, .ref a0), (1, .ref a1), (2, .ref a2), (3, .ref a3)]) hx hb dX4_find_80 hl (k := 4) rfl (by rw [← hx11]; rfl) (by decide) rfl (fun ls hl => ?_)
                refine lv_goto (tgt := 34) hx hb dX4_find_83 (by decide) ?_
                exact ih34 x11 q9.2.1 q9.2.2 h _ _ _ hP hD hS (lv_sub hl [1, 2, 3, 4, 0] rfl)
              · have h := ite_f k10 h
                refine lv_iconst (v := (1 : Int32)) hx hb dX4_find_78 (by decide) ?_
                have h := Option.some.inj h
                subst h
                subst hQ
                exact W.zret (v := (1 : Int32)) hx hb hr rfl (fun t ht hW => ⟨⟨rfl, by rw [ht]; exact hP, hD⟩, hS.F ht⟩) hS.2.2 dX4_find_79
            · have h := ite_f k8 h
              refine lv_iconst (v := (0 : Int32)) hx hb dX4_find_64 (by decide) ?_
              have h := Option.some.inj h
              subst h
              subst hQ
              exact W.zret (v := (0 : Int32)) hx hb hr rfl (fun t ht hW => ⟨⟨rfl, by rw [ht]; exact hP, hD⟩, hS.F ht⟩) hS.2.2 dX4_find_65
    exact lp34 FU (0 : Int32) q4 o2 h _ _ _ hP hD hS (lv_sub hl [1, 2, 3, 4, 0] rfl)
  · have h := ite_f k2 h
    refine lv_iconst (v := (1 : Int32)) hx hb dX4_find_14 (by decide) ?_
    have h := Option.some.inj h
    subst h
    subst hQ
    exact W.zret (v := (1 : Int32)) hx hb hr rfl (fun t ht hW => ⟨⟨rfl, by rw [ht]; exact hP, hD⟩, hS.F ht⟩) hS.2.2 dX4_find_15
