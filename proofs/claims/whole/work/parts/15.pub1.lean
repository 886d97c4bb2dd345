def f_X7_isPush (o0 : Ob) (o1 : Ob) (v1 : Int32) (v2 : Int32) : Bool := bnd (f_X7_within v1 (0 : Int32) ((o1.1 9) - (1 : Int32))) fun q1 : Bool => if (b2i q1) = 0 then false else (bnd (f_X7_within v2 (0 : Int32) (1 : Int32)) fun q3 : Bool => if (b2i q3) = 0 then false else true)
abbrev rmX7_isPush : Room := { frames := 1, cells := 0, slots := 0, locals := 22 }
theorem dsc_X7_isPush : yX7_isPush.cls ≠ "java/lang/invoke/MethodHandle" ∧ yX7_isPush.cls ≠ "java/lang/invoke/VarHandle" ∧ (parseMethodDescriptor yX7_isPush.desc).map (fun d => d.parameters.length) = some 2 := by decide +kernel
set_option maxHeartbeats 4000000 in
set_option maxRecDepth 100000 in
theorem c_X7_isPush (l : Launch) (dC : Nat → ClassId) (dI : Nat → Nat → Nat) (cB cI cZ cO : ClassId) (a0 : Nat) (g0 : Nat → Nat) (o0 : Ob) (g1 : Nat → Nat) (o1 : Ob) (v1 : Int32) (v2 : Int32) {r : Bool} (h : f_X7_isPush o0 o1 v1 v2 = r) : Ct dC dI cB cI cZ cO l yX7_isPush wsX7_isPush rmX7_isPush [.ref a0, .int v1, .int v2] ([cX7 a0 g0 o0, cX7_10 cI g0 o0, cX6 (g0 1) g1 o1, cX6_0 cI g1 o1, cX6_1 cI g1 o1, cX6_2 cI g1 o1, cX6_3 cI g1 o1, cX6_4 cI g1 o1, cX6_5 cI g1 o1, cX6_6 cI g1 o1, cX6_7 cI g1 o1]) (some (.int (b2i r))) ([cX7 a0 g0 o0, cX7_10 cI g0 o0, cX6 (g0 1) g1 o1, cX6_0 cI g1 o1, cX6_1 cI g1 o1, cX6_2 cI g1 o1, cX6_3 cI g1 o1, cX6_4 cI g1 o1, cX6_5 cI g1 o1, cX6_6 cI g1 o1, cX6_7 cI g1 o1]) := by
  intro sz
  refine Met.ofW (cc := cX7_isPush) (maxL := 3) (ret := (some .boolean)) (by decide) rfl ?_
  intro p e s m args below meth c s₁ B hml hv
  obtain ⟨rfl, hsz, hP, hKK, hD0⟩ := hv
  have hx := B.exec
  have hb := B.bytes
  have hr := B.returns
  have hts := atoms_spec (ws := wsX7_isPush) B.pre
  have hown : s.vm.findClass RX7 = some m.cls := findClass_of_methodNamed B.named
  have hlocks := B.notSynchronized
  have hiX7 : ∀ w ∈ u_ws RX7 TX7 11, w ∈ wsX7_isPush := fun w h => List.mem_cons_of_mem _ (List.mem_append_left _ (List.mem_append_right _ h))
  have hiX6 : ∀ w ∈ u_ws RX6 TX6 11, w ∈ wsX7_isPush := fun w h => List.mem_cons_of_mem _ (List.mem_append_right _ h)
  subst hsz
  have hD := hD0.self (sz := s.heap.size)
  generalize hAe : va_A ([cX7 a0 g0 o0, cX7_10 cI g0 o0, cX6 (g0 1) g1 o1, cX6_0 cI g1 o1, cX6_1 cI g1 o1, cX6_2 cI g1 o1, cX6_3 cI g1 o1, cX6_4 cI g1 o1, cX6_5 cI g1 o1, cX6_6 cI g1 o1, cX6_7 cI g1 o1]) s.heap.size = A at hD ⊢
  have hA : ∀ q : Nat, s.heap.size ≤ q → A q := fun q h => by rw [← hAe]; exact Or.inr h
  have hS : va_S A s.heap s.heap [] := va_S.rf
  have hP : va_P (dC, dI) vwCl ([cX7 a0 g0 o0, cX7_10 cI g0 o0, cX6 (g0 1) g1 o1, cX6_0 cI g1 o1, cX6_1 cI g1 o1, cX6_2 cI g1 o1, cX6_3 cI g1 o1, cX6_4 cI g1 o1, cX6_5 cI g1 o1, cX6_6 cI g1 o1, cX6_7 cI g1 o1]) s.heap := hP
  have hD : va_D A ([cX7 a0 g0 o0, cX7_10 cI g0 o0, cX6 (g0 1) g1 o1, cX6_0 cI g1 o1, cX6_1 cI g1 o1, cX6_2 cI g1 o1, cX6_3 cI g1 o1, cX6_4 cI g1 o1, cX6_5 cI g1 o1, cX6_6 cI g1 o1, cX6_7 cI g1 o1]) := hD
  have hl := lv_entry ([.ref a0, .int v1, .int v2]) (n := 3) (Nat.le_of_ble_eq_true rfl)
  rw [lg_entry_eq]
  generalize (lg_sl ([.ref a0, .int v1, .int v2]) ++ List.replicate (3 - (lg_sl ([.ref a0, .int v1, .int v2])).length) Slot.unset).toArray = ls at hl ⊢
  have hl : lv_has ls 3 [(0, .ref a0), (1, .int v1), (2, .int v2)] := hl
  obtain ⟨Q, hQ⟩ : ∃ Q, Q = MQ below (Qq dC dI (some (.int (b2i r))) ([cX7 a0 g0 o0, cX7_10 cI g0 o0, cX6 (g0 1) g1 o1, cX6_0 cI g1 o1, cX6_1 cI g1 o1, cX6_2 cI g1 o1, cX6_3 cI g1 o1, cX6_4 cI g1 o1, cX6_5 cI g1 o1, cX6_6 cI g1 o1, cX6_7 cI g1 o1]) A) ([.ref a0, .int v1, .int v2] : List Value).toArray s 0 0 A := ⟨_, rfl⟩
  rw [← hQ]
  rw [f_X7_isPush] at h
  clear hAe hD0
  refine lv_iload_n hx hb dX7_isPush_0 rfl (lv_at hl 1 rfl) ?_
  refine lv_iconst (v := (0 : Int32)) hx hb dX7_isPush_1 (by decide) ?_
  refine lv_aload_n hx hb dX7_isPush_2 rfl (lv_at hl 0 rfl) ?_
  refine va_get (D := (dC, dI)) (ci := 7) (v := .ref (g0 1)) (C := RX7) (T := TX7) (N := 11) hx hb hts hiX7 hown hKK.1 hP 0 rfl rfl 1 (by decide) (hts (.fieldLink RX7 19 "SlideLand" "told" "LSlideLand$Told;") (List.mem_of_getElem? (i := 1) rfl)) (fun _ h9 => h9) rfl dX7_isPush_3 ?_
  refine va_get (D := (dC, dI)) (ci := 6) (v := .int (o1.1 9)) (C := RX6) (T := TX6) (N := 11) hx hb hts hiX6 hown hKK.1 hP 2 rfl rfl 9 (by decide) (hts (.fieldLink RX7 108 "SlideLand$Told" "pushes" "I") (List.mem_of_getElem? (i := 2) rfl)) (fun _ h9 => h9) rfl dX7_isPush_6 ?_
  refine lv_iconst (v := (1 : Int32)) hx hb dX7_isPush_9 (by decide) ?_
  refine lv_isub hx hb dX7_isPush_10 ?_
  obtain ⟨q1, hq1, h⟩ := bnd_e h
  refine kcS (rest := []) (w2 := ([cX7 a0 g0 o0, cX7_10 cI g0 o0, cX6 (g0 1) g1 o1, cX6_0 cI g1 o1, cX6_1 cI g1 o1, cX6_2 cI g1 o1, cX6_3 cI g1 o1, cX6_4 cI g1 o1, cX6_5 cI g1 o1, cX6_6 cI g1 o1, cX6_7 cI g1 o1])) hx hb hml hown hts hKK hP hD hS hA (c_X7_within l dC dI cB cI cZ cO v1 (0 : Int32) ((o1.1 9) - (1 : Int32)) hq1) [] (atAll_map trivial) (by decide +kernel) (sameAd_map trivial) (atAll_map trivial) (agr_refl _ _ _) (va_cwS 3 hts gX7_isPush_X7_within rfl rfl rfl dsc_X7_within ⟨Nat.le_of_ble_eq_true rfl, Nat.le_of_ble_eq_true rfl⟩) rfl hl.1 rfl (Nat.le_of_ble_eq_true rfl) dX7_isPush_11 ⟨Nat.zero_le _, Nat.zero_le _⟩ (fun H locs hP hD hS => ?_)
  refine lv_if_eq (tgt := 30) hx hb dX7_isPush_14 (by decide) (fun k2 => ?_) (fun k2 => ?_)
  · have h := ite_t k2 h
    refine lv_iconst (v := (0 : Int32)) hx hb dX7_isPush_30 (by decide) ?_
    subst h
    subst hQ
    exact W.zret (v := (0 : Int32)) hx hb hr rfl (fun t ht hW => ⟨⟨rfl, by rw [ht]; exact hP, hD⟩, hS.F ht⟩) hS.2.2 dX7_isPush_31
  · have h := ite_f k2 h
    refine lv_iload_n hx hb dX7_isPush_17 rfl (lv_at hl 2 rfl) ?_
    refine lv_iconst (v := (0 : Int32)) hx hb dX7_isPush_18 (by decide) ?_
    refine lv_iconst (v := (1 : Int32)) hx hb dX7_isPush_19 (by decide) ?_
    obtain ⟨q3, hq3, h⟩ := bnd_e h
    refine kcS (rest := []) (w2 := ([cX7 a0 g0 o0, cX7_10 cI g0 o0, cX6 (g0 1) g1 o1, cX6_0 cI g1 o1, cX6_1 cI g1 o1, cX6_2 cI g1 o1, cX6_3 cI g1 o1, cX6_4 cI g1 o1, cX6_5 cI g1 o1, cX6_6 cI g1 o1, cX6_7 cI g1 o1])) hx hb hml hown hts hKK hP hD hS hA (c_X7_within l dC dI cB cI cZ cO v2 (0 : Int32) (1 : Int32) hq3) [] (atAll_map trivial) (by decide +kernel) (sameAd_map trivial) (atAll_map trivial) (agr_refl _ _ _) (va_cwS 3 hts gX7_isPush_X7_within rfl rfl rfl dsc_X7_within ⟨Nat.le_of_ble_eq_true rfl, Nat.le_of_ble_eq_true rfl⟩) rfl hl.1 rfl (Nat.le_of_ble_eq_true rfl) dX7_isPush_20 ⟨Nat.zero_le _, Nat.zero_le _⟩ (fun H locs hP hD hS => ?_)
    refine lv_if_eq (tgt := 30) hx hb dX7_isPush_23 (by decide) (fun k4 => ?_) (fun k4 => ?_)
    · have h := ite_t k4 h
      refine lv_iconst (v := (0 : Int32)) hx hb dX7_isPush_30 (by decide) ?_
      subst h
      subst hQ
      exact W.zret (v := (0 : Int32)) hx hb hr rfl (fun t ht hW => ⟨⟨rfl, by rw [ht]; exact hP, hD⟩, hS.F ht⟩) hS.2.2 dX7_isPush_31
    · have h := ite_f k4 h
      refine lv_iconst (v := (1 : Int32)) hx hb dX7_isPush_26 (by decide) ?_
      refine lv_goto (tgt := 31) hx hb dX7_isPush_27 (by decide) ?_
      subst h
      subst hQ
      exact W.zret (v := (1 : Int32)) hx hb hr rfl (fun t ht hW => ⟨⟨rfl, by rw [ht]; exact hP, hD⟩, hS.F ht⟩) hS.2.2 dX7_isPush_31
def f_X7_write (o0 : Ob) (o1 : Ob) (v1 : Int32) : Option (Int32 × Ob) := bnd (f_X7_within v1 (32 : Int32) (126 : Int32)) fun q1 : Bool => if (b2i q1) = 0 then (some ((-1 : Int32), o1)) else ((f_X2_append o1 v1).bind fun q3 : Bool × Ob => if (b2i q3.1) = 0 then (some ((-3 : Int32), q3.2)) else (some ((q3.2.1 1), q3.2)))
abbrev rmX7_write : Room := { frames := 2, cells := 0, slots := 0, locals := 43 }
theorem dsc_X7_write : yX7_write.cls ≠ "java/lang/invoke/MethodHandle" ∧ yX7_write.cls ≠ "java/lang/invoke/VarHandle" ∧ (parseMethodDescriptor yX7_write.desc).map (fun d => d.parameters.length) = some 1 := by decide +kernel
set_option maxHeartbeats 4000000 in
set_option maxRecDepth 100000 in
theorem c_X7_write (l : Launch) (dC : Nat → ClassId) (dI : Nat → Nat → Nat) (cB cI cZ cO : ClassId) (a0 : Nat) (g0 : Nat → Nat) (o0 : Ob) (g1 : Nat → Nat) (o1 : Ob) (v1 : Int32) {r : Int32 × Ob} (h : f_X7_write o0 o1 v1 = some r) : Ct dC dI cB cI cZ cO l yX7_write wsX7_write rmX7_write [.ref a0, .int v1] ([cX7 a0 g0 o0, cX7_10 cI g0 o0, cX2 (g0 0) g1 o1, cX2_0 cI g1 o1]) (some (.int r.1)) ([cX7 a0 g0 o0, cX7_10 cI g0 o0, cX2 (g0 0) g1 r.2, cX2_0 cI g1 r.2]) := by
  intro sz
  refine Met.ofW (cc := cX7_write) (maxL := 2) (ret := (some .int)) (by decide) rfl ?_
  intro p e s m args below meth c s₁ B hml hv
  obtain ⟨rfl, hsz, hP, hKK, hD0⟩ := hv
  have hx := B.exec
  have hb := B.bytes
  have hr := B.returns
  have hts := atoms_spec (ws := wsX7_write) B.pre
  have hown : s.vm.findClass RX7 = some m.cls := findClass_of_methodNamed B.named
  have hlocks := B.notSynchronized
  have hiX7 : ∀ w ∈ u_ws RX7 TX7 11, w ∈ wsX7_write := fun w h => List.mem_cons_of_mem _ (List.mem_append_left _ (List.mem_append_right _ h))
  have hiX2 : ∀ w ∈ u_ws RX2 TX2 2, w ∈ wsX7_write := fun w h => List.mem_cons_of_mem _ (List.mem_append_right _ h)
  subst hsz
  have hD := hD0.self (sz := s.heap.size)
  generalize hAe : va_A ([cX7 a0 g0 o0, cX7_10 cI g0 o0, cX2 (g0 0) g1 o1, cX2_0 cI g1 o1]) s.heap.size = A at hD ⊢
  have hA : ∀ q : Nat, s.heap.size ≤ q → A q := fun q h => by rw [← hAe]; exact Or.inr h
  have hS : va_S A s.heap s.heap [] := va_S.rf
  have hP : va_P (dC, dI) vwCl ([cX7 a0 g0 o0, cX7_10 cI g0 o0, cX2 (g0 0) g1 o1, cX2_0 cI g1 o1]) s.heap := hP
  have hD : va_D A ([cX7 a0 g0 o0, cX7_10 cI g0 o0, cX2 (g0 0) g1 o1, cX2_0 cI g1 o1]) := hD
  have hl := lv_entry ([.ref a0, .int v1]) (n := 2) (Nat.le_of_ble_eq_true rfl)
  rw [lg_entry_eq]
  generalize (lg_sl ([.ref a0, .int v1]) ++ List.replicate (2 - (lg_sl ([.ref a0, .int v1])).length) Slot.unset).toArray = ls at hl ⊢
  have hl : lv_has ls 2 [(0, .ref a0), (1, .int v1)] := hl
  obtain ⟨Q, hQ⟩ : ∃ Q, Q = MQ below (Qq dC dI (some (.int r.1)) ([cX7 a0 g0 o0, cX7_10 cI g0 o0, cX2 (g0 0) g1 r.2, cX2_0 cI g1 r.2]) A) ([.ref a0, .int v1] : List Value).toArray s 0 0 A := ⟨_, rfl⟩
  rw [← hQ]
  rw [f_X7_write] at h
  clear hAe hD0
  refine lv_iload_n hx hb dX7_write_0 rfl (lv_at hl 1 rfl) ?_
  refine lv_bipush (v := (32 : Int32)) hx hb dX7_write_1 (by decide) ?_
  refine lv_bipush (v := (126 : Int32)) hx hb dX7_write_3 (by decide) ?_
  obtain ⟨q1, hq1, h⟩ := bnd_e h
  refine kcS (rest := []) (w2 := ([cX7 a0 g0 o0, cX7_10 cI g0 o0, cX2 (g0 0) g1 o1, cX2_0 cI g1 o1])) hx hb hml hown hts hKK hP hD hS hA (c_X7_within l dC dI cB cI cZ cO v1 (32 : Int32) (126 : Int32) hq1) [] (atAll_map trivial) (by decide +kernel) (sameAd_map trivial) (atAll_map trivial) (agr_refl _ _ _) (va_cwS 3 hts gX7_write_X7_within rfl rfl rfl dsc_X7_within ⟨Nat.le_of_ble_eq_true rfl, Nat.le_of_ble_eq_true rfl⟩) rfl hl.1 rfl (Nat.le_of_ble_eq_true rfl) dX7_write_5 ⟨Nat.zero_le _, Nat.zero_le _⟩ (fun H locs hP hD hS => ?_)
  refine lv_if_ne (tgt := 13) hx hb dX7_write_8 (by decide) (fun k2 => ?_) (fun k2 => ?_)
  · have h := ite_f k2 h
    refine lv_aload_n hx hb dX7_write_13 rfl (lv_at hl 0 rfl) ?_
    refine va_get (D := (dC, dI)) (ci := 7) (v := .ref (g0 0)) (C := RX7) (T := TX7) (N := 11) hx hb hts hiX7 hown hKK.1 hP 0 rfl rfl 0 (by decide) (hts (.fieldLink RX7 12 "SlideLand" "text" "LSlideLand$Letters;") (List.mem_of_getElem? (i := 1) rfl)) (fun _ h9 => h9) rfl dX7_write_14 ?_
    refine lv_iload_n hx hb dX7_write_17 rfl (lv_at hl 1 rfl) ?_
    obtain ⟨q3, hq3, h⟩ := obd_e h
    refine kcV (rest := []) (w2 := ([cX7 a0 g0 o0, cX7_10 cI g0 o0, cX2 (g0 0) g1 q3.2, cX2_0 cI g1 q3.2])) hx hb hml hown hts hKK hP hD hS hA (c_X2_append l dC dI cB cI cZ cO (g0 0) g1 o1 v1 hq3) [2, 3] (atAll_map ⟨rfl, rfl, trivial⟩) (by decide +kernel) (sameAd_map ⟨rfl, rfl, trivial⟩) (atAll_map ⟨rfl, rfl, trivial⟩) ⟨Or.inl rfl, Or.inl rfl, Or.inr (by decide), Or.inr (by decide), trivial⟩ (cwV 1 hts gX7_write_X2_append rfl rfl rfl ⟨rfl, dsc_X2_append⟩ ⟨Nat.le_of_ble_eq_true rfl, Nat.le_of_ble_eq_true rfl⟩) (va_recv hKK.1 hP (ci := 2) (q0 := 2) rfl rfl) rfl hl.1 rfl (Nat.le_of_ble_eq_true rfl) dX7_write_18 ⟨Nat.zero_le _, Nat.zero_le _⟩ (fun H locs hP hD hS => ?_)
    refine lv_if_eq (tgt := 34) hx hb dX7_write_21 (by decide) (fun k4 => ?_) (fun k4 => ?_)
    · have h := ite_t k4 h
      refine lv_bipush (v := (-3 : Int32)) hx hb dX7_write_34 (by decide) ?_
      have h := Option.some.inj h
      subst h
      subst hQ
      exact W.iret (v := (-3 : Int32)) hx hb hr (fun t ht hW => ⟨⟨rfl, by rw [ht]; exact hP, hD⟩, hS.F ht⟩) hS.2.2 dX7_write_36
    · have h := ite_f k4 h
      refine lv_aload_n hx hb dX7_write_24 rfl (lv_at hl 0 rfl) ?_
      refine va_get (D := (dC, dI)) (ci := 7) (v := .ref (g0 0)) (C := RX7) (T := TX7) (N := 11) hx hb hts hiX7 hown hKK.1 hP 0 rfl rfl 0 (by decide) (hts (.fieldLink RX7 12 "SlideLand" "text" "LSlideLand$Letters;") (List.mem_of_getElem? (i := 1) rfl)) (fun _ h9 => h9) rfl dX7_write_25 ?_
      refine va_get (D := (dC, dI)) (ci := 2) (v := .int (q3.2.1 1)) (C := RX2) (T := TX2) (N := 2) hx hb hts hiX2 hown hKK.1 hP 2 rfl rfl 1 (by decide) (hts (.fieldLink RX7 93 "SlideLand$Letters" "size" "I") (List.mem_of_getElem? (i := 2) rfl)) (fun _ h9 => h9) rfl dX7_write_28 ?_
      refine lv_goto (tgt := 36) hx hb dX7_write_31 (by decide) ?_
      have h := Option.some.inj h
      subst h
      subst hQ
      exact W.iret (v := (q3.2.1 1)) hx hb hr (fun t ht hW => ⟨⟨rfl, by rw [ht]; exact hP, hD⟩, hS.F ht⟩) hS.2.2 dX7_write_36
  · have h := ite_t k2 h
    refine lv_iconst (v := (-1 : Int32)) hx hb dX7_write_11 (by decide) ?_
    have h := Option.some.inj h
    subst h
    subst hQ
    exact W.iret (v := (-1 : Int32)) hx hb hr (fun t ht hW => ⟨⟨rfl, by rw [ht]; exact hP, hD⟩, hS.F ht⟩) hS.2.2 dX7_write_12
def f_X7_wipe (o0 : Ob) (o1 : Ob) : Int32 × Ob := bnd (o1.1 1) fun x1 : Int32 => (x1, (stF o1 1 (0 : Int32)))
abbrev rmX7_wipe : Room := { frames := 0, cells := 0, slots := 0, locals := 0 }
theorem dsc_X7_wipe : yX7_wipe.cls ≠ "java/lang/invoke/MethodHandle" ∧ yX7_wipe.cls ≠ "java/lang/invoke/VarHandle" ∧ (parseMethodDescriptor yX7_wipe.desc).map (fun d => d.parameters.length) = some 0 := by decide +kernel
set_option maxHeartbeats 4000000 in
set_option maxRecDepth 100000 in
theorem c_X7_wipe (l : Launch) (dC : Nat → ClassId) (dI : Nat → Nat → Nat) (cB cI cZ cO : ClassId) (a0 : Nat) (g0 : Nat → Nat) (o0 : Ob) (g1 : Nat → Nat) (o1 : Ob) {r : Int32 × Ob} (h : f_X7_wipe o0 o1 = r) : Ct dC dI cB cI cZ cO l yX7_wipe wsX7_wipe rmX7_wipe [.ref a0] ([cX7 a0 g0 o0, cX7_10 cI g0 o0, cX2 (g0 0) g1 o1, cX2_0 cI g1 o1]) (some (.int r.1)) ([cX7 a0 g0 o0, cX7_10 cI g0 o0, cX2 (g0 0) g1 r.2, cX2_0 cI g1 r.2]) := by
  intro sz
  refine Met.ofW (cc := cX7_wipe) (maxL := 2) (ret := (some .int)) (by decide) rfl ?_
  intro p e s m args below meth c s₁ B hml hv
  obtain ⟨rfl, hsz, hP, hKK, hD0⟩ := hv
  have hx := B.exec
  have hb := B.bytes
  have hr := B.returns
  have hts := atoms_spec (ws := wsX7_wipe) B.pre
  have hown : s.vm.findClass RX7 = some m.cls := findClass_of_methodNamed B.named
  have hlocks := B.notSynchronized
  have hiX7 : ∀ w ∈ u_ws RX7 TX7 11, w ∈ wsX7_wipe := fun w h => List.mem_cons_of_mem _ (List.mem_append_left _ (List.mem_append_right _ h))
  have hiX2 : ∀ w ∈ u_ws RX2 TX2 2, w ∈ wsX7_wipe := fun w h => List.mem_cons_of_mem _ (List.mem_append_right _ h)
  subst hsz
  have hD := hD0.self (sz := s.heap.size)
  generalize hAe : va_A ([cX7 a0 g0 o0, cX7_10 cI g0 o0, cX2 (g0 0) g1 o1, cX2_0 cI g1 o1]) s.heap.size = A at hD ⊢
  have hA : ∀ q : Nat, s.heap.size ≤ q → A q := fun q h => by rw [← hAe]; exact Or.inr h
  have hS : va_S A s.heap s.heap [] := va_S.rf
  have hP : va_P (dC, dI) vwCl ([cX7 a0 g0 o0, cX7_10 cI g0 o0, cX2 (g0 0) g1 o1, cX2_0 cI g1 o1]) s.heap := hP
  have hD : va_D A ([cX7 a0 g0 o0, cX7_10 cI g0 o0, cX2 (g0 0) g1 o1, cX2_0 cI g1 o1]) := hD
  have hl := lv_entry ([.ref a0]) (n := 2) (Nat.le_of_ble_eq_true rfl)
  rw [lg_entry_eq]
  generalize (lg_sl ([.ref a0]) ++ List.replicate (2 - (lg_sl ([.ref a0])).length) Slot.unset).toArray = ls at hl ⊢
  have hl : lv_has ls 2 [(0, .ref a0)] := hl
  obtain ⟨Q, hQ⟩ : ∃ Q, Q = MQ below (Qq dC dI (some (.int r.1)) ([cX7 a0 g0 o0, cX7_10 cI g0 o0, cX2 (g0 0) g1 r.2, cX2_0 cI g1 r.2]) A) ([.ref a0] : List Value).toArray s 0 0 A := ⟨_, rfl⟩
  rw [← hQ]
  rw [f_X7_wipe] at h
  clear hAe hD0
  refine lv_aload_n hx hb dX7_wipe_0 rfl (lv_at hl 0 rfl) ?_
  refine va_get (D := (dC, dI)) (ci := 7) (v := .ref (g0 0)) (C := RX7) (T := TX7) (N := 11) hx hb hts hiX7 hown hKK.1 hP 0 rfl rfl 0 (by decide) (hts (.fieldLink RX7 12 "SlideLand" "text" "LSlideLand$Letters;") (List.mem_of_getElem? (i := 1) rfl)) (fun _ h9 => h9) rfl dX7_wipe_1 ?_
  refine va_get (D := (dC, dI)) (ci := 2) (v := .int (o1.1 1)) (C := RX2) (T := TX2) (N := 2) hx hb hts hiX2 hown hKK.1 hP 2 rfl rfl 1 (by decide) (hts (.fieldLink RX7 93 "SlideLand$Letters" "size" "I") (List.mem_of_getElem? (i := 2) rfl)) (fun _ h9 => h9) rfl dX7_wipe_4 ?_
  obtain ⟨x1, hx1, h⟩ := bnd_e h
  refine lv_topE hx1 ?_
  refine lv_istore_n (lv' := [(1, .int x1), (0, .ref a0)]) hx hb dX7_wipe_7 rfl hl (by decide) rfl (fun ls hl => ?_)
  refine lv_aload_n hx hb dX7_wipe_8 rfl (lv_at hl 1 rfl) ?_
  refine va_get (D := (dC, dI)) (ci := 7) (v := .ref (g0 0)) (C := RX7) (T := TX7) (N := 11) hx hb hts hiX7 hown hKK.1 hP 0 rfl rfl 0 (by decide) (hts (.fieldLink RX7 12 "SlideLand" "text" "LSlideLand$Letters;") (List.mem_of_getElem? (i := 1) rfl)) (fun _ h9 => h9) rfl dX7_wipe_9 ?_
  refine lv_iconst (v := (0 : Int32)) hx hb dX7_wipe_12 (by decide) ?_
  refine va_put (D := (dC, dI)) (ci := 2) (v := .int (0 : Int32)) (ty := .int) (C := RX2) (T := TX2) (N := 2) hx hb hts hiX2 tyX2 tyX2_ok nmX2 hown hKK.1 hP hD hS 2 rfl rfl 1 (by decide) (hts (.fieldLink RX7 93 "SlideLand$Letters" "size" "I") (List.mem_of_getElem? (i := 2) rfl)) (fun _ h9 => h9) rfl (by decide +kernel) rfl rfl (Nat.le_of_ble_eq_true rfl) dX7_wipe_13 (fun H locs hP hD hS => ?_)
  have hP : va_P (dC, dI) vwCl ([cX7 a0 g0 o0, cX7_10 cI g0 o0, cX2 (g0 0) g1 (stF o1 1 (0 : Int32)), cX2_0 cI g1 (stF o1 1 (0 : Int32))]) H := hP
  have hD : va_D A ([cX7 a0 g0 o0, cX7_10 cI g0 o0, cX2 (g0 0) g1 (stF o1 1 (0 : Int32)), cX2_0 cI g1 (stF o1 1 (0 : Int32))]) := hD
  refine lv_iload_n hx hb dX7_wipe_16 rfl (lv_at hl 0 rfl) ?_
  subst h
  subst hQ
  exact W.iret (v := x1) hx hb hr (fun t ht hW => ⟨⟨rfl, by rw [ht]; exact hP, hD⟩, hS.F ht⟩) hS.2.2 dX7_wipe_17
def f_X7_fault (o0 : Ob) (o1 : Ob) (o2 : Ob) : Option (Int32 × Ob) := (f_X6_read o2 o1).bind fun q1 : Int32 × Ob => some (q1.1, q1.2)
abbrev rmX7_fault : Room := { frames := 6, cells := 0, slots := 0, locals := 135 }
theorem dsc_X7_fault : yX7_fault.cls ≠ "java/lang/invoke/MethodHandle" ∧ yX7_fault.cls ≠ "java/lang/invoke/VarHandle" ∧ (parseMethodDescriptor yX7_fault.desc).map (fun d => d.parameters.length) = some 0 := by decide +kernel
set_option maxHeartbeats 4000000 in
set_option maxRecDepth 100000 in
theorem c_X7_fault (l : Launch) (dC : Nat → ClassId) (dI : Nat → Nat → Nat) (cB cI cZ cO : ClassId) (a0 : Nat) (g0 : Nat → Nat) (o0 : Ob) (g1 : Nat → Nat) (o1 : Ob) (g2 : Nat → Nat) (o2 : Ob) {r : Int32 × Ob} (h : f_X7_fault o0 o1 o2 = some r) : Ct dC dI cB cI cZ cO l yX7_fault wsX7_fault rmX7_fault [.ref a0] ([cX7 a0 g0 o0, cX7_10 cI g0 o0, cX2 (g0 0) g1 o1, cX2_0 cI g1 o1, cX6 (g0 2) g2 o2, cX6_0 cI g2 o2, cX6_1 cI g2 o2, cX6_2 cI g2 o2, cX6_3 cI g2 o2, cX6_4 cI g2 o2, cX6_5 cI g2 o2, cX6_6 cI g2 o2, cX6_7 cI g2 o2]) (some (.int r.1)) ([cX7 a0 g0 o0, cX7_10 cI g0 o0, cX2 (g0 0) g1 o1, cX2_0 cI g1 o1, cX6 (g0 2) g2 r.2, cX6_0 cI g2 r.2, cX6_1 cI g2 r.2, cX6_2 cI g2 r.2, cX6_3 cI g2 r.2, cX6_4 cI g2 r.2, cX6_5 cI g2 r.2, cX6_6 cI g2 r.2, cX6_7 cI g2 r.2]) := by
  intro sz
  refine Met.ofW (cc := cX7_fault) (maxL := 1) (ret := (some .int)) (by decide) rfl ?_
  intro p e s m args below meth c s₁ B hml hv
  obtain ⟨rfl, hsz, hP, hKK, hD0⟩ := hv
  have hx := B.exec
  have hb := B.bytes
  have hr := B.returns
  have hts := atoms_spec (ws := wsX7_fault) B.pre
  have hown : s.vm.findClass RX7 = some m.cls := findClass_of_methodNamed B.named
  have hlocks := B.notSynchronized
  have hiX7 : ∀ w ∈ u_ws RX7 TX7 11, w ∈ wsX7_fault := fun w h => List.mem_cons_of_mem _ (List.mem_append_left _ (List.mem_append_left _ (List.mem_append_right _ h)))
  subst hsz
  have hD := hD0.self (sz := s.heap.size)
  generalize hAe : va_A ([cX7 a0 g0 o0, cX7_10 cI g0 o0, cX2 (g0 0) g1 o1, cX2_0 cI g1 o1, cX6 (g0 2) g2 o2, cX6_0 cI g2 o2, cX6_1 cI g2 o2, cX6_2 cI g2 o2, cX6_3 cI g2 o2, cX6_4 cI g2 o2, cX6_5 cI g2 o2, cX6_6 cI g2 o2, cX6_7 cI g2 o2]) s.heap.size = A at hD ⊢
  have hA : ∀ q : Nat, s.heap.size ≤ q → A q := fun q h => by rw [← hAe]; exact Or.inr h
  have hS : va_S A s.heap s.heap [] := va_S.rf
  have hP : va_P (dC, dI) vwCl ([cX7 a0 g0 o0, cX7_10 cI g0 o0, cX2 (g0 0) g1 o1, cX2_0 cI g1 o1, cX6 (g0 2) g2 o2, cX6_0 cI g2 o2, cX6_1 cI g2 o2, cX6_2 cI g2 o2, cX6_3 cI g2 o2, cX6_4 cI g2 o2, cX6_5 cI g2 o2, cX6_6 cI g2 o2, cX6_7 cI g2 o2]) s.heap := hP
  have hD : va_D A ([cX7 a0 g0 o0, cX7_10 cI g0 o0, cX2 (g0 0) g1 o1, cX2_0 cI g1 o1, cX6 (g0 2) g2 o2, cX6_0 cI g2 o2, cX6_1 cI g2 o2, cX6_2 cI g2 o2, cX6_3 cI g2 o2, cX6_4 cI g2 o2, cX6_5 cI g2 o2, cX6_6 cI g2 o2, cX6_7 cI g2 o2]) := hD
  have hl := lv_entry ([.ref a0]) (n := 1) (Nat.le_of_ble_eq_true rfl)
  rw [lg_entry_eq]
  generalize (lg_sl ([.ref a0]) ++ List.replicate (1 - (lg_sl ([.ref a0])).length) Slot.unset).toArray = ls at hl ⊢
  have hl : lv_has ls 1 [(0, .ref a0)] := hl
  obtain ⟨Q, hQ⟩ : ∃ Q, Q = MQ below (Qq dC dI (some (.int r.1)) ([cX7 a0 g0 o0, cX7_10 cI g0 o0, cX2 (g0 0) g1 o1, cX2_0 cI g1 o1, cX6 (g0 2) g2 r.2, cX6_0 cI g2 r.2, cX6_1 cI g2 r.2, cX6_2 cI g2 r.2, cX6_3 cI g2 r.2, cX6_4 cI g2 r.2, cX6_5 cI g2 r.2, cX6_6 cI g2 r.2, cX6_7 cI g2 r.2]) A) ([.ref a0] : List Value).toArray s 0 0 A := ⟨_, rfl⟩
  rw [← hQ]
  rw [f_X7_fault] at h
  clear hAe hD0
  refine lv_aload_n hx hb dX7_fault_0 rfl (lv_at hl 0 rfl) ?_
  refine va_get (D := (dC, dI)) (ci := 7) (v := .ref (g0 2)) (C := RX7) (T := TX7) (N := 11) hx hb hts hiX7 hown hKK.1 hP 0 rfl rfl 2 (by decide) (hts (.fieldLink RX7 23 "SlideLand" "draft" "LSlideLand$Told;") (List.mem_of_getElem? (i := 1) rfl)) (fun _ h9 => h9) rfl dX7_fault_1 ?_
  refine lv_aload_n hx hb dX7_fault_4 rfl (lv_at hl 0 rfl) ?_
  refine va_get (D := (dC, dI)) (ci := 7) (v := .ref (g0 0)) (C := RX7) (T := TX7) (N := 11) hx hb hts hiX7 hown hKK.1 hP 0 rfl rfl 0 (by decide) (hts (.fieldLink RX7 12 "SlideLand" "text" "LSlideLand$Letters;") (List.mem_of_getElem? (i := 2) rfl)) (fun _ h9 => h9) rfl dX7_fault_5 ?_
  obtain ⟨q1, hq1, h⟩ := obd_e h
  refine kcV (rest := []) (w2 := ([cX7 a0 g0 o0, cX7_10 cI g0 o0, cX2 (g0 0) g1 o1, cX2_0 cI g1 o1, cX6 (g0 2) g2 q1.2, cX6_0 cI g2 q1.2, cX6_1 cI g2 q1.2, cX6_2 cI g2 q1.2, cX6_3 cI g2 q1.2, cX6_4 cI g2 q1.2, cX6_5 cI g2 q1.2, cX6_6 cI g2 q1.2, cX6_7 cI g2 q1.2])) hx hb hml hown hts hKK hP hD hS hA (c_X6_read l dC dI cB cI cZ cO (g0 2) g2 o2 (g0 0) g1 o1 hq1) [4, 5, 6, 7, 8, 9, 10, 11, 12, 2, 3] (atAll_map ⟨rfl, rfl, rfl, rfl, rfl, rfl, rfl, rfl, rfl, rfl, rfl, trivial⟩) (by decide +kernel) (sameAd_map ⟨rfl, rfl, rfl, rfl, rfl, rfl, rfl, rfl, rfl, rfl, rfl, trivial⟩) (atAll_map ⟨rfl, rfl, rfl, rfl, rfl, rfl, rfl, rfl, rfl, rfl, rfl, trivial⟩) ⟨Or.inl rfl, Or.inl rfl, Or.inl rfl, Or.inl rfl, Or.inr (by decide), Or.inr (by decide), Or.inr (by decide), Or.inr (by decide), Or.inr (by decide), Or.inr (by decide), Or.inr (by decide), Or.inr (by decide), Or.inr (by decide), trivial⟩ (cwV 1 hts gX7_fault_X6_read rfl rfl rfl ⟨rfl, dsc_X6_read⟩ ⟨Nat.le_of_ble_eq_true rfl, Nat.le_of_ble_eq_true rfl⟩) (va_recv hKK.1 hP (ci := 6) (q0 := 4) rfl rfl) rfl hl.1 rfl (Nat.le_of_ble_eq_true rfl) dX7_fault_8 ⟨Nat.zero_le _, Nat.zero_le _⟩ (fun H locs hP hD hS => ?_)
  have h := Option.some.inj h
  subst h
  subst hQ
  exact W.iret (v := q1.1) hx hb hr (fun t ht hW => ⟨⟨rfl, by rw [ht]; exact hP, hD⟩, hS.F ht⟩) hS.2.2 dX7_fault_11
def f_X7_land (o0 : Ob) (o1 : Ob) (o2 : Ob) (v1 : Int32) (v2 : Int32) (v3 : Int32) : Option (Int32) := (f_X6_isOfLand o1 v1 v2).bind fun q1 : Bool => if (b2i q1) = 0 then (some (-1 : Int32)) else (bnd (f_X7_oneOf v1 v2) fun q3 : Int32 => if v3 = (0 : Int32) then ((f_X7_cell 12 (o1.2 0) q3).bind fun q7 : Int32 => some q7) else if v3 = (1 : Int32) then ((f_X7_cell 12 (o2.2 6) q3).bind fun q7 : Int32 => some q7) else if v3 = (2 : Int32) then (bnd (f_X7_bitOf (o2.1 4) q3) fun q7 : Int32 => some q7) else (some (-1 : Int32)))
abbrev rmX7_land : Room := { frames := 2, cells := 0, slots := 0, locals := 44 }
theorem dsc_X7_land : yX7_land.cls ≠ "java/lang/invoke/MethodHandle" ∧ yX7_land.cls ≠ "java/lang/invoke/VarHandle" ∧ (parseMethodDescriptor yX7_land.desc).map (fun d => d.parameters.length) = some 3 := by decide +kernel
set_option maxHeartbeats 4000000 in
set_option maxRecDepth 100000 in
theorem c_X7_land (l : Launch) (dC : Nat → ClassId) (dI : Nat → Nat → Nat) (cB cI cZ cO : ClassId) (a0 : Nat) (g0 : Nat → Nat) (o0 : Ob) (g1 : Nat → Nat) (o1 : Ob) (g2 : Nat → Nat) (o2 : Ob) (v1 : Int32) (v2 : Int32) (v3 : Int32) {r : Int32} (h : f_X7_land o0 o1 o2 v1 v2 v3 = some r) : Ct dC dI cB cI cZ cO l yX7_land wsX7_land rmX7_land [.ref a0, .int v1, .int v2, .int v3] ([cX7 a0 g0 o0, cX7_10 cI g0 o0, cX6 (g0 1) g1 o1, cX6_0 cI g1 o1, cX6_1 cI g1 o1, cX6_2 cI g1 o1, cX6_3 cI g1 o1, cX6_4 cI g1 o1, cX6_5 cI g1 o1, cX6_6 cI g1 o1, cX6_7 cI g1 o1, cX5 (g0 3) g2 o2, cX5_5 cI g2 o2, cX5_6 cI g2 o2]) (some (.int r)) ([cX7 a0 g0 o0, cX7_10 cI g0 o0, cX6 (g0 1) g1 o1, cX6_0 cI g1 o1, cX6_1 cI g1 o1, cX6_2 cI g1 o1, cX6_3 cI g1 o1, cX6_4 cI g1 o1, cX6_5 cI g1 o1, cX6_6 cI g1 o1, cX6_7 cI g1 o1, cX5 (g0 3) g2 o2, cX5_5 cI g2 o2, cX5_6 cI g2 o2]) := by
  intro sz
  refine Met.ofW (cc := cX7_land) (maxL := 5) (ret := (some .int)) (by decide) rfl ?_
  intro p e s m args below meth c s₁ B hml hv
  obtain ⟨rfl, hsz, hP, hKK, hD0⟩ := hv
  have hx := B.exec
  have hb := B.bytes
  have hr := B.returns
  have hts := atoms_spec (ws := wsX7_land) B.pre
  have hown : s.vm.findClass RX7 = some m.cls := findClass_of_methodNamed B.named
  have hlocks := B.notSynchronized
  have hiX7 : ∀ w ∈ u_ws RX7 TX7 11, w ∈ wsX7_land := fun w h => List.mem_cons_of_mem _ (List.mem_append_left _ (List.mem_append_left _ (List.mem_append_right _ h)))
  have hiX6 : ∀ w ∈ u_ws RX6 TX6 11, w ∈ wsX7_land := fun w h => List.mem_cons_of_mem _ (List.mem_append_left _ (List.mem_append_right _ h))
  have hiX5 : ∀ w ∈ u_ws RX5 TX5 7, w ∈ wsX7_land := fun w h => List.mem_cons_of_mem _ (List.mem_append_right _ h)
  subst hsz
  have hD := hD0.self (sz := s.heap.size)
  generalize hAe : va_A ([cX7 a0 g0 o0, cX7_10 cI g0 o0, cX6 (g0 1) g1 o1, cX6_0 cI g1 o1, cX6_1 cI g1 o1, cX6_2 cI g1 o1, cX6_3 cI g1 o1, cX6_4 cI g1 o1, cX6_5 cI g1 o1, cX6_6 cI g1 o1, cX6_7 cI g1 o1, cX5 (g0 3) g2 o2, cX5_5 cI g2 o2, cX5_6 cI g2 o2]) s.heap.size = A at hD ⊢
  have hA : ∀ q : Nat, s.heap.size ≤ q → A q := fun q h => by rw [← hAe]; exact Or.inr h
  have hS : va_S A s.heap s.heap [] := va_S.rf
  have hP : va_P (dC, dI) vwCl ([cX7 a0 g0 o0, cX7_10 cI g0 o0, cX6 (g0 1) g1 o1, cX6_0 cI g1 o1, cX6_1 cI g1 o1, cX6_2 cI g1 o1, cX6_3 cI g1 o1, cX6_4 cI g1 o1, cX6_5 cI g1 o1, cX6_6 cI g1 o1, cX6_7 cI g1 o1, cX5 (g0 3) g2 o2, cX5_5 cI g2 o2, cX5_6 cI g2 o2]) s.heap := hP
  have hD : va_D A ([cX7 a0 g0 o0, cX7_10 cI g0 o0, cX6 (g0 1) g1 o1, cX6_0 cI g1 o1, cX6_1 cI g1 o1, cX6_2 cI g1 o1, cX6_3 cI g1 o1, cX6_4 cI g1 o1, cX6_5 cI g1 o1, cX6_6 cI g1 o1, cX6_7 cI g1 o1, cX5 (g0 3) g2 o2, cX5_5 cI g2 o2, cX5_6 cI g2 o2]) := hD
  have hl := lv_entry ([.ref a0, .int v1, .int v2, .int v3]) (n := 5) (Nat.le_of_ble_eq_true rfl)
  rw [lg_entry_eq]
  generalize (lg_sl ([.ref a0, .int v1, .int v2, .int v3]) ++ List.replicate (5 - (lg_sl ([.ref a0, .int v1, .int v2, .int v3])).length) Slot.unset).toArray = ls at hl ⊢
  have hl : lv_has ls 5 [(0, .ref a0), (1, .int v1), (2, .int v2), (3, .int v3)] := hl
  obtain ⟨Q, hQ⟩ : ∃ Q, Q = MQ below (Qq dC dI (some (.int r)) ([cX7 a0 g0 o0, cX7_10 cI g0 o0, cX6 (g0 1) g1 o1, cX6_0 cI g1 o1, cX6_1 cI g1 o1, cX6_2 cI g1 o1, cX6_3 cI g1 o1, cX6_4 cI g1 o1, cX6_5 cI g1 o1, cX6_6 cI g1 o1, cX6_7 cI g1 o1, cX5 (g0 3) g2 o2, cX5_5 cI g2 o2, cX5_6 cI g2 o2]) A) ([.ref a0, .int v1, .int v2, .int v3] : List Value).toArray s 0 0 A := ⟨_, rfl⟩
  rw [← hQ]
  rw [f_X7_land] at h
  clear hAe hD0
  refine lv_aload_n hx hb dX7_land_0 rfl (lv_at hl 0 rfl) ?_
  refine va_get (D := (dC, dI)) (ci := 7) (v := .ref (g0 1)) (C := RX7) (T := TX7) (N := 11) hx hb hts hiX7 hown hKK.1 hP 0 rfl rfl 1 (by decide) (hts (.fieldLink RX7 19 "SlideLand" "told" "LSlideLand$Told;") (List.mem_of_getElem? (i := 1) rfl)) (fun _ h9 => h9) rfl dX7_land_1 ?_
  refine lv_iload_n hx hb dX7_land_4 rfl (lv_at hl 1 rfl) ?_
  refine lv_iload_n hx hb dX7_land_5 rfl (lv_at hl 2 rfl) ?_
  obtain ⟨q1, hq1, h⟩ := obd_e h
  refine kcV (rest := []) (w2 := ([cX7 a0 g0 o0, cX7_10 cI g0 o0, cX6 (g0 1) g1 o1, cX6_0 cI g1 o1, cX6_1 cI g1 o1, cX6_2 cI g1 o1, cX6_3 cI g1 o1, cX6_4 cI g1 o1, cX6_5 cI g1 o1, cX6_6 cI g1 o1, cX6_7 cI g1 o1, cX5 (g0 3) g2 o2, cX5_5 cI g2 o2, cX5_6 cI g2 o2])) hx hb hml hown hts hKK hP hD hS hA (c_X6_isOfLand l dC dI cB cI cZ cO (g0 1) g1 o1 v1 v2 hq1) [2, 3, 4, 5, 6, 7, 8, 9, 10] (atAll_map ⟨rfl, rfl, rfl, rfl, rfl, rfl, rfl, rfl, rfl, trivial⟩) (by decide +kernel) (sameAd_map ⟨rfl, rfl, rfl, rfl, rfl, rfl, rfl, rfl, rfl, trivial⟩) (atAll_map ⟨rfl, rfl, rfl, rfl, rfl, rfl, rfl, rfl, rfl, trivial⟩) (agr_refl _ _ _) (cwV 2 hts gX7_land_X6_isOfLand rfl rfl rfl ⟨rfl, dsc_X6_isOfLand⟩ ⟨Nat.le_of_ble_eq_true rfl, Nat.le_of_ble_eq_true rfl⟩) (va_recv hKK.1 hP (ci := 6) (q0 := 2) rfl rfl) rfl hl.1 rfl (Nat.le_of_ble_eq_true rfl) dX7_land_6 ⟨Nat.zero_le _, Nat.zero_le _⟩ (fun H locs hP hD hS => ?_)
  refine lv_if_ne (tgt := 14) hx hb dX7_land_9 (by decide) (fun k2 => ?_) (fun k2 => ?_)
  · have h := ite_f k2 h
    refine lv_iload_n hx hb dX7_land_14 rfl (lv_at hl 1 rfl) ?_
    refine lv_iload_n hx hb dX7_land_15 rfl (lv_at hl 2 rfl) ?_
    obtain ⟨q3, hq3, h⟩ := bnd_e h
    refine kcS (rest := []) (w2 := ([cX7 a0 g0 o0, cX7_10 cI g0 o0, cX6 (g0 1) g1 o1, cX6_0 cI g1 o1, cX6_1 cI g1 o1, cX6_2 cI g1 o1, cX6_3 cI g1 o1, cX6_4 cI g1 o1, cX6_5 cI g1 o1, cX6_6 cI g1 o1, cX6_7 cI g1 o1, cX5 (g0 3) g2 o2, cX5_5 cI g2 o2, cX5_6 cI g2 o2])) hx hb hml hown hts hKK hP hD hS hA (c_X7_oneOf l dC dI cB cI cZ cO v1 v2 hq3) [] (atAll_map trivial) (by decide +kernel) (sameAd_map trivial) (atAll_map trivial) (agr_refl _ _ _) (va_cwS 2 hts gX7_land_X7_oneOf rfl rfl rfl dsc_X7_oneOf ⟨Nat.le_of_ble_eq_true rfl, Nat.le_of_ble_eq_true rfl⟩) rfl hl.1 rfl (Nat.le_of_ble_eq_true rfl) dX7_land_16 ⟨Nat.zero_le _, Nat.zero_le _⟩ (fun H locs hP hD hS => ?_)
    refine lv_istore (lv' := [(4, .int q3), (0, .ref a0), (1, .int v1), (2, .int v2), (3, .int v3)]) hx hb dX7_land_19 hl (by decide) rfl (fun ls hl => ?_)
    refine lv_iload_n hx hb dX7_land_21 rfl (lv_at hl 4 rfl) ?_
    by_cases k4 : v3 = (0 : Int32)
    · have h := ite_t k4 h
      refine lv_tableIn (off := 26) (tgt := 48) hx hb dX7_land_22 (by rw [k4]; decide) (by rw [k4]; decide) (by rw [k4]; rfl) (by decide) ?_
      refine lv_aload_n hx hb dX7_land_48 rfl (lv_at hl 1 rfl) ?_
      refine va_get (D := (dC, dI)) (ci := 7) (v := .ref (g0 1)) (C := RX7) (T := TX7) (N := 11) hx hb hts hiX7 hown hKK.1 hP 0 rfl rfl 1 (by decide) (hts (.fieldLink RX7 19 "SlideLand" "told" "LSlideLand$Told;") (List.mem_of_getElem? (i := 1) rfl)) (fun _ h9 => h9) rfl dX7_land_49 ?_
      refine va_get (D := (dC, dI)) (ci := 6) (v := .ref (g1 0)) (C := RX6) (T := TX6) (N := 11) hx hb hts hiX6 hown hKK.1 hP 2 rfl rfl 0 (by decide) (hts (.fieldLink RX7 121 "SlideLand$Told" "oneInch" "[I") (List.mem_of_getElem? (i := 2) rfl)) (fun _ h9 => h9) rfl dX7_land_52 ?_
      refine lv_iload hx hb dX7_land_55 (lv_at hl 0 rfl) ?_
      obtain ⟨q7, hq7, h⟩ := obd_e h
      refine kcS (rest := []) (w2 := ([cX7 a0 g0 o0, cX7_10 cI g0 o0, cX6 (g0 1) g1 o1, cX6_0 cI g1 o1, cX6_1 cI g1 o1, cX6_2 cI g1 o1, cX6_3 cI g1 o1, cX6_4 cI g1 o1, cX6_5 cI g1 o1, cX6_6 cI g1 o1, cX6_7 cI g1 o1, cX5 (g0 3) g2 o2, cX5_5 cI g2 o2, cX5_6 cI g2 o2])) hx hb hml hown hts hKK hP hD hS hA (c_X7_cell l dC dI cB cI cZ cO (g1 0) 12 (o1.2 0) q3 hq7) [3] (atAll_map ⟨rfl, trivial⟩) (by decide +kernel) (sameAd_map ⟨rfl, trivial⟩) (atAll_map ⟨rfl, trivial⟩) (agr_refl _ _ _) (va_cwS 2 hts gX7_land_X7_cell rfl rfl rfl dsc_X7_cell ⟨Nat.le_of_ble_eq_true rfl, Nat.le_of_ble_eq_true rfl⟩) rfl hl.1 rfl (Nat.le_of_ble_eq_true rfl) dX7_land_57 ⟨Nat.zero_le _, Nat.zero_le _⟩ (fun H locs hP hD hS => ?_)
      have h := Option.some.inj h
      subst h
      subst hQ
      exact W.iret (v := q7) hx hb hr (fun t ht hW => ⟨⟨rfl, by rw [ht]; exact hP, hD⟩, hS.F ht⟩) hS.2.2 dX7_land_60
    · have h := ite_f k4 h
      by_cases k5 : v3 = (1 : Int32)
      · have h := ite_t k5 h
        refine lv_tableIn (off := 39) (tgt := 61) hx hb dX7_land_22 (by rw [k5]; decide) (by rw [k5]; decide) (by rw [k5]; rfl) (by decide) ?_
        refine lv_aload_n hx hb dX7_land_61 rfl (lv_at hl 1 rfl) ?_
        refine va_get (D := (dC, dI)) (ci := 7) (v := .ref (g0 3)) (C := RX7) (T := TX7) (N := 11) hx hb hts hiX7 hown hKK.1 hP 0 rfl rfl 3 (by decide) (hts (.fieldLink RX7 29 "SlideLand" "now" "LSlideLand$Stand;") (List.mem_of_getElem? (i := 3) rfl)) (fun _ h9 => h9) rfl dX7_land_62 ?_
        refine va_get (D := (dC, dI)) (ci := 5) (v := .ref (g2 6)) (C := RX5) (T := TX5) (N := 7) hx hb hts hiX5 hown hKK.1 hP 11 rfl rfl 6 (by decide) (hts (.fieldLink RX7 128 "SlideLand$Stand" "has" "[I") (List.mem_of_getElem? (i := 4) rfl)) (fun _ h9 => h9) rfl dX7_land_65 ?_
        refine lv_iload hx hb dX7_land_68 (lv_at hl 0 rfl) ?_
        obtain ⟨q7, hq7, h⟩ := obd_e h
        refine kcS (rest := []) (w2 := ([cX7 a0 g0 o0, cX7_10 cI g0 o0, cX6 (g0 1) g1 o1, cX6_0 cI g1 o1, cX6_1 cI g1 o1, cX6_2 cI g1 o1, cX6_3 cI g1 o1, cX6_4 cI g1 o1, cX6_5 cI g1 o1, cX6_6 cI g1 o1, cX6_7 cI g1 o1, cX5 (g0 3) g2 o2, cX5_5 cI g2 o2, cX5_6 cI g2 o2])) hx hb hml hown hts hKK hP hD hS hA (c_X7_cell l dC dI cB cI cZ cO (g2 6) 12 (o2.2 6) q3 hq7) [13] (atAll_map ⟨rfl, trivial⟩) (by decide +kernel) (sameAd_map ⟨rfl, trivial⟩) (atAll_map ⟨rfl, trivial⟩) (agr_refl _ _ _) (va_cwS 2 hts gX7_land_X7_cell rfl rfl rfl dsc_X7_cell ⟨Nat.le_of_ble_eq_true rfl, Nat.le_of_ble_eq_true rfl⟩) rfl hl.1 rfl (Nat.le_of_ble_eq_true rfl) dX7_land_70 ⟨Nat.zero_le _, Nat.zero_le _⟩ (fun H locs hP hD hS => ?_)
        have h := Option.some.inj h
        subst h
        subst hQ
        exact W.iret (v := q7) hx hb hr (fun t ht hW => ⟨⟨rfl, by rw [ht]; exact hP, hD⟩, hS.F ht⟩) hS.2.2 dX7_land_73
      · have h := ite_f k5 h
        by_cases k6 : v3 = (2 : Int32)
        · have h := ite_t k6 h
          refine lv_tableIn (off := 52) (tgt := 74) hx hb dX7_land_22 (by rw [k6]; decide) (by rw [k6]; decide) (by rw [k6]; rfl) (by decide) ?_
          refine lv_aload_n hx hb dX7_land_74 rfl (lv_at hl 1 rfl) ?_
          refine va_get (D := (dC, dI)) (ci := 7) (v := .ref (g0 3)) (C := RX7) (T := TX7) (N := 11) hx hb hts hiX7 hown hKK.1 hP 0 rfl rfl 3 (by decide) (hts (.fieldLink RX7 29 "SlideLand" "now" "LSlideLand$Stand;") (List.mem_of_getElem? (i := 3) rfl)) (fun _ h9 => h9) rfl dX7_land_75 ?_
          refine va_get (D := (dC, dI)) (ci := 5) (v := .int (o2.1 4)) (C := RX5) (T := TX5) (N := 7) hx hb hts hiX5 hown hKK.1 hP 11 rfl rfl 4 (by decide) (hts (.fieldLink RX7 131 "SlideLand$Stand" "wed" "I") (List.mem_of_getElem? (i := 5) rfl)) (fun _ h9 => h9) rfl dX7_land_78 ?_
          refine lv_iload hx hb dX7_land_81 (lv_at hl 0 rfl) ?_
          obtain ⟨q7, hq7, h⟩ := bnd_e h
          refine kcS (rest := []) (w2 := ([cX7 a0 g0 o0, cX7_10 cI g0 o0, cX6 (g0 1) g1 o1, cX6_0 cI g1 o1, cX6_1 cI g1 o1, cX6_2 cI g1 o1, cX6_3 cI g1 o1, cX6_4 cI g1 o1, cX6_5 cI g1 o1, cX6_6 cI g1 o1, cX6_7 cI g1 o1, cX5 (g0 3) g2 o2, cX5_5 cI g2 o2, cX5_6 cI g2 o2])) hx hb hml hown hts hKK hP hD hS hA (c_X7_bitOf l dC dI cB cI cZ cO (o2.1 4) q3 hq7) [] (atAll_map trivial) (by decide +kernel) (sameAd_map trivial) (atAll_map trivial) (agr_refl _ _ _) (va_cwS 2 hts gX7_land_X7_bitOf rfl rfl rfl dsc_X7_bitOf ⟨Nat.le_of_ble_eq_true rfl, Nat.le_of_ble_eq_true rfl⟩) rfl hl.1 rfl (Nat.le_of_ble_eq_true rfl) dX7_land_83 ⟨Nat.zero_le _, Nat.zero_le _⟩ (fun H locs hP hD hS => ?_)
          have h := Option.some.inj h
          subst h
          subst hQ
          exact W.iret (v := q7) hx hb hr (fun t ht hW => ⟨⟨rfl, by rw [ht]; exact hP, hD⟩, hS.F ht⟩) hS.2.2 dX7_land_86
        · have h := ite_f k6 h
          refine lv_tableOut (tgt := 87) hx hb dX7_land_22 (sw_out [0, 1, 2] (by decide) (List.forall_mem_cons.mpr ⟨sw_ne k4 (by decide), (List.forall_mem_cons.mpr ⟨sw_ne k5 (by decide), (List.forall_mem_cons.mpr ⟨sw_ne k6 (by decide), (fun _ h => absurd h List.not_mem_nil)⟩)⟩)⟩)) (by decide) ?_
          refine lv_iconst (v := (-1 : Int32)) hx hb dX7_land_87 (by decide) ?_
          have h := Option.some.inj h
          subst h
          subst hQ
          exact W.iret (v := (-1 : Int32)) hx hb hr (fun t ht hW => ⟨⟨rfl, by rw [ht]; exact hP, hD⟩, hS.F ht⟩) hS.2.2 dX7_land_88
  · have h := ite_t k2 h
    refine lv_iconst (v := (-1 : Int32)) hx hb dX7_land_12 (by decide) ?_
    have h := Option.some.inj h
    subst h
    subst hQ
    exact W.iret (v := (-1 : Int32)) hx hb hr (fun t ht hW => ⟨⟨rfl, by rw [ht]; exact hP, hD⟩, hS.F ht⟩) hS.2.2 dX7_land_13
def f_X7_strip (o0 : Ob) (o1 : Ob) (o2 : Ob) (v1 : Int32) (v2 : Int32) : Option (Int32) := bnd (f_X7_within v1 (0 : Int32) ((o1.1 8) - (1 : Int32))) fun q1 : Bool => if (b2i q1) = 0 then (some (-1 : Int32)) else (if v2 = (0 : Int32) then ((f_X7_cell 7 (o1.2 2) v1).bind fun q8 : Int32 => some q8) else if v2 = (1 : Int32) then ((f_X7_cell 7 (o1.2 3) v1).bind fun q8 : Int32 => some q8) else if v2 = (2 : Int32) then ((f_X7_cell 7 (o2.2 5) v1).bind fun q8 : Int32 => some q8) else if v2 = (3 : Int32) then ((f_X5_placeOf o2 o1 v1).bind fun q8 : Int32 => some (q8 + (100 : Int32))) else if v2 = (4 : Int32) then (bnd (f_X7_bitOf (o2.1 4) ((12 : Int32) + v1)) fun q8 : Int32 => some q8) else (some (-1 : Int32)))
abbrev rmX7_strip : Room := { frames := 3, cells := 0, slots := 0, locals := 67 }
theorem dsc_X7_strip : yX7_strip.cls ≠ "java/lang/invoke/MethodHandle" ∧ yX7_strip.cls ≠ "java/lang/invoke/VarHandle" ∧ (parseMethodDescriptor yX7_strip.desc).map (fun d => d.parameters.length) = some 2 := by decide +kernel
set_option maxHeartbeats 4000000 in
set_option maxRecDepth 100000 in
theorem c_X7_strip (l : Launch) (dC : Nat → ClassId) (dI : Nat → Nat → Nat) (cB cI cZ cO : ClassId) (a0 : Nat) (g0 : Nat → Nat) (o0 : Ob) (g1 : Nat → Nat) (o1 : Ob) (g2 : Nat → Nat) (o2 : Ob) (v1 : Int32) (v2 : Int32) {r : Int32} (h : f_X7_strip o0 o1 o2 v1 v2 = some r) : Ct dC dI cB cI cZ cO l yX7_strip wsX7_strip rmX7_strip [.ref a0, .int v1, .int v2] ([cX7 a0 g0 o0, cX7_10 cI g0 o0, cX6 (g0 1) g1 o1, cX6_0 cI g1 o1, cX6_1 cI g1 o1, cX6_2 cI g1 o1, cX6_3 cI g1 o1, cX6_4 cI g1 o1, cX6_5 cI g1 o1, cX6_6 cI g1 o1, cX6_7 cI g1 o1, cX5 (g0 3) g2 o2, cX5_5 cI g2 o2, cX5_6 cI g2 o2]) (some (.int r)) ([cX7 a0 g0 o0, cX7_10 cI g0 o0, cX6 (g0 1) g1 o1, cX6_0 cI g1 o1, cX6_1 cI g1 o1, cX6_2 cI g1 o1, cX6_3 cI g1 o1, cX6_4 cI g1 o1, cX6_5 cI g1 o1, cX6_6 cI g1 o1, cX6_7 cI g1 o1, cX5 (g0 3) g2 o2, cX5_5 cI g2 o2, cX5_6 cI g2 o2]) := by
  intro sz
  refine Met.ofW (cc := cX7_strip) (maxL := 3) (ret := (some .int)) (by decide) rfl ?_
  intro p e s m args below meth c s₁ B hml hv
  obtain ⟨rfl, hsz, hP, hKK, hD0⟩ := hv
  have hx := B.exec
  have hb := B.bytes
  have hr := B.returns
  have hts := atoms_spec (ws := wsX7_strip) B.pre
  have hown : s.vm.findClass RX7 = some m.cls := findClass_of_methodNamed B.named
  have hlocks := B.notSynchronized
  have hiX7 : ∀ w ∈ u_ws RX7 TX7 11, w ∈ wsX7_strip := fun w h => List.mem_cons_of_mem _ (List.mem_append_left _ (List.mem_append_left _ (List.mem_append_right _ h)))
  have hiX6 : ∀ w ∈ u_ws RX6 TX6 11, w ∈ wsX7_strip := fun w h => List.mem_cons_of_mem _ (List.mem_append_left _ (List.mem_append_right _ h))
  have hiX5 : ∀ w ∈ u_ws RX5 TX5 7, w ∈ wsX7_strip := fun w h => List.mem_cons_of_mem _ (List.mem_append_right _ h)
  subst hsz
  have hD := hD0.self (sz := s.heap.size)
  generalize hAe : va_A ([cX7 a0 g0 o0, cX7_10 cI g0 o0, cX6 (g0 1) g1 o1, cX6_0 cI g1 o1, cX6_1 cI g1 o1, cX6_2 cI g1 o1, cX6_3 cI g1 o1, cX6_4 cI g1 o1, cX6_5 cI g1 o1, cX6_6 cI g1 o1, cX6_7 cI g1 o1, cX5 (g0 3) g2 o2, cX5_5 cI g2 o2, cX5_6 cI g2 o2]) s.heap.size = A at hD ⊢
  have hA : ∀ q : Nat, s.heap.size ≤ q → A q := fun q h => by rw [← hAe]; exact Or.inr h
  have hS : va_S A s.heap s.heap [] := va_S.rf
  have hP : va_P (dC, dI) vwCl ([cX7 a0 g0 o0, cX7_10 cI g0 o0, cX6 (g0 1) g1 o1, cX6_0 cI g1 o1, cX6_1 cI g1 o1, cX6_2 cI g1 o1, cX6_3 cI g1 o1, cX6_4 cI g1 o1, cX6_5 cI g1 o1, cX6_6 cI g1 o1, cX6_7 cI g1 o1, cX5 (g0 3) g2 o2, cX5_5 cI g2 o2, cX5_6 cI g2 o2]) s.heap := hP
  have hD : va_D A ([cX7 a0 g0 o0, cX7_10 cI g0 o0, cX6 (g0 1) g1 o1, cX6_0 cI g1 o1, cX6_1 cI g1 o1, cX6_2 cI g1 o1, cX6_3 cI g1 o1, cX6_4 cI g1 o1, cX6_5 cI g1 o1, cX6_6 cI g1 o1, cX6_7 cI g1 o1, cX5 (g0 3) g2 o2, cX5_5 cI g2 o2, cX5_6 cI g2 o2]) := hD
  have hl := lv_entry ([.ref a0, .int v1, .int v2]) (n := 3) (Nat.le_of_ble_eq_true rfl)
  rw [lg_entry_eq]
  generalize (lg_sl ([.ref a0, .int v1, .int v2]) ++ List.replicate (3 - (lg_sl ([.ref a0, .int v1, .int v2])).length) Slot.unset).toArray = ls at hl ⊢
  have hl : lv_has ls 3 [(0, .ref a0), (1, .int v1), (2, .int v2)] := hl
  obtain ⟨Q, hQ⟩ : ∃ Q, Q = MQ below (Qq dC dI (some (.int r)) ([cX7 a0 g0 o0, cX7_10 cI g0 o0, cX6 (g0 1) g1 o1, cX6_0 cI g1 o1, cX6_1 cI g1 o1, cX6_2 cI g1 o1, cX6_3 cI g1 o1, cX6_4 cI g1 o1, cX6_5 cI g1 o1, cX6_6 cI g1 o1, cX6_7 cI g1 o1, cX5 (g0 3) g2 o2, cX5_5 cI g2 o2, cX5_6 cI g2 o2]) A) ([.ref a0, .int v1, .int v2] : List Value).toArray s 0 0 A := ⟨_, rfl⟩
  rw [← hQ]
  rw [f_X7_strip] at h
  clear hAe hD0
  refine lv_iload_n hx hb dX7_strip_0 rfl (lv_at hl 1 rfl) ?_
  refine lv_iconst (v := (0 : Int32)) hx hb dX7_strip_1 (by decide) ?_
  refine lv_aload_n hx hb dX7_strip_2 rfl (lv_at hl 0 rfl) ?_
  refine va_get (D := (dC, dI)) (ci := 7) (v := .ref (g0 1)) (C := RX7) (T := TX7) (N := 11) hx hb hts hiX7 hown hKK.1 hP 0 rfl rfl 1 (by decide) (hts (.fieldLink RX7 19 "SlideLand" "told" "LSlideLand$Told;") (List.mem_of_getElem? (i := 1) rfl)) (fun _ h9 => h9) rfl dX7_strip_3 ?_
  refine va_get (D := (dC, dI)) (ci := 6) (v := .int (o1.1 8)) (C := RX6) (T := TX6) (N := 11) hx hb hts hiX6 hown hKK.1 hP 2 rfl rfl 8 (by decide) (hts (.fieldLink RX7 105 "SlideLand$Told" "strips" "I") (List.mem_of_getElem? (i := 2) rfl)) (fun _ h9 => h9) rfl dX7_strip_6 ?_
  refine lv_iconst (v := (1 : Int32)) hx hb dX7_strip_9 (by decide) ?_
  refine lv_isub hx hb dX7_strip_10 ?_
  obtain ⟨q1, hq1, h⟩ := bnd_e h
  refine kcS (rest := []) (w2 := ([cX7 a0 g0 o0, cX7_10 cI g0 o0, cX6 (g0 1) g1 o1, cX6_0 cI g1 o1, cX6_1 cI g1 o1, cX6_2 cI g1 o1, cX6_3 cI g1 o1, cX6_4 cI g1 o1, cX6_5 cI g1 o1, cX6_6 cI g1 o1, cX6_7 cI g1 o1, cX5 (g0 3) g2 o2, cX5_5 cI g2 o2, cX5_6 cI g2 o2])) hx hb hml hown hts hKK hP hD hS hA (c_X7_within l dC dI cB cI cZ cO v1 (0 : Int32) ((o1.1 8) - (1 : Int32)) hq1) [] (atAll_map trivial) (by decide +kernel) (sameAd_map trivial) (atAll_map trivial) (agr_refl _ _ _) (va_cwS 3 hts gX7_strip_X7_within rfl rfl rfl dsc_X7_within ⟨Nat.le_of_ble_eq_true rfl, Nat.le_of_ble_eq_true rfl⟩) rfl hl.1 rfl (Nat.le_of_ble_eq_true rfl) dX7_strip_11 ⟨Nat.zero_le _, Nat.zero_le _⟩ (fun H locs hP hD hS => ?_)
  refine lv_if_ne (tgt := 19) hx hb dX7_strip_14 (by decide) (fun k2 => ?_) (fun k2 => ?_)
  · have h := ite_f k2 h
    refine lv_iload_n hx hb dX7_strip_19 rfl (lv_at hl 2 rfl) ?_
    by_cases k3 : v2 = (0 : Int32)
    · have h := ite_t k3 h
      refine lv_tableIn (off := 36) (tgt := 56) hx hb dX7_strip_20 (by rw [k3]; decide) (by rw [k3]; decide) (by rw [k3]; rfl) (by decide) ?_
      refine lv_aload_n hx hb dX7_strip_56 rfl (lv_at hl 0 rfl) ?_
      refine va_get (D := (dC, dI)) (ci := 7) (v := .ref (g0 1)) (C := RX7) (T := TX7) (N := 11) hx hb hts hiX7 hown hKK.1 hP 0 rfl rfl 1 (by decide) (hts (.fieldLink RX7 19 "SlideLand" "told" "LSlideLand$Told;") (List.mem_of_getElem? (i := 1) rfl)) (fun _ h9 => h9) rfl dX7_strip_57 ?_
      refine va_get (D := (dC, dI)) (ci := 6) (v := .ref (g1 2)) (C := RX6) (T := TX6) (N := 11) hx hb hts hiX6 hown hKK.1 hP 2 rfl rfl 2 (by decide) (hts (.fieldLink RX7 137 "SlideLand$Told" "kind" "[I") (List.mem_of_getElem? (i := 3) rfl)) (fun _ h9 => h9) rfl dX7_strip_60 ?_
      refine lv_iload_n hx hb dX7_strip_63 rfl (lv_at hl 1 rfl) ?_
      obtain ⟨q8, hq8, h⟩ := obd_e h
      refine kcS (rest := []) (w2 := ([cX7 a0 g0 o0, cX7_10 cI g0 o0, cX6 (g0 1) g1 o1, cX6_0 cI g1 o1, cX6_1 cI g1 o1, cX6_2 cI g1 o1, cX6_3 cI g1 o1, cX6_4 cI g1 o1, cX6_5 cI g1 o1, cX6_6 cI g1 o1, cX6_7 cI g1 o1, cX5 (g0 3) g2 o2, cX5_5 cI g2 o2, cX5_6 cI g2 o2])) hx hb hml hown hts hKK hP hD hS hA (c_X7_cell l dC dI cB cI cZ cO (g1 2) 7 (o1.2 2) v1 hq8) [5] (atAll_map ⟨rfl, trivial⟩) (by decide +kernel) (sameAd_map ⟨rfl, trivial⟩) (atAll_map ⟨rfl, trivial⟩) (agr_refl _ _ _) (va_cwS 2 hts gX7_strip_X7_cell rfl rfl rfl dsc_X7_cell ⟨Nat.le_of_ble_eq_true rfl, Nat.le_of_ble_eq_true rfl⟩) rfl hl.1 rfl (Nat.le_of_ble_eq_true rfl) dX7_strip_64 ⟨Nat.zero_le _, Nat.zero_le _⟩ (fun H locs hP hD hS => ?_)
      have h := Option.some.inj h
      subst h
      subst hQ
      exact W.iret (v := q8) hx hb hr (fun t ht hW => ⟨⟨rfl, by rw [ht]; exact hP, hD⟩, hS.F ht⟩) hS.2.2 dX7_strip_67
    · have h := ite_f k3 h
      by_cases k4 : v2 = (1 : Int32)
      · have h := ite_t k4 h
        refine lv_tableIn (off := 48) (tgt := 68) hx hb dX7_strip_20 (by rw [k4]; decide) (by rw [k4]; decide) (by rw [k4]; rfl) (by decide) ?_
        refine lv_aload_n hx hb dX7_strip_68 rfl (lv_at hl 0 rfl) ?_
        refine va_get (D := (dC, dI)) (ci := 7) (v := .ref (g0 1)) (C := RX7) (T := TX7) (N := 11) hx hb hts hiX7 hown hKK.1 hP 0 rfl rfl 1 (by decide) (hts (.fieldLink RX7 19 "SlideLand" "told" "LSlideLand$Told;") (List.mem_of_getElem? (i := 1) rfl)) (fun _ h9 => h9) rfl dX7_strip_69 ?_
        refine va_get (D := (dC, dI)) (ci := 6) (v := .ref (g1 3)) (C := RX6) (T := TX6) (N := 11) hx hb hts hiX6 hown hKK.1 hP 2 rfl rfl 3 (by decide) (hts (.fieldLink RX7 140 "SlideLand$Told" "stripInch" "[I") (List.mem_of_getElem? (i := 4) rfl)) (fun _ h9 => h9) rfl dX7_strip_72 ?_
        refine lv_iload_n hx hb dX7_strip_75 rfl (lv_at hl 1 rfl) ?_
        obtain ⟨q8, hq8, h⟩ := obd_e h
        refine kcS (rest := []) (w2 := ([cX7 a0 g0 o0, cX7_10 cI g0 o0, cX6 (g0 1) g1 o1, cX6_0 cI g1 o1, cX6_1 cI g1 o1, cX6_2 cI g1 o1, cX6_3 cI g1 o1, cX6_4 cI g1 o1, cX6_5 cI g1 o1, cX6_6 cI g1 o1, cX6_7 cI g1 o1, cX5 (g0 3) g2 o2, cX5_5 cI g2 o2, cX5_6 cI g2 o2])) hx hb hml hown hts hKK hP hD hS hA (c_X7_cell l dC dI cB cI cZ cO (g1 3) 7 (o1.2 3) v1 hq8) [6] (atAll_map ⟨rfl, trivial⟩) (by decide +kernel) (sameAd_map ⟨rfl, trivial⟩) (atAll_map ⟨rfl, trivial⟩) (agr_refl _ _ _) (va_cwS 2 hts gX7_strip_X7_cell rfl rfl rfl dsc_X7_cell ⟨Nat.le_of_ble_eq_true rfl, Nat.le_of_ble_eq_true rfl⟩) rfl hl.1 rfl (Nat.le_of_ble_eq_true rfl) dX7_strip_76 ⟨Nat.zero_le _, Nat.zero_le _⟩ (fun H locs hP hD hS => ?_)
        have h := Option.some.inj h
        subst h
        subst hQ
        exact W.iret (v := q8) hx hb hr (fun t ht hW => ⟨⟨rfl, by rw [ht]; exact hP, hD⟩, hS.F ht⟩) hS.2.2 dX7_strip_79
      · have h := ite_f k4 h
        by_cases k5 : v2 = (2 : Int32)
        · have h := ite_t k5 h
          refine lv_tableIn (off := 60) (tgt := 80) hx hb dX7_strip_20 (by rw [k5]; decide) (by rw [k5]; decide) (by rw [k5]; rfl) (by decide) ?_
          refine lv_aload_n hx hb dX7_strip_80 rfl (lv_at hl 0 rfl) ?_
          refine va_get (D := (dC, dI)) (ci := 7) (v := .ref (g0 3)) (C := RX7) (T := TX7) (N := 11) hx hb hts hiX7 hown hKK.1 hP 0 rfl rfl 3 (by decide) (hts (.fieldLink RX7 29 "SlideLand" "now" "LSlideLand$Stand;") (List.mem_of_getElem? (i := 5) rfl)) (fun _ h9 => h9) rfl dX7_strip_81 ?_
          refine va_get (D := (dC, dI)) (ci := 5) (v := .ref (g2 5)) (C := RX5) (T := TX5) (N := 7) hx hb hts hiX5 hown hKK.1 hP 11 rfl rfl 5 (by decide) (hts (.fieldLink RX7 143 "SlideLand$Stand" "goods" "[I") (List.mem_of_getElem? (i := 6) rfl)) (fun _ h9 => h9) rfl dX7_strip_84 ?_
          refine lv_iload_n hx hb dX7_strip_87 rfl (lv_at hl 1 rfl) ?_
          obtain ⟨q8, hq8, h⟩ := obd_e h
          refine kcS (rest := []) (w2 := ([cX7 a0 g0 o0, cX7_10 cI g0 o0, cX6 (g0 1) g1 o1, cX6_0 cI g1 o1, cX6_1 cI g1 o1, cX6_2 cI g1 o1, cX6_3 cI g1 o1, cX6_4 cI g1 o1, cX6_5 cI g1 o1, cX6_6 cI g1 o1, cX6_7 cI g1 o1, cX5 (g0 3) g2 o2, cX5_5 cI g2 o2, cX5_6 cI g2 o2])) hx hb hml hown hts hKK hP hD hS hA (c_X7_cell l dC dI cB cI cZ cO (g2 5) 7 (o2.2 5) v1 hq8) [12] (atAll_map ⟨rfl, trivial⟩) (by decide +kernel) (sameAd_map ⟨rfl, trivial⟩) (atAll_map ⟨rfl, trivial⟩) (agr_refl _ _ _) (va_cwS 2 hts gX7_strip_X7_cell rfl rfl rfl dsc_X7_cell ⟨Nat.le_of_ble_eq_true rfl, Nat.le_of_ble_eq_true rfl⟩) rfl hl.1 rfl (Nat.le_of_ble_eq_true rfl) dX7_strip_88 ⟨Nat.zero_le _, Nat.zero_le _⟩ (fun H locs hP hD hS => ?_)
          have h := Option.some.inj h
          subst h
          subst hQ
          exact W.iret (v := q8) hx hb hr (fun t ht hW => ⟨⟨rfl, by rw [ht]; exact hP, hD⟩, hS.F ht⟩) hS.2.2 dX7_strip_91
        · have h := ite_f k5 h
          by_cases k6 : v2 = (3 : Int32)
          · have h := ite_t k6 h
            refine lv_tableIn (off := 72) (tgt := 92) hx hb dX7_strip_20 (by rw [k6]; decide) (by rw [k6]; decide) (by rw [k6]; rfl) (by decide) ?_
            refine lv_aload_n hx hb dX7_strip_92 rfl (lv_at hl 0 rfl) ?_
            refine va_get (D := (dC, dI)) (ci := 7) (v := .ref (g0 3)) (C := RX7) (T := TX7) (N := 11) hx hb hts hiX7 hown hKK.1 hP 0 rfl rfl 3 (by decide) (hts (.fieldLink RX7 29 "SlideLand" "now" "LSlideLand$Stand;") (List.mem_of_getElem? (i := 5) rfl)) (fun _ h9 => h9) rfl dX7_strip_93 ?_
            refine lv_aload_n hx hb dX7_strip_96 rfl (lv_at hl 0 rfl) ?_
            refine va_get (D := (dC, dI)) (ci := 7) (v := .ref (g0 1)) (C := RX7) (T := TX7) (N := 11) hx hb hts hiX7 hown hKK.1 hP 0 rfl rfl 1 (by decide) (hts (.fieldLink RX7 19 "SlideLand" "told" "LSlideLand$Told;") (List.mem_of_getElem? (i := 1) rfl)) (fun _ h9 => h9) rfl dX7_strip_97 ?_
            refine lv_iload_n hx hb dX7_strip_100 rfl (lv_at hl 1 rfl) ?_
            obtain ⟨q8, hq8, h⟩ := obd_e h
            refine kcV (rest := []) (w2 := ([cX7 a0 g0 o0, cX7_10 cI g0 o0, cX6 (g0 1) g1 o1, cX6_0 cI g1 o1, cX6_1 cI g1 o1, cX6_2 cI g1 o1, cX6_3 cI g1 o1, cX6_4 cI g1 o1, cX6_5 cI g1 o1, cX6_6 cI g1 o1, cX6_7 cI g1 o1, cX5 (g0 3) g2 o2, cX5_5 cI g2 o2, cX5_6 cI g2 o2])) hx hb hml hown hts hKK hP hD hS hA (c_X5_placeOf l dC dI cB cI cZ cO (g0 3) g2 o2 (g0 1) g1 o1 v1 hq8) [11, 12, 13, 2, 3, 4, 5, 6, 7, 8, 9, 10] (atAll_map ⟨rfl, rfl, rfl, rfl, rfl, rfl, rfl, rfl, rfl, rfl, rfl, rfl, trivial⟩) (by decide +kernel) (sameAd_map ⟨rfl, rfl, rfl, rfl, rfl, rfl, rfl, rfl, rfl, rfl, rfl, rfl, trivial⟩) (atAll_map ⟨rfl, rfl, rfl, rfl, rfl, rfl, rfl, rfl, rfl, rfl, rfl, rfl, trivial⟩) (agr_refl _ _ _) (cwV 2 hts gX7_strip_X5_placeOf rfl rfl rfl ⟨rfl, dsc_X5_placeOf⟩ ⟨Nat.le_of_ble_eq_true rfl, Nat.le_of_ble_eq_true rfl⟩) (va_recv hKK.1 hP (ci := 5) (q0 := 11) rfl rfl) rfl hl.1 rfl (Nat.le_of_ble_eq_true rfl) dX7_strip_101 ⟨Nat.zero_le _, Nat.zero_le _⟩ (fun H locs hP hD hS => ?_)
            refine lv_bipush (v := (100 : Int32)) hx hb dX7_strip_104 (by decide) ?_
            refine lv_iadd hx hb dX7_strip_106 ?_
            have h := Option.some.inj h
            subst h
            subst hQ
            exact W.iret (v := (q8 + (100 : Int32))) hx hb hr (fun t ht hW => ⟨⟨rfl, by rw [ht]; exact hP, hD⟩, hS.F ht⟩) hS.2.2 dX7_strip_107
          · have h := ite_f k6 h
            by_cases k7 : v2 = (4 : Int32)
            · have h := ite_t k7 h
              refine lv_tableIn (off := 88) (tgt := 108) hx hb dX7_strip_20 (by rw [k7]; decide) (by rw [k7]; decide) (by rw [k7]; rfl) (by decide) ?_
              refine lv_aload_n hx hb dX7_strip_108 rfl (lv_at hl 0 rfl) ?_
              refine va_get (D := (dC, dI)) (ci := 7) (v := .ref (g0 3)) (C := RX7) (T := TX7) (N := 11) hx hb hts hiX7 hown hKK.1 hP 0 rfl rfl 3 (by decide) (hts (.fieldLink RX7 29 "SlideLand" "now" "LSlideLand$Stand;") (List.mem_of_getElem? (i := 5) rfl)) (fun _ h9 => h9) rfl dX7_strip_109 ?_
              refine va_get (D := (dC, dI)) (ci := 5) (v := .int (o2.1 4)) (C := RX5) (T := TX5) (N := 7) hx hb hts hiX5 hown hKK.1 hP 11 rfl rfl 4 (by decide) (hts (.fieldLink RX7 131 "SlideLand$Stand" "wed" "I") (List.mem_of_getElem? (i := 7) rfl)) (fun _ h9 => h9) rfl dX7_strip_112 ?_
              refine lv_bipush (v := (12 : Int32)) hx hb dX7_strip_115 (by decide) ?_
              refine lv_iload_n hx hb dX7_strip_117 rfl (lv_at hl 1 rfl) ?_
              refine lv_iadd hx hb dX7_strip_118 ?_
              obtain ⟨q8, hq8, h⟩ := bnd_e h
              refine kcS (rest := []) (w2 := ([cX7 a0 g0 o0, cX7_10 cI g0 o0, cX6 (g0 1) g1 o1, cX6_0 cI g1 o1, cX6_1 cI g1 o1, cX6_2 cI g1 o1, cX6_3 cI g1 o1, cX6_4 cI g1 o1, cX6_5 cI g1 o1, cX6_6 cI g1 o1, cX6_7 cI g1 o1, cX5 (g0 3) g2 o2, cX5_5 cI g2 o2, cX5_6 cI g2 o2])) hx hb hml hown hts hKK hP hD hS hA (c_X7_bitOf l dC dI cB cI cZ cO (o2.1 4) ((12 : Int32) + v1) hq8) [] (atAll_map trivial) (by decide +kernel) (sameAd_map trivial) (atAll_map trivial) (agr_refl _ _ _) (va_cwS 2 hts gX7_strip_X7_bitOf rfl rfl rfl dsc_X7_bitOf ⟨Nat.le_of_ble_eq_true rfl, Nat.le_of_ble_eq_true rfl⟩) rfl hl.1 rfl (Nat.le_of_ble_eq_true rfl) dX7_strip_119 ⟨Nat.zero_le _, Nat.zero_le _⟩ (fun H locs hP hD hS => ?_)
              have h := Option.some.inj h
              subst h
              subst hQ
              exact W.iret (v := q8) hx hb hr (fun t ht hW => ⟨⟨rfl, by rw [ht]; exact hP, hD⟩, hS.F ht⟩) hS.2.2 dX7_strip_122
            · have h := ite_f k7 h
              refine lv_tableOut (tgt := 123) hx hb dX7_strip_20 (sw_out [0, 1, 2, 3, 4] (by decide) (List.forall_mem_cons.mpr ⟨sw_ne k3 (by decide), (List.forall_mem_cons.mpr ⟨sw_ne k4 (by decide), (List.forall_mem_cons.mpr ⟨sw_ne k5 (by decide), (List.forall_mem_cons.mpr ⟨sw_ne k6 (by decide), (List.forall_mem_cons.mpr ⟨sw_ne k7 (by decide), (fun _ h => absurd h List.not_mem_nil)⟩)⟩)⟩)⟩)⟩)) (by decide) ?_
              refine lv_iconst (v := (-1 : Int32)) hx hb dX7_strip_123 (by decide) ?_
              have h := Option.some.inj h
              subst h
              subst hQ
              exact W.iret (v := (-1 : Int32)) hx hb hr (fun t ht hW => ⟨⟨rfl, by rw [ht]; exact hP, hD⟩, hS.F ht⟩) hS.2.2 dX7_strip_124
  · have h := ite_t k2 h
    refine lv_iconst (v := (-1 : Int32)) hx hb dX7_strip_17 (by decide) ?_
    have h := Option.some.inj h
    subst h
    subst hQ
    exact W.iret (v := (-1 : Int32)) hx hb hr (fun t ht hW => ⟨⟨rfl, by rw [ht]; exact hP, hD⟩, hS.F ht⟩) hS.2.2 dX7_strip_18
def f_X7_inches (o0 : Ob) (o1 : Ob) (v1 : Int32) : Option (Int32) := bnd (f_X7_within v1 (0 : Int32) ((o1.1 9) - (1 : Int32))) fun q1 : Bool => if (b2i q1) = 0 then (some (-1 : Int32)) else ((f_X7_cell 4 (o1.2 5) v1).bind fun q3 : Int32 => some q3)
abbrev rmX7_inches : Room := { frames := 1, cells := 0, slots := 0, locals := 22 }
theorem dsc_X7_inches : yX7_inches.cls ≠ "java/lang/invoke/MethodHandle" ∧ yX7_inches.cls ≠ "java/lang/invoke/VarHandle" ∧ (parseMethodDescriptor yX7_inches.desc).map (fun d => d.parameters.length) = some 1 := by decide +kernel
set_option maxHeartbeats 4000000 in
set_option maxRecDepth 100000 in
theorem c_X7_inches (l : Launch) (dC : Nat → ClassId) (dI : Nat → Nat → Nat) (cB cI cZ cO : ClassId) (a0 : Nat) (g0 : Nat → Nat) (o0 : Ob) (g1 : Nat → Nat) (o1 : Ob) (v1 : Int32) {r : Int32} (h : f_X7_inches o0 o1 v1 = some r) : Ct dC dI cB cI cZ cO l yX7_inches wsX7_inches rmX7_inches [.ref a0, .int v1] ([cX7 a0 g0 o0, cX7_10 cI g0 o0, cX6 (g0 1) g1 o1, cX6_0 cI g1 o1, cX6_1 cI g1 o1, cX6_2 cI g1 o1, cX6_3 cI g1 o1, cX6_4 cI g1 o1, cX6_5 cI g1 o1, cX6_6 cI g1 o1, cX6_7 cI g1 o1]) (some (.int r)) ([cX7 a0 g0 o0, cX7_10 cI g0 o0, cX6 (g0 1) g1 o1, cX6_0 cI g1 o1, cX6_1 cI g1 o1, cX6_2 cI g1 o1, cX6_3 cI g1 o1, cX6_4 cI g1 o1, cX6_5 cI g1 o1, cX6_6 cI g1 o1, cX6_7 cI g1 o1]) := by
  intro sz
  refine Met.ofW (cc := cX7_inches) (maxL := 2) (ret := (some .int)) (by decide) rfl ?_
  intro p e s m args below meth c s₁ B hml hv
  obtain ⟨rfl, hsz, hP, hKK, hD0⟩ := hv
  have hx := B.exec
  have hb := B.bytes
  have hr := B.returns
  have hts := atoms_spec (ws := wsX7_inches) B.pre
  have hown : s.vm.findClass RX7 = some m.cls := findClass_of_methodNamed B.named
  have hlocks := B.notSynchronized
  have hiX7 : ∀ w ∈ u_ws RX7 TX7 11, w ∈ wsX7_inches := fun w h => List.mem_cons_of_mem _ (List.mem_append_left _ (List.mem_append_right _ h))
  have hiX6 : ∀ w ∈ u_ws RX6 TX6 11, w ∈ wsX7_inches := fun w h => List.mem_cons_of_mem _ (List.mem_append_right _ h)
  subst hsz
  have hD := hD0.self (sz := s.heap.size)
  generalize hAe : va_A ([cX7 a0 g0 o0, cX7_10 cI g0 o0, cX6 (g0 1) g1 o1, cX6_0 cI g1 o1, cX6_1 cI g1 o1, cX6_2 cI g1 o1, cX6_3 cI g1 o1, cX6_4 cI g1 o1, cX6_5 cI g1 o1, cX6_6 cI g1 o1, cX6_7 cI g1 o1]) s.heap.size = A at hD ⊢
  have hA : ∀ q : Nat, s.heap.size ≤ q → A q := fun q h => by rw [← hAe]; exact Or.inr h
  have hS : va_S A s.heap s.heap [] := va_S.rf
  have hP : va_P (dC, dI) vwCl ([cX7 a0 g0 o0, cX7_10 cI g0 o0, cX6 (g0 1) g1 o1, cX6_0 cI g1 o1, cX6_1 cI g1 o1, cX6_2 cI g1 o1, cX6_3 cI g1 o1, cX6_4 cI g1 o1, cX6_5 cI g1 o1, cX6_6 cI g1 o1, cX6_7 cI g1 o1]) s.heap := hP
  have hD : va_D A ([cX7 a0 g0 o0, cX7_10 cI g0 o0, cX6 (g0 1) g1 o1, cX6_0 cI g1 o1, cX6_1 cI g1 o1, cX6_2 cI g1 o1, cX6_3 cI g1 o1, cX6_4 cI g1 o1, cX6_5 cI g1 o1, cX6_6 cI g1 o1, cX6_7 cI g1 o1]) := hD
  have hl := lv_entry ([.ref a0, .int v1]) (n := 2) (Nat.le_of_ble_eq_true rfl)
  rw [lg_entry_eq]
  generalize (lg_sl ([.ref a0, .int v1]) ++ List.replicate (2 - (lg_sl ([.ref a0, .int v1])).length) Slot.unset).toArray = ls at hl ⊢
  have hl : lv_has ls 2 [(0, .ref a0), (1, .int v1)] := hl
  obtain ⟨Q, hQ⟩ : ∃ Q, Q = MQ below (Qq dC dI (some (.int r)) ([cX7 a0 g0 o0, cX7_10 cI g0 o0, cX6 (g0 1) g1 o1, cX6_0 cI g1 o1, cX6_1 cI g1 o1, cX6_2 cI g1 o1, cX6_3 cI g1 o1, cX6_4 cI g1 o1, cX6_5 cI g1 o1, cX6_6 cI g1 o1, cX6_7 cI g1 o1]) A) ([.ref a0, .int v1] : List Value).toArray s 0 0 A := ⟨_, rfl⟩
  rw [← hQ]
  rw [f_X7_inches] at h
  clear hAe hD0
  refine lv_iload_n hx hb dX7_inches_0 rfl (lv_at hl 1 rfl) ?_
  refine lv_iconst (v := (0 : Int32)) hx hb dX7_inches_1 (by decide) ?_
  refine lv_aload_n hx hb dX7_inches_2 rfl (lv_at hl 0 rfl) ?_
  refine va_get (D := (dC, dI)) (ci := 7) (v := .ref (g0 1)) (C := RX7) (T := TX7) (N := 11) hx hb hts hiX7 hown hKK.1 hP 0 rfl rfl 1 (by decide) (hts (.fieldLink RX7 19 "SlideLand" "told" "LSlideLand$Told;") (List.mem_of_getElem? (i := 1) rfl)) (fun _ h9 => h9) rfl dX7_inches_3 ?_
  refine va_get (D := (dC, dI)) (ci := 6) (v := .int (o1.1 9)) (C := RX6) (T := TX6) (N := 11) hx hb hts hiX6 hown hKK.1 hP 2 rfl rfl 9 (by decide) (hts (.fieldLink RX7 108 "SlideLand$Told" "pushes" "I") (List.mem_of_getElem? (i := 2) rfl)) (fun _ h9 => h9) rfl dX7_inches_6 ?_
  refine lv_iconst (v := (1 : Int32)) hx hb dX7_inches_9 (by decide) ?_
  refine lv_isub hx hb dX7_inches_10 ?_
  obtain ⟨q1, hq1, h⟩ := bnd_e h
  refine kcS (rest := []) (w2 := ([cX7 a0 g0 o0, cX7_10 cI g0 o0, cX6 (g0 1) g1 o1, cX6_0 cI g1 o1, cX6_1 cI g1 o1, cX6_2 cI g1 o1, cX6_3 cI g1 o1, cX6_4 cI g1 o1, cX6_5 cI g1 o1, cX6_6 cI g1 o1, cX6_7 cI g1 o1])) hx hb hml hown hts hKK hP hD hS hA (c_X7_within l dC dI cB cI cZ cO v1 (0 : Int32) ((o1.1 9) - (1 : Int32)) hq1) [] (atAll_map trivial) (by decide +kernel) (sameAd_map trivial) (atAll_map trivial) (agr_refl _ _ _) (va_cwS 3 hts gX7_inches_X7_within rfl rfl rfl dsc_X7_within ⟨Nat.le_of_ble_eq_true rfl, Nat.le_of_ble_eq_true rfl⟩) rfl hl.1 rfl (Nat.le_of_ble_eq_true rfl) dX7_inches_11 ⟨Nat.zero_le _, Nat.zero_le _⟩ (fun H locs hP hD hS => ?_)
  refine lv_if_eq (tgt := 31) hx hb dX7_inches_14 (by decide) (fun k2 => ?_) (fun k2 => ?_)
  · have h := ite_t k2 h
    refine lv_iconst (v := (-1 : Int32)) hx hb dX7_inches_31 (by decide) ?_
    have h := Option.some.inj h
    subst h
    subst hQ
    exact W.iret (v := (-1 : Int32)) hx hb hr (fun t ht hW => ⟨⟨rfl, by rw [ht]; exact hP, hD⟩, hS.F ht⟩) hS.2.2 dX7_inches_32
  · have h := ite_f k2 h
    refine lv_aload_n hx hb dX7_inches_17 rfl (lv_at hl 0 rfl) ?_
    refine va_get (D := (dC, dI)) (ci := 7) (v := .ref (g0 1)) (C := RX7) (T := TX7) (N := 11) hx hb hts hiX7 hown hKK.1 hP 0 rfl rfl 1 (by decide) (hts (.fieldLink RX7 19 "SlideLand" "told" "LSlideLand$Told;") (List.mem_of_getElem? (i := 1) rfl)) (fun _ h9 => h9) rfl dX7_inches_18 ?_
    refine va_get (D := (dC, dI)) (ci := 6) (v := .ref (g1 5)) (C := RX6) (T := TX6) (N := 11) hx hb hts hiX6 hown hKK.1 hP 2 rfl rfl 5 (by decide) (hts (.fieldLink RX7 150 "SlideLand$Told" "pushed" "[I") (List.mem_of_getElem? (i := 3) rfl)) (fun _ h9 => h9) rfl dX7_inches_21 ?_
    refine lv_iload_n hx hb dX7_inches_24 rfl (lv_at hl 1 rfl) ?_
    obtain ⟨q3, hq3, h⟩ := obd_e h
    refine kcS (rest := []) (w2 := ([cX7 a0 g0 o0, cX7_10 cI g0 o0, cX6 (g0 1) g1 o1, cX6_0 cI g1 o1, cX6_1 cI g1 o1, cX6_2 cI g1 o1, cX6_3 cI g1 o1, cX6_4 cI g1 o1, cX6_5 cI g1 o1, cX6_6 cI g1 o1, cX6_7 cI g1 o1])) hx hb hml hown hts hKK hP hD hS hA (c_X7_cell l dC dI cB cI cZ cO (g1 5) 4 (o1.2 5) v1 hq3) [8] (atAll_map ⟨rfl, trivial⟩) (by decide +kernel) (sameAd_map ⟨rfl, trivial⟩) (atAll_map ⟨rfl, trivial⟩) (agr_refl _ _ _) (va_cwS 2 hts gX7_inches_X7_cell rfl rfl rfl dsc_X7_cell ⟨Nat.le_of_ble_eq_true rfl, Nat.le_of_ble_eq_true rfl⟩) rfl hl.1 rfl (Nat.le_of_ble_eq_true rfl) dX7_inches_25 ⟨Nat.zero_le _, Nat.zero_le _⟩ (fun H locs hP hD hS => ?_)
    refine lv_goto (tgt := 32) hx hb dX7_inches_28 (by decide) ?_
    have h := Option.some.inj h
    subst h
    subst hQ
    exact W.iret (v := q3) hx hb hr (fun t ht hW => ⟨⟨rfl, by rw [ht]; exact hP, hD⟩, hS.F ht⟩) hS.2.2 dX7_inches_32
def f_X7_damp (o0 : Ob) (o1 : Ob) (o2 : Ob) (v1 : Int32) : Option (Int32) := bnd (f_X7_within v1 (0 : Int32) (99 : Int32)) fun q1 : Bool => if (b2i q1) = 0 then (some (-1 : Int32)) else ((f_X6_dampOf o1 ((o2.1 3) + v1)).bind fun q3 : Int32 => some q3)
abbrev rmX7_damp : Room := { frames := 1, cells := 0, slots := 0, locals := 22 }
theorem dsc_X7_damp : yX7_damp.cls ≠ "java/lang/invoke/MethodHandle" ∧ yX7_damp.cls ≠ "java/lang/invoke/VarHandle" ∧ (parseMethodDescriptor yX7_damp.desc).map (fun d => d.parameters.length) = some 1 := by decide +kernel
set_option maxHeartbeats 4000000 in
set_option maxRecDepth 100000 in
theorem c_X7_damp (l : Launch) (dC : Nat → ClassId) (dI : Nat → Nat → Nat) (cB cI cZ cO : ClassId) (a0 : Nat) (g0 : Nat → Nat) (o0 : Ob) (g1 : Nat → Nat) (o1 : Ob) (g2 : Nat → Nat) (o2 : Ob) (v1 : Int32) {r : Int32} (h : f_X7_damp o0 o1 o2 v1 = some r) : Ct dC dI cB cI cZ cO l yX7_damp wsX7_damp rmX7_damp [.ref a0, .int v1] ([cX7 a0 g0 o0, cX7_10 cI g0 o0, cX6 (g0 1) g1 o1, cX6_0 cI g1 o1, cX6_1 cI g1 o1, cX6_2 cI g1 o1, cX6_3 cI g1 o1, cX6_4 cI g1 o1, cX6_5 cI g1 o1, cX6_6 cI g1 o1, cX6_7 cI g1 o1, cX5 (g0 3) g2 o2, cX5_5 cI g2 o2, cX5_6 cI g2 o2]) (some (.int r)) ([cX7 a0 g0 o0, cX7_10 cI g0 o0, cX6 (g0 1) g1 o1, cX6_0 cI g1 o1, cX6_1 cI g1 o1, cX6_2 cI g1 o1, cX6_3 cI g1 o1, cX6_4 cI g1 o1, cX6_5 cI g1 o1, cX6_6 cI g1 o1, cX6_7 cI g1 o1, cX5 (g0 3) g2 o2, cX5_5 cI g2 o2, cX5_6 cI g2 o2]) := by
  intro sz
  refine Met.ofW (cc := cX7_damp) (maxL := 2) (ret := (some .int)) (by decide) rfl ?_
  intro p e s m args below meth c s₁ B hml hv
  obtain ⟨rfl, hsz, hP, hKK, hD0⟩ := hv
  have hx := B.exec
  have hb := B.bytes
  have hr := B.returns
  have hts := atoms_spec (ws := wsX7_damp) B.pre
  have hown : s.vm.findClass RX7 = some m.cls := findClass_of_methodNamed B.named
  have hlocks := B.notSynchronized
  have hiX7 : ∀ w ∈ u_ws RX7 TX7 11, w ∈ wsX7_damp := fun w h => List.mem_cons_of_mem _ (List.mem_append_left _ (List.mem_append_left _ (List.mem_append_right _ h)))
  have hiX5 : ∀ w ∈ u_ws RX5 TX5 7, w ∈ wsX7_damp := fun w h => List.mem_cons_of_mem _ (List.mem_append_left _ (List.mem_append_right _ h))
  subst hsz
  have hD := hD0.self (sz := s.heap.size)
  generalize hAe : va_A ([cX7 a0 g0 o0, cX7_10 cI g0 o0, cX6 (g0 1) g1 o1, cX6_0 cI g1 o1, cX6_1 cI g1 o1, cX6_2 cI g1 o1, cX6_3 cI g1 o1, cX6_4 cI g1 o1, cX6_5 cI g1 o1, cX6_6 cI g1 o1, cX6_7 cI g1 o1, cX5 (g0 3) g2 o2, cX5_5 cI g2 o2, cX5_6 cI g2 o2]) s.heap.size = A at hD ⊢
  have hA : ∀ q : Nat, s.heap.size ≤ q → A q := fun q h => by rw [← hAe]; exact Or.inr h
  have hS : va_S A s.heap s.heap [] := va_S.rf
  have hP : va_P (dC, dI) vwCl ([cX7 a0 g0 o0, cX7_10 cI g0 o0, cX6 (g0 1) g1 o1, cX6_0 cI g1 o1, cX6_1 cI g1 o1, cX6_2 cI g1 o1, cX6_3 cI g1 o1, cX6_4 cI g1 o1, cX6_5 cI g1 o1, cX6_6 cI g1 o1, cX6_7 cI g1 o1, cX5 (g0 3) g2 o2, cX5_5 cI g2 o2, cX5_6 cI g2 o2]) s.heap := hP
  have hD : va_D A ([cX7 a0 g0 o0, cX7_10 cI g0 o0, cX6 (g0 1) g1 o1, cX6_0 cI g1 o1, cX6_1 cI g1 o1, cX6_2 cI g1 o1, cX6_3 cI g1 o1, cX6_4 cI g1 o1, cX6_5 cI g1 o1, cX6_6 cI g1 o1, cX6_7 cI g1 o1, cX5 (g0 3) g2 o2, cX5_5 cI g2 o2, cX5_6 cI g2 o2]) := hD
  have hl := lv_entry ([.ref a0, .int v1]) (n := 2) (Nat.le_of_ble_eq_true rfl)
  rw [lg_entry_eq]
  generalize (lg_sl ([.ref a0, .int v1]) ++ List.replicate (2 - (lg_sl ([.ref a0, .int v1])).length) Slot.unset).toArray = ls at hl ⊢
  have hl : lv_has ls 2 [(0, .ref a0), (1, .int v1)] := hl
  obtain ⟨Q, hQ⟩ : ∃ Q, Q = MQ below (Qq dC dI (some (.int r)) ([cX7 a0 g0 o0, cX7_10 cI g0 o0, cX6 (g0 1) g1 o1, cX6_0 cI g1 o1, cX6_1 cI g1 o1, cX6_2 cI g1 o1, cX6_3 cI g1 o1, cX6_4 cI g1 o1, cX6_5 cI g1 o1, cX6_6 cI g1 o1, cX6_7 cI g1 o1, cX5 (g0 3) g2 o2, cX5_5 cI g2 o2, cX5_6 cI g2 o2]) A) ([.ref a0, .int v1] : List Value).toArray s 0 0 A := ⟨_, rfl⟩
  rw [← hQ]
  rw [f_X7_damp] at h
  clear hAe hD0
  refine lv_iload_n hx hb dX7_damp_0 rfl (lv_at hl 1 rfl) ?_
  refine lv_iconst (v := (0 : Int32)) hx hb dX7_damp_1 (by decide) ?_
  refine lv_bipush (v := (99 : Int32)) hx hb dX7_damp_2 (by decide) ?_
  obtain ⟨q1, hq1, h⟩ := bnd_e h
  refine kcS (rest := []) (w2 := ([cX7 a0 g0 o0, cX7_10 cI g0 o0, cX6 (g0 1) g1 o1, cX6_0 cI g1 o1, cX6_1 cI g1 o1, cX6_2 cI g1 o1, cX6_3 cI g1 o1, cX6_4 cI g1 o1, cX6_5 cI g1 o1, cX6_6 cI g1 o1, cX6_7 cI g1 o1, cX5 (g0 3) g2 o2, cX5_5 cI g2 o2, cX5_6 cI g2 o2])) hx hb hml hown hts hKK hP hD hS hA (c_X7_within l dC dI cB cI cZ cO v1 (0 : Int32) (99 : Int32) hq1) [] (atAll_map trivial) (by decide +kernel) (sameAd_map trivial) (atAll_map trivial) (agr_refl _ _ _) (va_cwS 3 hts gX7_damp_X7_within rfl rfl rfl dsc_X7_within ⟨Nat.le_of_ble_eq_true rfl, Nat.le_of_ble_eq_true rfl⟩) rfl hl.1 rfl (Nat.le_of_ble_eq_true rfl) dX7_damp_4 ⟨Nat.zero_le _, Nat.zero_le _⟩ (fun H locs hP hD hS => ?_)
  refine lv_if_eq (tgt := 29) hx hb dX7_damp_7 (by decide) (fun k2 => ?_) (fun k2 => ?_)
  · have h := ite_t k2 h
    refine lv_iconst (v := (-1 : Int32)) hx hb dX7_damp_29 (by decide) ?_
    have h := Option.some.inj h
    subst h
    subst hQ
    exact W.iret (v := (-1 : Int32)) hx hb hr (fun t ht hW => ⟨⟨rfl, by rw [ht]; exact hP, hD⟩, hS.F ht⟩) hS.2.2 dX7_damp_30
  · have h := ite_f k2 h
    refine lv_aload_n hx hb dX7_damp_10 rfl (lv_at hl 0 rfl) ?_
    refine va_get (D := (dC, dI)) (ci := 7) (v := .ref (g0 1)) (C := RX7) (T := TX7) (N := 11) hx hb hts hiX7 hown hKK.1 hP 0 rfl rfl 1 (by decide) (hts (.fieldLink RX7 19 "SlideLand" "told" "LSlideLand$Told;") (List.mem_of_getElem? (i := 1) rfl)) (fun _ h9 => h9) rfl dX7_damp_11 ?_
    refine lv_aload_n hx hb dX7_damp_14 rfl (lv_at hl 0 rfl) ?_
    refine va_get (D := (dC, dI)) (ci := 7) (v := .ref (g0 3)) (C := RX7) (T := TX7) (N := 11) hx hb hts hiX7 hown hKK.1 hP 0 rfl rfl 3 (by decide) (hts (.fieldLink RX7 29 "SlideLand" "now" "LSlideLand$Stand;") (List.mem_of_getElem? (i := 2) rfl)) (fun _ h9 => h9) rfl dX7_damp_15 ?_
    refine va_get (D := (dC, dI)) (ci := 5) (v := .int (o2.1 3)) (C := RX5) (T := TX5) (N := 7) hx hb hts hiX5 hown hKK.1 hP 11 rfl rfl 3 (by decide) (hts (.fieldLink RX7 153 "SlideLand$Stand" "year" "I") (List.mem_of_getElem? (i := 3) rfl)) (fun _ h9 => h9) rfl dX7_damp_18 ?_
    refine lv_iload_n hx hb dX7_damp_21 rfl (lv_at hl 1 rfl) ?_
    refine lv_iadd hx hb dX7_damp_22 ?_
    obtain ⟨q3, hq3, h⟩ := obd_e h
    refine kcV (rest := []) (w2 := ([cX7 a0 g0 o0, cX7_10 cI g0 o0, cX6 (g0 1) g1 o1, cX6_0 cI g1 o1, cX6_1 cI g1 o1, cX6_2 cI g1 o1, cX6_3 cI g1 o1, cX6_4 cI g1 o1, cX6_5 cI g1 o1, cX6_6 cI g1 o1, cX6_7 cI g1 o1, cX5 (g0 3) g2 o2, cX5_5 cI g2 o2, cX5_6 cI g2 o2])) hx hb hml hown hts hKK hP hD hS hA (c_X6_dampOf l dC dI cB cI cZ cO (g0 1) g1 o1 ((o2.1 3) + v1) hq3) [2, 3, 4, 5, 6, 7, 8, 9, 10] (atAll_map ⟨rfl, rfl, rfl, rfl, rfl, rfl, rfl, rfl, rfl, trivial⟩) (by decide +kernel) (sameAd_map ⟨rfl, rfl, rfl, rfl, rfl, rfl, rfl, rfl, rfl, trivial⟩) (atAll_map ⟨rfl, rfl, rfl, rfl, rfl, rfl, rfl, rfl, rfl, trivial⟩) (agr_refl _ _ _) (cwV 1 hts gX7_damp_X6_dampOf rfl rfl rfl ⟨rfl, dsc_X6_dampOf⟩ ⟨Nat.le_of_ble_eq_true rfl, Nat.le_of_ble_eq_true rfl⟩) (va_recv hKK.1 hP (ci := 6) (q0 := 2) rfl rfl) rfl hl.1 rfl (Nat.le_of_ble_eq_true rfl) dX7_damp_23 ⟨Nat.zero_le _, Nat.zero_le _⟩ (fun H locs hP hD hS => ?_)
    refine lv_goto (tgt := 30) hx hb dX7_damp_26 (by decide) ?_
    have h := Option.some.inj h
    subst h
    subst hQ
    exact W.iret (v := q3) hx hb hr (fun t ht hW => ⟨⟨rfl, by rw [ht]; exact hP, hD⟩, hS.F ht⟩) hS.2.2 dX7_damp_30
def f_X7_against (o0 : Ob) (o1 : Ob) (o2 : Ob) (v1 : Int32) : Option (Int32) := bnd (f_X7_within v1 (0 : Int32) ((o1.1 8) - (1 : Int32))) fun q1 : Bool => if (b2i q1) = 0 then (some (-1 : Int32)) else ((f_X5_againstBits o2 o1 v1).bind fun q3 : Int32 => some q3)
abbrev rmX7_against : Room := { frames := 4, cells := 0, slots := 0, locals := 93 }
theorem dsc_X7_against : yX7_against.cls ≠ "java/lang/invoke/MethodHandle" ∧ yX7_against.cls ≠ "java/lang/invoke/VarHandle" ∧ (parseMethodDescriptor yX7_against.desc).map (fun d => d.parameters.length) = some 1 := by decide +kernel
set_option maxHeartbeats 4000000 in
set_option maxRecDepth 100000 in
theorem c_X7_against (l : Launch) (dC : Nat → ClassId) (dI : Nat → Nat → Nat) (cB cI cZ cO : ClassId) (a0 : Nat) (g0 : Nat → Nat) (o0 : Ob) (g1 : Nat → Nat) (o1 : Ob) (g2 : Nat → Nat) (o2 : Ob) (v1 : Int32) {r : Int32} (h : f_X7_against o0 o1 o2 v1 = some r) : Ct dC dI cB cI cZ cO l yX7_against wsX7_against rmX7_against [.ref a0, .int v1] ([cX7 a0 g0 o0, cX7_10 cI g0 o0, cX6 (g0 1) g1 o1, cX6_0 cI g1 o1, cX6_1 cI g1 o1, cX6_2 cI g1 o1, cX6_3 cI g1 o1, cX6_4 cI g1 o1, cX6_5 cI g1 o1, cX6_6 cI g1 o1, cX6_7 cI g1 o1, cX5 (g0 3) g2 o2, cX5_5 cI g2 o2, cX5_6 cI g2 o2]) (some (.int r)) ([cX7 a0 g0 o0, cX7_10 cI g0 o0, cX6 (g0 1) g1 o1, cX6_0 cI g1 o1, cX6_1 cI g1 o1, cX6_2 cI g1 o1, cX6_3 cI g1 o1, cX6_4 cI g1 o1, cX6_5 cI g1 o1, cX6_6 cI g1 o1, cX6_7 cI g1 o1, cX5 (g0 3) g2 o2, cX5_5 cI g2 o2, cX5_6 cI g2 o2]) := by
  intro sz
  refine Met.ofW (cc := cX7_against) (maxL := 2) (ret := (some .int)) (by decide) rfl ?_
  intro p e s m args below meth c s₁ B hml hv
  obtain ⟨rfl, hsz, hP, hKK, hD0⟩ := hv
  have hx := B.exec
  have hb := B.bytes
  have hr := B.returns
  have hts := atoms_spec (ws := wsX7_against) B.pre
  have hown : s.vm.findClass RX7 = some m.cls := findClass_of_methodNamed B.named
  have hlocks := B.notSynchronized
  have hiX7 : ∀ w ∈ u_ws RX7 TX7 11, w ∈ wsX7_against := fun w h => List.mem_cons_of_mem _ (List.mem_append_left _ (List.mem_append_left _ (List.mem_append_right _ h)))
  have hiX6 : ∀ w ∈ u_ws RX6 TX6 11, w ∈ wsX7_against := fun w h => List.mem_cons_of_mem _ (List.mem_append_left _ (List.mem_append_right _ h))
  subst hsz
  have hD := hD0.self (sz := s.heap.size)
  generalize hAe : va_A ([cX7 a0 g0 o0, cX7_10 cI g0 o0, cX6 (g0 1) g1 o1, cX6_0 cI g1 o1, cX6_1 cI g1 o1, cX6_2 cI g1 o1, cX6_3 cI g1 o1, cX6_4 cI g1 o1, cX6_5 cI g1 o1, cX6_6 cI g1 o1, cX6_7 cI g1 o1, cX5 (g0 3) g2 o2, cX5_5 cI g2 o2, cX5_6 cI g2 o2]) s.heap.size = A at hD ⊢
  have hA : ∀ q : Nat, s.heap.size ≤ q → A q := fun q h => by rw [← hAe]; exact Or.inr h
  have hS : va_S A s.heap s.heap [] := va_S.rf
  have hP : va_P (dC, dI) vwCl ([cX7 a0 g0 o0, cX7_10 cI g0 o0, cX6 (g0 1) g1 o1, cX6_0 cI g1 o1, cX6_1 cI g1 o1, cX6_2 cI g1 o1, cX6_3 cI g1 o1, cX6_4 cI g1 o1, cX6_5 cI g1 o1, cX6_6 cI g1 o1, cX6_7 cI g1 o1, cX5 (g0 3) g2 o2, cX5_5 cI g2 o2, cX5_6 cI g2 o2]) s.heap := hP
  have hD : va_D A ([cX7 a0 g0 o0, cX7_10 cI g0 o0, cX6 (g0 1) g1 o1, cX6_0 cI g1 o1, cX6_1 cI g1 o1, cX6_2 cI g1 o1, cX6_3 cI g1 o1, cX6_4 cI g1 o1, cX6_5 cI g1 o1, cX6_6 cI g1 o1, cX6_7 cI g1 o1, cX5 (g0 3) g2 o2, cX5_5 cI g2 o2, cX5_6 cI g2 o2]) := hD
  have hl := lv_entry ([.ref a0, .int v1]) (n := 2) (Nat.le_of_ble_eq_true rfl)
  rw [lg_entry_eq]
  generalize (lg_sl ([.ref a0, .int v1]) ++ List.replicate (2 - (lg_sl ([.ref a0, .int v1])).length) Slot.unset).toArray = ls at hl ⊢
  have hl : lv_has ls 2 [(0, .ref a0), (1, .int v1)] := hl
  obtain ⟨Q, hQ⟩ : ∃ Q, Q = MQ below (Qq dC dI (some (.int r)) ([cX7 a0 g0 o0, cX7_10 cI g0 o0, cX6 (g0 1) g1 o1, cX6_0 cI g1 o1, cX6_1 cI g1 o1, cX6_2 cI g1 o1, cX6_3 cI g1 o1, cX6_4 cI g1 o1, cX6_5 cI g1 o1, cX6_6 cI g1 o1, cX6_7 cI g1 o1, cX5 (g0 3) g2 o2, cX5_5 cI g2 o2, cX5_6 cI g2 o2]) A) ([.ref a0, .int v1] : List Value).toArray s 0 0 A := ⟨_, rfl⟩
  rw [← hQ]
  rw [f_X7_against] at h
  clear hAe hD0
  refine lv_iload_n hx hb dX7_against_0 rfl (lv_at hl 1 rfl) ?_
  refine lv_iconst (v := (0 : Int32)) hx hb dX7_against_1 (by decide) ?_
  refine lv_aload_n hx hb dX7_against_2 rfl (lv_at hl 0 rfl) ?_
  refine va_get (D := (dC, dI)) (ci := 7) (v := .ref (g0 1)) (C := RX7) (T := TX7) (N := 11) hx hb hts hiX7 hown hKK.1 hP 0 rfl rfl 1 (by decide) (hts (.fieldLink RX7 19 "SlideLand" "told" "LSlideLand$Told;") (List.mem_of_getElem? (i := 1) rfl)) (fun _ h9 => h9) rfl dX7_against_3 ?_
  refine va_get (D := (dC, dI)) (ci := 6) (v := .int (o1.1 8)) (C := RX6) (T := TX6) (N := 11) hx hb hts hiX6 hown hKK.1 hP 2 rfl rfl 8 (by decide) (hts (.fieldLink RX7 105 "SlideLand$Told" "strips" "I") (List.mem_of_getElem? (i := 2) rfl)) (fun _ h9 => h9) rfl dX7_against_6 ?_
  refine lv_iconst (v := (1 : Int32)) hx hb dX7_against_9 (by decide) ?_
  refine lv_isub hx hb dX7_against_10 ?_
  obtain ⟨q1, hq1, h⟩ := bnd_e h
  refine kcS (rest := []) (w2 := ([cX7 a0 g0 o0, cX7_10 cI g0 o0, cX6 (g0 1) g1 o1, cX6_0 cI g1 o1, cX6_1 cI g1 o1, cX6_2 cI g1 o1, cX6_3 cI g1 o1, cX6_4 cI g1 o1, cX6_5 cI g1 o1, cX6_6 cI g1 o1, cX6_7 cI g1 o1, cX5 (g0 3) g2 o2, cX5_5 cI g2 o2, cX5_6 cI g2 o2])) hx hb hml hown hts hKK hP hD hS hA (c_X7_within l dC dI cB cI cZ cO v1 (0 : Int32) ((o1.1 8) - (1 : Int32)) hq1) [] (atAll_map trivial) (by decide +kernel) (sameAd_map trivial) (atAll_map trivial) (agr_refl _ _ _) (va_cwS 3 hts gX7_against_X7_within rfl rfl rfl dsc_X7_within ⟨Nat.le_of_ble_eq_true rfl, Nat.le_of_ble_eq_true rfl⟩) rfl hl.1 rfl (Nat.le_of_ble_eq_true rfl) dX7_against_11 ⟨Nat.zero_le _, Nat.zero_le _⟩ (fun H locs hP hD hS => ?_)
  refine lv_if_eq (tgt := 32) hx hb dX7_against_14 (by decide) (fun k2 => ?_) (fun k2 => ?_)
  · have h := ite_t k2 h
    refine lv_iconst (v := (-1 : Int32)) hx hb dX7_against_32 (by decide) ?_
    have h := Option.some.inj h
    subst h
    subst hQ
    exact W.iret (v := (-1 : Int32)) hx hb hr (fun t ht hW => ⟨⟨rfl, by rw [ht]; exact hP, hD⟩, hS.F ht⟩) hS.2.2 dX7_against_33
  · have h := ite_f k2 h
    refine lv_aload_n hx hb dX7_against_17 rfl (lv_at hl 0 rfl) ?_
    refine va_get (D := (dC, dI)) (ci := 7) (v := .ref (g0 3)) (C := RX7) (T := TX7) (N := 11) hx hb hts hiX7 hown hKK.1 hP 0 rfl rfl 3 (by decide) (hts (.fieldLink RX7 29 "SlideLand" "now" "LSlideLand$Stand;") (List.mem_of_getElem? (i := 3) rfl)) (fun _ h9 => h9) rfl dX7_against_18 ?_
    refine lv_aload_n hx hb dX7_against_21 rfl (lv_at hl 0 rfl) ?_
    refine va_get (D := (dC, dI)) (ci := 7) (v := .ref (g0 1)) (C := RX7) (T := TX7) (N := 11) hx hb hts hiX7 hown hKK.1 hP 0 rfl rfl 1 (by decide) (hts (.fieldLink RX7 19 "SlideLand" "told" "LSlideLand$Told;") (List.mem_of_getElem? (i := 1) rfl)) (fun _ h9 => h9) rfl dX7_against_22 ?_
    refine lv_iload_n hx hb dX7_against_25 rfl (lv_at hl 1 rfl) ?_
    obtain ⟨q3, hq3, h⟩ := obd_e h
    refine kcV (rest := []) (w2 := ([cX7 a0 g0 o0, cX7_10 cI g0 o0, cX6 (g0 1) g1 o1, cX6_0 cI g1 o1, cX6_1 cI g1 o1, cX6_2 cI g1 o1, cX6_3 cI g1 o1, cX6_4 cI g1 o1, cX6_5 cI g1 o1, cX6_6 cI g1 o1, cX6_7 cI g1 o1, cX5 (g0 3) g2 o2, cX5_5 cI g2 o2, cX5_6 cI g2 o2])) hx hb hml hown hts hKK hP hD hS hA (c_X5_againstBits l dC dI cB cI cZ cO (g0 3) g2 o2 (g0 1) g1 o1 v1 hq3) [11, 12, 13, 2, 3, 4, 5, 6, 7, 8, 9, 10] (atAll_map ⟨rfl, rfl, rfl, rfl, rfl, rfl, rfl, rfl, rfl, rfl, rfl, rfl, trivial⟩) (by decide +kernel) (sameAd_map ⟨rfl, rfl, rfl, rfl, rfl, rfl, rfl, rfl, rfl, rfl, rfl, rfl, trivial⟩) (atAll_map ⟨rfl, rfl, rfl, rfl, rfl, rfl, rfl, rfl, rfl, rfl, rfl, rfl, trivial⟩) (agr_refl _ _ _) (cwV 2 hts gX7_against_X5_againstBits rfl rfl rfl ⟨rfl, dsc_X5_againstBits⟩ ⟨Nat.le_of_ble_eq_true rfl, Nat.le_of_ble_eq_true rfl⟩) (va_recv hKK.1 hP (ci := 5) (q0 := 11) rfl rfl) rfl hl.1 rfl (Nat.le_of_ble_eq_true rfl) dX7_against_26 ⟨Nat.zero_le _, Nat.zero_le _⟩ (fun H locs hP hD hS => ?_)
    refine lv_goto (tgt := 33) hx hb dX7_against_29 (by decide) ?_
    have h := Option.some.inj h
    subst h
    subst hQ
    exact W.iret (v := q3) hx hb hr (fun t ht hW => ⟨⟨rfl, by rw [ht]; exact hP, hD⟩, hS.F ht⟩) hS.2.2 dX7_against_33
def f_X7_ask (o0 : Ob) (o1 : Ob) (o2 : Ob) (v1 : Int32) (v2 : Int32) (v3 : Int32) : Option (Int32 × Ob) := bnd (f_X7_within v1 (0 : Int32) ((o1.1 8) - (1 : Int32))) fun q1 : Bool => if (b2i q1) = 0 then (some ((-1 : Int32), o2)) else ((f_X6_isOfLand o1 v2 v3).bind fun q3 : Bool => if (b2i q3) = 0 then (some ((-1 : Int32), o2)) else (bnd (f_X7_oneOf v2 v3) fun q5 : Int32 => (f_X0_add o2 v1 q5).bind fun q6 : Bool × Ob => if (b2i q6.1) = 0 then (some ((-3 : Int32), q6.2)) else (some ((q6.2.1 2), q6.2))))
abbrev rmX7_ask : Room := { frames := 2, cells := 0, slots := 0, locals := 44 }
theorem dsc_X7_ask : yX7_ask.cls ≠ "java/lang/invoke/MethodHandle" ∧ yX7_ask.cls ≠ "java/lang/invoke/VarHandle" ∧ (parseMethodDescriptor yX7_ask.desc).map (fun d => d.parameters.length) = some 3 := by decide +kernel
set_option maxHeartbeats 4000000 in
set_option maxRecDepth 100000 in
theorem c_X7_ask (l : Launch) (dC : Nat → ClassId) (dI : Nat → Nat → Nat) (cB cI cZ cO : ClassId) (a0 : Nat) (g0 : Nat → Nat) (o0 : Ob) (g1 : Nat → Nat) (o1 : Ob) (g2 : Nat → Nat) (o2 : Ob) (v1 : Int32) (v2 : Int32) (v3 : Int32) {r : Int32 × Ob} (h : f_X7_ask o0 o1 o2 v1 v2 v3 = some r) : Ct dC dI cB cI cZ cO l yX7_ask wsX7_ask rmX7_ask [.ref a0, .int v1, .int v2, .int v3] ([cX7 a0 g0 o0, cX7_10 cI g0 o0, cX6 (g0 1) g1 o1, cX6_0 cI g1 o1, cX6_1 cI g1 o1, cX6_2 cI g1 o1, cX6_3 cI g1 o1, cX6_4 cI g1 o1, cX6_5 cI g1 o1, cX6_6 cI g1 o1, cX6_7 cI g1 o1, cX0 (g0 7) g2 o2, cX0_0 cI g2 o2, cX0_1 cI g2 o2]) (some (.int r.1)) ([cX7 a0 g0 o0, cX7_10 cI g0 o0, cX6 (g0 1) g1 o1, cX6_0 cI g1 o1, cX6_1 cI g1 o1, cX6_2 cI g1 o1, cX6_3 cI g1 o1, cX6_4 cI g1 o1, cX6_5 cI g1 o1, cX6_6 cI g1 o1, cX6_7 cI g1 o1, cX0 (g0 7) g2 r.2, cX0_0 cI g2 r.2, cX0_1 cI g2 r.2]) := by
  intro sz
  refine Met.ofW (cc := cX7_ask) (maxL := 4) (ret := (some .int)) (by decide) rfl ?_
  intro p e s m args below meth c s₁ B hml hv
  obtain ⟨rfl, hsz, hP, hKK, hD0⟩ := hv
  have hx := B.exec
  have hb := B.bytes
  have hr := B.returns
  have hts := atoms_spec (ws := wsX7_ask) B.pre
  have hown : s.vm.findClass RX7 = some m.cls := findClass_of_methodNamed B.named
  have hlocks := B.notSynchronized
  have hiX7 : ∀ w ∈ u_ws RX7 TX7 11, w ∈ wsX7_ask := fun w h => List.mem_cons_of_mem _ (List.mem_append_left _ (List.mem_append_left _ (List.mem_append_right _ h)))
  have hiX6 : ∀ w ∈ u_ws RX6 TX6 11, w ∈ wsX7_ask := fun w h => List.mem_cons_of_mem _ (List.mem_append_left _ (List.mem_append_right _ h))
  have hiX0 : ∀ w ∈ u_ws RX0 TX0 3, w ∈ wsX7_ask := fun w h => List.mem_cons_of_mem _ (List.mem_append_right _ h)
  subst hsz
  have hD := hD0.self (sz := s.heap.size)
  generalize hAe : va_A ([cX7 a0 g0 o0, cX7_10 cI g0 o0, cX6 (g0 1) g1 o1, cX6_0 cI g1 o1, cX6_1 cI g1 o1, cX6_2 cI g1 o1, cX6_3 cI g1 o1, cX6_4 cI g1 o1, cX6_5 cI g1 o1, cX6_6 cI g1 o1, cX6_7 cI g1 o1, cX0 (g0 7) g2 o2, cX0_0 cI g2 o2, cX0_1 cI g2 o2]) s.heap.size = A at hD ⊢
  have hA : ∀ q : Nat, s.heap.size ≤ q → A q := fun q h => by rw [← hAe]; exact Or.inr h
  have hS : va_S A s.heap s.heap [] := va_S.rf
  have hP : va_P (dC, dI) vwCl ([cX7 a0 g0 o0, cX7_10 cI g0 o0, cX6 (g0 1) g1 o1, cX6_0 cI g1 o1, cX6_1 cI g1 o1, cX6_2 cI g1 o1, cX6_3 cI g1 o1, cX6_4 cI g1 o1, cX6_5 cI g1 o1, cX6_6 cI g1 o1, cX6_7 cI g1 o1, cX0 (g0 7) g2 o2, cX0_0 cI g2 o2, cX0_1 cI g2 o2]) s.heap := hP
  have hD : va_D A ([cX7 a0 g0 o0, cX7_10 cI g0 o0, cX6 (g0 1) g1 o1, cX6_0 cI g1 o1, cX6_1 cI g1 o1, cX6_2 cI g1 o1, cX6_3 cI g1 o1, cX6_4 cI g1 o1, cX6_5 cI g1 o1, cX6_6 cI g1 o1, cX6_7 cI g1 o1, cX0 (g0 7) g2 o2, cX0_0 cI g2 o2, cX0_1 cI g2 o2]) := hD
  have hl := lv_entry ([.ref a0, .int v1, .int v2, .int v3]) (n := 4) (Nat.le_of_ble_eq_true rfl)
  rw [lg_entry_eq]
  generalize (lg_sl ([.ref a0, .int v1, .int v2, .int v3]) ++ List.replicate (4 - (lg_sl ([.ref a0, .int v1, .int v2, .int v3])).length) Slot.unset).toArray = ls at hl ⊢
  have hl : lv_has ls 4 [(0, .ref a0), (1, .int v1), (2, .int v2), (3, .int v3)] := hl
  obtain ⟨Q, hQ⟩ : ∃ Q, Q = MQ below (Qq dC dI (some (.int r.1)) ([cX7 a0 g0 o0, cX7_10 cI g0 o0, cX6 (g0 1) g1 o1, cX6_0 cI g1 o1, cX6_1 cI g1 o1, cX6_2 cI g1 o1, cX6_3 cI g1 o1, cX6_4 cI g1 o1, cX6_5 cI g1 o1, cX6_6 cI g1 o1, cX6_7 cI g1 o1, cX0 (g0 7) g2 r.2, cX0_0 cI g2 r.2, cX0_1 cI g2 r.2]) A) ([.ref a0, .int v1, .int v2, .int v3] : List Value).toArray s 0 0 A := ⟨_, rfl⟩
  rw [← hQ]
  rw [f_X7_ask] at h
  clear hAe hD0
  refine lv_iload_n hx hb dX7_ask_0 rfl (lv_at hl 1 rfl) ?_
  refine lv_iconst (v := (0 : Int32)) hx hb dX7_ask_1 (by decide) ?_
  refine lv_aload_n hx hb dX7_ask_2 rfl (lv_at hl 0 rfl) ?_
  refine va_get (D := (dC, dI)) (ci := 7) (v := .ref (g0 1)) (C := RX7) (T := TX7) (N := 11) hx hb hts hiX7 hown hKK.1 hP 0 rfl rfl 1 (by decide) (hts (.fieldLink RX7 19 "SlideLand" "told" "LSlideLand$Told;") (List.mem_of_getElem? (i := 1) rfl)) (fun _ h9 => h9) rfl dX7_ask_3 ?_
  refine va_get (D := (dC, dI)) (ci := 6) (v := .int (o1.1 8)) (C := RX6) (T := TX6) (N := 11) hx hb hts hiX6 hown hKK.1 hP 2 rfl rfl 8 (by decide) (hts (.fieldLink RX7 105 "SlideLand$Told" "strips" "I") (List.mem_of_getElem? (i := 2) rfl)) (fun _ h9 => h9) rfl dX7_ask_6 ?_
  refine lv_iconst (v := (1 : Int32)) hx hb dX7_ask_9 (by decide) ?_
  refine lv_isub hx hb dX7_ask_10 ?_
  obtain ⟨q1, hq1, h⟩ := bnd_e h
  refine kcS (rest := []) (w2 := ([cX7 a0 g0 o0, cX7_10 cI g0 o0, cX6 (g0 1) g1 o1, cX6_0 cI g1 o1, cX6_1 cI g1 o1, cX6_2 cI g1 o1, cX6_3 cI g1 o1, cX6_4 cI g1 o1, cX6_5 cI g1 o1, cX6_6 cI g1 o1, cX6_7 cI g1 o1, cX0 (g0 7) g2 o2, cX0_0 cI g2 o2, cX0_1 cI g2 o2])) hx hb hml hown hts hKK hP hD hS hA (c_X7_within l dC dI cB cI cZ cO v1 (0 : Int32) ((o1.1 8) - (1 : Int32)) hq1) [] (atAll_map trivial) (by decide +kernel) (sameAd_map trivial) (atAll_map trivial) (agr_refl _ _ _) (va_cwS 3 hts gX7_ask_X7_within rfl rfl rfl dsc_X7_within ⟨Nat.le_of_ble_eq_true rfl, Nat.le_of_ble_eq_true rfl⟩) rfl hl.1 rfl (Nat.le_of_ble_eq_true rfl) dX7_ask_11 ⟨Nat.zero_le _, Nat.zero_le _⟩ (fun H locs hP hD hS => ?_)
  refine lv_if_eq (tgt := 29) hx hb dX7_ask_14 (by decide) (fun k2 => ?_) (fun k2 => ?_)
  · have h := ite_t k2 h
    refine lv_iconst (v := (-1 : Int32)) hx hb dX7_ask_29 (by decide) ?_
    have h := Option.some.inj h
    subst h
    subst hQ
    exact W.iret (v := (-1 : Int32)) hx hb hr (fun t ht hW => ⟨⟨rfl, by rw [ht]; exact hP, hD⟩, hS.F ht⟩) hS.2.2 dX7_ask_30
  · have h := ite_f k2 h
    refine lv_aload_n hx hb dX7_ask_17 rfl (lv_at hl 0 rfl) ?_
    refine va_get (D := (dC, dI)) (ci := 7) (v := .ref (g0 1)) (C := RX7) (T := TX7) (N := 11) hx hb hts hiX7 hown hKK.1 hP 0 rfl rfl 1 (by decide) (hts (.fieldLink RX7 19 "SlideLand" "told" "LSlideLand$Told;") (List.mem_of_getElem? (i := 1) rfl)) (fun _ h9 => h9) rfl dX7_ask_18 ?_
    refine lv_iload_n hx hb dX7_ask_21 rfl (lv_at hl 2 rfl) ?_
    refine lv_iload_n hx hb dX7_ask_22 rfl (lv_at hl 3 rfl) ?_
    obtain ⟨q3, hq3, h⟩ := obd_e h
    refine kcV (rest := []) (w2 := ([cX7 a0 g0 o0, cX7_10 cI g0 o0, cX6 (g0 1) g1 o1, cX6_0 cI g1 o1, cX6_1 cI g1 o1, cX6_2 cI g1 o1, cX6_3 cI g1 o1, cX6_4 cI g1 o1, cX6_5 cI g1 o1, cX6_6 cI g1 o1, cX6_7 cI g1 o1, cX0 (g0 7) g2 o2, cX0_0 cI g2 o2, cX0_1 cI g2 o2])) hx hb hml hown hts hKK hP hD hS hA (c_X6_isOfLand l dC dI cB cI cZ cO (g0 1) g1 o1 v2 v3 hq3) [2, 3, 4, 5, 6, 7, 8, 9, 10] (atAll_map ⟨rfl, rfl, rfl, rfl, rfl, rfl, rfl, rfl, rfl, trivial⟩) (by decide +kernel) (sameAd_map ⟨rfl, rfl, rfl, rfl, rfl, rfl, rfl, rfl, rfl, trivial⟩) (atAll_map ⟨rfl, rfl, rfl, rfl, rfl, rfl, rfl, rfl, rfl, trivial⟩) (agr_refl _ _ _) (cwV 2 hts gX7_ask_X6_isOfLand rfl rfl rfl ⟨rfl, dsc_X6_isOfLand⟩ ⟨Nat.le_of_ble_eq_true rfl, Nat.le_of_ble_eq_true rfl⟩) (va_recv hKK.1 hP (ci := 6) (q0 := 2) rfl rfl) rfl hl.1 rfl (Nat.le_of_ble_eq_true rfl) dX7_ask_23 ⟨Nat.zero_le _, Nat.zero_le _⟩ (fun H locs hP hD hS => ?_)
    refine lv_if_ne (tgt := 31) hx hb dX7_ask_26 (by decide) (fun k4 => ?_) (fun k4 => ?_)
    · have h := ite_f k4 h
      refine lv_aload_n hx hb dX7_ask_31 rfl (lv_at hl 0 rfl) ?_
      refine va_get (D := (dC, dI)) (ci := 7) (v := .ref (g0 7)) (C := RX7) (T := TX7) (N := 11) hx hb hts hiX7 hown hKK.1 hP 0 rfl rfl 7 (by decide) (hts (.fieldLink RX7 51 "SlideLand" "asked" "LSlideLand$Asked;") (List.mem_of_getElem? (i := 3) rfl)) (fun _ h9 => h9) rfl dX7_ask_32 ?_
      refine lv_iload_n hx hb dX7_ask_35 rfl (lv_at hl 1 rfl) ?_
      refine lv_iload_n hx hb dX7_ask_36 rfl (lv_at hl 2 rfl) ?_
      refine lv_iload_n hx hb dX7_ask_37 rfl (lv_at hl 3 rfl) ?_
      obtain ⟨q5, hq5, h⟩ := bnd_e h
      refine kcS (rest := [.int v1, .ref (g0 7)]) (w2 := ([cX7 a0 g0 o0, cX7_10 cI g0 o0, cX6 (g0 1) g1 o1, cX6_0 cI g1 o1, cX6_1 cI g1 o1, cX6_2 cI g1 o1, cX6_3 cI g1 o1, cX6_4 cI g1 o1, cX6_5 cI g1 o1, cX6_6 cI g1 o1, cX6_7 cI g1 o1, cX0 (g0 7) g2 o2, cX0_0 cI g2 o2, cX0_1 cI g2 o2])) hx hb hml hown hts hKK hP hD hS hA (c_X7_oneOf l dC dI cB cI cZ cO v2 v3 hq5) [] (atAll_map trivial) (by decide +kernel) (sameAd_map trivial) (atAll_map trivial) (agr_refl _ _ _) (va_cwS 2 hts gX7_ask_X7_oneOf rfl rfl rfl dsc_X7_oneOf ⟨Nat.le_of_ble_eq_true rfl, Nat.le_of_ble_eq_true rfl⟩) rfl hl.1 rfl (Nat.le_of_ble_eq_true rfl) dX7_ask_38 ⟨Nat.zero_le _, Nat.zero_le _⟩ (fun H locs hP hD hS => ?_)
      obtain ⟨q6, hq6, h⟩ := obd_e h
      refine kcV (rest := []) (w2 := ([cX7 a0 g0 o0, cX7_10 cI g0 o0, cX6 (g0 1) g1 o1, cX6_0 cI g1 o1, cX6_1 cI g1 o1, cX6_2 cI g1 o1, cX6_3 cI g1 o1, cX6_4 cI g1 o1, cX6_5 cI g1 o1, cX6_6 cI g1 o1, cX6_7 cI g1 o1, cX0 (g0 7) g2 q6.2, cX0_0 cI g2 q6.2, cX0_1 cI g2 q6.2])) hx hb hml hown hts hKK hP hD hS hA (c_X0_add l dC dI cB cI cZ cO (g0 7) g2 o2 v1 q5 hq6) [11, 12, 13] (atAll_map ⟨rfl, rfl, rfl, trivial⟩) (by decide +kernel) (sameAd_map ⟨rfl, rfl, rfl, trivial⟩) (atAll_map ⟨rfl, rfl, rfl, trivial⟩) ⟨Or.inl rfl, Or.inl rfl, Or.inl rfl, Or.inl rfl, Or.inl rfl, Or.inl rfl, Or.inl rfl, Or.inl rfl, Or.inl rfl, Or.inl rfl, Or.inl rfl, Or.inr (by decide), Or.inr (by decide), Or.inr (by decide), trivial⟩ (cwV 2 hts gX7_ask_X0_add rfl rfl rfl ⟨rfl, dsc_X0_add⟩ ⟨Nat.le_of_ble_eq_true rfl, Nat.le_of_ble_eq_true rfl⟩) (va_recv hKK.1 hP (ci := 0) (q0 := 11) rfl rfl) rfl hl.1 rfl (Nat.le_of_ble_eq_true rfl) dX7_ask_41 ⟨Nat.zero_le _, Nat.zero_le _⟩ (fun H locs hP hD hS => ?_)
      refine lv_if_eq (tgt := 57) hx hb dX7_ask_44 (by decide) (fun k7 => ?_) (fun k7 => ?_)
      · have h := ite_t k7 h
        refine lv_bipush (v := (-3 : Int32)) hx hb dX7_ask_57 (by decide) ?_
        have h := Option.some.inj h
        subst h
        subst hQ
        exact W.iret (v := (-3 : Int32)) hx hb hr (fun t ht hW => ⟨⟨rfl, by rw [ht]; exact hP, hD⟩, hS.F ht⟩) hS.2.2 dX7_ask_59
      · have h := ite_f k7 h
        refine lv_aload_n hx hb dX7_ask_47 rfl (lv_at hl 0 rfl) ?_
        refine va_get (D := (dC, dI)) (ci := 7) (v := .ref (g0 7)) (C := RX7) (T := TX7) (N := 11) hx hb hts hiX7 hown hKK.1 hP 0 rfl rfl 7 (by decide) (hts (.fieldLink RX7 51 "SlideLand" "asked" "LSlideLand$Asked;") (List.mem_of_getElem? (i := 3) rfl)) (fun _ h9 => h9) rfl dX7_ask_48 ?_
        refine va_get (D := (dC, dI)) (ci := 0) (v := .int (q6.2.1 2)) (C := RX0) (T := TX0) (N := 3) hx hb hts hiX0 hown hKK.1 hP 11 rfl rfl 2 (by decide) (hts (.fieldLink RX7 112 "SlideLand$Asked" "size" "I") (List.mem_of_getElem? (i := 4) rfl)) (fun _ h9 => h9) rfl dX7_ask_51 ?_
        refine lv_goto (tgt := 59) hx hb dX7_ask_54 (by decide) ?_
        have h := Option.some.inj h
        subst h
        subst hQ
        exact W.iret (v := (q6.2.1 2)) hx hb hr (fun t ht hW => ⟨⟨rfl, by rw [ht]; exact hP, hD⟩, hS.F ht⟩) hS.2.2 dX7_ask_59
    · have h := ite_t k4 h
      refine lv_iconst (v := (-1 : Int32)) hx hb dX7_ask_29 (by decide) ?_
      have h := Option.some.inj h
      subst h
      subst hQ
      exact W.iret (v := (-1 : Int32)) hx hb hr (fun t ht hW => ⟨⟨rfl, by rw [ht]; exact hP, hD⟩, hS.F ht⟩) hS.2.2 dX7_ask_30
def f_X7_forget (o0 : Ob) (o1 : Ob) : Int32 × Ob := bnd (o1.1 2) fun x1 : Int32 => (x1, (stF o1 2 (0 : Int32)))
abbrev rmX7_forget : Room := { frames := 0, cells := 0, slots := 0, locals := 0 }
theorem dsc_X7_forget : yX7_forget.cls ≠ "java/lang/invoke/MethodHandle" ∧ yX7_forget.cls ≠ "java/lang/invoke/VarHandle" ∧ (parseMethodDescriptor yX7_forget.desc).map (fun d => d.parameters.length) = some 0 := by decide +kernel
set_option maxHeartbeats 4000000 in
set_option maxRecDepth 100000 in
theorem c_X7_forget (l : Launch) (dC : Nat → ClassId) (dI : Nat → Nat → Nat) (cB cI cZ cO : ClassId) (a0 : Nat) (g0 : Nat → Nat) (o0 : Ob) (g1 : Nat → Nat) (o1 : Ob) {r : Int32 × Ob} (h : f_X7_forget o0 o1 = r) : Ct dC dI cB cI cZ cO l yX7_forget wsX7_forget rmX7_forget [.ref a0] ([cX7 a0 g0 o0, cX7_10 cI g0 o0, cX0 (g0 7) g1 o1, cX0_0 cI g1 o1, cX0_1 cI g1 o1]) (some (.int r.1)) ([cX7 a0 g0 o0, cX7_10 cI g0 o0, cX0 (g0 7) g1 r.2, cX0_0 cI g1 r.2, cX0_1 cI g1 r.2]) := by
  intro sz
  refine Met.ofW (cc := cX7_forget) (maxL := 2) (ret := (some .int)) (by decide) rfl ?_
  intro p e s m args below meth c s₁ B hml hv
  obtain ⟨rfl, hsz, hP, hKK, hD0⟩ := hv
  have hx := B.exec
  have hb := B.bytes
  have hr := B.returns
  have hts := atoms_spec (ws := wsX7_forget) B.pre
  have hown : s.vm.findClass RX7 = some m.cls := findClass_of_methodNamed B.named
  have hlocks := B.notSynchronized
  have hiX7 : ∀ w ∈ u_ws RX7 TX7 11, w ∈ wsX7_forget := fun w h => List.mem_cons_of_mem _ (List.mem_append_left _ (List.mem_append_right _ h))
  have hiX0 : ∀ w ∈ u_ws RX0 TX0 3, w ∈ wsX7_forget := fun w h => List.mem_cons_of_mem _ (List.mem_append_right _ h)
  subst hsz
  have hD := hD0.self (sz := s.heap.size)
  generalize hAe : va_A ([cX7 a0 g0 o0, cX7_10 cI g0 o0, cX0 (g0 7) g1 o1, cX0_0 cI g1 o1, cX0_1 cI g1 o1]) s.heap.size = A at hD ⊢
  have hA : ∀ q : Nat, s.heap.size ≤ q → A q := fun q h => by rw [← hAe]; exact Or.inr h
  have hS : va_S A s.heap s.heap [] := va_S.rf
  have hP : va_P (dC, dI) vwCl ([cX7 a0 g0 o0, cX7_10 cI g0 o0, cX0 (g0 7) g1 o1, cX0_0 cI g1 o1, cX0_1 cI g1 o1]) s.heap := hP
  have hD : va_D A ([cX7 a0 g0 o0, cX7_10 cI g0 o0, cX0 (g0 7) g1 o1, cX0_0 cI g1 o1, cX0_1 cI g1 o1]) := hD
  have hl := lv_entry ([.ref a0]) (n := 2) (Nat.le_of_ble_eq_true rfl)
  rw [lg_entry_eq]
  generalize (lg_sl ([.ref a0]) ++ List.replicate (2 - (lg_sl ([.ref a0])).length) Slot.unset).toArray = ls at hl ⊢
  have hl : lv_has ls 2 [(0, .ref a0)] := hl
  obtain ⟨Q, hQ⟩ : ∃ Q, Q = MQ below (Qq dC dI (some (.int r.1)) ([cX7 a0 g0 o0, cX7_10 cI g0 o0, cX0 (g0 7) g1 r.2, cX0_0 cI g1 r.2, cX0_1 cI g1 r.2]) A) ([.ref a0] : List Value).toArray s 0 0 A := ⟨_, rfl⟩
  rw [← hQ]
  rw [f_X7_forget] at h
  clear hAe hD0
  refine lv_aload_n hx hb dX7_forget_0 rfl (lv_at hl 0 rfl) ?_
  refine va_get (D := (dC, dI)) (ci := 7) (v := .ref (g0 7)) (C := RX7) (T := TX7) (N := 11) hx hb hts hiX7 hown hKK.1 hP 0 rfl rfl 7 (by decide) (hts (.fieldLink RX7 51 "SlideLand" "asked" "LSlideLand$Asked;") (List.mem_of_getElem? (i := 1) rfl)) (fun _ h9 => h9) rfl dX7_forget_1 ?_
  refine va_get (D := (dC, dI)) (ci := 0) (v := .int (o1.1 2)) (C := RX0) (T := TX0) (N := 3) hx hb hts hiX0 hown hKK.1 hP 2 rfl rfl 2 (by decide) (hts (.fieldLink RX7 112 "SlideLand$Asked" "size" "I") (List.mem_of_getElem? (i := 2) rfl)) (fun _ h9 => h9) rfl dX7_forget_4 ?_
  obtain ⟨x1, hx1, h⟩ := bnd_e h
  refine lv_topE hx1 ?_
  refine lv_istore_n (lv' := [(1, .int x1), (0, .ref a0)]) hx hb dX7_forget_7 rfl hl (by decide) rfl (fun ls hl => ?_)
  refine lv_aload_n hx hb dX7_forget_8 rfl (lv_at hl 1 rfl) ?_
  refine va_get (D := (dC, dI)) (ci := 7) (v := .ref (g0 7)) (C := RX7) (T := TX7) (N := 11) hx hb hts hiX7 hown hKK.1 hP 0 rfl rfl 7 (by decide) (hts (.fieldLink RX7 51 "SlideLand" "asked" "LSlideLand$Asked;") (List.mem_of_getElem? (i := 1) rfl)) (fun _ h9 => h9) rfl dX7_forget_9 ?_
  refine lv_iconst (v := (0 : Int32)) hx hb dX7_forget_12 (by decide) ?_
  refine va_put (D := (dC, dI)) (ci := 0) (v := .int (0 : Int32)) (ty := .int) (C := RX0) (T := TX0) (N := 3) hx hb hts hiX0 tyX0 tyX0_ok nmX0 hown hKK.1 hP hD hS 2 rfl rfl 2 (by decide) (hts (.fieldLink RX7 112 "SlideLand$Asked" "size" "I") (List.mem_of_getElem? (i := 2) rfl)) (fun _ h9 => h9) rfl (by decide +kernel) rfl rfl (Nat.le_of_ble_eq_true rfl) dX7_forget_13 (fun H locs hP hD hS => ?_)
  have hP : va_P (dC, dI) vwCl ([cX7 a0 g0 o0, cX7_10 cI g0 o0, cX0 (g0 7) g1 (stF o1 2 (0 : Int32)), cX0_0 cI g1 (stF o1 2 (0 : Int32)), cX0_1 cI g1 (stF o1 2 (0 : Int32))]) H := hP
  have hD : va_D A ([cX7 a0 g0 o0, cX7_10 cI g0 o0, cX0 (g0 7) g1 (stF o1 2 (0 : Int32)), cX0_0 cI g1 (stF o1 2 (0 : Int32)), cX0_1 cI g1 (stF o1 2 (0 : Int32))]) := hD
  refine lv_iload_n hx hb dX7_forget_16 rfl (lv_at hl 0 rfl) ?_
  subst h
  subst hQ
  exact W.iret (v := x1) hx hb hr (fun t ht hW => ⟨⟨rfl, by rw [ht]; exact hP, hD⟩, hS.F ht⟩) hS.2.2 dX7_forget_17
def f_X7_meeting (o0 : Ob) (o1 : Ob) (o2 : Ob) (o3 : Ob) (o4 : Ob) (o5 : Ob) (v1 : Int32) : Option (Int32 × Ob × Ob) := if (-1 : Int32) ≤ v1 then ((f_X5_copy o3 o2).bind fun q2 : Ob => (f_X4_find o5 o1 q2 o4).bind fun q3 : Bool × Ob × Ob => if (b2i q3.1) = 0 then (some ((-4 : Int32), q3.2.2, q3.2.1)) else (if v1 = (-1 : Int32) then (some ((q3.2.1.1 7), q3.2.2, q3.2.1)) else (if (q3.2.1.1 7) ≤ v1 then (some ((-4 : Int32), q3.2.2, q3.2.1)) else ((f_X7_cell 9 (q3.2.1.2 6) v1).bind fun q7 : Int32 => some (q7, q3.2.2, q3.2.1))))) else (some ((-1 : Int32), o3, o5))
abbrev rmX7_meeting : Room := { frames := 6, cells := 0, slots := 0, locals := 141 }
theorem dsc_X7_meeting : yX7_meeting.cls ≠ "java/lang/invoke/MethodHandle" ∧ yX7_meeting.cls ≠ "java/lang/invoke/VarHandle" ∧ (parseMethodDescriptor yX7_meeting.desc).map (fun d => d.parameters.length) = some 1 := by decide +kernel
set_option maxHeartbeats 4000000 in
set_option maxRecDepth 100000 in
theorem c_X7_meeting (l : Launch) (dC : Nat → ClassId) (dI : Nat → Nat → Nat) (cB cI cZ cO : ClassId) (a0 : Nat) (g0 : Nat → Nat) (o0 : Ob) (g1 : Nat → Nat) (o1 : Ob) (g2 : Nat → Nat) (o2 : Ob) (g3 : Nat → Nat) (o3 : Ob) (g4 : Nat → Nat) (o4 : Ob) (g5 : Nat → Nat) (o5 : Ob) (v1 : Int32) {r : Int32 × Ob × Ob} (h : f_X7_meeting o0 o1 o2 o3 o4 o5 v1 = some r) : Ct dC dI cB cI cZ cO l yX7_meeting wsX7_meeting rmX7_meeting [.ref a0, .int v1] ([cX7 a0 g0 o0, cX7_10 cI g0 o0, cX6 (g0 1) g1 o1, cX6_0 cI g1 o1, cX6_1 cI g1 o1, cX6_2 cI g1 o1, cX6_3 cI g1 o1, cX6_4 cI g1 o1, cX6_5 cI g1 o1, cX6_6 cI g1 o1, cX6_7 cI g1 o1, cX5 (g0 3) g2 o2, cX5_5 cI g2 o2, cX5_6 cI g2 o2, cX5 (g0 4) g3 o3, cX5_5 cI g3 o3, cX5_6 cI g3 o3, cX0 (g0 7) g4 o4, cX0_0 cI g4 o4, cX0_1 cI g4 o4, cX4 (g0 8) g5 o5, cX4_0 cI g5 o5, cX4_1 cI g5 o5, cX4_2 cI g5 o5, cX4_3 cI g5 o5, cX4_4 cZ g5 o5, cX4_6 cI g5 o5]) (some (.int r.1)) ([cX7 a0 g0 o0, cX7_10 cI g0 o0, cX6 (g0 1) g1 o1, cX6_0 cI g1 o1, cX6_1 cI g1 o1, cX6_2 cI g1 o1, cX6_3 cI g1 o1, cX6_4 cI g1 o1, cX6_5 cI g1 o1, cX6_6 cI g1 o1, cX6_7 cI g1 o1, cX5 (g0 3) g2 o2, cX5_5 cI g2 o2, cX5_6 cI g2 o2, cX5 (g0 4) g3 r.2.1, cX5_5 cI g3 r.2.1, cX5_6 cI g3 r.2.1, cX0 (g0 7) g4 o4, cX0_0 cI g4 o4, cX0_1 cI g4 o4, cX4 (g0 8) g5 r.2.2, cX4_0 cI g5 r.2.2, cX4_1 cI g5 r.2.2, cX4_2 cI g5 r.2.2, cX4_3 cI g5 r.2.2, cX4_4 cZ g5 r.2.2, cX4_6 cI g5 r.2.2]) := by
  intro sz
  refine Met.ofW (cc := cX7_meeting) (maxL := 2) (ret := (some .int)) (by decide) rfl ?_
  intro p e s m args below meth c s₁ B hml hv
  obtain ⟨rfl, hsz, hP, hKK, hD0⟩ := hv
  have hx := B.exec
  have hb := B.bytes
  have hr := B.returns
  have hts := atoms_spec (ws := wsX7_meeting) B.pre
  have hown : s.vm.findClass RX7 = some m.cls := findClass_of_methodNamed B.named
  have hlocks := B.notSynchronized
  have hiX7 : ∀ w ∈ u_ws RX7 TX7 11, w ∈ wsX7_meeting := fun w h => List.mem_cons_of_mem _ (List.mem_append_left _ (List.mem_append_left _ (List.mem_append_left _ (List.mem_append_left _ (List.mem_append_right _ h)))))
  have hiX4 : ∀ w ∈ u_ws RX4 TX4 8, w ∈ wsX7_meeting := fun w h => List.mem_cons_of_mem _ (List.mem_append_left _ (List.mem_append_left _ (List.mem_append_left _ (List.mem_append_right _ h))))
  subst hsz
  have hD := hD0.self (sz := s.heap.size)
  generalize hAe : va_A ([cX7 a0 g0 o0, cX7_10 cI g0 o0, cX6 (g0 1) g1 o1, cX6_0 cI g1 o1, cX6_1 cI g1 o1, cX6_2 cI g1 o1, cX6_3 cI g1 o1, cX6_4 cI g1 o1, cX6_5 cI g1 o1, cX6_6 cI g1 o1, cX6_7 cI g1 o1, cX5 (g0 3) g2 o2, cX5_5 cI g2 o2, cX5_6 cI g2 o2, cX5 (g0 4) g3 o3, cX5_5 cI g3 o3, cX5_6 cI g3 o3, cX0 (g0 7) g4 o4, cX0_0 cI g4 o4, cX0_1 cI g4 o4, cX4 (g0 8) g5 o5, cX4_0 cI g5 o5, cX4_1 cI g5 o5, cX4_2 cI g5 o5, cX4_3 cI g5 o5, cX4_4 cZ g5 o5, cX4_6 cI g5 o5]) s.heap.size = A at hD ⊢
  have hA : ∀ q : Nat, s.heap.size ≤ q → A q := fun q h => by rw [← hAe]; exact Or.inr h
  have hS : va_S A s.heap s.heap [] := va_S.rf
  have hP : va_P (dC, dI) vwCl ([cX7 a0 g0 o0, cX7_10 cI g0 o0, cX6 (g0 1) g1 o1, cX6_0 cI g1 o1, cX6_1 cI g1 o1, cX6_2 cI g1 o1, cX6_3 cI g1 o1, cX6_4 cI g1 o1, cX6_5 cI g1 o1, cX6_6 cI g1 o1, cX6_7 cI g1 o1, cX5 (g0 3) g2 o2, cX5_5 cI g2 o2, cX5_6 cI g2 o2, cX5 (g0 4) g3 o3, cX5_5 cI g3 o3, cX5_6 cI g3 o3, cX0 (g0 7) g4 o4, cX0_0 cI g4 o4, cX0_1 cI g4 o4, cX4 (g0 8) g5 o5, cX4_0 cI g5 o5, cX4_1 cI g5 o5, cX4_2 cI g5 o5, cX4_3 cI g5 o5, cX4_4 cZ g5 o5, cX4_6 cI g5 o5]) s.heap := hP
  have hD : va_D A ([cX7 a0 g0 o0, cX7_10 cI g0 o0, cX6 (g0 1) g1 o1, cX6_0 cI g1 o1, cX6_1 cI g1 o1, cX6_2 cI g1 o1, cX6_3 cI g1 o1, cX6_4 cI g1 o1, cX6_5 cI g1 o1, cX6_6 cI g1 o1, cX6_7 cI g1 o1, cX5 (g0 3) g2 o2, cX5_5 cI g2 o2, cX5_6 cI g2 o2, cX5 (g0 4) g3 o3, cX5_5 cI g3 o3, cX5_6 cI g3 o3, cX0 (g0 7) g4 o4, cX0_0 cI g4 o4, cX0_1 cI g4 o4, cX4 (g0 8) g5 o5, cX4_0 cI g5 o5, cX4_1 cI g5 o5, cX4_2 cI g5 o5, cX4_3 cI g5 o5, cX4_4 cZ g5 o5, cX4_6 cI g5 o5]) := hD
  have hl := lv_entry ([.ref a0, .int v1]) (n := 2) (Nat.le_of_ble_eq_true rfl)
  rw [lg_entry_eq]
  generalize (lg_sl ([.ref a0, .int v1]) ++ List.replicate (2 - (lg_sl ([.ref a0, .int v1])).length) Slot.unset).toArray = ls at hl ⊢
  have hl : lv_has ls 2 [(0, .ref a0), (1, .int v1)] := hl
  obtain ⟨Q, hQ⟩ : ∃ Q, Q = MQ below (Qq dC dI (some (.int r.1)) ([cX7 a0 g0 o0, cX7_10 cI g0 o0, cX6 (g0 1) g1 o1, cX6_0 cI g1 o1, cX6_1 cI g1 o1, cX6_2 cI g1 o1, cX6_3 cI g1 o1, cX6_4 cI g1 o1, cX6_5 cI g1 o1, cX6_6 cI g1 o1, cX6_7 cI g1 o1, cX5 (g0 3) g2 o2, cX5_5 cI g2 o2, cX5_6 cI g2 o2, cX5 (g0 4) g3 r.2.1, cX5_5 cI g3 r.2.1, cX5_6 cI g3 r.2.1, cX0 (g0 7) g4 o4, cX0_0 cI g4 o4, cX0_1 cI g4 o4, cX4 (g0 8) g5 r.2.2, cX4_0 cI g5 r.2.2, cX4_1 cI g5 r.2.2, cX4_2 cI g5 r.2.2, cX4_3 cI g5 r.2.2, cX4_4 cZ g5 r.2.2, cX4_6 cI g5 r.2.2]) A) ([.ref a0, .int v1] : List Value).toArray s 0 0 A := ⟨_, rfl⟩
  rw [← hQ]
  rw [f_X7_meeting] at h
  clear hAe hD0
  refine lv_iload_n hx hb dX7_meeting_0 rfl (lv_at hl 1 rfl) ?_
  refine lv_iconst (v := (-1 : Int32)) hx hb dX7_meeting_1 (by decide) ?_
  refine lv_icmp_ge (tgt := 7) hx hb dX7_meeting_2 (by decide) (fun k1 => ?_) (fun k1 => ?_)
  · have h := ite_t k1 h
    refine lv_aload_n hx hb dX7_meeting_7 rfl (lv_at hl 0 rfl) ?_
    refine va_get (D := (dC, dI)) (ci := 7) (v := .ref (g0 4)) (C := RX7) (T := TX7) (N := 11) hx hb hts hiX7 hown hKK.1 hP 0 rfl rfl 4 (by decide) (hts (.fieldLink RX7 33 "SlideLand" "trial" "LSlideLand$Stand;") (List.mem_of_getElem? (i := 1) rfl)) (fun _ h9 => h9) rfl dX7_meeting_8 ?_
    refine lv_aload_n hx hb dX7_meeting_11 rfl (lv_at hl 0 rfl) ?_
    refine va_get (D := (dC, dI)) (ci := 7) (v := .ref (g0 3)) (C := RX7) (T := TX7) (N := 11) hx hb hts hiX7 hown hKK.1 hP 0 rfl rfl 3 (by decide) (hts (.fieldLink RX7 29 "SlideLand" "now" "LSlideLand$Stand;") (List.mem_of_getElem? (i := 2) rfl)) (fun _ h9 => h9) rfl dX7_meeting_12 ?_
    obtain ⟨q2, hq2, h⟩ := obd_e h
    refine kcV (rest := []) (w2 := ([cX7 a0 g0 o0, cX7_10 cI g0 o0, cX6 (g0 1) g1 o1, cX6_0 cI g1 o1, cX6_1 cI g1 o1, cX6_2 cI g1 o1, cX6_3 cI g1 o1, cX6_4 cI g1 o1, cX6_5 cI g1 o1, cX6_6 cI g1 o1, cX6_7 cI g1 o1, cX5 (g0 3) g2 o2, cX5_5 cI g2 o2, cX5_6 cI g2 o2, cX5 (g0 4) g3 q2, cX5_5 cI g3 q2, cX5_6 cI g3 q2, cX0 (g0 7) g4 o4, cX0_0 cI g4 o4, cX0_1 cI g4 o4, cX4 (g0 8) g5 o5, cX4_0 cI g5 o5, cX4_1 cI g5 o5, cX4_2 cI g5 o5, cX4_3 cI g5 o5, cX4_4 cZ g5 o5, cX4_6 cI g5 o5])) hx hb hml hown hts hKK hP hD hS hA (c_X5_copy l dC dI cB cI cZ cO (g0 4) g3 o3 (g0 3) g2 o2 hq2) [14, 15, 16, 11, 12, 13] (atAll_map ⟨rfl, rfl, rfl, rfl, rfl, rfl, trivial⟩) (by decide +kernel) (sameAd_map ⟨rfl, rfl, rfl, rfl, rfl, rfl, trivial⟩) (atAll_map ⟨rfl, rfl, rfl, rfl, rfl, rfl, trivial⟩) ⟨Or.inl rfl, Or.inl rfl, Or.inl rfl, Or.inl rfl, Or.inl rfl, Or.inl rfl, Or.inl rfl, Or.inl rfl, Or.inl rfl, Or.inl rfl, Or.inl rfl, Or.inl rfl, Or.inl rfl, Or.inl rfl, Or.inr (by decide), Or.inr (by decide), Or.inr (by decide), Or.inl rfl, Or.inl rfl, Or.inl rfl, Or.inl rfl, Or.inl rfl, Or.inl rfl, Or.inl rfl, Or.inl rfl, Or.inl rfl, Or.inl rfl, trivial⟩ (cwV 1 hts gX7_meeting_X5_copy rfl rfl rfl ⟨rfl, dsc_X5_copy⟩ ⟨Nat.le_of_ble_eq_true rfl, Nat.le_of_ble_eq_true rfl⟩) (va_recv hKK.1 hP (ci := 5) (q0 := 14) rfl rfl) rfl hl.1 rfl (Nat.le_of_ble_eq_true rfl) dX7_meeting_15 ⟨Nat.zero_le _, Nat.zero_le _⟩ (fun H locs hP hD hS => ?_)
    refine lv_aload_n hx hb dX7_meeting_18 rfl (lv_at hl 0 rfl) ?_
    refine va_get (D := (dC, dI)) (ci := 7) (v := .ref (g0 8)) (C := RX7) (T := TX7) (N := 11) hx hb hts hiX7 hown hKK.1 hP 0 rfl rfl 8 (by decide) (hts (.fieldLink RX7 58 "SlideLand" "route" "LSlideLand$Route;") (List.mem_of_getElem? (i := 3) rfl)) (fun _ h9 => h9) rfl dX7_meeting_19 ?_
    refine lv_aload_n hx hb dX7_meeting_22 rfl (lv_at hl 0 rfl) ?_
    refine va_get (D := (dC, dI)) (ci := 7) (v := .ref (g0 1)) (C := RX7) (T := TX7) (N := 11) hx hb hts hiX7 hown hKK.1 hP 0 rfl rfl 1 (by decide) (hts (.fieldLink RX7 19 "SlideLand" "told" "LSlideLand$Told;") (List.mem_of_getElem? (i := 4) rfl)) (fun _ h9 => h9) rfl dX7_meeting_23 ?_
    refine lv_aload_n hx hb dX7_meeting_26 rfl (lv_at hl 0 rfl) ?_
    refine va_get (D := (dC, dI)) (ci := 7) (v := .ref (g0 4)) (C := RX7) (T := TX7) (N := 11) hx hb hts hiX7 hown hKK.1 hP 0 rfl rfl 4 (by decide) (hts (.fieldLink RX7 33 "SlideLand" "trial" "LSlideLand$Stand;") (List.mem_of_getElem? (i := 1) rfl)) (fun _ h9 => h9) rfl dX7_meeting_27 ?_
    refine lv_aload_n hx hb dX7_meeting_30 rfl (lv_at hl 0 rfl) ?_
    refine va_get (D := (dC, dI)) (ci := 7) (v := .ref (g0 7)) (C := RX7) (T := TX7) (N := 11) hx hb hts hiX7 hown hKK.1 hP 0 rfl rfl 7 (by decide) (hts (.fieldLink RX7 51 "SlideLand" "asked" "LSlideLand$Asked;") (List.mem_of_getElem? (i := 5) rfl)) (fun _ h9 => h9) rfl dX7_meeting_31 ?_
    obtain ⟨q3, hq3, h⟩ := obd_e h
    refine kcV (rest := []) (w2 := ([cX7 a0 g0 o0, cX7_10 cI g0 o0, cX6 (g0 1) g1 o1, cX6_0 cI g1 o1, cX6_1 cI g1 o1, cX6_2 cI g1 o1, cX6_3 cI g1 o1, cX6_4 cI g1 o1, cX6_5 cI g1 o1, cX6_6 cI g1 o1, cX6_7 cI g1 o1, cX5 (g0 3) g2 o2, cX5_5 cI g2 o2, cX5_6 cI g2 o2, cX5 (g0 4) g3 q3.2.2, cX5_5 cI g3 q3.2.2, cX5_6 cI g3 q3.2.2, cX0 (g0 7) g4 o4, cX0_0 cI g4 o4, cX0_1 cI g4 o4, cX4 (g0 8) g5 q3.2.1, cX4_0 cI g5 q3.2.1, cX4_1 cI g5 q3.2.1, cX4_2 cI g5 q3.2.1, cX4_3 cI g5 q3.2.1, cX4_4 cZ g5 q3.2.1, cX4_6 cI g5 q3.2.1])) hx hb hml hown hts hKK hP hD hS hA (c_X4_find l dC dI cB cI cZ cO (g0 8) g5 o5 (g0 1) g1 o1 (g0 4) g3 q2 (g0 7) g4 o4 hq3) [20, 21, 22, 23, 24, 25, 26, 2, 3, 4, 5, 6, 7, 8, 9, 10, 14, 15, 16, 17, 18, 19] (atAll_map ⟨rfl, rfl, rfl, rfl, rfl, rfl, rfl, rfl, rfl, rfl, rfl, rfl, rfl, rfl, rfl, rfl, rfl, rfl, rfl, rfl, rfl, rfl, trivial⟩) (by decide +kernel) (sameAd_map ⟨rfl, rfl, rfl, rfl, rfl, rfl, rfl, rfl, rfl, rfl, rfl, rfl, rfl, rfl, rfl, rfl, rfl, rfl, rfl, rfl, rfl, rfl, trivial⟩) (atAll_map ⟨rfl, rfl, rfl, rfl, rfl, rfl, rfl, rfl, rfl, rfl, rfl, rfl, rfl, rfl, rfl, rfl, rfl, rfl, rfl, rfl, rfl, rfl, trivial⟩) ⟨Or.inl rfl, Or.inl rfl, Or.inl rfl, Or.inl rfl, Or.inl rfl, Or.inl rfl, Or.inl rfl, Or.inl rfl, Or.inl rfl, Or.inl rfl, Or.inl rfl, Or.inl rfl, Or.inl rfl, Or.inl rfl, Or.inr (by decide), Or.inr (by decide), Or.inr (by decide), Or.inl rfl, Or.inl rfl, Or.inl rfl, Or.inr (by decide), Or.inr (by decide), Or.inr (by decide), Or.inr (by decide), Or.inr (by decide), Or.inr (by decide), Or.inr (by decide), trivial⟩ (cwV 3 hts gX7_meeting_X4_find rfl rfl rfl ⟨rfl, dsc_X4_find⟩ ⟨Nat.le_of_ble_eq_true rfl, Nat.le_of_ble_eq_true rfl⟩) (va_recv hKK.1 hP (ci := 4) (q0 := 20) rfl rfl) rfl hl.1 rfl (Nat.le_of_ble_eq_true rfl) dX7_meeting_34 ⟨Nat.zero_le _, Nat.zero_le _⟩ (fun H locs hP hD hS => ?_)
    refine lv_if_ne (tgt := 43) hx hb dX7_meeting_37 (by decide) (fun k4 => ?_) (fun k4 => ?_)
    · have h := ite_f k4 h
      refine lv_iload_n hx hb dX7_meeting_43 rfl (lv_at hl 1 rfl) ?_
      refine lv_iconst (v := (-1 : Int32)) hx hb dX7_meeting_44 (by decide) ?_
      refine lv_icmp_ne (tgt := 56) hx hb dX7_meeting_45 (by decide) (fun k5 => ?_) (fun k5 => ?_)
      · have h := ite_f k5 h
        refine lv_iload_n hx hb dX7_meeting_56 rfl (lv_at hl 1 rfl) ?_
        refine lv_aload_n hx hb dX7_meeting_57 rfl (lv_at hl 0 rfl) ?_
        refine va_get (D := (dC, dI)) (ci := 7) (v := .ref (g0 8)) (C := RX7) (T := TX7) (N := 11) hx hb hts hiX7 hown hKK.1 hP 0 rfl rfl 8 (by decide) (hts (.fieldLink RX7 58 "SlideLand" "route" "LSlideLand$Route;") (List.mem_of_getElem? (i := 3) rfl)) (fun _ h9 => h9) rfl dX7_meeting_58 ?_
        refine va_get (D := (dC, dI)) (ci := 4) (v := .int (q3.2.1.1 7)) (C := RX4) (T := TX4) (N := 8) hx hb hts hiX4 hown hKK.1 hP 20 rfl rfl 7 (by decide) (hts (.fieldLink RX7 206 "SlideLand$Route" "length" "I") (List.mem_of_getElem? (i := 6) rfl)) (fun _ h9 => h9) rfl dX7_meeting_61 ?_
        refine lv_icmp_ge (tgt := 81) hx hb dX7_meeting_64 (by decide) (fun k6 => ?_) (fun k6 => ?_)
        · have h := ite_t k6 h
          refine lv_bipush (v := (-4 : Int32)) hx hb dX7_meeting_81 (by decide) ?_
          have h := Option.some.inj h
          subst h
          subst hQ
          exact W.iret (v := (-4 : Int32)) hx hb hr (fun t ht hW => ⟨⟨rfl, by rw [ht]; exact hP, hD⟩, hS.F ht⟩) hS.2.2 dX7_meeting_83
        · have h := ite_f k6 h
          refine lv_aload_n hx hb dX7_meeting_67 rfl (lv_at hl 0 rfl) ?_
          refine va_get (D := (dC, dI)) (ci := 7) (v := .ref (g0 8)) (C := RX7) (T := TX7) (N := 11) hx hb hts hiX7 hown hKK.1 hP 0 rfl rfl 8 (by decide) (hts (.fieldLink RX7 58 "SlideLand" "route" "LSlideLand$Route;") (List.mem_of_getElem? (i := 3) rfl)) (fun _ h9 => h9) rfl dX7_meeting_68 ?_
          refine va_get (D := (dC, dI)) (ci := 4) (v := .ref (g5 6)) (C := RX4) (T := TX4) (N := 8) hx hb hts hiX4 hown hKK.1 hP 20 rfl rfl 6 (by decide) (hts (.fieldLink RX7 208 "SlideLand$Route" "row" "[I") (List.mem_of_getElem? (i := 7) rfl)) (fun _ h9 => h9) rfl dX7_meeting_71 ?_
          refine lv_iload_n hx hb dX7_meeting_74 rfl (lv_at hl 1 rfl) ?_
          obtain ⟨q7, hq7, h⟩ := obd_e h
          refine kcS (rest := []) (w2 := ([cX7 a0 g0 o0, cX7_10 cI g0 o0, cX6 (g0 1) g1 o1, cX6_0 cI g1 o1, cX6_1 cI g1 o1, cX6_2 cI g1 o1, cX6_3 cI g1 o1, cX6_4 cI g1 o1, cX6_5 cI g1 o1, cX6_6 cI g1 o1, cX6_7 cI g1 o1, cX5 (g0 3) g2 o2, cX5_5 cI g2 o2, cX5_6 cI g2 o2, cX5 (g0 4) g3 q3.2.2, cX5_5 cI g3 q3.2.2, cX5_6 cI g3 q3.2.2, cX0 (g0 7) g4 o4, cX0_0 cI g4 o4, cX0_1 cI g4 o4, cX4 (g0 8) g5 q3.2.1, cX4_0 cI g5 q3.2.1, cX4_1 cI g5 q3.2.1, cX4_2 cI g5 q3.2.1, cX4_3 cI g5 q3.2.1, cX4_4 cZ g5 q3.2.1, cX4_6 cI g5 q3.2.1])) hx hb hml hown hts hKK hP hD hS hA (c_X7_cell l dC dI cB cI cZ cO (g5 6) 9 (q3.2.1.2 6) v1 hq7) [26] (atAll_map ⟨rfl, trivial⟩) (by decide +kernel) (sameAd_map ⟨rfl, trivial⟩) (atAll_map ⟨rfl, trivial⟩) (agr_refl _ _ _) (va_cwS 2 hts gX7_meeting_X7_cell rfl rfl rfl dsc_X7_cell ⟨Nat.le_of_ble_eq_true rfl, Nat.le_of_ble_eq_true rfl⟩) rfl hl.1 rfl (Nat.le_of_ble_eq_true rfl) dX7_meeting_75 ⟨Nat.zero_le _, Nat.zero_le _⟩ (fun H locs hP hD hS => ?_)
          refine lv_goto (tgt := 83) hx hb dX7_meeting_78 (by decide) ?_
          have h := Option.some.inj h
          subst h
          subst hQ
          exact W.iret (v := q7) hx hb hr (fun t ht hW => ⟨⟨rfl, by rw [ht]; exact hP, hD⟩, hS.F ht⟩) hS.2.2 dX7_meeting_83
      · have h := ite_t k5 h
        refine lv_aload_n hx hb dX7_meeting_48 rfl (lv_at hl 0 rfl) ?_
        refine va_get (D := (dC, dI)) (ci := 7) (v := .ref (g0 8)) (C := RX7) (T := TX7) (N := 11) hx hb hts hiX7 hown hKK.1 hP 0 rfl rfl 8 (by decide) (hts (.fieldLink RX7 58 "SlideLand" "route" "LSlideLand$Route;") (List.mem_of_getElem? (i := 3) rfl)) (fun _ h9 => h9) rfl dX7_meeting_49 ?_
        refine va_get (D := (dC, dI)) (ci := 4) (v := .int (q3.2.1.1 7)) (C := RX4) (T := TX4) (N := 8) hx hb hts hiX4 hown hKK.1 hP 20 rfl rfl 7 (by decide) (hts (.fieldLink RX7 206 "SlideLand$Route" "length" "I") (List.mem_of_getElem? (i := 6) rfl)) (fun _ h9 => h9) rfl dX7_meeting_52 ?_
        have h := Option.some.inj h
        subst h
        subst hQ
        exact W.iret (v := (q3.2.1.1 7)) hx hb hr (fun t ht hW => ⟨⟨rfl, by rw [ht]; exact hP, hD⟩, hS.F ht⟩) hS.2.2 dX7_meeting_55
    · have h := ite_t k4 h
      refine lv_bipush (v := (-4 : Int32)) hx hb dX7_meeting_40 (by decide) ?_
      have h := Option.some.inj h
      subst h
      subst hQ
      exact W.iret (v := (-4 : Int32)) hx hb hr (fun t ht hW => ⟨⟨rfl, by rw [ht]; exact hP, hD⟩, hS.F ht⟩) hS.2.2 dX7_meeting_42
  · have h := ite_f k1 h
    refine lv_iconst (v := (-1 : Int32)) hx hb dX7_meeting_5 (by decide) ?_
    have h := Option.some.inj h
    subst h
    subst hQ
    exact W.iret (v := (-1 : Int32)) hx hb hr (fun t ht hW => ⟨⟨rfl, by rw [ht]; exact hP, hD⟩, hS.F ht⟩) hS.2.2 dX7_meeting_6
def f_X7_shifts (o0 : Ob) (o1 : Ob) (o2 : Ob) (o3 : Ob) (o4 : Ob) (v1 : Int32) : Option (Int32 × Ob) := bnd (f_X7_within v1 (0 : Int32) (1 : Int32)) fun q1 : Bool => if (b2i q1) = 0 then (some ((-1 : Int32), o4)) else ((f_X1_findSo o4 o1 o3 (o2.1 3)).bind fun q3 : Ob => if v1 = 0 then (some ((q3.1 1), q3)) else (if (q3.1 1) ≤ 0 then (some ((-4 : Int32), q3)) else (some ((q3.1 2), q3))))
abbrev rmX7_shifts : Room := { frames := 5, cells := 0, slots := 0, locals := 118 }
theorem dsc_X7_shifts : yX7_shifts.cls ≠ "java/lang/invoke/MethodHandle" ∧ yX7_shifts.cls ≠ "java/lang/invoke/VarHandle" ∧ (parseMethodDescriptor yX7_shifts.desc).map (fun d => d.parameters.length) = some 1 := by decide +kernel
set_option maxHeartbeats 4000000 in
set_option maxRecDepth 100000 in
theorem c_X7_shifts (l : Launch) (dC : Nat → ClassId) (dI : Nat → Nat → Nat) (cB cI cZ cO : ClassId) (a0 : Nat) (g0 : Nat → Nat) (o0 : Ob) (g1 : Nat → Nat) (o1 : Ob) (g2 : Nat → Nat) (o2 : Ob) (g3 : Nat → Nat) (o3 : Ob) (g4 : Nat → Nat) (o4 : Ob) (v1 : Int32) {r : Int32 × Ob} (h : f_X7_shifts o0 o1 o2 o3 o4 v1 = some r) : Ct dC dI cB cI cZ cO l yX7_shifts wsX7_shifts rmX7_shifts [.ref a0, .int v1] ([cX7 a0 g0 o0, cX7_10 cI g0 o0, cX6 (g0 1) g1 o1, cX6_0 cI g1 o1, cX6_1 cI g1 o1, cX6_2 cI g1 o1, cX6_3 cI g1 o1, cX6_4 cI g1 o1, cX6_5 cI g1 o1, cX6_6 cI g1 o1, cX6_7 cI g1 o1, cX5 (g0 3) g2 o2, cX5_5 cI g2 o2, cX5_6 cI g2 o2, cX0 (g0 7) g3 o3, cX0_0 cI g3 o3, cX0_1 cI g3 o3, cX1 (g0 9) g4 o4, cX1_0 cZ g4 o4, cX1_3 cI g4 o4]) (some (.int r.1)) ([cX7 a0 g0 o0, cX7_10 cI g0 o0, cX6 (g0 1) g1 o1, cX6_0 cI g1 o1, cX6_1 cI g1 o1, cX6_2 cI g1 o1, cX6_3 cI g1 o1, cX6_4 cI g1 o1, cX6_5 cI g1 o1, cX6_6 cI g1 o1, cX6_7 cI g1 o1, cX5 (g0 3) g2 o2, cX5_5 cI g2 o2, cX5_6 cI g2 o2, cX0 (g0 7) g3 o3, cX0_0 cI g3 o3, cX0_1 cI g3 o3, cX1 (g0 9) g4 r.2, cX1_0 cZ g4 r.2, cX1_3 cI g4 r.2]) := by
  intro sz
  refine Met.ofW (cc := cX7_shifts) (maxL := 2) (ret := (some .int)) (by decide) rfl ?_
  intro p e s m args below meth c s₁ B hml hv
  obtain ⟨rfl, hsz, hP, hKK, hD0⟩ := hv
  have hx := B.exec
  have hb := B.bytes
  have hr := B.returns
  have hts := atoms_spec (ws := wsX7_shifts) B.pre
  have hown : s.vm.findClass RX7 = some m.cls := findClass_of_methodNamed B.named
  have hlocks := B.notSynchronized
  have hiX7 : ∀ w ∈ u_ws RX7 TX7 11, w ∈ wsX7_shifts := fun w h => List.mem_cons_of_mem _ (List.mem_append_left _ (List.mem_append_left _ (List.mem_append_left _ (List.mem_append_left _ (List.mem_append_right _ h)))))
  have hiX5 : ∀ w ∈ u_ws RX5 TX5 7, w ∈ wsX7_shifts := fun w h => List.mem_cons_of_mem _ (List.mem_append_left _ (List.mem_append_left _ (List.mem_append_left _ (List.mem_append_right _ h))))
  have hiX1 : ∀ w ∈ u_ws RX1 TX1 4, w ∈ wsX7_shifts := fun w h => List.mem_cons_of_mem _ (List.mem_append_left _ (List.mem_append_left _ (List.mem_append_right _ h)))
  subst hsz
  have hD := hD0.self (sz := s.heap.size)
  generalize hAe : va_A ([cX7 a0 g0 o0, cX7_10 cI g0 o0, cX6 (g0 1) g1 o1, cX6_0 cI g1 o1, cX6_1 cI g1 o1, cX6_2 cI g1 o1, cX6_3 cI g1 o1, cX6_4 cI g1 o1, cX6_5 cI g1 o1, cX6_6 cI g1 o1, cX6_7 cI g1 o1, cX5 (g0 3) g2 o2, cX5_5 cI g2 o2, cX5_6 cI g2 o2, cX0 (g0 7) g3 o3, cX0_0 cI g3 o3, cX0_1 cI g3 o3, cX1 (g0 9) g4 o4, cX1_0 cZ g4 o4, cX1_3 cI g4 o4]) s.heap.size = A at hD ⊢
  have hA : ∀ q : Nat, s.heap.size ≤ q → A q := fun q h => by rw [← hAe]; exact Or.inr h
  have hS : va_S A s.heap s.heap [] := va_S.rf
  have hP : va_P (dC, dI) vwCl ([cX7 a0 g0 o0, cX7_10 cI g0 o0, cX6 (g0 1) g1 o1, cX6_0 cI g1 o1, cX6_1 cI g1 o1, cX6_2 cI g1 o1, cX6_3 cI g1 o1, cX6_4 cI g1 o1, cX6_5 cI g1 o1, cX6_6 cI g1 o1, cX6_7 cI g1 o1, cX5 (g0 3) g2 o2, cX5_5 cI g2 o2, cX5_6 cI g2 o2, cX0 (g0 7) g3 o3, cX0_0 cI g3 o3, cX0_1 cI g3 o3, cX1 (g0 9) g4 o4, cX1_0 cZ g4 o4, cX1_3 cI g4 o4]) s.heap := hP
  have hD : va_D A ([cX7 a0 g0 o0, cX7_10 cI g0 o0, cX6 (g0 1) g1 o1, cX6_0 cI g1 o1, cX6_1 cI g1 o1, cX6_2 cI g1 o1, cX6_3 cI g1 o1, cX6_4 cI g1 o1, cX6_5 cI g1 o1, cX6_6 cI g1 o1, cX6_7 cI g1 o1, cX5 (g0 3) g2 o2, cX5_5 cI g2 o2, cX5_6 cI g2 o2, cX0 (g0 7) g3 o3, cX0_0 cI g3 o3, cX0_1 cI g3 o3, cX1 (g0 9) g4 o4, cX1_0 cZ g4 o4, cX1_3 cI g4 o4]) := hD
  have hl := lv_entry ([.ref a0, .int v1]) (n := 2) (Nat.le_of_ble_eq_true rfl)
  rw [lg_entry_eq]
  generalize (lg_sl ([.ref a0, .int v1]) ++ List.replicate (2 - (lg_sl ([.ref a0, .int v1])).length) Slot.unset).toArray = ls at hl ⊢
  have hl : lv_has ls 2 [(0, .ref a0), (1, .int v1)] := hl
  obtain ⟨Q, hQ⟩ : ∃ Q, Q = MQ below (Qq dC dI (some (.int r.1)) ([cX7 a0 g0 o0, cX7_10 cI g0 o0, cX6 (g0 1) g1 o1, cX6_0 cI g1 o1, cX6_1 cI g1 o1, cX6_2 cI g1 o1, cX6_3 cI g1 o1, cX6_4 cI g1 o1, cX6_5 cI g1 o1, cX6_6 cI g1 o1, cX6_7 cI g1 o1, cX5 (g0 3) g2 o2, cX5_5 cI g2 o2, cX5_6 cI g2 o2, cX0 (g0 7) g3 o3, cX0_0 cI g3 o3, cX0_1 cI g3 o3, cX1 (g0 9) g4 r.2, cX1_0 cZ g4 r.2, cX1_3 cI g4 r.2]) A) ([.ref a0, .int v1] : List Value).toArray s 0 0 A := ⟨_, rfl⟩
  rw [← hQ]
  rw [f_X7_shifts] at h
  clear hAe hD0
  refine lv_iload_n hx hb dX7_shifts_0 rfl (lv_at hl 1 rfl) ?_
  refine lv_iconst (v := (0 : Int32)) hx hb dX7_shifts_1 (by decide) ?_
  refine lv_iconst (v := (1 : Int32)) hx hb dX7_shifts_2 (by decide) ?_
  obtain ⟨q1, hq1, h⟩ := bnd_e h
  refine kcS (rest := []) (w2 := ([cX7 a0 g0 o0, cX7_10 cI g0 o0, cX6 (g0 1) g1 o1, cX6_0 cI g1 o1, cX6_1 cI g1 o1, cX6_2 cI g1 o1, cX6_3 cI g1 o1, cX6_4 cI g1 o1, cX6_5 cI g1 o1, cX6_6 cI g1 o1, cX6_7 cI g1 o1, cX5 (g0 3) g2 o2, cX5_5 cI g2 o2, cX5_6 cI g2 o2, cX0 (g0 7) g3 o3, cX0_0 cI g3 o3, cX0_1 cI g3 o3, cX1 (g0 9) g4 o4, cX1_0 cZ g4 o4, cX1_3 cI g4 o4])) hx hb hml hown hts hKK hP hD hS hA (c_X7_within l dC dI cB cI cZ cO v1 (0 : Int32) (1 : Int32) hq1) [] (atAll_map trivial) (by decide +kernel) (sameAd_map trivial) (atAll_map trivial) (agr_refl _ _ _) (va_cwS 3 hts gX7_shifts_X7_within rfl rfl rfl dsc_X7_within ⟨Nat.le_of_ble_eq_true rfl, Nat.le_of_ble_eq_true rfl⟩) rfl hl.1 rfl (Nat.le_of_ble_eq_true rfl) dX7_shifts_3 ⟨Nat.zero_le _, Nat.zero_le _⟩ (fun H locs hP hD hS => ?_)
  refine lv_if_ne (tgt := 11) hx hb dX7_shifts_6 (by decide) (fun k2 => ?_) (fun k2 => ?_)
  · have h := ite_f k2 h
    refine lv_aload_n hx hb dX7_shifts_11 rfl (lv_at hl 0 rfl) ?_
    refine va_get (D := (dC, dI)) (ci := 7) (v := .ref (g0 9)) (C := RX7) (T := TX7) (N := 11) hx hb hts hiX7 hown hKK.1 hP 0 rfl rfl 9 (by decide) (hts (.fieldLink RX7 65 "SlideLand" "byShift" "LSlideLand$ByShift;") (List.mem_of_getElem? (i := 1) rfl)) (fun _ h9 => h9) rfl dX7_shifts_12 ?_
    refine lv_aload_n hx hb dX7_shifts_15 rfl (lv_at hl 0 rfl) ?_
    refine va_get (D := (dC, dI)) (ci := 7) (v := .ref (g0 1)) (C := RX7) (T := TX7) (N := 11) hx hb hts hiX7 hown hKK.1 hP 0 rfl rfl 1 (by decide) (hts (.fieldLink RX7 19 "SlideLand" "told" "LSlideLand$Told;") (List.mem_of_getElem? (i := 2) rfl)) (fun _ h9 => h9) rfl dX7_shifts_16 ?_
    refine lv_aload_n hx hb dX7_shifts_19 rfl (lv_at hl 0 rfl) ?_
    refine va_get (D := (dC, dI)) (ci := 7) (v := .ref (g0 3)) (C := RX7) (T := TX7) (N := 11) hx hb hts hiX7 hown hKK.1 hP 0 rfl rfl 3 (by decide) (hts (.fieldLink RX7 29 "SlideLand" "now" "LSlideLand$Stand;") (List.mem_of_getElem? (i := 3) rfl)) (fun _ h9 => h9) rfl dX7_shifts_20 ?_
    refine va_get (D := (dC, dI)) (ci := 5) (v := .int (o2.1 3)) (C := RX5) (T := TX5) (N := 7) hx hb hts hiX5 hown hKK.1 hP 11 rfl rfl 3 (by decide) (hts (.fieldLink RX7 153 "SlideLand$Stand" "year" "I") (List.mem_of_getElem? (i := 4) rfl)) (fun _ h9 => h9) rfl dX7_shifts_23 ?_
    refine lv_aload_n hx hb dX7_shifts_26 rfl (lv_at hl 0 rfl) ?_
    refine va_get (D := (dC, dI)) (ci := 7) (v := .ref (g0 7)) (C := RX7) (T := TX7) (N := 11) hx hb hts hiX7 hown hKK.1 hP 0 rfl rfl 7 (by decide) (hts (.fieldLink RX7 51 "SlideLand" "asked" "LSlideLand$Asked;") (List.mem_of_getElem? (i := 5) rfl)) (fun _ h9 => h9) rfl dX7_shifts_27 ?_
    obtain ⟨q3, hq3, h⟩ := obd_e h
    refine kcV (rest := []) (w2 := ([cX7 a0 g0 o0, cX7_10 cI g0 o0, cX6 (g0 1) g1 o1, cX6_0 cI g1 o1, cX6_1 cI g1 o1, cX6_2 cI g1 o1, cX6_3 cI g1 o1, cX6_4 cI g1 o1, cX6_5 cI g1 o1, cX6_6 cI g1 o1, cX6_7 cI g1 o1, cX5 (g0 3) g2 o2, cX5_5 cI g2 o2, cX5_6 cI g2 o2, cX0 (g0 7) g3 o3, cX0_0 cI g3 o3, cX0_1 cI g3 o3, cX1 (g0 9) g4 q3, cX1_0 cZ g4 q3, cX1_3 cI g4 q3])) hx hb hml hown hts hKK hP hD hS hA (c_X1_findSo l dC dI cB cI cZ cO (g0 9) g4 o4 (g0 1) g1 o1 (g0 7) g3 o3 (o2.1 3) hq3) [17, 18, 19, 2, 3, 4, 5, 6, 7, 8, 9, 10, 14, 15, 16] (atAll_map ⟨rfl, rfl, rfl, rfl, rfl, rfl, rfl, rfl, rfl, rfl, rfl, rfl, rfl, rfl, rfl, trivial⟩) (by decide +kernel) (sameAd_map ⟨rfl, rfl, rfl, rfl, rfl, rfl, rfl, rfl, rfl, rfl, rfl, rfl, rfl, rfl, rfl, trivial⟩) (atAll_map ⟨rfl, rfl, rfl, rfl, rfl, rfl, rfl, rfl, rfl, rfl, rfl, rfl, rfl, rfl, rfl, trivial⟩) ⟨Or.inl rfl, Or.inl rfl, Or.inl rfl, Or.inl rfl, Or.inl rfl, Or.inl rfl, Or.inl rfl, Or.inl rfl, Or.inl rfl, Or.inl rfl, Or.inl rfl, Or.inl rfl, Or.inl rfl, Or.inl rfl, Or.inl rfl, Or.inl rfl, Or.inl rfl, Or.inr (by decide), Or.inr (by decide), Or.inr (by decide), trivial⟩ (cwV 3 hts gX7_shifts_X1_findSo rfl rfl rfl ⟨rfl, dsc_X1_findSo⟩ ⟨Nat.le_of_ble_eq_true rfl, Nat.le_of_ble_eq_true rfl⟩) (va_recv hKK.1 hP (ci := 1) (q0 := 17) rfl rfl) rfl hl.1 rfl (Nat.le_of_ble_eq_true rfl) dX7_shifts_30 ⟨Nat.zero_le _, Nat.zero_le _⟩ (fun H locs hP hD hS => ?_)
    refine lv_iload_n hx hb dX7_shifts_33 rfl (lv_at hl 1 rfl) ?_
    refine lv_if_ne (tgt := 45) hx hb dX7_shifts_34 (by decide) (fun k4 => ?_) (fun k4 => ?_)
    · have h := ite_f k4 h
      refine lv_aload_n hx hb dX7_shifts_45 rfl (lv_at hl 0 rfl) ?_
      refine va_get (D := (dC, dI)) (ci := 7) (v := .ref (g0 9)) (C := RX7) (T := TX7) (N := 11) hx hb hts hiX7 hown hKK.1 hP 0 rfl rfl 9 (by decide) (hts (.fieldLink RX7 65 "SlideLand" "byShift" "LSlideLand$ByShift;") (List.mem_of_getElem? (i := 1) rfl)) (fun _ h9 => h9) rfl dX7_shifts_46 ?_
      refine va_get (D := (dC, dI)) (ci := 1) (v := .int (q3.1 1)) (C := RX1) (T := TX1) (N := 4) hx hb hts hiX1 hown hKK.1 hP 17 rfl rfl 1 (by decide) (hts (.fieldLink RX7 215 "SlideLand$ByShift" "howManySo" "I") (List.mem_of_getElem? (i := 6) rfl)) (fun _ h9 => h9) rfl dX7_shifts_49 ?_
      refine lv_if_le (tgt := 65) hx hb dX7_shifts_52 (by decide) (fun k5 => ?_) (fun k5 => ?_)
      · have h := ite_t k5 h
        refine lv_bipush (v := (-4 : Int32)) hx hb dX7_shifts_65 (by decide) ?_
        have h := Option.some.inj h
        subst h
        subst hQ
        exact W.iret (v := (-4 : Int32)) hx hb hr (fun t ht hW => ⟨⟨rfl, by rw [ht]; exact hP, hD⟩, hS.F ht⟩) hS.2.2 dX7_shifts_67
      · have h := ite_f k5 h
        refine lv_aload_n hx hb dX7_shifts_55 rfl (lv_at hl 0 rfl) ?_
        refine va_get (D := (dC, dI)) (ci := 7) (v := .ref (g0 9)) (C := RX7) (T := TX7) (N := 11) hx hb hts hiX7 hown hKK.1 hP 0 rfl rfl 9 (by decide) (hts (.fieldLink RX7 65 "SlideLand" "byShift" "LSlideLand$ByShift;") (List.mem_of_getElem? (i := 1) rfl)) (fun _ h9 => h9) rfl dX7_shifts_56 ?_
        refine va_get (D := (dC, dI)) (ci := 1) (v := .int (q3.1 2)) (C := RX1) (T := TX1) (N := 4) hx hb hts hiX1 hown hKK.1 hP 17 rfl rfl 2 (by decide) (hts (.fieldLink RX7 218 "SlideLand$ByShift" "lowestSo" "I") (List.mem_of_getElem? (i := 7) rfl)) (fun _ h9 => h9) rfl dX7_shifts_59 ?_
        refine lv_goto (tgt := 67) hx hb dX7_shifts_62 (by decide) ?_
        have h := Option.some.inj h
        subst h
        subst hQ
        exact W.iret (v := (q3.1 2)) hx hb hr (fun t ht hW => ⟨⟨rfl, by rw [ht]; exact hP, hD⟩, hS.F ht⟩) hS.2.2 dX7_shifts_67
    · have h := ite_t k4 h
      refine lv_aload_n hx hb dX7_shifts_37 rfl (lv_at hl 0 rfl) ?_
      refine va_get (D := (dC, dI)) (ci := 7) (v := .ref (g0 9)) (C := RX7) (T := TX7) (N := 11) hx hb hts hiX7 hown hKK.1 hP 0 rfl rfl 9 (by decide) (hts (.fieldLink RX7 65 "SlideLand" "byShift" "LSlideLand$ByShift;") (List.mem_of_getElem? (i := 1) rfl)) (fun _ h9 => h9) rfl dX7_shifts_38 ?_
      refine va_get (D := (dC, dI)) (ci := 1) (v := .int (q3.1 1)) (C := RX1) (T := TX1) (N := 4) hx hb hts hiX1 hown hKK.1 hP 17 rfl rfl 1 (by decide) (hts (.fieldLink RX7 215 "SlideLand$ByShift" "howManySo" "I") (List.mem_of_getElem? (i := 6) rfl)) (fun _ h9 => h9) rfl dX7_shifts_41 ?_
      have h := Option.some.inj h
      subst h
      subst hQ
      exact W.iret (v := (q3.1 1)) hx hb hr (fun t ht hW => ⟨⟨rfl, by rw [ht]; exact hP, hD⟩, hS.F ht⟩) hS.2.2 dX7_shifts_44
  · have h := ite_t k2 h
    refine lv_iconst (v := (-1 : Int32)) hx hb dX7_shifts_9 (by decide) ?_
    have h := Option.some.inj h
    subst h
    subst hQ
    exact W.iret (v := (-1 : Int32)) hx hb hr (fun t ht hW => ⟨⟨rfl, by rw [ht]; exact hP, hD⟩, hS.F ht⟩) hS.2.2 dX7_shifts_10
def f_X7_most (o0 : Ob) (o1 : Ob) (o2 : Ob) (o3 : Ob) (v1 : Int32) : Option (Int32 × Ob) := bnd (f_X7_within v1 (0 : Int32) (1 : Int32)) fun q1 : Bool => if (b2i q1) = 0 then (some ((-1 : Int32), o3)) else ((f_X1_findPairs o3 o1 (o2.1 3)).bind fun q3 : Ob => (f_X1_lowestOfMostPairs q3).bind fun q4 : Int32 => if v1 = 0 then ((f_X7_cell 81 (q3.2 3) q4).bind fun q6 : Int32 => some (q6, q3)) else (some (q4, q3)))
abbrev rmX7_most : Room := { frames := 4, cells := 0, slots := 0, locals := 95 }
theorem dsc_X7_most : yX7_most.cls ≠ "java/lang/invoke/MethodHandle" ∧ yX7_most.cls ≠ "java/lang/invoke/VarHandle" ∧ (parseMethodDescriptor yX7_most.desc).map (fun d => d.parameters.length) = some 1 := by decide +kernel
set_option maxHeartbeats 4000000 in
set_option maxRecDepth 100000 in
theorem c_X7_most (l : Launch) (dC : Nat → ClassId) (dI : Nat → Nat → Nat) (cB cI cZ cO : ClassId) (a0 : Nat) (g0 : Nat → Nat) (o0 : Ob) (g1 : Nat → Nat) (o1 : Ob) (g2 : Nat → Nat) (o2 : Ob) (g3 : Nat → Nat) (o3 : Ob) (v1 : Int32) {r : Int32 × Ob} (h : f_X7_most o0 o1 o2 o3 v1 = some r) : Ct dC dI cB cI cZ cO l yX7_most wsX7_most rmX7_most [.ref a0, .int v1] ([cX7 a0 g0 o0, cX7_10 cI g0 o0, cX6 (g0 1) g1 o1, cX6_0 cI g1 o1, cX6_1 cI g1 o1, cX6_2 cI g1 o1, cX6_3 cI g1 o1, cX6_4 cI g1 o1, cX6_5 cI g1 o1, cX6_6 cI g1 o1, cX6_7 cI g1 o1, cX5 (g0 3) g2 o2, cX5_5 cI g2 o2, cX5_6 cI g2 o2, cX1 (g0 9) g3 o3, cX1_0 cZ g3 o3, cX1_3 cI g3 o3]) (some (.int r.1)) ([cX7 a0 g0 o0, cX7_10 cI g0 o0, cX6 (g0 1) g1 o1, cX6_0 cI g1 o1, cX6_1 cI g1 o1, cX6_2 cI g1 o1, cX6_3 cI g1 o1, cX6_4 cI g1 o1, cX6_5 cI g1 o1, cX6_6 cI g1 o1, cX6_7 cI g1 o1, cX5 (g0 3) g2 o2, cX5_5 cI g2 o2, cX5_6 cI g2 o2, cX1 (g0 9) g3 r.2, cX1_0 cZ g3 r.2, cX1_3 cI g3 r.2]) := by
  intro sz
  refine Met.ofW (cc := cX7_most) (maxL := 3) (ret := (some .int)) (by decide) rfl ?_
  intro p e s m args below meth c s₁ B hml hv
  obtain ⟨rfl, hsz, hP, hKK, hD0⟩ := hv
  have hx := B.exec
  have hb := B.bytes
  have hr := B.returns
  have hts := atoms_spec (ws := wsX7_most) B.pre
  have hown : s.vm.findClass RX7 = some m.cls := findClass_of_methodNamed B.named
  have hlocks := B.notSynchronized
  have hiX7 : ∀ w ∈ u_ws RX7 TX7 11, w ∈ wsX7_most := fun w h => List.mem_cons_of_mem _ (List.mem_append_left _ (List.mem_append_left _ (List.mem_append_left _ (List.mem_append_right _ h))))
  have hiX5 : ∀ w ∈ u_ws RX5 TX5 7, w ∈ wsX7_most := fun w h => List.mem_cons_of_mem _ (List.mem_append_left _ (List.mem_append_left _ (List.mem_append_right _ h)))
  have hiX1 : ∀ w ∈ u_ws RX1 TX1 4, w ∈ wsX7_most := fun w h => List.mem_cons_of_mem _ (List.mem_append_left _ (List.mem_append_right _ h))
  subst hsz
  have hD := hD0.self (sz := s.heap.size)
  generalize hAe : va_A ([cX7 a0 g0 o0, cX7_10 cI g0 o0, cX6 (g0 1) g1 o1, cX6_0 cI g1 o1, cX6_1 cI g1 o1, cX6_2 cI g1 o1, cX6_3 cI g1 o1, cX6_4 cI g1 o1, cX6_5 cI g1 o1, cX6_6 cI g1 o1, cX6_7 cI g1 o1, cX5 (g0 3) g2 o2, cX5_5 cI g2 o2, cX5_6 cI g2 o2, cX1 (g0 9) g3 o3, cX1_0 cZ g3 o3, cX1_3 cI g3 o3]) s.heap.size = A at hD ⊢
  have hA : ∀ q : Nat, s.heap.size ≤ q → A q := fun q h => by rw [← hAe]; exact Or.inr h
  have hS : va_S A s.heap s.heap [] := va_S.rf
  have hP : va_P (dC, dI) vwCl ([cX7 a0 g0 o0, cX7_10 cI g0 o0, cX6 (g0 1) g1 o1, cX6_0 cI g1 o1, cX6_1 cI g1 o1, cX6_2 cI g1 o1, cX6_3 cI g1 o1, cX6_4 cI g1 o1, cX6_5 cI g1 o1, cX6_6 cI g1 o1, cX6_7 cI g1 o1, cX5 (g0 3) g2 o2, cX5_5 cI g2 o2, cX5_6 cI g2 o2, cX1 (g0 9) g3 o3, cX1_0 cZ g3 o3, cX1_3 cI g3 o3]) s.heap := hP
  have hD : va_D A ([cX7 a0 g0 o0, cX7_10 cI g0 o0, cX6 (g0 1) g1 o1, cX6_0 cI g1 o1, cX6_1 cI g1 o1, cX6_2 cI g1 o1, cX6_3 cI g1 o1, cX6_4 cI g1 o1, cX6_5 cI g1 o1, cX6_6 cI g1 o1, cX6_7 cI g1 o1, cX5 (g0 3) g2 o2, cX5_5 cI g2 o2, cX5_6 cI g2 o2, cX1 (g0 9) g3 o3, cX1_0 cZ g3 o3, cX1_3 cI g3 o3]) := hD
  have hl := lv_entry ([.ref a0, .int v1]) (n := 3) (Nat.le_of_ble_eq_true rfl)
  rw [lg_entry_eq]
  generalize (lg_sl ([.ref a0, .int v1]) ++ List.replicate (3 - (lg_sl ([.ref a0, .int v1])).length) Slot.unset).toArray = ls at hl ⊢
  have hl : lv_has ls 3 [(0, .ref a0), (1, .int v1)] := hl
  obtain ⟨Q, hQ⟩ : ∃ Q, Q = MQ below (Qq dC dI (some (.int r.1)) ([cX7 a0 g0 o0, cX7_10 cI g0 o0, cX6 (g0 1) g1 o1, cX6_0 cI g1 o1, cX6_1 cI g1 o1, cX6_2 cI g1 o1, cX6_3 cI g1 o1, cX6_4 cI g1 o1, cX6_5 cI g1 o1, cX6_6 cI g1 o1, cX6_7 cI g1 o1, cX5 (g0 3) g2 o2, cX5_5 cI g2 o2, cX5_6 cI g2 o2, cX1 (g0 9) g3 r.2, cX1_0 cZ g3 r.2, cX1_3 cI g3 r.2]) A) ([.ref a0, .int v1] : List Value).toArray s 0 0 A := ⟨_, rfl⟩
  rw [← hQ]
  rw [f_X7_most] at h
  clear hAe hD0
  refine lv_iload_n hx hb dX7_most_0 rfl (lv_at hl 1 rfl) ?_
  refine lv_iconst (v := (0 : Int32)) hx hb dX7_most_1 (by decide) ?_
  refine lv_iconst (v := (1 : Int32)) hx hb dX7_most_2 (by decide) ?_
  obtain ⟨q1, hq1, h⟩ := bnd_e h
  refine kcS (rest := []) (w2 := ([cX7 a0 g0 o0, cX7_10 cI g0 o0, cX6 (g0 1) g1 o1, cX6_0 cI g1 o1, cX6_1 cI g1 o1, cX6_2 cI g1 o1, cX6_3 cI g1 o1, cX6_4 cI g1 o1, cX6_5 cI g1 o1, cX6_6 cI g1 o1, cX6_7 cI g1 o1, cX5 (g0 3) g2 o2, cX5_5 cI g2 o2, cX5_6 cI g2 o2, cX1 (g0 9) g3 o3, cX1_0 cZ g3 o3, cX1_3 cI g3 o3])) hx hb hml hown hts hKK hP hD hS hA (c_X7_within l dC dI cB cI cZ cO v1 (0 : Int32) (1 : Int32) hq1) [] (atAll_map trivial) (by decide +kernel) (sameAd_map trivial) (atAll_map trivial) (agr_refl _ _ _) (va_cwS 3 hts gX7_most_X7_within rfl rfl rfl dsc_X7_within ⟨Nat.le_of_ble_eq_true rfl, Nat.le_of_ble_eq_true rfl⟩) rfl hl.1 rfl (Nat.le_of_ble_eq_true rfl) dX7_most_3 ⟨Nat.zero_le _, Nat.zero_le _⟩ (fun H locs hP hD hS => ?_)
  refine lv_if_ne (tgt := 11) hx hb dX7_most_6 (by decide) (fun k2 => ?_) (fun k2 => ?_)
  · have h := ite_f k2 h
    refine lv_aload_n hx hb dX7_most_11 rfl (lv_at hl 0 rfl) ?_
    refine va_get (D := (dC, dI)) (ci := 7) (v := .ref (g0 9)) (C := RX7) (T := TX7) (N := 11) hx hb hts hiX7 hown hKK.1 hP 0 rfl rfl 9 (by decide) (hts (.fieldLink RX7 65 "SlideLand" "byShift" "LSlideLand$ByShift;") (List.mem_of_getElem? (i := 1) rfl)) (fun _ h9 => h9) rfl dX7_most_12 ?_
    refine lv_aload_n hx hb dX7_most_15 rfl (lv_at hl 0 rfl) ?_
    refine va_get (D := (dC, dI)) (ci := 7) (v := .ref (g0 1)) (C := RX7) (T := TX7) (N := 11) hx hb hts hiX7 hown hKK.1 hP 0 rfl rfl 1 (by decide) (hts (.fieldLink RX7 19 "SlideLand" "told" "LSlideLand$Told;") (List.mem_of_getElem? (i := 2) rfl)) (fun _ h9 => h9) rfl dX7_most_16 ?_
    refine lv_aload_n hx hb dX7_most_19 rfl (lv_at hl 0 rfl) ?_
    refine va_get (D := (dC, dI)) (ci := 7) (v := .ref (g0 3)) (C := RX7) (T := TX7) (N := 11) hx hb hts hiX7 hown hKK.1 hP 0 rfl rfl 3 (by decide) (hts (.fieldLink RX7 29 "SlideLand" "now" "LSlideLand$Stand;") (List.mem_of_getElem? (i := 3) rfl)) (fun _ h9 => h9) rfl dX7_most_20 ?_
    refine va_get (D := (dC, dI)) (ci := 5) (v := .int (o2.1 3)) (C := RX5) (T := TX5) (N := 7) hx hb hts hiX5 hown hKK.1 hP 11 rfl rfl 3 (by decide) (hts (.fieldLink RX7 153 "SlideLand$Stand" "year" "I") (List.mem_of_getElem? (i := 4) rfl)) (fun _ h9 => h9) rfl dX7_most_23 ?_
    obtain ⟨q3, hq3, h⟩ := obd_e h
    refine kcV (rest := []) (w2 := ([cX7 a0 g0 o0, cX7_10 cI g0 o0, cX6 (g0 1) g1 o1, cX6_0 cI g1 o1, cX6_1 cI g1 o1, cX6_2 cI g1 o1, cX6_3 cI g1 o1, cX6_4 cI g1 o1, cX6_5 cI g1 o1, cX6_6 cI g1 o1, cX6_7 cI g1 o1, cX5 (g0 3) g2 o2, cX5_5 cI g2 o2, cX5_6 cI g2 o2, cX1 (g0 9) g3 q3, cX1_0 cZ g3 q3, cX1_3 cI g3 q3])) hx hb hml hown hts hKK hP hD hS hA (c_X1_findPairs l dC dI cB cI cZ cO (g0 9) g3 o3 (g0 1) g1 o1 (o2.1 3) hq3) [14, 15, 16, 2, 3, 4, 5, 6, 7, 8, 9, 10] (atAll_map ⟨rfl, rfl, rfl, rfl, rfl, rfl, rfl, rfl, rfl, rfl, rfl, rfl, trivial⟩) (by decide +kernel) (sameAd_map ⟨rfl, rfl, rfl, rfl, rfl, rfl, rfl, rfl, rfl, rfl, rfl, rfl, trivial⟩) (atAll_map ⟨rfl, rfl, rfl, rfl, rfl, rfl, rfl, rfl, rfl, rfl, rfl, rfl, trivial⟩) ⟨Or.inl rfl, Or.inl rfl, Or.inl rfl, Or.inl rfl, Or.inl rfl, Or.inl rfl, Or.inl rfl, Or.inl rfl, Or.inl rfl, Or.inl rfl, Or.inl rfl, Or.inl rfl, Or.inl rfl, Or.inl rfl, Or.inr (by decide), Or.inr (by decide), Or.inr (by decide), trivial⟩ (cwV 2 hts gX7_most_X1_findPairs rfl rfl rfl ⟨rfl, dsc_X1_findPairs⟩ ⟨Nat.le_of_ble_eq_true rfl, Nat.le_of_ble_eq_true rfl⟩) (va_recv hKK.1 hP (ci := 1) (q0 := 14) rfl rfl) rfl hl.1 rfl (Nat.le_of_ble_eq_true rfl) dX7_most_26 ⟨Nat.zero_le _, Nat.zero_le _⟩ (fun H locs hP hD hS => ?_)
    refine lv_aload_n hx hb dX7_most_29 rfl (lv_at hl 0 rfl) ?_
    refine va_get (D := (dC, dI)) (ci := 7) (v := .ref (g0 9)) (C := RX7) (T := TX7) (N := 11) hx hb hts hiX7 hown hKK.1 hP 0 rfl rfl 9 (by decide) (hts (.fieldLink RX7 65 "SlideLand" "byShift" "LSlideLand$ByShift;") (List.mem_of_getElem? (i := 1) rfl)) (fun _ h9 => h9) rfl dX7_most_30 ?_
    obtain ⟨q4, hq4, h⟩ := obd_e h
    refine kcV (rest := []) (w2 := ([cX7 a0 g0 o0, cX7_10 cI g0 o0, cX6 (g0 1) g1 o1, cX6_0 cI g1 o1, cX6_1 cI g1 o1, cX6_2 cI g1 o1, cX6_3 cI g1 o1, cX6_4 cI g1 o1, cX6_5 cI g1 o1, cX6_6 cI g1 o1, cX6_7 cI g1 o1, cX5 (g0 3) g2 o2, cX5_5 cI g2 o2, cX5_6 cI g2 o2, cX1 (g0 9) g3 q3, cX1_0 cZ g3 q3, cX1_3 cI g3 q3])) hx hb hml hown hts hKK hP hD hS hA (c_X1_lowestOfMostPairs l dC dI cB cI cZ cO (g0 9) g3 q3 hq4) [14, 15, 16] (atAll_map ⟨rfl, rfl, rfl, trivial⟩) (by decide +kernel) (sameAd_map ⟨rfl, rfl, rfl, trivial⟩) (atAll_map ⟨rfl, rfl, rfl, trivial⟩) (agr_refl _ _ _) (cwV 0 hts gX7_most_X1_lowestOfMostPairs rfl rfl rfl ⟨rfl, dsc_X1_lowestOfMostPairs⟩ ⟨Nat.le_of_ble_eq_true rfl, Nat.le_of_ble_eq_true rfl⟩) (va_recv hKK.1 hP (ci := 1) (q0 := 14) rfl rfl) rfl hl.1 rfl (Nat.le_of_ble_eq_true rfl) dX7_most_33 ⟨Nat.zero_le _, Nat.zero_le _⟩ (fun H locs hP hD hS => ?_)
    refine lv_istore_n (lv' := [(2, .int q4), (0, .ref a0), (1, .int v1)]) hx hb dX7_most_36 rfl hl (by decide) rfl (fun ls hl => ?_)
    refine lv_iload_n hx hb dX7_most_37 rfl (lv_at hl 2 rfl) ?_
    refine lv_if_ne (tgt := 55) hx hb dX7_most_38 (by decide) (fun k5 => ?_) (fun k5 => ?_)
    · have h := ite_f k5 h
      refine lv_iload_n hx hb dX7_most_55 rfl (lv_at hl 0 rfl) ?_
      have h := Option.some.inj h
      subst h
      subst hQ
      exact W.iret (v := q4) hx hb hr (fun t ht hW => ⟨⟨rfl, by rw [ht]; exact hP, hD⟩, hS.F ht⟩) hS.2.2 dX7_most_56
    · have h := ite_t k5 h
      refine lv_aload_n hx hb dX7_most_41 rfl (lv_at hl 1 rfl) ?_
      refine va_get (D := (dC, dI)) (ci := 7) (v := .ref (g0 9)) (C := RX7) (T := TX7) (N := 11) hx hb hts hiX7 hown hKK.1 hP 0 rfl rfl 9 (by decide) (hts (.fieldLink RX7 65 "SlideLand" "byShift" "LSlideLand$ByShift;") (List.mem_of_getElem? (i := 1) rfl)) (fun _ h9 => h9) rfl dX7_most_42 ?_
      refine va_get (D := (dC, dI)) (ci := 1) (v := .ref (g3 3)) (C := RX1) (T := TX1) (N := 4) hx hb hts hiX1 hown hKK.1 hP 14 rfl rfl 3 (by decide) (hts (.fieldLink RX7 227 "SlideLand$ByShift" "pairs" "[I") (List.mem_of_getElem? (i := 5) rfl)) (fun _ h9 => h9) rfl dX7_most_45 ?_
      refine lv_iload_n hx hb dX7_most_48 rfl (lv_at hl 0 rfl) ?_
      obtain ⟨q6, hq6, h⟩ := obd_e h
      refine kcS (rest := []) (w2 := ([cX7 a0 g0 o0, cX7_10 cI g0 o0, cX6 (g0 1) g1 o1, cX6_0 cI g1 o1, cX6_1 cI g1 o1, cX6_2 cI g1 o1, cX6_3 cI g1 o1, cX6_4 cI g1 o1, cX6_5 cI g1 o1, cX6_6 cI g1 o1, cX6_7 cI g1 o1, cX5 (g0 3) g2 o2, cX5_5 cI g2 o2, cX5_6 cI g2 o2, cX1 (g0 9) g3 q3, cX1_0 cZ g3 q3, cX1_3 cI g3 q3])) hx hb hml hown hts hKK hP hD hS hA (c_X7_cell l dC dI cB cI cZ cO (g3 3) 81 (q3.2 3) q4 hq6) [16] (atAll_map ⟨rfl, trivial⟩) (by decide +kernel) (sameAd_map ⟨rfl, trivial⟩) (atAll_map ⟨rfl, trivial⟩) (agr_refl _ _ _) (va_cwS 2 hts gX7_most_X7_cell rfl rfl rfl dsc_X7_cell ⟨Nat.le_of_ble_eq_true rfl, Nat.le_of_ble_eq_true rfl⟩) rfl hl.1 rfl (Nat.le_of_ble_eq_true rfl) dX7_most_49 ⟨Nat.zero_le _, Nat.zero_le _⟩ (fun H locs hP hD hS => ?_)
      refine lv_goto (tgt := 56) hx hb dX7_most_52 (by decide) ?_
      have h := Option.some.inj h
      subst h
      subst hQ
      exact W.iret (v := q6) hx hb hr (fun t ht hW => ⟨⟨rfl, by rw [ht]; exact hP, hD⟩, hS.F ht⟩) hS.2.2 dX7_most_56
  · have h := ite_t k2 h
    refine lv_iconst (v := (-1 : Int32)) hx hb dX7_most_9 (by decide) ?_
    have h := Option.some.inj h
    subst h
    subst hQ
    exact W.iret (v := (-1 : Int32)) hx hb hr (fun t ht hW => ⟨⟨rfl, by rw [ht]; exact hP, hD⟩, hS.F ht⟩) hS.2.2 dX7_most_10
def f_X7_hut_55 (x18_4 : Int32) (kL18 : (Int32 → Int32 → Int32 → Option (Int32))) (x55_2 : Int32) (x55_3 : Int32) : Option (Int32) := bnd (x18_4 + (1 : Int32)) fun x6 : Int32 => kL18 x55_2 x55_3 x6
def f_X7_hut_18 (o1 : Ob) (o2 : Ob) (v1 : Int32) : Nat → Int32 → Int32 → Int32 → Option (Int32)
  | 0, _, _, _ => none
  | nn18+1, x18_2, x18_3, x18_4 => if (60 : Int32) < x18_4 then (if v1 = 0 then (some x18_2) else (some x18_3)) else ((f_X6_metFrom o1 x18_4 (o2.1 3)).bind fun q5 : Int32 => if q5 ≤ x18_2 then (f_X7_hut_55 x18_4 (f_X7_hut_18 o1 o2 v1 nn18) x18_2 x18_3) else (f_X7_hut_55 x18_4 (f_X7_hut_18 o1 o2 v1 nn18) q5 x18_4))
def f_X7_hut (o0 : Ob) (o1 : Ob) (o2 : Ob) (v1 : Int32) : Option (Int32) := bnd (f_X7_within v1 (0 : Int32) (1 : Int32)) fun q1 : Bool => if (b2i q1) = 0 then (some (-1 : Int32)) else (f_X7_hut_18 o1 o2 v1 FU (-1 : Int32) (0 : Int32) (0 : Int32))
abbrev rmX7_hut : Room := { frames := 4, cells := 0, slots := 0, locals := 90 }
theorem dsc_X7_hut : yX7_hut.cls ≠ "java/lang/invoke/MethodHandle" ∧ yX7_hut.cls ≠ "java/lang/invoke/VarHandle" ∧ (parseMethodDescriptor yX7_hut.desc).map (fun d => d.parameters.length) = some 1 := by decide +kernel
set_option maxHeartbeats 4000000 in
set_option maxRecDepth 100000 in
theorem c_X7_hut (l : Launch) (dC : Nat → ClassId) (dI : Nat → Nat → Nat) (cB cI cZ cO : ClassId) (a0 : Nat) (g0 : Nat → Nat) (o0 : Ob) (g1 : Nat → Nat) (o1 : Ob) (g2 : Nat → Nat) (o2 : Ob) (v1 : Int32) {r : Int32} (h : f_X7_hut o0 o1 o2 v1 = some r) : Ct dC dI cB cI cZ cO l yX7_hut wsX7_hut rmX7_hut [.ref a0, .int v1] ([cX7 a0 g0 o0, cX7_10 cI g0 o0, cX6 (g0 1) g1 o1, cX6_0 cI g1 o1, cX6_1 cI g1 o1, cX6_2 cI g1 o1, cX6_3 cI g1 o1, cX6_4 cI g1 o1, cX6_5 cI g1 o1, cX6_6 cI g1 o1, cX6_7 cI g1 o1, cX5 (g0 3) g2 o2, cX5_5 cI g2 o2, cX5_6 cI g2 o2]) (some (.int r)) ([cX7 a0 g0 o0, cX7_10 cI g0 o0, cX6 (g0 1) g1 o1, cX6_0 cI g1 o1, cX6_1 cI g1 o1, cX6_2 cI g1 o1, cX6_3 cI g1 o1, cX6_4 cI g1 o1, cX6_5 cI g1 o1, cX6_6 cI g1 o1, cX6_7 cI g1 o1, cX5 (g0 3) g2 o2, cX5_5 cI g2 o2, cX5_6 cI g2 o2]) := by
  intro sz
  refine Met.ofW (cc := cX7_hut) (maxL := 6) (ret := (some .int)) (by decide) rfl ?_
  intro p e s m args below meth c s₁ B hml hv
  obtain ⟨rfl, hsz, hP, hKK, hD0⟩ := hv
  have hx := B.exec
  have hb := B.bytes
  have hr := B.returns
  have hts := atoms_spec (ws := wsX7_hut) B.pre
  have hown : s.vm.findClass RX7 = some m.cls := findClass_of_methodNamed B.named
  have hlocks := B.notSynchronized
  have hiX7 : ∀ w ∈ u_ws RX7 TX7 11, w ∈ wsX7_hut := fun w h => List.mem_cons_of_mem _ (List.mem_append_left _ (List.mem_append_left _ (List.mem_append_right _ h)))
  have hiX5 : ∀ w ∈ u_ws RX5 TX5 7, w ∈ wsX7_hut := fun w h => List.mem_cons_of_mem _ (List.mem_append_left _ (List.mem_append_right _ h))
  subst hsz
  have hD := hD0.self (sz := s.heap.size)
  generalize hAe : va_A ([cX7 a0 g0 o0, cX7_10 cI g0 o0, cX6 (g0 1) g1 o1, cX6_0 cI g1 o1, cX6_1 cI g1 o1, cX6_2 cI g1 o1, cX6_3 cI g1 o1, cX6_4 cI g1 o1, cX6_5 cI g1 o1, cX6_6 cI g1 o1, cX6_7 cI g1 o1, cX5 (g0 3) g2 o2, cX5_5 cI g2 o2, cX5_6 cI g2 o2]) s.heap.size = A at hD ⊢
  have hA : ∀ q : Nat, s.heap.size ≤ q → A q := fun q h => by rw [← hAe]; exact Or.inr h
  have hS : va_S A s.heap s.heap [] := va_S.rf
  have hP : va_P (dC, dI) vwCl ([cX7 a0 g0 o0, cX7_10 cI g0 o0, cX6 (g0 1) g1 o1, cX6_0 cI g1 o1, cX6_1 cI g1 o1, cX6_2 cI g1 o1, cX6_3 cI g1 o1, cX6_4 cI g1 o1, cX6_5 cI g1 o1, cX6_6 cI g1 o1, cX6_7 cI g1 o1, cX5 (g0 3) g2 o2, cX5_5 cI g2 o2, cX5_6 cI g2 o2]) s.heap := hP
  have hD : va_D A ([cX7 a0 g0 o0, cX7_10 cI g0 o0, cX6 (g0 1) g1 o1, cX6_0 cI g1 o1, cX6_1 cI g1 o1, cX6_2 cI g1 o1, cX6_3 cI g1 o1, cX6_4 cI g1 o1, cX6_5 cI g1 o1, cX6_6 cI g1 o1, cX6_7 cI g1 o1, cX5 (g0 3) g2 o2, cX5_5 cI g2 o2, cX5_6 cI g2 o2]) := hD
  have hl := lv_entry ([.ref a0, .int v1]) (n := 6) (Nat.le_of_ble_eq_true rfl)
  rw [lg_entry_eq]
  generalize (lg_sl ([.ref a0, .int v1]) ++ List.replicate (6 - (lg_sl ([.ref a0, .int v1])).length) Slot.unset).toArray = ls at hl ⊢
  have hl : lv_has ls 6 [(0, .ref a0), (1, .int v1)] := hl
  obtain ⟨Q, hQ⟩ : ∃ Q, Q = MQ below (Qq dC dI (some (.int r)) ([cX7 a0 g0 o0, cX7_10 cI g0 o0, cX6 (g0 1) g1 o1, cX6_0 cI g1 o1, cX6_1 cI g1 o1, cX6_2 cI g1 o1, cX6_3 cI g1 o1, cX6_4 cI g1 o1, cX6_5 cI g1 o1, cX6_6 cI g1 o1, cX6_7 cI g1 o1, cX5 (g0 3) g2 o2, cX5_5 cI g2 o2, cX5_6 cI g2 o2]) A) ([.ref a0, .int v1] : List Value).toArray s 0 0 A := ⟨_, rfl⟩
  rw [← hQ]
  rw [f_X7_hut] at h
  clear hAe hD0
  refine lv_iload_n hx hb dX7_hut_0 rfl (lv_at hl 1 rfl) ?_
  refine lv_iconst (v := (0 : Int32)) hx hb dX7_hut_1 (by decide) ?_
  refine lv_iconst (v := (1 : Int32)) hx hb dX7_hut_2 (by decide) ?_
  obtain ⟨q1, hq1, h⟩ := bnd_e h
  refine kcS (rest := []) (w2 := ([cX7 a0 g0 o0, cX7_10 cI g0 o0, cX6 (g0 1) g1 o1, cX6_0 cI g1 o1, cX6_1 cI g1 o1, cX6_2 cI g1 o1, cX6_3 cI g1 o1, cX6_4 cI g1 o1, cX6_5 cI g1 o1, cX6_6 cI g1 o1, cX6_7 cI g1 o1, cX5 (g0 3) g2 o2, cX5_5 cI g2 o2, cX5_6 cI g2 o2])) hx hb hml hown hts hKK hP hD hS hA (c_X7_within l dC dI cB cI cZ cO v1 (0 : Int32) (1 : Int32) hq1) [] (atAll_map trivial) (by decide +kernel) (sameAd_map trivial) (atAll_map trivial) (agr_refl _ _ _) (va_cwS 3 hts gX7_hut_X7_within rfl rfl rfl dsc_X7_within ⟨Nat.le_of_ble_eq_true rfl, Nat.le_of_ble_eq_true rfl⟩) rfl hl.1 rfl (Nat.le_of_ble_eq_true rfl) dX7_hut_3 ⟨Nat.zero_le _, Nat.zero_le _⟩ (fun H locs hP hD hS => ?_)
  refine lv_if_ne (tgt := 11) hx hb dX7_hut_6 (by decide) (fun k2 => ?_) (fun k2 => ?_)
  · have h := ite_f k2 h
    refine lv_iconst (v := (-1 : Int32)) hx hb dX7_hut_11 (by decide) ?_
    refine lv_istore_n (lv' := [(2, .int (-1 : Int32)), (0, .ref a0), (1, .int v1)]) hx hb dX7_hut_12 rfl hl (by decide) rfl (fun ls hl => ?_)
    refine lv_iconst (v := (0 : Int32)) hx hb dX7_hut_13 (by decide) ?_
    refine lv_istore_n (lv' := [(3, .int (0 : Int32)), (2, .int (-1 : Int32)), (0, .ref a0), (1, .int v1)]) hx hb dX7_hut_14 rfl hl (by decide) rfl (fun ls hl => ?_)
    refine lv_iconst (v := (0 : Int32)) hx hb dX7_hut_15 (by decide) ?_
    refine lv_istore (lv' := [(4, .int (0 : Int32)), (3, .int (0 : Int32)), (2, .int (-1 : Int32)), (0, .ref a0), (1, .int v1)]) hx hb dX7_hut_16 hl (by decide) rfl (fun ls hl => ?_)
    have lp18 : ∀ (nn18 : Nat) (x18_2 : Int32) (x18_3 : Int32) (x18_4 : Int32), f_X7_hut_18 o1 o2 v1 nn18 x18_2 x18_3 x18_4 = some r → ∀ (H : Heap) (locs : List Loc) (ls : Array Slot), va_P (dC, dI) vwCl ([cX7 a0 g0 o0, cX7_10 cI g0 o0, cX6 (g0 1) g1 o1, cX6_0 cI g1 o1, cX6_1 cI g1 o1, cX6_2 cI g1 o1, cX6_3 cI g1 o1, cX6_4 cI g1 o1, cX6_5 cI g1 o1, cX6_6 cI g1 o1, cX6_7 cI g1 o1, cX5 (g0 3) g2 o2, cX5_5 cI g2 o2, cX5_6 cI g2 o2]) H → va_D A ([cX7 a0 g0 o0, cX7_10 cI g0 o0, cX6 (g0 1) g1 o1, cX6_0 cI g1 o1, cX6_1 cI g1 o1, cX6_2 cI g1 o1, cX6_3 cI g1 o1, cX6_4 cI g1 o1, cX6_5 cI g1 o1, cX6_6 cI g1 o1, cX6_7 cI g1 o1, cX5 (g0 3) g2 o2, cX5_5 cI g2 o2, cX5_6 cI g2 o2]) → va_S A s.heap H locs → lv_has ls 6 [(0, .ref a0), (1, .int v1), (2, .int x18_2), (3, .int x18_3), (4, .int x18_4)] → W p l e (headSpec wsX7_hut rmX7_hut).room s m ([.ref a0, .int v1] : List Value).toArray below meth c H locs 0 0 Q (F0 m 18 ls []) := by
      intro nn18
      induction nn18 with
      | zero => intro x18_2 x18_3 x18_4 h; rw [f_X7_hut_18] at h; cases h
      | succ nn18 ih18 =>
        intro x18_2 x18_3 x18_4 h H locs ls hP hD hS hl
        rw [f_X7_hut_18] at h
        refine lv_iload hx hb dX7_hut_18 (lv_at hl 4 rfl) ?_
        refine lv_bipush (v := (60 : Int32)) hx hb dX7_hut_20 (by decide) ?_
        refine lv_icmp_gt (tgt := 61) hx hb dX7_hut_22 (by decide) (fun k3 => ?_) (fun k3 => ?_)
        · have h := ite_t k3 h
          refine lv_iload_n hx hb dX7_hut_61 rfl (lv_at hl 1 rfl) ?_
          refine lv_if_ne (tgt := 69) hx hb dX7_hut_62 (by decide) (fun k4 => ?_) (fun k4 => ?_)
          · have h := ite_f k4 h
            refine lv_iload_n hx hb dX7_hut_69 rfl (lv_at hl 3 rfl) ?_
            have h := Option.some.inj h
            subst h
            subst hQ
            exact W.iret (v := x18_3) hx hb hr (fun t ht hW => ⟨⟨rfl, by rw [ht]; exact hP, hD⟩, hS.F ht⟩) hS.2.2 dX7_hut_70
          · have h := ite_t k4 h
            refine lv_iload_n hx hb dX7_hut_65 rfl (lv_at hl 2 rfl) ?_
            refine lv_goto (tgt := 70) hx hb dX7_hut_66 (by decide) ?_
            have h := Option.some.inj h
            subst h
            subst hQ
            exact W.iret (v := x18_2) hx hb hr (fun t ht hW => ⟨⟨rfl, by rw [ht]; exact hP, hD⟩, hS.F ht⟩) hS.2.2 dX7_hut_70
        · have h := ite_f k3 h
          refine lv_aload_n hx hb dX7_hut_25 rfl (lv_at hl 0 rfl) ?_
          refine va_get (D := (dC, dI)) (ci := 7) (v := .ref (g0 1)) (C := RX7) (T := TX7) (N := 11) hx hb hts hiX7 hown hKK.1 hP 0 rfl rfl 1 (by decide) (hts (.fieldLink RX7 19 "SlideLand" "told" "LSlideLand$Told;") (List.mem_of_getElem? (i := 1) rfl)) (fun _ h9 => h9) rfl dX7_hut_26 ?_
          refine lv_iload hx hb dX7_hut_29 (lv_at hl 4 rfl) ?_
          refine lv_aload_n hx hb dX7_hut_31 rfl (lv_at hl 0 rfl) ?_
          refine va_get (D := (dC, dI)) (ci := 7) (v := .ref (g0 3)) (C := RX7) (T := TX7) (N := 11) hx hb hts hiX7 hown hKK.1 hP 0 rfl rfl 3 (by decide) (hts (.fieldLink RX7 29 "SlideLand" "now" "LSlideLand$Stand;") (List.mem_of_getElem? (i := 2) rfl)) (fun _ h9 => h9) rfl dX7_hut_32 ?_
          refine va_get (D := (dC, dI)) (ci := 5) (v := .int (o2.1 3)) (C := RX5) (T := TX5) (N := 7) hx hb hts hiX5 hown hKK.1 hP 11 rfl rfl 3 (by decide) (hts (.fieldLink RX7 153 "SlideLand$Stand" "year" "I") (List.mem_of_getElem? (i := 3) rfl)) (fun _ h9 => h9) rfl dX7_hut_35 ?_
          obtain ⟨q5, hq5, h⟩ := obd_e h
          refine kcV (rest := []) (w2 := ([cX7 a0 g0 o0, cX7_10 cI g0 o0, cX6 (g0 1) g1 o1, cX6_0 cI g1 o1, cX6_1 cI g1 o1, cX6_2 cI g1 o1, cX6_3 cI g1 o1, cX6_4 cI g1 o1, cX6_5 cI g1 o1, cX6_6 cI g1 o1, cX6_7 cI g1 o1, cX5 (g0 3) g2 o2, cX5_5 cI g2 o2, cX5_6 cI g2 o2])) hx hb hml hown hts hKK hP hD hS hA (c_X6_metFrom l dC dI cB cI cZ cO (g0 1) g1 o1 x18_4 (o2.1 3) hq5) [2, 3, 4, 5, 6, 7, 8, 9, 10] (atAll_map ⟨rfl, rfl, rfl, rfl, rfl, rfl, rfl, rfl, rfl, trivial⟩) (by decide +kernel) (sameAd_map ⟨rfl, rfl, rfl, rfl, rfl, rfl, rfl, rfl, rfl, trivial⟩) (atAll_map ⟨rfl, rfl, rfl, rfl, rfl, rfl, rfl, rfl, rfl, trivial⟩) (agr_refl _ _ _) (cwV 2 hts gX7_hut_X6_metFrom rfl rfl rfl ⟨rfl, dsc_X6_metFrom⟩ ⟨Nat.le_of_ble_eq_true rfl, Nat.le_of_ble_eq_true rfl⟩) (va_recv hKK.1 hP (ci := 6) (q0 := 2) rfl rfl) rfl hl.1 rfl (Nat.le_of_ble_eq_true rfl) dX7_hut_38 ⟨Nat.zero_le _, Nat.zero_le _⟩ (fun H locs hP hD hS => ?_)
          refine lv_istore (lv' := [(5, .int q5), (0, .ref a0), (1, .int v1), (2, .int x18_2), (3, .int x18_3), (4, .int x18_4)]) hx hb dX7_hut_41 hl (by decide) rfl (fun ls hl => ?_)
          refine lv_iload hx hb dX7_hut_43 (lv_at hl 0 rfl) ?_
          refine lv_iload_n hx hb dX7_hut_45 rfl (lv_at hl 3 rfl) ?_
          have jn55 : ∀ (x55_2 : Int32) (x55_3 : Int32), f_X7_hut_55 x18_4 (f_X7_hut_18 o1 o2 v1 nn18) x55_2 x55_3 = some r → ∀ (H : Heap) (locs : List Loc) (ls : Array Slot), va_P (dC, dI) vwCl ([cX7 a0 g0 o0, cX7_10 cI g0 o0, cX6 (g0 1) g1 o1, cX6_0 cI g1 o1, cX6_1 cI g1 o1, cX6_2 cI g1 o1, cX6_3 cI g1 o1, cX6_4 cI g1 o1, cX6_5 cI g1 o1, cX6_6 cI g1 o1, cX6_7 cI g1 o1, cX5 (g0 3) g2 o2, cX5_5 cI g2 o2, cX5_6 cI g2 o2]) H → va_D A ([cX7 a0 g0 o0, cX7_10 cI g0 o0, cX6 (g0 1) g1 o1, cX6_0 cI g1 o1, cX6_1 cI g1 o1, cX6_2 cI g1 o1, cX6_3 cI g1 o1, cX6_4 cI g1 o1, cX6_5 cI g1 o1, cX6_6 cI g1 o1, cX6_7 cI g1 o1, cX5 (g0 3) g2 o2, cX5_5 cI g2 o2, cX5_6 cI g2 o2]) → va_S A s.heap H locs → lv_has ls 6 [(0, .ref a0), (1, .int v1), (2, .int x55_2), (3, .int x55_3), (4, .int x18_4)] → W p l e (headSpec wsX7_hut rmX7_hut).room s m ([.ref a0, .int v1] : List Value).toArray below meth c H locs 0 0 Q (F0 m 55 ls []) := by
            intro x55_2 x55_3 h H locs ls hP hD hS hl
            rw [f_X7_hut_55] at h
            obtain ⟨x6, hx6, h⟩ := bnd_e h
            refine lv_iinc (v := x6) (lv' := [(4, .int x6), (0, .ref a0), (1, .int v1), (2, .int x55_2), (3, .int x55_3)]) hx hb dX7_hut_55 hl (k := 4) rfl (by rw [← hx6]; rfl) (by decide) rfl (fun ls hl => ?_)
            refine lv_goto (tgt := 18) hx hb dX7_hut_58 (by decide) ?_
            exact ih18 x55_2 x55_3 x6 h _ _ _ hP hD hS (lv_sub hl [1, 2, 3, 4, 0] rfl)
          refine lv_icmp_le (tgt := 55) hx hb dX7_hut_46 (by decide) (fun k7 => ?_) (fun k7 => ?_)
          · have h := ite_t k7 h
            exact jn55 x18_2 x18_3 h _ _ _ hP hD hS (lv_sub hl [1, 2, 3, 4, 5] rfl)
          · have h := ite_f k7 h
            refine lv_iload hx hb dX7_hut_49 (lv_at hl 0 rfl) ?_
            refine lv_istore_n (lv' := [(2, .int q5), (5, .int q5), (0, .ref a0), (1, .int v1), (3, .int x18_3), (4, .int x18_4)]) hx hb dX7_hut_51 rfl hl (by decide) rfl (fun ls hl => ?_)
            refine lv_iload hx hb dX7_hut_52 (lv_at hl 5 rfl) ?_
            refine lv_istore_n (lv' := [(3, .int x18_4), (2, .int q5), (5, .int q5), (0, .ref a0), (1, .int v1), (4, .int x18_4)]) hx hb dX7_hut_54 rfl hl (by decide) rfl (fun ls hl => ?_)
            exact jn55 q5 x18_4 h _ _ _ hP hD hS (lv_sub hl [3, 4, 1, 0, 5] rfl)
    exact lp18 FU (-1 : Int32) (0 : Int32) (0 : Int32) h _ _ _ hP hD hS (lv_sub hl [3, 4, 2, 1, 0] rfl)
  · have h := ite_t k2 h
    refine lv_iconst (v := (-1 : Int32)) hx hb dX7_hut_9 (by decide) ?_
    have h := Option.some.inj h
    subst h
    subst hQ
    exact W.iret (v := (-1 : Int32)) hx hb hr (fun t ht hW => ⟨⟨rfl, by rw [ht]; exact hP, hD⟩, hS.F ht⟩) hS.2.2 dX7_hut_10
