def f_X7_behind (o0 : Ob) (o1 : Ob) (o2 : Ob) (o3 : Ob) (v1 : Int32) (v2 : Int32) : Option (Int32 × Ob) := bnd (f_X7_within v1 (0 : Int32) (40 : Int32)) fun q1 : Bool => if (b2i q1) = 0 then (some ((-1 : Int32), o3)) else (bnd (f_X7_within v2 (0 : Int32) ((o1.1 8) - (1 : Int32))) fun q3 : Bool => if (b2i q3) = 0 then (some ((-1 : Int32), o3)) else ((f_X5_copy o3 o2).bind fun q5 : Ob => (f_X5_trade q5 o1 v1).bind fun q6 : Ob => (f_X7_cell 7 (q6.2 5) v2).bind fun q7 : Int32 => some (q7, q6)))
abbrev rmX7_behind : Room := { frames := 5, cells := 0, slots := 0, locals := 117 }
theorem dsc_X7_behind : yX7_behind.cls ≠ "java/lang/invoke/MethodHandle" ∧ yX7_behind.cls ≠ "java/lang/invoke/VarHandle" ∧ (parseMethodDescriptor yX7_behind.desc).map (fun d => d.parameters.length) = some 2 := by decide +kernel
set_option maxHeartbeats 4000000 in
set_option maxRecDepth 100000 in
theorem c_X7_behind (l : Launch) (dC : Nat → ClassId) (dI : Nat → Nat → Nat) (cB cI cZ cO : ClassId) (a0 : Nat) (g0 : Nat → Nat) (o0 : Ob) (g1 : Nat → Nat) (o1 : Ob) (g2 : Nat → Nat) (o2 : Ob) (g3 : Nat → Nat) (o3 : Ob) (v1 : Int32) (v2 : Int32) {r : Int32 × Ob} (h : f_X7_behind o0 o1 o2 o3 v1 v2 = some r) : Ct dC dI cB cI cZ cO l yX7_behind wsX7_behind rmX7_behind [.ref a0, .int v1, .int v2] ([cX7 a0 g0 o0, cX7_10 cI g0 o0, cX6 (g0 1) g1 o1, cX6_0 cI g1 o1, cX6_1 cI g1 o1, cX6_2 cI g1 o1, cX6_3 cI g1 o1, cX6_4 cI g1 o1, cX6_5 cI g1 o1, cX6_6 cI g1 o1, cX6_7 cI g1 o1, cX5 (g0 3) g2 o2, cX5_5 cI g2 o2, cX5_6 cI g2 o2, cX5 (g0 4) g3 o3, cX5_5 cI g3 o3, cX5_6 cI g3 o3]) (some (.int r.1)) ([cX7 a0 g0 o0, cX7_10 cI g0 o0, cX6 (g0 1) g1 o1, cX6_0 cI g1 o1, cX6_1 cI g1 o1, cX6_2 cI g1 o1, cX6_3 cI g1 o1, cX6_4 cI g1 o1, cX6_5 cI g1 o1, cX6_6 cI g1 o1, cX6_7 cI g1 o1, cX5 (g0 3) g2 o2, cX5_5 cI g2 o2, cX5_6 cI g2 o2, cX5 (g0 4) g3 r.2, cX5_5 cI g3 r.2, cX5_6 cI g3 r.2]) := by
  intro sz
  refine Met.ofW (cc := cX7_behind) (maxL := 3) (ret := (some .int)) (by decide) rfl ?_
  intro p e s m args below meth c s₁ B hml hv
  obtain ⟨rfl, hsz, hP, hKK, hD0⟩ := hv
  have hx := B.exec
  have hb := B.bytes
  have hr := B.returns
  have hts := atoms_spec (ws := wsX7_behind) B.pre
  have hown : s.vm.findClass RX7 = some m.cls := findClass_of_methodNamed B.named
  have hlocks := B.notSynchronized
  have hiX7 : ∀ w ∈ u_ws RX7 TX7 11, w ∈ wsX7_behind := fun w h => List.mem_cons_of_mem _ (List.mem_append_left _ (List.mem_append_left _ (List.mem_append_right _ h)))
  have hiX6 : ∀ w ∈ u_ws RX6 TX6 11, w ∈ wsX7_behind := fun w h => List.mem_cons_of_mem _ (List.mem_append_left _ (List.mem_append_right _ h))
  have hiX5 : ∀ w ∈ u_ws RX5 TX5 7, w ∈ wsX7_behind := fun w h => List.mem_cons_of_mem _ (List.mem_append_right _ h)
  subst hsz
  have hD := hD0.self (sz := s.heap.size)
  generalize hAe : va_A ([cX7 a0 g0 o0, cX7_10 cI g0 o0, cX6 (g0 1) g1 o1, cX6_0 cI g1 o1, cX6_1 cI g1 o1, cX6_2 cI g1 o1, cX6_3 cI g1 o1, cX6_4 cI g1 o1, cX6_5 cI g1 o1, cX6_6 cI g1 o1, cX6_7 cI g1 o1, cX5 (g0 3) g2 o2, cX5_5 cI g2 o2, cX5_6 cI g2 o2, cX5 (g0 4) g3 o3, cX5_5 cI g3 o3, cX5_6 cI g3 o3]) s.heap.size = A at hD ⊢
  have hA : ∀ q : Nat, s.heap.size ≤ q → A q := fun q h => by rw [← hAe]; exact Or.inr h
  have hS : va_S A s.heap s.heap [] := va_S.rf
  have hP : va_P (dC, dI) vwCl ([cX7 a0 g0 o0, cX7_10 cI g0 o0, cX6 (g0 1) g1 o1, cX6_0 cI g1 o1, cX6_1 cI g1 o1, cX6_2 cI g1 o1, cX6_3 cI g1 o1, cX6_4 cI g1 o1, cX6_5 cI g1 o1, cX6_6 cI g1 o1, cX6_7 cI g1 o1, cX5 (g0 3) g2 o2, cX5_5 cI g2 o2, cX5_6 cI g2 o2, cX5 (g0 4) g3 o3, cX5_5 cI g3 o3, cX5_6 cI g3 o3]) s.heap := hP
  have hD : va_D A ([cX7 a0 g0 o0, cX7_10 cI g0 o0, cX6 (g0 1) g1 o1, cX6_0 cI g1 o1, cX6_1 cI g1 o1, cX6_2 cI g1 o1, cX6_3 cI g1 o1, cX6_4 cI g1 o1, cX6_5 cI g1 o1, cX6_6 cI g1 o1, cX6_7 cI g1 o1, cX5 (g0 3) g2 o2, cX5_5 cI g2 o2, cX5_6 cI g2 o2, cX5 (g0 4) g3 o3, cX5_5 cI g3 o3, cX5_6 cI g3 o3]) := hD
  have hl := lv_entry ([.ref a0, .int v1, .int v2]) (n := 3) (Nat.le_of_ble_eq_true rfl)
  rw [lg_entry_eq]
  generalize (lg_sl ([.ref a0, .int v1, .int v2]) ++ List.replicate (3 - (lg_sl ([.ref a0, .int v1, .int v2])).length) Slot.unset).toArray = ls at hl ⊢
  have hl : lv_has ls 3 [(0, .ref a0), (1, .int v1), (2, .int v2)] := hl
  obtain ⟨Q, hQ⟩ : ∃ Q, Q = MQ below (Qq dC dI (some (.int r.1)) ([cX7 a0 g0 o0, cX7_10 cI g0 o0, cX6 (g0 1) g1 o1, cX6_0 cI g1 o1, cX6_1 cI g1 o1, cX6_2 cI g1 o1, cX6_3 cI g1 o1, cX6_4 cI g1 o1, cX6_5 cI g1 o1, cX6_6 cI g1 o1, cX6_7 cI g1 o1, cX5 (g0 3) g2 o2, cX5_5 cI g2 o2, cX5_6 cI g2 o2, cX5 (g0 4) g3 r.2, cX5_5 cI g3 r.2, cX5_6 cI g3 r.2]) A) ([.ref a0, .int v1, .int v2] : List Value).toArray s 0 0 A := ⟨_, rfl⟩
  rw [← hQ]
  rw [f_X7_behind] at h
  clear hAe hD0
  refine lv_iload_n hx hb dX7_behind_0 rfl (lv_at hl 1 rfl) ?_
  refine lv_iconst (v := (0 : Int32)) hx hb dX7_behind_1 (by decide) ?_
  refine lv_bipush (v := (40 : Int32)) hx hb dX7_behind_2 (by decide) ?_
  obtain ⟨q1, hq1, h⟩ := bnd_e h
  refine kcS (rest := []) (w2 := ([cX7 a0 g0 o0, cX7_10 cI g0 o0, cX6 (g0 1) g1 o1, cX6_0 cI g1 o1, cX6_1 cI g1 o1, cX6_2 cI g1 o1, cX6_3 cI g1 o1, cX6_4 cI g1 o1, cX6_5 cI g1 o1, cX6_6 cI g1 o1, cX6_7 cI g1 o1, cX5 (g0 3) g2 o2, cX5_5 cI g2 o2, cX5_6 cI g2 o2, cX5 (g0 4) g3 o3, cX5_5 cI g3 o3, cX5_6 cI g3 o3])) hx hb hml hown hts hKK hP hD hS hA (c_X7_within l dC dI cB cI cZ cO v1 (0 : Int32) (40 : Int32) hq1) [] (atAll_map trivial) (by decide +kernel) (sameAd_map trivial) (atAll_map trivial) (agr_refl _ _ _) (va_cwS 3 hts gX7_behind_X7_within rfl rfl rfl dsc_X7_within ⟨Nat.le_of_ble_eq_true rfl, Nat.le_of_ble_eq_true rfl⟩) rfl hl.1 rfl (Nat.le_of_ble_eq_true rfl) dX7_behind_4 ⟨Nat.zero_le _, Nat.zero_le _⟩ (fun H locs hP hD hS => ?_)
  refine lv_if_eq (tgt := 27) hx hb dX7_behind_7 (by decide) (fun k2 => ?_) (fun k2 => ?_)
  · have h := ite_t k2 h
    refine lv_iconst (v := (-1 : Int32)) hx hb dX7_behind_27 (by decide) ?_
    have h := Option.some.inj h
    subst h
    subst hQ
    exact W.iret (v := (-1 : Int32)) hx hb hr (fun t ht hW => ⟨⟨rfl, by rw [ht]; exact hP, hD⟩, hS.F ht⟩) hS.2.2 dX7_behind_28
  · have h := ite_f k2 h
    refine lv_iload_n hx hb dX7_behind_10 rfl (lv_at hl 2 rfl) ?_
    refine lv_iconst (v := (0 : Int32)) hx hb dX7_behind_11 (by decide) ?_
    refine lv_aload_n hx hb dX7_behind_12 rfl (lv_at hl 0 rfl) ?_
    refine va_get (D := (dC, dI)) (ci := 7) (v := .ref (g0 1)) (C := RX7) (T := TX7) (N := 11) hx hb hts hiX7 hown hKK.1 hP 0 rfl rfl 1 (by decide) (hts (.fieldLink RX7 19 "SlideLand" "told" "LSlideLand$Told;") (List.mem_of_getElem? (i := 1) rfl)) (fun _ h9 => h9) rfl dX7_behind_13 ?_
    refine va_get (D := (dC, dI)) (ci := 6) (v := .int (o1.1 8)) (C := RX6) (T := TX6) (N := 11) hx hb hts hiX6 hown hKK.1 hP 2 rfl rfl 8 (by decide) (hts (.fieldLink RX7 105 "SlideLand$Told" "strips" "I") (List.mem_of_getElem? (i := 2) rfl)) (fun _ h9 => h9) rfl dX7_behind_16 ?_
    refine lv_iconst (v := (1 : Int32)) hx hb dX7_behind_19 (by decide) ?_
    refine lv_isub hx hb dX7_behind_20 ?_
    obtain ⟨q3, hq3, h⟩ := bnd_e h
    refine kcS (rest := []) (w2 := ([cX7 a0 g0 o0, cX7_10 cI g0 o0, cX6 (g0 1) g1 o1, cX6_0 cI g1 o1, cX6_1 cI g1 o1, cX6_2 cI g1 o1, cX6_3 cI g1 o1, cX6_4 cI g1 o1, cX6_5 cI g1 o1, cX6_6 cI g1 o1, cX6_7 cI g1 o1, cX5 (g0 3) g2 o2, cX5_5 cI g2 o2, cX5_6 cI g2 o2, cX5 (g0 4) g3 o3, cX5_5 cI g3 o3, cX5_6 cI g3 o3])) hx hb hml hown hts hKK hP hD hS hA (c_X7_within l dC dI cB cI cZ cO v2 (0 : Int32) ((o1.1 8) - (1 : Int32)) hq3) [] (atAll_map trivial) (by decide +kernel) (sameAd_map trivial) (atAll_map trivial) (agr_refl _ _ _) (va_cwS 3 hts gX7_behind_X7_within rfl rfl rfl dsc_X7_within ⟨Nat.le_of_ble_eq_true rfl, Nat.le_of_ble_eq_true rfl⟩) rfl hl.1 rfl (Nat.le_of_ble_eq_true rfl) dX7_behind_21 ⟨Nat.zero_le _, Nat.zero_le _⟩ (fun H locs hP hD hS => ?_)
    refine lv_if_ne (tgt := 29) hx hb dX7_behind_24 (by decide) (fun k4 => ?_) (fun k4 => ?_)
    · have h := ite_f k4 h
      refine lv_aload_n hx hb dX7_behind_29 rfl (lv_at hl 0 rfl) ?_
      refine va_get (D := (dC, dI)) (ci := 7) (v := .ref (g0 4)) (C := RX7) (T := TX7) (N := 11) hx hb hts hiX7 hown hKK.1 hP 0 rfl rfl 4 (by decide) (hts (.fieldLink RX7 33 "SlideLand" "trial" "LSlideLand$Stand;") (List.mem_of_getElem? (i := 3) rfl)) (fun _ h9 => h9) rfl dX7_behind_30 ?_
      refine lv_aload_n hx hb dX7_behind_33 rfl (lv_at hl 0 rfl) ?_
      refine va_get (D := (dC, dI)) (ci := 7) (v := .ref (g0 3)) (C := RX7) (T := TX7) (N := 11) hx hb hts hiX7 hown hKK.1 hP 0 rfl rfl 3 (by decide) (hts (.fieldLink RX7 29 "SlideLand" "now" "LSlideLand$Stand;") (List.mem_of_getElem? (i := 4) rfl)) (fun _ h9 => h9) rfl dX7_behind_34 ?_
      obtain ⟨q5, hq5, h⟩ := obd_e h
      refine kcV (rest := []) (w2 := ([cX7 a0 g0 o0, cX7_10 cI g0 o0, cX6 (g0 1) g1 o1, cX6_0 cI g1 o1, cX6_1 cI g1 o1, cX6_2 cI g1 o1, cX6_3 cI g1 o1, cX6_4 cI g1 o1, cX6_5 cI g1 o1, cX6_6 cI g1 o1, cX6_7 cI g1 o1, cX5 (g0 3) g2 o2, cX5_5 cI g2 o2, cX5_6 cI g2 o2, cX5 (g0 4) g3 q5, cX5_5 cI g3 q5, cX5_6 cI g3 q5])) hx hb hml hown hts hKK hP hD hS hA (c_X5_copy l dC dI cB cI cZ cO (g0 4) g3 o3 (g0 3) g2 o2 hq5) [14, 15, 16, 11, 12, 13] (atAll_map ⟨rfl, rfl, rfl, rfl, rfl, rfl, trivial⟩) (by decide +kernel) (sameAd_map ⟨rfl, rfl, rfl, rfl, rfl, rfl, trivial⟩) (atAll_map ⟨rfl, rfl, rfl, rfl, rfl, rfl, trivial⟩) ⟨Or.inl rfl, Or.inl rfl, Or.inl rfl, Or.inl rfl, Or.inl rfl, Or.inl rfl, Or.inl rfl, Or.inl rfl, Or.inl rfl, Or.inl rfl, Or.inl rfl, Or.inl rfl, Or.inl rfl, Or.inl rfl, Or.inr (by decide), Or.inr (by decide), Or.inr (by decide), trivial⟩ (cwV 1 hts gX7_behind_X5_copy rfl rfl rfl ⟨rfl, dsc_X5_copy⟩ ⟨Nat.le_of_ble_eq_true rfl, Nat.le_of_ble_eq_true rfl⟩) (va_recv hKK.1 hP (ci := 5) (q0 := 14) rfl rfl) rfl hl.1 rfl (Nat.le_of_ble_eq_true rfl) dX7_behind_37 ⟨Nat.zero_le _, Nat.zero_le _⟩ (fun H locs hP hD hS => ?_)
      refine lv_aload_n hx hb dX7_behind_40 rfl (lv_at hl 0 rfl) ?_
      refine va_get (D := (dC, dI)) (ci := 7) (v := .ref (g0 4)) (C := RX7) (T := TX7) (N := 11) hx hb hts hiX7 hown hKK.1 hP 0 rfl rfl 4 (by decide) (hts (.fieldLink RX7 33 "SlideLand" "trial" "LSlideLand$Stand;") (List.mem_of_getElem? (i := 3) rfl)) (fun _ h9 => h9) rfl dX7_behind_41 ?_
      refine lv_aload_n hx hb dX7_behind_44 rfl (lv_at hl 0 rfl) ?_
      refine va_get (D := (dC, dI)) (ci := 7) (v := .ref (g0 1)) (C := RX7) (T := TX7) (N := 11) hx hb hts hiX7 hown hKK.1 hP 0 rfl rfl 1 (by decide) (hts (.fieldLink RX7 19 "SlideLand" "told" "LSlideLand$Told;") (List.mem_of_getElem? (i := 1) rfl)) (fun _ h9 => h9) rfl dX7_behind_45 ?_
      refine lv_iload_n hx hb dX7_behind_48 rfl (lv_at hl 1 rfl) ?_
      obtain ⟨q6, hq6, h⟩ := obd_e h
      refine kcV (rest := []) (w2 := ([cX7 a0 g0 o0, cX7_10 cI g0 o0, cX6 (g0 1) g1 o1, cX6_0 cI g1 o1, cX6_1 cI g1 o1, cX6_2 cI g1 o1, cX6_3 cI g1 o1, cX6_4 cI g1 o1, cX6_5 cI g1 o1, cX6_6 cI g1 o1, cX6_7 cI g1 o1, cX5 (g0 3) g2 o2, cX5_5 cI g2 o2, cX5_6 cI g2 o2, cX5 (g0 4) g3 q6, cX5_5 cI g3 q6, cX5_6 cI g3 q6])) hx hb hml hown hts hKK hP hD hS hA (c_X5_trade l dC dI cB cI cZ cO (g0 4) g3 q5 (g0 1) g1 o1 v1 hq6) [14, 15, 16, 2, 3, 4, 5, 6, 7, 8, 9, 10] (atAll_map ⟨rfl, rfl, rfl, rfl, rfl, rfl, rfl, rfl, rfl, rfl, rfl, rfl, trivial⟩) (by decide +kernel) (sameAd_map ⟨rfl, rfl, rfl, rfl, rfl, rfl, rfl, rfl, rfl, rfl, rfl, rfl, trivial⟩) (atAll_map ⟨rfl, rfl, rfl, rfl, rfl, rfl, rfl, rfl, rfl, rfl, rfl, rfl, trivial⟩) ⟨Or.inl rfl, Or.inl rfl, Or.inl rfl, Or.inl rfl, Or.inl rfl, Or.inl rfl, Or.inl rfl, Or.inl rfl, Or.inl rfl, Or.inl rfl, Or.inl rfl, Or.inl rfl, Or.inl rfl, Or.inl rfl, Or.inr (by decide), Or.inr (by decide), Or.inr (by decide), trivial⟩ (cwV 2 hts gX7_behind_X5_trade rfl rfl rfl ⟨rfl, dsc_X5_trade⟩ ⟨Nat.le_of_ble_eq_true rfl, Nat.le_of_ble_eq_true rfl⟩) (va_recv hKK.1 hP (ci := 5) (q0 := 14) rfl rfl) rfl hl.1 rfl (Nat.le_of_ble_eq_true rfl) dX7_behind_49 ⟨Nat.zero_le _, Nat.zero_le _⟩ (fun H locs hP hD hS => ?_)
      refine lv_aload_n hx hb dX7_behind_52 rfl (lv_at hl 0 rfl) ?_
      refine va_get (D := (dC, dI)) (ci := 7) (v := .ref (g0 4)) (C := RX7) (T := TX7) (N := 11) hx hb hts hiX7 hown hKK.1 hP 0 rfl rfl 4 (by decide) (hts (.fieldLink RX7 33 "SlideLand" "trial" "LSlideLand$Stand;") (List.mem_of_getElem? (i := 3) rfl)) (fun _ h9 => h9) rfl dX7_behind_53 ?_
      refine va_get (D := (dC, dI)) (ci := 5) (v := .ref (g3 5)) (C := RX5) (T := TX5) (N := 7) hx hb hts hiX5 hown hKK.1 hP 14 rfl rfl 5 (by decide) (hts (.fieldLink RX7 143 "SlideLand$Stand" "goods" "[I") (List.mem_of_getElem? (i := 5) rfl)) (fun _ h9 => h9) rfl dX7_behind_56 ?_
      refine lv_iload_n hx hb dX7_behind_59 rfl (lv_at hl 2 rfl) ?_
      obtain ⟨q7, hq7, h⟩ := obd_e h
      refine kcS (rest := []) (w2 := ([cX7 a0 g0 o0, cX7_10 cI g0 o0, cX6 (g0 1) g1 o1, cX6_0 cI g1 o1, cX6_1 cI g1 o1, cX6_2 cI g1 o1, cX6_3 cI g1 o1, cX6_4 cI g1 o1, cX6_5 cI g1 o1, cX6_6 cI g1 o1, cX6_7 cI g1 o1, cX5 (g0 3) g2 o2, cX5_5 cI g2 o2, cX5_6 cI g2 o2, cX5 (g0 4) g3 q6, cX5_5 cI g3 q6, cX5_6 cI g3 q6])) hx hb hml hown hts hKK hP hD hS hA (c_X7_cell l dC dI cB cI cZ cO (g3 5) 7 (q6.2 5) v2 hq7) [15] (atAll_map ⟨rfl, trivial⟩) (by decide +kernel) (sameAd_map ⟨rfl, trivial⟩) (atAll_map ⟨rfl, trivial⟩) (agr_refl _ _ _) (va_cwS 2 hts gX7_behind_X7_cell rfl rfl rfl dsc_X7_cell ⟨Nat.le_of_ble_eq_true rfl, Nat.le_of_ble_eq_true rfl⟩) rfl hl.1 rfl (Nat.le_of_ble_eq_true rfl) dX7_behind_60 ⟨Nat.zero_le _, Nat.zero_le _⟩ (fun H locs hP hD hS => ?_)
      have h := Option.some.inj h
      subst h
      subst hQ
      exact W.iret (v := q7) hx hb hr (fun t ht hW => ⟨⟨rfl, by rw [ht]; exact hP, hD⟩, hS.F ht⟩) hS.2.2 dX7_behind_63
    · have h := ite_t k4 h
      refine lv_iconst (v := (-1 : Int32)) hx hb dX7_behind_27 (by decide) ?_
      have h := Option.some.inj h
      subst h
      subst hQ
      exact W.iret (v := (-1 : Int32)) hx hb hr (fun t ht hW => ⟨⟨rfl, by rw [ht]; exact hP, hD⟩, hS.F ht⟩) hS.2.2 dX7_behind_28
def f_X7_worth_155 (x78_6 : Int32) (kL78 : (Int32 → Int32 → Int32 → Ob → Option (Int32 × Ob))) (q14 : Ob) (x155_3 : Int32) (x155_4 : Int32) : Option (Int32 × Ob) := bnd (x78_6 + (1 : Int32)) fun x16 : Int32 => kL78 x155_3 x155_4 x16 q14
def f_X7_worth_78 (o1 : Ob) (o2 : Ob) (v1 : Int32) (x63_5 : Int32) (kL63 : (Int32 → Int32 → Int32 → Ob → Option (Int32 × Ob))) : Nat → Int32 → Int32 → Int32 → Ob → Option (Int32 × Ob)
  | 0, _, _, _, _ => none
  | nn78+1, x78_3, x78_4, x78_6, o78_3 => if (1 : Int32) < x78_6 then (bnd (x63_5 + (1 : Int32)) fun x11 : Int32 => kL63 x78_3 x78_4 x11 o78_3) else ((f_X5_copy o78_3 o2).bind fun q12 : Ob => (f_X5_shove q12 o1 x63_5 x78_6).bind fun q13 : Ob => (f_X5_trade q13 o1 v1).bind fun q14 : Ob => (f_X5_allGoods q14 o1).bind fun q15 : Int32 => if q15 ≤ x78_4 then (f_X7_worth_155 x78_6 (f_X7_worth_78 o1 o2 v1 x63_5 kL63 nn78) q14 x78_3 x78_4) else (bnd (((10 : Int32) * x63_5) + x78_6) fun x18 : Int32 => f_X7_worth_155 x78_6 (f_X7_worth_78 o1 o2 v1 x63_5 kL63 nn78) q14 x18 q15))
def f_X7_worth_63 (o1 : Ob) (o2 : Ob) (v1 : Int32) (v2 : Int32) : Nat → Int32 → Int32 → Int32 → Ob → Option (Int32 × Ob)
  | 0, _, _, _, _ => none
  | nn63+1, x63_3, x63_4, x63_5, o63_3 => if (o1.1 9) ≤ x63_5 then (if v2 = 0 then (some (x63_3, o63_3)) else (some (x63_4, o63_3))) else (f_X7_worth_78 o1 o2 v1 x63_5 (f_X7_worth_63 o1 o2 v1 v2 nn63) FU x63_3 x63_4 (0 : Int32) o63_3)
def f_X7_worth (o0 : Ob) (o1 : Ob) (o2 : Ob) (o3 : Ob) (v1 : Int32) (v2 : Int32) : Option (Int32 × Ob) := bnd (f_X7_within v1 (1 : Int32) (20 : Int32)) fun q1 : Bool => if (b2i q1) = 0 then (some ((-1 : Int32), o3)) else (bnd (f_X7_within v2 (0 : Int32) (1 : Int32)) fun q3 : Bool => if (b2i q3) = 0 then (some ((-1 : Int32), o3)) else ((f_X5_copy o3 o2).bind fun q5 : Ob => (f_X5_trade q5 o1 v1).bind fun q6 : Ob => (f_X5_allGoods q6 o1).bind fun q7 : Int32 => f_X7_worth_63 o1 o2 v1 v2 FU (99 : Int32) q7 (0 : Int32) q6))
abbrev rmX7_worth : Room := { frames := 5, cells := 0, slots := 0, locals := 117 }
theorem dsc_X7_worth : yX7_worth.cls ≠ "java/lang/invoke/MethodHandle" ∧ yX7_worth.cls ≠ "java/lang/invoke/VarHandle" ∧ (parseMethodDescriptor yX7_worth.desc).map (fun d => d.parameters.length) = some 2 := by decide +kernel
set_option maxHeartbeats 4000000 in
set_option maxRecDepth 100000 in
theorem c_X7_worth (l : Launch) (dC : Nat → ClassId) (dI : Nat → Nat → Nat) (cB cI cZ cO : ClassId) (a0 : Nat) (g0 : Nat → Nat) (o0 : Ob) (g1 : Nat → Nat) (o1 : Ob) (g2 : Nat → Nat) (o2 : Ob) (g3 : Nat → Nat) (o3 : Ob) (v1 : Int32) (v2 : Int32) {r : Int32 × Ob} (h : f_X7_worth o0 o1 o2 o3 v1 v2 = some r) : Ct dC dI cB cI cZ cO l yX7_worth wsX7_worth rmX7_worth [.ref a0, .int v1, .int v2] ([cX7 a0 g0 o0, cX7_10 cI g0 o0, cX6 (g0 1) g1 o1, cX6_0 cI g1 o1, cX6_1 cI g1 o1, cX6_2 cI g1 o1, cX6_3 cI g1 o1, cX6_4 cI g1 o1, cX6_5 cI g1 o1, cX6_6 cI g1 o1, cX6_7 cI g1 o1, cX5 (g0 3) g2 o2, cX5_5 cI g2 o2, cX5_6 cI g2 o2, cX5 (g0 4) g3 o3, cX5_5 cI g3 o3, cX5_6 cI g3 o3]) (some (.int r.1)) ([cX7 a0 g0 o0, cX7_10 cI g0 o0, cX6 (g0 1) g1 o1, cX6_0 cI g1 o1, cX6_1 cI g1 o1, cX6_2 cI g1 o1, cX6_3 cI g1 o1, cX6_4 cI g1 o1, cX6_5 cI g1 o1, cX6_6 cI g1 o1, cX6_7 cI g1 o1, cX5 (g0 3) g2 o2, cX5_5 cI g2 o2, cX5_6 cI g2 o2, cX5 (g0 4) g3 r.2, cX5_5 cI g3 r.2, cX5_6 cI g3 r.2]) := by
  intro sz
  refine Met.ofW (cc := cX7_worth) (maxL := 8) (ret := (some .int)) (by decide) rfl ?_
  intro p e s m args below meth c s₁ B hml hv
  obtain ⟨rfl, hsz, hP, hKK, hD0⟩ := hv
  have hx := B.exec
  have hb := B.bytes
  have hr := B.returns
  have hts := atoms_spec (ws := wsX7_worth) B.pre
  have hown : s.vm.findClass RX7 = some m.cls := findClass_of_methodNamed B.named
  have hlocks := B.notSynchronized
  have hiX7 : ∀ w ∈ u_ws RX7 TX7 11, w ∈ wsX7_worth := fun w h => List.mem_cons_of_mem _ (List.mem_append_left _ (List.mem_append_left _ (List.mem_append_right _ h)))
  have hiX6 : ∀ w ∈ u_ws RX6 TX6 11, w ∈ wsX7_worth := fun w h => List.mem_cons_of_mem _ (List.mem_append_left _ (List.mem_append_right _ h))
  subst hsz
  have hD := hD0.self (sz := s.heap.size)
  generalize hAe : va_A ([cX7 a0 g0 o0, cX7_10 cI g0 o0, cX6 (g0 1) g1 o1, cX6_0 cI g1 o1, cX6_1 cI g1 o1, cX6_2 cI g1 o1, cX6_3 cI g1 o1, cX6_4 cI g1 o1, cX6_5 cI g1 o1, cX6_6 cI g1 o1, cX6_7 cI g1 o1, cX5 (g0 3) g2 o2, cX5_5 cI g2 o2, cX5_6 cI g2 o2, cX5 (g0 4) g3 o3, cX5_5 cI g3 o3, cX5_6 cI g3 o3]) s.heap.size = A at hD ⊢
  have hA : ∀ q : Nat, s.heap.size ≤ q → A q := fun q h => by rw [← hAe]; exact Or.inr h
  have hS : va_S A s.heap s.heap [] := va_S.rf
  have hP : va_P (dC, dI) vwCl ([cX7 a0 g0 o0, cX7_10 cI g0 o0, cX6 (g0 1) g1 o1, cX6_0 cI g1 o1, cX6_1 cI g1 o1, cX6_2 cI g1 o1, cX6_3 cI g1 o1, cX6_4 cI g1 o1, cX6_5 cI g1 o1, cX6_6 cI g1 o1, cX6_7 cI g1 o1, cX5 (g0 3) g2 o2, cX5_5 cI g2 o2, cX5_6 cI g2 o2, cX5 (g0 4) g3 o3, cX5_5 cI g3 o3, cX5_6 cI g3 o3]) s.heap := hP
  have hD : va_D A ([cX7 a0 g0 o0, cX7_10 cI g0 o0, cX6 (g0 1) g1 o1, cX6_0 cI g1 o1, cX6_1 cI g1 o1, cX6_2 cI g1 o1, cX6_3 cI g1 o1, cX6_4 cI g1 o1, cX6_5 cI g1 o1, cX6_6 cI g1 o1, cX6_7 cI g1 o1, cX5 (g0 3) g2 o2, cX5_5 cI g2 o2, cX5_6 cI g2 o2, cX5 (g0 4) g3 o3, cX5_5 cI g3 o3, cX5_6 cI g3 o3]) := hD
  have hl := lv_entry ([.ref a0, .int v1, .int v2]) (n := 8) (Nat.le_of_ble_eq_true rfl)
  rw [lg_entry_eq]
  generalize (lg_sl ([.ref a0, .int v1, .int v2]) ++ List.replicate (8 - (lg_sl ([.ref a0, .int v1, .int v2])).length) Slot.unset).toArray = ls at hl ⊢
  have hl : lv_has ls 8 [(0, .ref a0), (1, .int v1), (2, .int v2)] := hl
  obtain ⟨Q, hQ⟩ : ∃ Q, Q = MQ below (Qq dC dI (some (.int r.1)) ([cX7 a0 g0 o0, cX7_10 cI g0 o0, cX6 (g0 1) g1 o1, cX6_0 cI g1 o1, cX6_1 cI g1 o1, cX6_2 cI g1 o1, cX6_3 cI g1 o1, cX6_4 cI g1 o1, cX6_5 cI g1 o1, cX6_6 cI g1 o1, cX6_7 cI g1 o1, cX5 (g0 3) g2 o2, cX5_5 cI g2 o2, cX5_6 cI g2 o2, cX5 (g0 4) g3 r.2, cX5_5 cI g3 r.2, cX5_6 cI g3 r.2]) A) ([.ref a0, .int v1, .int v2] : List Value).toArray s 0 0 A := ⟨_, rfl⟩
  rw [← hQ]
  rw [f_X7_worth] at h
  clear hAe hD0
  refine lv_iload_n hx hb dX7_worth_0 rfl (lv_at hl 1 rfl) ?_
  refine lv_iconst (v := (1 : Int32)) hx hb dX7_worth_1 (by decide) ?_
  refine lv_bipush (v := (20 : Int32)) hx hb dX7_worth_2 (by decide) ?_
  obtain ⟨q1, hq1, h⟩ := bnd_e h
  refine kcS (rest := []) (w2 := ([cX7 a0 g0 o0, cX7_10 cI g0 o0, cX6 (g0 1) g1 o1, cX6_0 cI g1 o1, cX6_1 cI g1 o1, cX6_2 cI g1 o1, cX6_3 cI g1 o1, cX6_4 cI g1 o1, cX6_5 cI g1 o1, cX6_6 cI g1 o1, cX6_7 cI g1 o1, cX5 (g0 3) g2 o2, cX5_5 cI g2 o2, cX5_6 cI g2 o2, cX5 (g0 4) g3 o3, cX5_5 cI g3 o3, cX5_6 cI g3 o3])) hx hb hml hown hts hKK hP hD hS hA (c_X7_within l dC dI cB cI cZ cO v1 (1 : Int32) (20 : Int32) hq1) [] (atAll_map trivial) (by decide +kernel) (sameAd_map trivial) (atAll_map trivial) (agr_refl _ _ _) (va_cwS 3 hts gX7_worth_X7_within rfl rfl rfl dsc_X7_within ⟨Nat.le_of_ble_eq_true rfl, Nat.le_of_ble_eq_true rfl⟩) rfl hl.1 rfl (Nat.le_of_ble_eq_true rfl) dX7_worth_4 ⟨Nat.zero_le _, Nat.zero_le _⟩ (fun H locs hP hD hS => ?_)
  refine lv_if_eq (tgt := 19) hx hb dX7_worth_7 (by decide) (fun k2 => ?_) (fun k2 => ?_)
  · have h := ite_t k2 h
    refine lv_iconst (v := (-1 : Int32)) hx hb dX7_worth_19 (by decide) ?_
    have h := Option.some.inj h
    subst h
    subst hQ
    exact W.iret (v := (-1 : Int32)) hx hb hr (fun t ht hW => ⟨⟨rfl, by rw [ht]; exact hP, hD⟩, hS.F ht⟩) hS.2.2 dX7_worth_20
  · have h := ite_f k2 h
    refine lv_iload_n hx hb dX7_worth_10 rfl (lv_at hl 2 rfl) ?_
    refine lv_iconst (v := (0 : Int32)) hx hb dX7_worth_11 (by decide) ?_
    refine lv_iconst (v := (1 : Int32)) hx hb dX7_worth_12 (by decide) ?_
    obtain ⟨q3, hq3, h⟩ := bnd_e h
    refine kcS (rest := []) (w2 := ([cX7 a0 g0 o0, cX7_10 cI g0 o0, cX6 (g0 1) g1 o1, cX6_0 cI g1 o1, cX6_1 cI g1 o1, cX6_2 cI g1 o1, cX6_3 cI g1 o1, cX6_4 cI g1 o1, cX6_5 cI g1 o1, cX6_6 cI g1 o1, cX6_7 cI g1 o1, cX5 (g0 3) g2 o2, cX5_5 cI g2 o2, cX5_6 cI g2 o2, cX5 (g0 4) g3 o3, cX5_5 cI g3 o3, cX5_6 cI g3 o3])) hx hb hml hown hts hKK hP hD hS hA (c_X7_within l dC dI cB cI cZ cO v2 (0 : Int32) (1 : Int32) hq3) [] (atAll_map trivial) (by decide +kernel) (sameAd_map trivial) (atAll_map trivial) (agr_refl _ _ _) (va_cwS 3 hts gX7_worth_X7_within rfl rfl rfl dsc_X7_within ⟨Nat.le_of_ble_eq_true rfl, Nat.le_of_ble_eq_true rfl⟩) rfl hl.1 rfl (Nat.le_of_ble_eq_true rfl) dX7_worth_13 ⟨Nat.zero_le _, Nat.zero_le _⟩ (fun H locs hP hD hS => ?_)
    refine lv_if_ne (tgt := 21) hx hb dX7_worth_16 (by decide) (fun k4 => ?_) (fun k4 => ?_)
    · have h := ite_f k4 h
      refine lv_aload_n hx hb dX7_worth_21 rfl (lv_at hl 0 rfl) ?_
      refine va_get (D := (dC, dI)) (ci := 7) (v := .ref (g0 4)) (C := RX7) (T := TX7) (N := 11) hx hb hts hiX7 hown hKK.1 hP 0 rfl rfl 4 (by decide) (hts (.fieldLink RX7 33 "SlideLand" "trial" "LSlideLand$Stand;") (List.mem_of_getElem? (i := 1) rfl)) (fun _ h9 => h9) rfl dX7_worth_22 ?_
      refine lv_aload_n hx hb dX7_worth_25 rfl (lv_at hl 0 rfl) ?_
      refine va_get (D := (dC, dI)) (ci := 7) (v := .ref (g0 3)) (C := RX7) (T := TX7) (N := 11) hx hb hts hiX7 hown hKK.1 hP 0 rfl rfl 3 (by decide) (hts (.fieldLink RX7 29 "SlideLand" "now" "LSlideLand$Stand;") (List.mem_of_getElem? (i := 2) rfl)) (fun _ h9 => h9) rfl dX7_worth_26 ?_
      obtain ⟨q5, hq5, h⟩ := obd_e h
      refine kcV (rest := []) (w2 := ([cX7 a0 g0 o0, cX7_10 cI g0 o0, cX6 (g0 1) g1 o1, cX6_0 cI g1 o1, cX6_1 cI g1 o1, cX6_2 cI g1 o1, cX6_3 cI g1 o1, cX6_4 cI g1 o1, cX6_5 cI g1 o1, cX6_6 cI g1 o1, cX6_7 cI g1 o1, cX5 (g0 3) g2 o2, cX5_5 cI g2 o2, cX5_6 cI g2 o2, cX5 (g0 4) g3 q5, cX5_5 cI g3 q5, cX5_6 cI g3 q5])) hx hb hml hown hts hKK hP hD hS hA (c_X5_copy l dC dI cB cI cZ cO (g0 4) g3 o3 (g0 3) g2 o2 hq5) [14, 15, 16, 11, 12, 13] (atAll_map ⟨rfl, rfl, rfl, rfl, rfl, rfl, trivial⟩) (by decide +kernel) (sameAd_map ⟨rfl, rfl, rfl, rfl, rfl, rfl, trivial⟩) (atAll_map ⟨rfl, rfl, rfl, rfl, rfl, rfl, trivial⟩) ⟨Or.inl rfl, Or.inl rfl, Or.inl rfl, Or.inl rfl, Or.inl rfl, Or.inl rfl, Or.inl rfl, Or.inl rfl, Or.inl rfl, Or.inl rfl, Or.inl rfl, Or.inl rfl, Or.inl rfl, Or.inl rfl, Or.inr (by decide), Or.inr (by decide), Or.inr (by decide), trivial⟩ (cwV 1 hts gX7_worth_X5_copy rfl rfl rfl ⟨rfl, dsc_X5_copy⟩ ⟨Nat.le_of_ble_eq_true rfl, Nat.le_of_ble_eq_true rfl⟩) (va_recv hKK.1 hP (ci := 5) (q0 := 14) rfl rfl) rfl hl.1 rfl (Nat.le_of_ble_eq_true rfl) dX7_worth_29 ⟨Nat.zero_le _, Nat.zero_le _⟩ (fun H locs hP hD hS => ?_)
      refine lv_aload_n hx hb dX7_worth_32 rfl (lv_at hl 0 rfl) ?_
      refine va_get (D := (dC, dI)) (ci := 7) (v := .ref (g0 4)) (C := RX7) (T := TX7) (N := 11) hx hb hts hiX7 hown hKK.1 hP 0 rfl rfl 4 (by decide) (hts (.fieldLink RX7 33 "SlideLand" "trial" "LSlideLand$Stand;") (List.mem_of_getElem? (i := 1) rfl)) (fun _ h9 => h9) rfl dX7_worth_33 ?_
      refine lv_aload_n hx hb dX7_worth_36 rfl (lv_at hl 0 rfl) ?_
      refine va_get (D := (dC, dI)) (ci := 7) (v := .ref (g0 1)) (C := RX7) (T := TX7) (N := 11) hx hb hts hiX7 hown hKK.1 hP 0 rfl rfl 1 (by decide) (hts (.fieldLink RX7 19 "SlideLand" "told" "LSlideLand$Told;") (List.mem_of_getElem? (i := 3) rfl)) (fun _ h9 => h9) rfl dX7_worth_37 ?_
      refine lv_iload_n hx hb dX7_worth_40 rfl (lv_at hl 1 rfl) ?_
      obtain ⟨q6, hq6, h⟩ := obd_e h
      refine kcV (rest := []) (w2 := ([cX7 a0 g0 o0, cX7_10 cI g0 o0, cX6 (g0 1) g1 o1, cX6_0 cI g1 o1, cX6_1 cI g1 o1, cX6_2 cI g1 o1, cX6_3 cI g1 o1, cX6_4 cI g1 o1, cX6_5 cI g1 o1, cX6_6 cI g1 o1, cX6_7 cI g1 o1, cX5 (g0 3) g2 o2, cX5_5 cI g2 o2, cX5_6 cI g2 o2, cX5 (g0 4) g3 q6, cX5_5 cI g3 q6, cX5_6 cI g3 q6])) hx hb hml hown hts hKK hP hD hS hA (c_X5_trade l dC dI cB cI cZ cO (g0 4) g3 q5 (g0 1) g1 o1 v1 hq6) [14, 15, 16, 2, 3, 4, 5, 6, 7, 8, 9, 10] (atAll_map ⟨rfl, rfl, rfl, rfl, rfl, rfl, rfl, rfl, rfl, rfl, rfl, rfl, trivial⟩) (by decide +kernel) (sameAd_map ⟨rfl, rfl, rfl, rfl, rfl, rfl, rfl, rfl, rfl, rfl, rfl, rfl, trivial⟩) (atAll_map ⟨rfl, rfl, rfl, rfl, rfl, rfl, rfl, rfl, rfl, rfl, rfl, rfl, trivial⟩) ⟨Or.inl rfl, Or.inl rfl, Or.inl rfl, Or.inl rfl, Or.inl rfl, Or.inl rfl, Or.inl rfl, Or.inl rfl, Or.inl rfl, Or.inl rfl, Or.inl rfl, Or.inl rfl, Or.inl rfl, Or.inl rfl, Or.inr (by decide), Or.inr (by decide), Or.inr (by decide), trivial⟩ (cwV 2 hts gX7_worth_X5_trade rfl rfl rfl ⟨rfl, dsc_X5_trade⟩ ⟨Nat.le_of_ble_eq_true rfl, Nat.le_of_ble_eq_true rfl⟩) (va_recv hKK.1 hP (ci := 5) (q0 := 14) rfl rfl) rfl hl.1 rfl (Nat.le_of_ble_eq_true rfl) dX7_worth_41 ⟨Nat.zero_le _, Nat.zero_le _⟩ (fun H locs hP hD hS => ?_)
      refine lv_bipush (v := (99 : Int32)) hx hb dX7_worth_44 (by decide) ?_
      refine lv_istore_n (lv' := [(3, .int (99 : Int32)), (0, .ref a0), (1, .int v1), (2, .int v2)]) hx hb dX7_worth_46 rfl hl (by decide) rfl (fun ls hl => ?_)
      refine lv_aload_n hx hb dX7_worth_47 rfl (lv_at hl 1 rfl) ?_
      refine va_get (D := (dC, dI)) (ci := 7) (v := .ref (g0 4)) (C := RX7) (T := TX7) (N := 11) hx hb hts hiX7 hown hKK.1 hP 0 rfl rfl 4 (by decide) (hts (.fieldLink RX7 33 "SlideLand" "trial" "LSlideLand$Stand;") (List.mem_of_getElem? (i := 1) rfl)) (fun _ h9 => h9) rfl dX7_worth_48 ?_
      refine lv_aload_n hx hb dX7_worth_51 rfl (lv_at hl 1 rfl) ?_
      refine va_get (D := (dC, dI)) (ci := 7) (v := .ref (g0 1)) (C := RX7) (T := TX7) (N := 11) hx hb hts hiX7 hown hKK.1 hP 0 rfl rfl 1 (by decide) (hts (.fieldLink RX7 19 "SlideLand" "told" "LSlideLand$Told;") (List.mem_of_getElem? (i := 3) rfl)) (fun _ h9 => h9) rfl dX7_worth_52 ?_
      obtain ⟨q7, hq7, h⟩ := obd_e h
      refine kcV (rest := []) (w2 := ([cX7 a0 g0 o0, cX7_10 cI g0 o0, cX6 (g0 1) g1 o1, cX6_0 cI g1 o1, cX6_1 cI g1 o1, cX6_2 cI g1 o1, cX6_3 cI g1 o1, cX6_4 cI g1 o1, cX6_5 cI g1 o1, cX6_6 cI g1 o1, cX6_7 cI g1 o1, cX5 (g0 3) g2 o2, cX5_5 cI g2 o2, cX5_6 cI g2 o2, cX5 (g0 4) g3 q6, cX5_5 cI g3 q6, cX5_6 cI g3 q6])) hx hb hml hown hts hKK hP hD hS hA (c_X5_allGoods l dC dI cB cI cZ cO (g0 4) g3 q6 (g0 1) g1 o1 hq7) [14, 15, 16, 2, 3, 4, 5, 6, 7, 8, 9, 10] (atAll_map ⟨rfl, rfl, rfl, rfl, rfl, rfl, rfl, rfl, rfl, rfl, rfl, rfl, trivial⟩) (by decide +kernel) (sameAd_map ⟨rfl, rfl, rfl, rfl, rfl, rfl, rfl, rfl, rfl, rfl, rfl, rfl, trivial⟩) (atAll_map ⟨rfl, rfl, rfl, rfl, rfl, rfl, rfl, rfl, rfl, rfl, rfl, rfl, trivial⟩) (agr_refl _ _ _) (cwV 1 hts gX7_worth_X5_allGoods rfl rfl rfl ⟨rfl, dsc_X5_allGoods⟩ ⟨Nat.le_of_ble_eq_true rfl, Nat.le_of_ble_eq_true rfl⟩) (va_recv hKK.1 hP (ci := 5) (q0 := 14) rfl rfl) rfl hl.1 rfl (Nat.le_of_ble_eq_true rfl) dX7_worth_55 ⟨Nat.zero_le _, Nat.zero_le _⟩ (fun H locs hP hD hS => ?_)
      refine lv_istore (lv' := [(4, .int q7), (3, .int (99 : Int32)), (0, .ref a0), (1, .int v1), (2, .int v2)]) hx hb dX7_worth_58 hl (by decide) rfl (fun ls hl => ?_)
      refine lv_iconst (v := (0 : Int32)) hx hb dX7_worth_60 (by decide) ?_
      refine lv_istore (lv' := [(5, .int (0 : Int32)), (4, .int q7), (3, .int (99 : Int32)), (0, .ref a0), (1, .int v1), (2, .int v2)]) hx hb dX7_worth_61 hl (by decide) rfl (fun ls hl => ?_)
      have lp63 : ∀ (nn63 : Nat) (x63_3 : Int32) (x63_4 : Int32) (x63_5 : Int32) (o63_3 : Ob), f_X7_worth_63 o1 o2 v1 v2 nn63 x63_3 x63_4 x63_5 o63_3 = some r → ∀ (H : Heap) (locs : List Loc) (ls : Array Slot), va_P (dC, dI) vwCl ([cX7 a0 g0 o0, cX7_10 cI g0 o0, cX6 (g0 1) g1 o1, cX6_0 cI g1 o1, cX6_1 cI g1 o1, cX6_2 cI g1 o1, cX6_3 cI g1 o1, cX6_4 cI g1 o1, cX6_5 cI g1 o1, cX6_6 cI g1 o1, cX6_7 cI g1 o1, cX5 (g0 3) g2 o2, cX5_5 cI g2 o2, cX5_6 cI g2 o2, cX5 (g0 4) g3 o63_3, cX5_5 cI g3 o63_3, cX5_6 cI g3 o63_3]) H → va_D A ([cX7 a0 g0 o0, cX7_10 cI g0 o0, cX6 (g0 1) g1 o1, cX6_0 cI g1 o1, cX6_1 cI g1 o1, cX6_2 cI g1 o1, cX6_3 cI g1 o1, cX6_4 cI g1 o1, cX6_5 cI g1 o1, cX6_6 cI g1 o1, cX6_7 cI g1 o1, cX5 (g0 3) g2 o2, cX5_5 cI g2 o2, cX5_6 cI g2 o2, cX5 (g0 4) g3 o63_3, cX5_5 cI g3 o63_3, cX5_6 cI g3 o63_3]) → va_S A s.heap H locs → lv_has ls 8 [(0, .ref a0), (1, .int v1), (2, .int v2), (3, .int x63_3), (4, .int x63_4), (5, .int x63_5)] → W p l e (headSpec wsX7_worth rmX7_worth).room s m ([.ref a0, .int v1, .int v2] : List Value).toArray below meth c H locs 0 0 Q (F0 m 63 ls []) := by
        intro nn63
        induction nn63 with
        | zero => intro x63_3 x63_4 x63_5 o63_3 h; rw [f_X7_worth_63] at h; cases h
        | succ nn63 ih63 =>
          intro x63_3 x63_4 x63_5 o63_3 h H locs ls hP hD hS hl
          rw [f_X7_worth_63] at h
          refine lv_iload hx hb dX7_worth_63 (lv_at hl 5 rfl) ?_
          refine lv_aload_n hx hb dX7_worth_65 rfl (lv_at hl 0 rfl) ?_
          refine va_get (D := (dC, dI)) (ci := 7) (v := .ref (g0 1)) (C := RX7) (T := TX7) (N := 11) hx hb hts hiX7 hown hKK.1 hP 0 rfl rfl 1 (by decide) (hts (.fieldLink RX7 19 "SlideLand" "told" "LSlideLand$Told;") (List.mem_of_getElem? (i := 3) rfl)) (fun _ h9 => h9) rfl dX7_worth_66 ?_
          refine va_get (D := (dC, dI)) (ci := 6) (v := .int (o1.1 9)) (C := RX6) (T := TX6) (N := 11) hx hb hts hiX6 hown hKK.1 hP 2 rfl rfl 9 (by decide) (hts (.fieldLink RX7 108 "SlideLand$Told" "pushes" "I") (List.mem_of_getElem? (i := 4) rfl)) (fun _ h9 => h9) rfl dX7_worth_69 ?_
          refine lv_icmp_ge (tgt := 167) hx hb dX7_worth_72 (by decide) (fun k8 => ?_) (fun k8 => ?_)
          · have h := ite_t k8 h
            refine lv_iload_n hx hb dX7_worth_167 rfl (lv_at hl 2 rfl) ?_
            refine lv_if_ne (tgt := 175) hx hb dX7_worth_168 (by decide) (fun k9 => ?_) (fun k9 => ?_)
            · have h := ite_f k9 h
              refine lv_iload hx hb dX7_worth_175 (lv_at hl 4 rfl) ?_
              have h := Option.some.inj h
              subst h
              subst hQ
              exact W.iret (v := x63_4) hx hb hr (fun t ht hW => ⟨⟨rfl, by rw [ht]; exact hP, hD⟩, hS.F ht⟩) hS.2.2 dX7_worth_177
            · have h := ite_t k9 h
              refine lv_iload_n hx hb dX7_worth_171 rfl (lv_at hl 3 rfl) ?_
              refine lv_goto (tgt := 177) hx hb dX7_worth_172 (by decide) ?_
              have h := Option.some.inj h
              subst h
              subst hQ
              exact W.iret (v := x63_3) hx hb hr (fun t ht hW => ⟨⟨rfl, by rw [ht]; exact hP, hD⟩, hS.F ht⟩) hS.2.2 dX7_worth_177
          · have h := ite_f k8 h
            refine lv_iconst (v := (0 : Int32)) hx hb dX7_worth_75 (by decide) ?_
            refine lv_istore (lv' := [(6, .int (0 : Int32)), (0, .ref a0), (1, .int v1), (2, .int v2), (3, .int x63_3), (4, .int x63_4), (5, .int x63_5)]) hx hb dX7_worth_76 hl (by decide) rfl (fun ls hl => ?_)
            have lp78 : ∀ (nn78 : Nat) (x78_3 : Int32) (x78_4 : Int32) (x78_6 : Int32) (o78_3 : Ob), f_X7_worth_78 o1 o2 v1 x63_5 (f_X7_worth_63 o1 o2 v1 v2 nn63) nn78 x78_3 x78_4 x78_6 o78_3 = some r → ∀ (H : Heap) (locs : List Loc) (ls : Array Slot), va_P (dC, dI) vwCl ([cX7 a0 g0 o0, cX7_10 cI g0 o0, cX6 (g0 1) g1 o1, cX6_0 cI g1 o1, cX6_1 cI g1 o1, cX6_2 cI g1 o1, cX6_3 cI g1 o1, cX6_4 cI g1 o1, cX6_5 cI g1 o1, cX6_6 cI g1 o1, cX6_7 cI g1 o1, cX5 (g0 3) g2 o2, cX5_5 cI g2 o2, cX5_6 cI g2 o2, cX5 (g0 4) g3 o78_3, cX5_5 cI g3 o78_3, cX5_6 cI g3 o78_3]) H → va_D A ([cX7 a0 g0 o0, cX7_10 cI g0 o0, cX6 (g0 1) g1 o1, cX6_0 cI g1 o1, cX6_1 cI g1 o1, cX6_2 cI g1 o1, cX6_3 cI g1 o1, cX6_4 cI g1 o1, cX6_5 cI g1 o1, cX6_6 cI g1 o1, cX6_7 cI g1 o1, cX5 (g0 3) g2 o2, cX5_5 cI g2 o2, cX5_6 cI g2 o2, cX5 (g0 4) g3 o78_3, cX5_5 cI g3 o78_3, cX5_6 cI g3 o78_3]) → va_S A s.heap H locs → lv_has ls 8 [(0, .ref a0), (1, .int v1), (2, .int v2), (3, .int x78_3), (4, .int x78_4), (5, .int x63_5), (6, .int x78_6)] → W p l e (headSpec wsX7_worth rmX7_worth).room s m ([.ref a0, .int v1, .int v2] : List Value).toArray below meth c H locs 0 0 Q (F0 m 78 ls []) := by
              intro nn78
              induction nn78 with
              | zero => intro x78_3 x78_4 x78_6 o78_3 h; rw [f_X7_worth_78] at h; cases h
              | succ nn78 ih78 =>
                intro x78_3 x78_4 x78_6 o78_3 h H locs ls hP hD hS hl
                rw [f_X7_worth_78] at h
                refine lv_iload hx hb dX7_worth_78 (lv_at hl 6 rfl) ?_
                refine lv_iconst (v := (1 : Int32)) hx hb dX7_worth_80 (by decide) ?_
                refine lv_icmp_gt (tgt := 161) hx hb dX7_worth_81 (by decide) (fun k10 => ?_) (fun k10 => ?_)
                · have h := ite_t k10 h
                  obtain ⟨x11, hx11, h⟩ := bnd_e h
                  refine lv_iinc (v := x11) (lv' := [(5, .int x11), (0, .ref a0), (1, .int v1), (2, .int v2), (3, .int x78_3), (4, .int x78_4), (6, .int x78_6)]) hx hb dX7_worth_161 hl (k := 5) rfl (by rw [← hx11]; rfl) (by decide) rfl (fun ls hl => ?_)
                  refine lv_goto (tgt := 63) hx hb dX7_worth_164 (by decide) ?_
                  exact ih63 x78_3 x78_4 x11 o78_3 h _ _ _ hP hD hS (lv_sub hl [1, 2, 3, 4, 5, 0] rfl)
                · have h := ite_f k10 h
                  refine lv_aload_n hx hb dX7_worth_84 rfl (lv_at hl 0 rfl) ?_
                  refine va_get (D := (dC, dI)) (ci := 7) (v := .ref (g0 4)) (C := RX7) (T := TX7) (N := 11) hx hb hts hiX7 hown hKK.1 hP 0 rfl rfl 4 (by decide) (hts (.fieldLink RX7 33 "SlideLand" "trial" "LSlideLand$Stand;") (List.mem_of_getElem? (i := 1) rfl)) (fun _ h9 => h9) rfl dX7_worth_85 ?_
                  refine lv_aload_n hx hb dX7_worth_88 rfl (lv_at hl 0 rfl) ?_
                  refine va_get (D := (dC, dI)) (ci := 7) (v := .ref (g0 3)) (C := RX7) (T := TX7) (N := 11) hx hb hts hiX7 hown hKK.1 hP 0 rfl rfl 3 (by decide) (hts (.fieldLink RX7 29 "SlideLand" "now" "LSlideLand$Stand;") (List.mem_of_getElem? (i := 2) rfl)) (fun _ h9 => h9) rfl dX7_worth_89 ?_
                  obtain ⟨q12, hq12, h⟩ := obd_e h
                  refine kcV (rest := []) (w2 := ([cX7 a0 g0 o0, cX7_10 cI g0 o0, cX6 (g0 1) g1 o1, cX6_0 cI g1 o1, cX6_1 cI g1 o1, cX6_2 cI g1 o1, cX6_3 cI g1 o1, cX6_4 cI g1 o1, cX6_5 cI g1 o1, cX6_6 cI g1 o1, cX6_7 cI g1 o1, cX5 (g0 3) g2 o2, cX5_5 cI g2 o2, cX5_6 cI g2 o2, cX5 (g0 4) g3 q12, cX5_5 cI g3 q12, cX5_6 cI g3 q12])) hx hb hml hown hts hKK hP hD hS hA (c_X5_copy l dC dI cB cI cZ cO (g0 4) g3 o78_3 (g0 3) g2 o2 hq12) [14, 15, 16, 11, 12, 13] (atAll_map ⟨rfl, rfl, rfl, rfl, rfl, rfl, trivial⟩) (by decide +kernel) (sameAd_map ⟨rfl, rfl, rfl, rfl, rfl, rfl, trivial⟩) (atAll_map ⟨rfl, rfl, rfl, rfl, rfl, rfl, trivial⟩) ⟨Or.inl rfl, Or.inl rfl, Or.inl rfl, Or.inl rfl, Or.inl rfl, Or.inl rfl, Or.inl rfl, Or.inl rfl, Or.inl rfl, Or.inl rfl, Or.inl rfl, Or.inl rfl, Or.inl rfl, Or.inl rfl, Or.inr (by decide), Or.inr (by decide), Or.inr (by decide), trivial⟩ (cwV 1 hts gX7_worth_X5_copy rfl rfl rfl ⟨rfl, dsc_X5_copy⟩ ⟨Nat.le_of_ble_eq_true rfl, Nat.le_of_ble_eq_true rfl⟩) (va_recv hKK.1 hP (ci := 5) (q0 := 14) rfl rfl) rfl hl.1 rfl (Nat.le_of_ble_eq_true rfl) dX7_worth_92 ⟨Nat.zero_le _, Nat.zero_le _⟩ (fun H locs hP hD hS => ?_)
                  refine lv_aload_n hx hb dX7_worth_95 rfl (lv_at hl 0 rfl) ?_
                  refine va_get (D := (dC, dI)) (ci := 7) (v := .ref (g0 4)) (C := RX7) (T := TX7) (N := 11) hx hb hts hiX7 hown hKK.1 hP 0 rfl rfl 4 (by decide) (hts (.fieldLink RX7 33 "SlideLand" "trial" "LSlideLand$Stand;") (List.mem_of_getElem? (i := 1) rfl)) (fun _ h9 => h9) rfl dX7_worth_96 ?_
                  refine lv_aload_n hx hb dX7_worth_99 rfl (lv_at hl 0 rfl) ?_
                  refine va_get (D := (dC, dI)) (ci := 7) (v := .ref (g0 1)) (C := RX7) (T := TX7) (N := 11) hx hb hts hiX7 hown hKK.1 hP 0 rfl rfl 1 (by decide) (hts (.fieldLink RX7 19 "SlideLand" "told" "LSlideLand$Told;") (List.mem_of_getElem? (i := 3) rfl)) (fun _ h9 => h9) rfl dX7_worth_100 ?_
                  refine lv_iload hx hb dX7_worth_103 (lv_at hl 5 rfl) ?_
                  refine lv_iload hx hb dX7_worth_105 (lv_at hl 6 rfl) ?_
                  obtain ⟨q13, hq13, h⟩ := obd_e h
                  refine kcV (rest := []) (w2 := ([cX7 a0 g0 o0, cX7_10 cI g0 o0, cX6 (g0 1) g1 o1, cX6_0 cI g1 o1, cX6_1 cI g1 o1, cX6_2 cI g1 o1, cX6_3 cI g1 o1, cX6_4 cI g1 o1, cX6_5 cI g1 o1, cX6_6 cI g1 o1, cX6_7 cI g1 o1, cX5 (g0 3) g2 o2, cX5_5 cI g2 o2, cX5_6 cI g2 o2, cX5 (g0 4) g3 q13, cX5_5 cI g3 q13, cX5_6 cI g3 q13])) hx hb hml hown hts hKK hP hD hS hA (c_X5_shove l dC dI cB cI cZ cO (g0 4) g3 q12 (g0 1) g1 o1 x63_5 x78_6 hq13) [14, 15, 16, 2, 3, 4, 5, 6, 7, 8, 9, 10] (atAll_map ⟨rfl, rfl, rfl, rfl, rfl, rfl, rfl, rfl, rfl, rfl, rfl, rfl, trivial⟩) (by decide +kernel) (sameAd_map ⟨rfl, rfl, rfl, rfl, rfl, rfl, rfl, rfl, rfl, rfl, rfl, rfl, trivial⟩) (atAll_map ⟨rfl, rfl, rfl, rfl, rfl, rfl, rfl, rfl, rfl, rfl, rfl, rfl, trivial⟩) ⟨Or.inl rfl, Or.inl rfl, Or.inl rfl, Or.inl rfl, Or.inl rfl, Or.inl rfl, Or.inl rfl, Or.inl rfl, Or.inl rfl, Or.inl rfl, Or.inl rfl, Or.inl rfl, Or.inl rfl, Or.inl rfl, Or.inr (by decide), Or.inr (by decide), Or.inr (by decide), trivial⟩ (cwV 3 hts gX7_worth_X5_shove rfl rfl rfl ⟨rfl, dsc_X5_shove⟩ ⟨Nat.le_of_ble_eq_true rfl, Nat.le_of_ble_eq_true rfl⟩) (va_recv hKK.1 hP (ci := 5) (q0 := 14) rfl rfl) rfl hl.1 rfl (Nat.le_of_ble_eq_true rfl) dX7_worth_107 ⟨Nat.zero_le _, Nat.zero_le _⟩ (fun H locs hP hD hS => ?_)
                  refine lv_aload_n hx hb dX7_worth_110 rfl (lv_at hl 0 rfl) ?_
                  refine va_get (D := (dC, dI)) (ci := 7) (v := .ref (g0 4)) (C := RX7) (T := TX7) (N := 11) hx hb hts hiX7 hown hKK.1 hP 0 rfl rfl 4 (by decide) (hts (.fieldLink RX7 33 "SlideLand" "trial" "LSlideLand$Stand;") (List.mem_of_getElem? (i := 1) rfl)) (fun _ h9 => h9) rfl dX7_worth_111 ?_
                  refine lv_aload_n hx hb dX7_worth_114 rfl (lv_at hl 0 rfl) ?_
                  refine va_get (D := (dC, dI)) (ci := 7) (v := .ref (g0 1)) (C := RX7) (T := TX7) (N := 11) hx hb hts hiX7 hown hKK.1 hP 0 rfl rfl 1 (by decide) (hts (.fieldLink RX7 19 "SlideLand" "told" "LSlideLand$Told;") (List.mem_of_getElem? (i := 3) rfl)) (fun _ h9 => h9) rfl dX7_worth_115 ?_
                  refine lv_iload_n hx hb dX7_worth_118 rfl (lv_at hl 1 rfl) ?_
                  obtain ⟨q14, hq14, h⟩ := obd_e h
                  refine kcV (rest := []) (w2 := ([cX7 a0 g0 o0, cX7_10 cI g0 o0, cX6 (g0 1) g1 o1, cX6_0 cI g1 o1, cX6_1 cI g1 o1, cX6_2 cI g1 o1, cX6_3 cI g1 o1, cX6_4 cI g1 o1, cX6_5 cI g1 o1, cX6_6 cI g1 o1, cX6_7 cI g1 o1, cX5 (g0 3) g2 o2, cX5_5 cI g2 o2, cX5_6 cI g2 o2, cX5 (g0 4) g3 q14, cX5_5 cI g3 q14, cX5_6 cI g3 q14])) hx hb hml hown hts hKK hP hD hS hA (c_X5_trade l dC dI cB cI cZ cO (g0 4) g3 q13 (g0 1) g1 o1 v1 hq14) [14, 15, 16, 2, 3, 4, 5, 6, 7, 8, 9, 10] (atAll_map ⟨rfl, rfl, rfl, rfl, rfl, rfl, rfl, rfl, rfl, rfl, rfl, rfl, trivial⟩) (by decide +kernel) (sameAd_map ⟨rfl, rfl, rfl, rfl, rfl, rfl, rfl, rfl, rfl, rfl, rfl, rfl, trivial⟩) (atAll_map ⟨rfl, rfl, rfl, rfl, rfl, rfl, rfl, rfl, rfl, rfl, rfl, rfl, trivial⟩) ⟨Or.inl rfl, Or.inl rfl, Or.inl rfl, Or.inl rfl, Or.inl rfl, Or.inl rfl, Or.inl rfl, Or.inl rfl, Or.inl rfl, Or.inl rfl, Or.inl rfl, Or.inl rfl, Or.inl rfl, Or.inl rfl, Or.inr (by decide), Or.inr (by decide), Or.inr (by decide), trivial⟩ (cwV 2 hts gX7_worth_X5_trade rfl rfl rfl ⟨rfl, dsc_X5_trade⟩ ⟨Nat.le_of_ble_eq_true rfl, Nat.le_of_ble_eq_true rfl⟩) (va_recv hKK.1 hP (ci := 5) (q0 := 14) rfl rfl) rfl hl.1 rfl (Nat.le_of_ble_eq_true rfl) dX7_worth_119 ⟨Nat.zero_le _, Nat.zero_le _⟩ (fun H locs hP hD hS => ?_)
                  refine lv_aload_n hx hb dX7_worth_122 rfl (lv_at hl 0 rfl) ?_
                  refine va_get (D := (dC, dI)) (ci := 7) (v := .ref (g0 4)) (C := RX7) (T := TX7) (N := 11) hx hb hts hiX7 hown hKK.1 hP 0 rfl rfl 4 (by decide) (hts (.fieldLink RX7 33 "SlideLand" "trial" "LSlideLand$Stand;") (List.mem_of_getElem? (i := 1) rfl)) (fun _ h9 => h9) rfl dX7_worth_123 ?_
                  refine lv_aload_n hx hb dX7_worth_126 rfl (lv_at hl 0 rfl) ?_
                  refine va_get (D := (dC, dI)) (ci := 7) (v := .ref (g0 1)) (C := RX7) (T := TX7) (N := 11) hx hb hts hiX7 hown hKK.1 hP 0 rfl rfl 1 (by decide) (hts (.fieldLink RX7 19 "SlideLand" "told" "LSlideLand$Told;") (List.mem_of_getElem? (i := 3) rfl)) (fun _ h9 => h9) rfl dX7_worth_127 ?_
                  obtain ⟨q15, hq15, h⟩ := obd_e h
                  refine kcV (rest := []) (w2 := ([cX7 a0 g0 o0, cX7_10 cI g0 o0, cX6 (g0 1) g1 o1, cX6_0 cI g1 o1, cX6_1 cI g1 o1, cX6_2 cI g1 o1, cX6_3 cI g1 o1, cX6_4 cI g1 o1, cX6_5 cI g1 o1, cX6_6 cI g1 o1, cX6_7 cI g1 o1, cX5 (g0 3) g2 o2, cX5_5 cI g2 o2, cX5_6 cI g2 o2, cX5 (g0 4) g3 q14, cX5_5 cI g3 q14, cX5_6 cI g3 q14])) hx hb hml hown hts hKK hP hD hS hA (c_X5_allGoods l dC dI cB cI cZ cO (g0 4) g3 q14 (g0 1) g1 o1 hq15) [14, 15, 16, 2, 3, 4, 5, 6, 7, 8, 9, 10] (atAll_map ⟨rfl, rfl, rfl, rfl, rfl, rfl, rfl, rfl, rfl, rfl, rfl, rfl, trivial⟩) (by decide +kernel) (sameAd_map ⟨rfl, rfl, rfl, rfl, rfl, rfl, rfl, rfl, rfl, rfl, rfl, rfl, trivial⟩) (atAll_map ⟨rfl, rfl, rfl, rfl, rfl, rfl, rfl, rfl, rfl, rfl, rfl, rfl, trivial⟩) (agr_refl _ _ _) (cwV 1 hts gX7_worth_X5_allGoods rfl rfl rfl ⟨rfl, dsc_X5_allGoods⟩ ⟨Nat.le_of_ble_eq_true rfl, Nat.le_of_ble_eq_true rfl⟩) (va_recv hKK.1 hP (ci := 5) (q0 := 14) rfl rfl) rfl hl.1 rfl (Nat.le_of_ble_eq_true rfl) dX7_worth_130 ⟨Nat.zero_le _, Nat.zero_le _⟩ (fun H locs hP hD hS => ?_)
                  refine lv_istore (lv' := [(7, .int q15), (0, .ref a0), (1, .int v1), (2, .int v2), (3, .int x78_3), (4, .int x78_4), (5, .int x63_5), (6, .int x78_6)]) hx hb dX7_worth_133 hl (by decide) rfl (fun ls hl => ?_)
                  refine lv_iload hx hb dX7_worth_135 (lv_at hl 0 rfl) ?_
                  refine lv_iload hx hb dX7_worth_137 (lv_at hl 5 rfl) ?_
                  have jn155 : ∀ (x155_3 : Int32) (x155_4 : Int32), f_X7_worth_155 x78_6 (f_X7_worth_78 o1 o2 v1 x63_5 (f_X7_worth_63 o1 o2 v1 v2 nn63) nn78) q14 x155_3 x155_4 = some r → ∀ (H : Heap) (locs : List Loc) (ls : Array Slot), va_P (dC, dI) vwCl ([cX7 a0 g0 o0, cX7_10 cI g0 o0, cX6 (g0 1) g1 o1, cX6_0 cI g1 o1, cX6_1 cI g1 o1, cX6_2 cI g1 o1, cX6_3 cI g1 o1, cX6_4 cI g1 o1, cX6_5 cI g1 o1, cX6_6 cI g1 o1, cX6_7 cI g1 o1, cX5 (g0 3) g2 o2, cX5_5 cI g2 o2, cX5_6 cI g2 o2, cX5 (g0 4) g3 q14, cX5_5 cI g3 q14, cX5_6 cI g3 q14]) H → va_D A ([cX7 a0 g0 o0, cX7_10 cI g0 o0, cX6 (g0 1) g1 o1, cX6_0 cI g1 o1, cX6_1 cI g1 o1, cX6_2 cI g1 o1, cX6_3 cI g1 o1, cX6_4 cI g1 o1, cX6_5 cI g1 o1, cX6_6 cI g1 o1, cX6_7 cI g1 o1, cX5 (g0 3) g2 o2, cX5_5 cI g2 o2, cX5_6 cI g2 o2, cX5 (g0 4) g3 q14, cX5_5 cI g3 q14, cX5_6 cI g3 q14]) → va_S A s.heap H locs → lv_has ls 8 [(0, .ref a0), (1, .int v1), (2, .int v2), (3, .int x155_3), (4, .int x155_4), (5, .int x63_5), (6, .int x78_6)] → W p l e (headSpec wsX7_worth rmX7_worth).room s m ([.ref a0, .int v1, .int v2] : List Value).toArray below meth c H locs 0 0 Q (F0 m 155 ls []) := by
                    intro x155_3 x155_4 h H locs ls hP hD hS hl
                    rw [f_X7_worth_155] at h
                    obtain ⟨x16, hx16, h⟩ := bnd_e h
                    refine lv_iinc (v := x16) (lv' := [(6, .int x16), (0, .ref a0), (1, .int v1), (2, .int v2), (3, .int x155_3), (4, .int x155_4), (5, .int x63_5)]) hx hb dX7_worth_155 hl (k := 6) rfl (by rw [← hx16]; rfl) (by decide) rfl (fun ls hl => ?_)
                    refine lv_goto (tgt := 78) hx hb dX7_worth_158 (by decide) ?_
                    exact ih78 x155_3 x155_4 x16 q14 h _ _ _ hP hD hS (lv_sub hl [1, 2, 3, 4, 5, 6, 0] rfl)
                  refine lv_icmp_le (tgt := 155) hx hb dX7_worth_139 (by decide) (fun k17 => ?_) (fun k17 => ?_)
                  · have h := ite_t k17 h
                    exact jn155 x78_3 x78_4 h _ _ _ hP hD hS (lv_sub hl [1, 2, 3, 4, 5, 6, 7] rfl)
                  · have h := ite_f k17 h
                    refine lv_iload hx hb dX7_worth_142 (lv_at hl 0 rfl) ?_
                    refine lv_istore (lv' := [(4, .int q15), (7, .int q15), (0, .ref a0), (1, .int v1), (2, .int v2), (3, .int x78_3), (5, .int x63_5), (6, .int x78_6)]) hx hb dX7_worth_144 hl (by decide) rfl (fun ls hl => ?_)
                    refine lv_bipush (v := (10 : Int32)) hx hb dX7_worth_146 (by decide) ?_
                    refine lv_iload hx hb dX7_worth_148 (lv_at hl 6 rfl) ?_
                    refine lv_imul hx hb dX7_worth_150 ?_
                    refine lv_iload hx hb dX7_worth_151 (lv_at hl 7 rfl) ?_
                    refine lv_iadd hx hb dX7_worth_153 ?_
                    obtain ⟨x18, hx18, h⟩ := bnd_e h
                    refine lv_topE hx18 ?_
                    refine lv_istore_n (lv' := [(3, .int x18), (4, .int q15), (7, .int q15), (0, .ref a0), (1, .int v1), (2, .int v2), (5, .int x63_5), (6, .int x78_6)]) hx hb dX7_worth_154 rfl hl (by decide) rfl (fun ls hl => ?_)
                    exact jn155 x18 q15 h _ _ _ hP hD hS (lv_sub hl [3, 4, 5, 0, 1, 6, 7] rfl)
            exact lp78 FU x63_3 x63_4 (0 : Int32) o63_3 h _ _ _ hP hD hS (lv_sub hl [1, 2, 3, 4, 5, 6, 0] rfl)
      exact lp63 FU (99 : Int32) q7 (0 : Int32) q6 h _ _ _ hP hD hS (lv_sub hl [3, 4, 5, 2, 1, 0] rfl)
    · have h := ite_t k4 h
      refine lv_iconst (v := (-1 : Int32)) hx hb dX7_worth_19 (by decide) ?_
      have h := Option.some.inj h
      subst h
      subst hQ
      exact W.iret (v := (-1 : Int32)) hx hb hr (fun t ht hW => ⟨⟨rfl, by rw [ht]; exact hP, hD⟩, hS.F ht⟩) hS.2.2 dX7_worth_20
def f_X7_tells_166 (v1 : Int32) (q3 : Ob) (x42_2 : Int32) (x42_3 : Int32) : Option (Int32 × Ob) := if v1 = 0 then (some (x42_2, q3)) else (if x42_2 = (-4 : Int32) then (some (x42_2, q3)) else (some (x42_3, q3)))
def f_X7_tells_154 (x67_5 : Int32) (kL67 : (Int32 → Int32 → Int32 → Option (Int32 × Ob))) (x154_2 : Int32) (x154_3 : Int32) : Option (Int32 × Ob) := bnd (x67_5 + (1 : Int32)) fun x11 : Int32 => kL67 x154_2 x154_3 x11
def f_X7_tells_67 (o1 : Ob) (o2 : Ob) (o3 : Ob) (q3 : Ob) (x42_4 : Int32) (kL42 : (Int32 → Int32 → Int32 → Option (Int32 × Ob))) : Nat → Int32 → Int32 → Int32 → Option (Int32 × Ob)
  | 0, _, _, _ => none
  | nn67+1, x67_2, x67_3, x67_5 => if (12 : Int32) ≤ x67_5 then (bnd (x42_4 + (1 : Int32)) fun x9 : Int32 => kL42 x67_2 x67_3 x9) else ((f_X6_isTold o1 x67_5).bind fun q10 : Bool => if (b2i q10) = 0 then (f_X7_tells_154 x67_5 (f_X7_tells_67 o1 o2 o3 q3 x42_4 kL42 nn67) x67_2 x67_3) else ((f_X0_holds o3 x42_4 x67_5).bind fun q13 : Bool => if (b2i q13) = 0 then ((f_X1_greaterPart q3 o1 (o2.1 3) x42_4 x67_5).bind fun q15 : Int32 => if x67_3 ≤ q15 then (f_X7_tells_154 x67_5 (f_X7_tells_67 o1 o2 o3 q3 x42_4 kL42 nn67) x67_2 x67_3) else (bnd (f_X7_landOf x67_5) fun q17 : Int32 => bnd (f_X7_kOf x67_5) fun q18 : Int32 => bnd ((((100 : Int32) * x42_4) + ((10 : Int32) * q17)) + q18) fun x19 : Int32 => f_X7_tells_154 x67_5 (f_X7_tells_67 o1 o2 o3 q3 x42_4 kL42 nn67) x19 q15)) else (f_X7_tells_154 x67_5 (f_X7_tells_67 o1 o2 o3 q3 x42_4 kL42 nn67) x67_2 x67_3)))
def f_X7_tells_42 (o1 : Ob) (o2 : Ob) (o3 : Ob) (v1 : Int32) (q3 : Ob) : Nat → Int32 → Int32 → Int32 → Option (Int32 × Ob)
  | 0, _, _, _ => none
  | nn42+1, x42_2, x42_3, x42_4 => if (o1.1 8) ≤ x42_4 then (f_X7_tells_166 v1 q3 x42_2 x42_3) else (if (q3.1 1) ≤ 0 then (f_X7_tells_166 v1 q3 x42_2 x42_3) else (f_X7_tells_67 o1 o2 o3 q3 x42_4 (f_X7_tells_42 o1 o2 o3 v1 q3 nn42) FU x42_2 x42_3 (0 : Int32)))
def f_X7_tells (o0 : Ob) (o1 : Ob) (o2 : Ob) (o3 : Ob) (o4 : Ob) (v1 : Int32) : Option (Int32 × Ob) := bnd (f_X7_within v1 (0 : Int32) (1 : Int32)) fun q1 : Bool => if (b2i q1) = 0 then (some ((-1 : Int32), o4)) else ((f_X1_findSo o4 o1 o3 (o2.1 3)).bind fun q3 : Ob => f_X7_tells_42 o1 o2 o3 v1 q3 FU (-4 : Int32) (82 : Int32) (0 : Int32))
abbrev rmX7_tells : Room := { frames := 5, cells := 0, slots := 0, locals := 118 }
theorem dsc_X7_tells : yX7_tells.cls ≠ "java/lang/invoke/MethodHandle" ∧ yX7_tells.cls ≠ "java/lang/invoke/VarHandle" ∧ (parseMethodDescriptor yX7_tells.desc).map (fun d => d.parameters.length) = some 1 := by decide +kernel
set_option maxHeartbeats 4000000 in
set_option maxRecDepth 100000 in
theorem c_X7_tells (l : Launch) (dC : Nat → ClassId) (dI : Nat → Nat → Nat) (cB cI cZ cO : ClassId) (a0 : Nat) (g0 : Nat → Nat) (o0 : Ob) (g1 : Nat → Nat) (o1 : Ob) (g2 : Nat → Nat) (o2 : Ob) (g3 : Nat → Nat) (o3 : Ob) (g4 : Nat → Nat) (o4 : Ob) (v1 : Int32) {r : Int32 × Ob} (h : f_X7_tells o0 o1 o2 o3 o4 v1 = some r) : Ct dC dI cB cI cZ cO l yX7_tells wsX7_tells rmX7_tells [.ref a0, .int v1] ([cX7 a0 g0 o0, cX7_10 cI g0 o0, cX6 (g0 1) g1 o1, cX6_0 cI g1 o1, cX6_1 cI g1 o1, cX6_2 cI g1 o1, cX6_3 cI g1 o1, cX6_4 cI g1 o1, cX6_5 cI g1 o1, cX6_6 cI g1 o1, cX6_7 cI g1 o1, cX5 (g0 3) g2 o2, cX5_5 cI g2 o2, cX5_6 cI g2 o2, cX0 (g0 7) g3 o3, cX0_0 cI g3 o3, cX0_1 cI g3 o3, cX1 (g0 9) g4 o4, cX1_0 cZ g4 o4, cX1_3 cI g4 o4]) (some (.int r.1)) ([cX7 a0 g0 o0, cX7_10 cI g0 o0, cX6 (g0 1) g1 o1, cX6_0 cI g1 o1, cX6_1 cI g1 o1, cX6_2 cI g1 o1, cX6_3 cI g1 o1, cX6_4 cI g1 o1, cX6_5 cI g1 o1, cX6_6 cI g1 o1, cX6_7 cI g1 o1, cX5 (g0 3) g2 o2, cX5_5 cI g2 o2, cX5_6 cI g2 o2, cX0 (g0 7) g3 o3, cX0_0 cI g3 o3, cX0_1 cI g3 o3, cX1 (g0 9) g4 r.2, cX1_0 cZ g4 r.2, cX1_3 cI g4 r.2]) := by
  intro sz
  refine Met.ofW (cc := cX7_tells) (maxL := 7) (ret := (some .int)) (by decide) rfl ?_
  intro p e s m args below meth c s₁ B hml hv
  obtain ⟨rfl, hsz, hP, hKK, hD0⟩ := hv
  have hx := B.exec
  have hb := B.bytes
  have hr := B.returns
  have hts := atoms_spec (ws := wsX7_tells) B.pre
  have hown : s.vm.findClass RX7 = some m.cls := findClass_of_methodNamed B.named
  have hlocks := B.notSynchronized
  have hiX7 : ∀ w ∈ u_ws RX7 TX7 11, w ∈ wsX7_tells := fun w h => List.mem_cons_of_mem _ (List.mem_append_left _ (List.mem_append_left _ (List.mem_append_left _ (List.mem_append_left _ (List.mem_append_right _ h)))))
  have hiX5 : ∀ w ∈ u_ws RX5 TX5 7, w ∈ wsX7_tells := fun w h => List.mem_cons_of_mem _ (List.mem_append_left _ (List.mem_append_left _ (List.mem_append_left _ (List.mem_append_right _ h))))
  have hiX6 : ∀ w ∈ u_ws RX6 TX6 11, w ∈ wsX7_tells := fun w h => List.mem_cons_of_mem _ (List.mem_append_left _ (List.mem_append_left _ (List.mem_append_right _ h)))
  have hiX1 : ∀ w ∈ u_ws RX1 TX1 4, w ∈ wsX7_tells := fun w h => List.mem_cons_of_mem _ (List.mem_append_left _ (List.mem_append_right _ h))
  subst hsz
  have hD := hD0.self (sz := s.heap.size)
  generalize hAe : va_A ([cX7 a0 g0 o0, cX7_10 cI g0 o0, cX6 (g0 1) g1 o1, cX6_0 cI g1 o1, cX6_1 cI g1 o1, cX6_2 cI g1 o1, cX6_3 cI g1 o1, cX6_4 cI g1 o1, cX6_5 cI g1 o1, cX6_6 cI g1 o1, cX6_7 cI g1 o1, cX5 (g0 3) g2 o2, cX5_5 cI g2 o2, cX5_6 cI g2 o2, cX0 (g0 7) g3 o3, cX0_0 cI g3 o3, cX0_1 cI g3 o3, cX1 (g0 9) g4 o4, cX1_0 cZ g4 o4, cX1_3 cI g4 o4]) s.heap.size = A at hD ⊢
  have hA : ∀ q : Nat, s.heap.size ≤ q → A q := fun q h => by rw [← hAe]; exact Or.inr h
  have hS : va_S A s.heap s.heap [] := va_S.rf
  have hP : va_P (dC, dI) vwCl ([cX7 a0 g0 o0, cX7_10 cI g0 o0, cX6 (g0 1) g1 o1, cX6_0 cI g1 o1, cX6_1 cI g1 o1, cX6_2 cI g1 o1, cX6_3 cI g1 o1, cX6_4 cI g1 o1, cX6_5 cI g1 o1, cX6_6 cI g1 o1, cX6_7 cI g1 o1, cX5 (g0 3) g2 o2, cX5_5 cI g2 o2, cX5_6 cI g2 o2, cX0 (g0 7) g3 o3, cX0_0 cI g3 o3, cX0_1 cI g3 o3, cX1 (g0 9) g4 o4, cX1_0 cZ g4 o4, cX1_3 cI g4 o4]) s.heap := hP
  have hD : va_D A ([cX7 a0 g0 o0, cX7_10 cI g0 o0, cX6 (g0 1) g1 o1, cX6_0 cI g1 o1, cX6_1 cI g1 o1, cX6_2 cI g1 o1, cX6_3 cI g1 o1, cX6_4 cI g1 o1, cX6_5 cI g1 o1, cX6_6 cI g1 o1, cX6_7 cI g1 o1, cX5 (g0 3) g2 o2, cX5_5 cI g2 o2, cX5_6 cI g2 o2, cX0 (g0 7) g3 o3, cX0_0 cI g3 o3, cX0_1 cI g3 o3, cX1 (g0 9) g4 o4, cX1_0 cZ g4 o4, cX1_3 cI g4 o4]) := hD
  have hl := lv_entry ([.ref a0, .int v1]) (n := 7) (Nat.le_of_ble_eq_true rfl)
  rw [lg_entry_eq]
  generalize (lg_sl ([.ref a0, .int v1]) ++ List.replicate (7 - (lg_sl ([.ref a0, .int v1])).length) Slot.unset).toArray = ls at hl ⊢
  have hl : lv_has ls 7 [(0, .ref a0), (1, .int v1)] := hl
  obtain ⟨Q, hQ⟩ : ∃ Q, Q = MQ below (Qq dC dI (some (.int r.1)) ([cX7 a0 g0 o0, cX7_10 cI g0 o0, cX6 (g0 1) g1 o1, cX6_0 cI g1 o1, cX6_1 cI g1 o1, cX6_2 cI g1 o1, cX6_3 cI g1 o1, cX6_4 cI g1 o1, cX6_5 cI g1 o1, cX6_6 cI g1 o1, cX6_7 cI g1 o1, cX5 (g0 3) g2 o2, cX5_5 cI g2 o2, cX5_6 cI g2 o2, cX0 (g0 7) g3 o3, cX0_0 cI g3 o3, cX0_1 cI g3 o3, cX1 (g0 9) g4 r.2, cX1_0 cZ g4 r.2, cX1_3 cI g4 r.2]) A) ([.ref a0, .int v1] : List Value).toArray s 0 0 A := ⟨_, rfl⟩
  rw [← hQ]
  rw [f_X7_tells] at h
  clear hAe hD0
  refine lv_iload_n hx hb dX7_tells_0 rfl (lv_at hl 1 rfl) ?_
  refine lv_iconst (v := (0 : Int32)) hx hb dX7_tells_1 (by decide) ?_
  refine lv_iconst (v := (1 : Int32)) hx hb dX7_tells_2 (by decide) ?_
  obtain ⟨q1, hq1, h⟩ := bnd_e h
  refine kcS (rest := []) (w2 := ([cX7 a0 g0 o0, cX7_10 cI g0 o0, cX6 (g0 1) g1 o1, cX6_0 cI g1 o1, cX6_1 cI g1 o1, cX6_2 cI g1 o1, cX6_3 cI g1 o1, cX6_4 cI g1 o1, cX6_5 cI g1 o1, cX6_6 cI g1 o1, cX6_7 cI g1 o1, cX5 (g0 3) g2 o2, cX5_5 cI g2 o2, cX5_6 cI g2 o2, cX0 (g0 7) g3 o3, cX0_0 cI g3 o3, cX0_1 cI g3 o3, cX1 (g0 9) g4 o4, cX1_0 cZ g4 o4, cX1_3 cI g4 o4])) hx hb hml hown hts hKK hP hD hS hA (c_X7_within l dC dI cB cI cZ cO v1 (0 : Int32) (1 : Int32) hq1) [] (atAll_map trivial) (by decide +kernel) (sameAd_map trivial) (atAll_map trivial) (agr_refl _ _ _) (va_cwS 3 hts gX7_tells_X7_within rfl rfl rfl dsc_X7_within ⟨Nat.le_of_ble_eq_true rfl, Nat.le_of_ble_eq_true rfl⟩) rfl hl.1 rfl (Nat.le_of_ble_eq_true rfl) dX7_tells_3 ⟨Nat.zero_le _, Nat.zero_le _⟩ (fun H locs hP hD hS => ?_)
  refine lv_if_ne (tgt := 11) hx hb dX7_tells_6 (by decide) (fun k2 => ?_) (fun k2 => ?_)
  · have h := ite_f k2 h
    refine lv_aload_n hx hb dX7_tells_11 rfl (lv_at hl 0 rfl) ?_
    refine va_get (D := (dC, dI)) (ci := 7) (v := .ref (g0 9)) (C := RX7) (T := TX7) (N := 11) hx hb hts hiX7 hown hKK.1 hP 0 rfl rfl 9 (by decide) (hts (.fieldLink RX7 65 "SlideLand" "byShift" "LSlideLand$ByShift;") (List.mem_of_getElem? (i := 1) rfl)) (fun _ h9 => h9) rfl dX7_tells_12 ?_
    refine lv_aload_n hx hb dX7_tells_15 rfl (lv_at hl 0 rfl) ?_
    refine va_get (D := (dC, dI)) (ci := 7) (v := .ref (g0 1)) (C := RX7) (T := TX7) (N := 11) hx hb hts hiX7 hown hKK.1 hP 0 rfl rfl 1 (by decide) (hts (.fieldLink RX7 19 "SlideLand" "told" "LSlideLand$Told;") (List.mem_of_getElem? (i := 2) rfl)) (fun _ h9 => h9) rfl dX7_tells_16 ?_
    refine lv_aload_n hx hb dX7_tells_19 rfl (lv_at hl 0 rfl) ?_
    refine va_get (D := (dC, dI)) (ci := 7) (v := .ref (g0 3)) (C := RX7) (T := TX7) (N := 11) hx hb hts hiX7 hown hKK.1 hP 0 rfl rfl 3 (by decide) (hts (.fieldLink RX7 29 "SlideLand" "now" "LSlideLand$Stand;") (List.mem_of_getElem? (i := 3) rfl)) (fun _ h9 => h9) rfl dX7_tells_20 ?_
    refine va_get (D := (dC, dI)) (ci := 5) (v := .int (o2.1 3)) (C := RX5) (T := TX5) (N := 7) hx hb hts hiX5 hown hKK.1 hP 11 rfl rfl 3 (by decide) (hts (.fieldLink RX7 153 "SlideLand$Stand" "year" "I") (List.mem_of_getElem? (i := 4) rfl)) (fun _ h9 => h9) rfl dX7_tells_23 ?_
    refine lv_aload_n hx hb dX7_tells_26 rfl (lv_at hl 0 rfl) ?_
    refine va_get (D := (dC, dI)) (ci := 7) (v := .ref (g0 7)) (C := RX7) (T := TX7) (N := 11) hx hb hts hiX7 hown hKK.1 hP 0 rfl rfl 7 (by decide) (hts (.fieldLink RX7 51 "SlideLand" "asked" "LSlideLand$Asked;") (List.mem_of_getElem? (i := 5) rfl)) (fun _ h9 => h9) rfl dX7_tells_27 ?_
    obtain ⟨q3, hq3, h⟩ := obd_e h
    refine kcV (rest := []) (w2 := ([cX7 a0 g0 o0, cX7_10 cI g0 o0, cX6 (g0 1) g1 o1, cX6_0 cI g1 o1, cX6_1 cI g1 o1, cX6_2 cI g1 o1, cX6_3 cI g1 o1, cX6_4 cI g1 o1, cX6_5 cI g1 o1, cX6_6 cI g1 o1, cX6_7 cI g1 o1, cX5 (g0 3) g2 o2, cX5_5 cI g2 o2, cX5_6 cI g2 o2, cX0 (g0 7) g3 o3, cX0_0 cI g3 o3, cX0_1 cI g3 o3, cX1 (g0 9) g4 q3, cX1_0 cZ g4 q3, cX1_3 cI g4 q3])) hx hb hml hown hts hKK hP hD hS hA (c_X1_findSo l dC dI cB cI cZ cO (g0 9) g4 o4 (g0 1) g1 o1 (g0 7) g3 o3 (o2.1 3) hq3) [17, 18, 19, 2, 3, 4, 5, 6, 7, 8, 9, 10, 14, 15, 16] (atAll_map ⟨rfl, rfl, rfl, rfl, rfl, rfl, rfl, rfl, rfl, rfl, rfl, rfl, rfl, rfl, rfl, trivial⟩) (by decide +kernel) (sameAd_map ⟨rfl, rfl, rfl, rfl, rfl, rfl, rfl, rfl, rfl, rfl, rfl, rfl, rfl, rfl, rfl, trivial⟩) (atAll_map ⟨rfl, rfl, rfl, rfl, rfl, rfl, rfl, rfl, rfl, rfl, rfl, rfl, rfl, rfl, rfl, trivial⟩) ⟨Or.inl rfl, Or.inl rfl, Or.inl rfl, Or.inl rfl, Or.inl rfl, Or.inl rfl, Or.inl rfl, Or.inl rfl, Or.inl rfl, Or.inl rfl, Or.inl rfl, Or.inl rfl, Or.inl rfl, Or.inl rfl, Or.inl rfl, Or.inl rfl, Or.inl rfl, Or.inr (by decide), Or.inr (by decide), Or.inr (by decide), trivial⟩ (cwV 3 hts gX7_tells_X1_findSo rfl rfl rfl ⟨rfl, dsc_X1_findSo⟩ ⟨Nat.le_of_ble_eq_true rfl, Nat.le_of_ble_eq_true rfl⟩) (va_recv hKK.1 hP (ci := 1) (q0 := 17) rfl rfl) rfl hl.1 rfl (Nat.le_of_ble_eq_true rfl) dX7_tells_30 ⟨Nat.zero_le _, Nat.zero_le _⟩ (fun H locs hP hD hS => ?_)
    refine lv_bipush (v := (-4 : Int32)) hx hb dX7_tells_33 (by decide) ?_
    refine lv_istore_n (lv' := [(2, .int (-4 : Int32)), (0, .ref a0), (1, .int v1)]) hx hb dX7_tells_35 rfl hl (by decide) rfl (fun ls hl => ?_)
    refine lv_bipush (v := (82 : Int32)) hx hb dX7_tells_36 (by decide) ?_
    refine lv_istore_n (lv' := [(3, .int (82 : Int32)), (2, .int (-4 : Int32)), (0, .ref a0), (1, .int v1)]) hx hb dX7_tells_38 rfl hl (by decide) rfl (fun ls hl => ?_)
    refine lv_iconst (v := (0 : Int32)) hx hb dX7_tells_39 (by decide) ?_
    refine lv_istore (lv' := [(4, .int (0 : Int32)), (3, .int (82 : Int32)), (2, .int (-4 : Int32)), (0, .ref a0), (1, .int v1)]) hx hb dX7_tells_40 hl (by decide) rfl (fun ls hl => ?_)
    have lp42 : ∀ (nn42 : Nat) (x42_2 : Int32) (x42_3 : Int32) (x42_4 : Int32), f_X7_tells_42 o1 o2 o3 v1 q3 nn42 x42_2 x42_3 x42_4 = some r → ∀ (H : Heap) (locs : List Loc) (ls : Array Slot), va_P (dC, dI) vwCl ([cX7 a0 g0 o0, cX7_10 cI g0 o0, cX6 (g0 1) g1 o1, cX6_0 cI g1 o1, cX6_1 cI g1 o1, cX6_2 cI g1 o1, cX6_3 cI g1 o1, cX6_4 cI g1 o1, cX6_5 cI g1 o1, cX6_6 cI g1 o1, cX6_7 cI g1 o1, cX5 (g0 3) g2 o2, cX5_5 cI g2 o2, cX5_6 cI g2 o2, cX0 (g0 7) g3 o3, cX0_0 cI g3 o3, cX0_1 cI g3 o3, cX1 (g0 9) g4 q3, cX1_0 cZ g4 q3, cX1_3 cI g4 q3]) H → va_D A ([cX7 a0 g0 o0, cX7_10 cI g0 o0, cX6 (g0 1) g1 o1, cX6_0 cI g1 o1, cX6_1 cI g1 o1, cX6_2 cI g1 o1, cX6_3 cI g1 o1, cX6_4 cI g1 o1, cX6_5 cI g1 o1, cX6_6 cI g1 o1, cX6_7 cI g1 o1, cX5 (g0 3) g2 o2, cX5_5 cI g2 o2, cX5_6 cI g2 o2, cX0 (g0 7) g3 o3, cX0_0 cI g3 o3, cX0_1 cI g3 o3, cX1 (g0 9) g4 q3, cX1_0 cZ g4 q3, cX1_3 cI g4 q3]) → va_S A s.heap H locs → lv_has ls 7 [(0, .ref a0), (1, .int v1), (2, .int x42_2), (3, .int x42_3), (4, .int x42_4)] → W p l e (headSpec wsX7_tells rmX7_tells).room s m ([.ref a0, .int v1] : List Value).toArray below meth c H locs 0 0 Q (F0 m 42 ls []) := by
      intro nn42
      induction nn42 with
      | zero => intro x42_2 x42_3 x42_4 h; rw [f_X7_tells_42] at h; cases h
      | succ nn42 ih42 =>
        intro x42_2 x42_3 x42_4 h H locs ls hP hD hS hl
        rw [f_X7_tells_42] at h
        refine lv_iload hx hb dX7_tells_42 (lv_at hl 4 rfl) ?_
        refine lv_aload_n hx hb dX7_tells_44 rfl (lv_at hl 0 rfl) ?_
        refine va_get (D := (dC, dI)) (ci := 7) (v := .ref (g0 1)) (C := RX7) (T := TX7) (N := 11) hx hb hts hiX7 hown hKK.1 hP 0 rfl rfl 1 (by decide) (hts (.fieldLink RX7 19 "SlideLand" "told" "LSlideLand$Told;") (List.mem_of_getElem? (i := 2) rfl)) (fun _ h9 => h9) rfl dX7_tells_45 ?_
        refine va_get (D := (dC, dI)) (ci := 6) (v := .int (o1.1 8)) (C := RX6) (T := TX6) (N := 11) hx hb hts hiX6 hown hKK.1 hP 2 rfl rfl 8 (by decide) (hts (.fieldLink RX7 105 "SlideLand$Told" "strips" "I") (List.mem_of_getElem? (i := 6) rfl)) (fun _ h9 => h9) rfl dX7_tells_48 ?_
        have jn166 : f_X7_tells_166 v1 q3 x42_2 x42_3 = some r → ∀ (H : Heap) (locs : List Loc) (ls : Array Slot), va_P (dC, dI) vwCl ([cX7 a0 g0 o0, cX7_10 cI g0 o0, cX6 (g0 1) g1 o1, cX6_0 cI g1 o1, cX6_1 cI g1 o1, cX6_2 cI g1 o1, cX6_3 cI g1 o1, cX6_4 cI g1 o1, cX6_5 cI g1 o1, cX6_6 cI g1 o1, cX6_7 cI g1 o1, cX5 (g0 3) g2 o2, cX5_5 cI g2 o2, cX5_6 cI g2 o2, cX0 (g0 7) g3 o3, cX0_0 cI g3 o3, cX0_1 cI g3 o3, cX1 (g0 9) g4 q3, cX1_0 cZ g4 q3, cX1_3 cI g4 q3]) H → va_D A ([cX7 a0 g0 o0, cX7_10 cI g0 o0, cX6 (g0 1) g1 o1, cX6_0 cI g1 o1, cX6_1 cI g1 o1, cX6_2 cI g1 o1, cX6_3 cI g1 o1, cX6_4 cI g1 o1, cX6_5 cI g1 o1, cX6_6 cI g1 o1, cX6_7 cI g1 o1, cX5 (g0 3) g2 o2, cX5_5 cI g2 o2, cX5_6 cI g2 o2, cX0 (g0 7) g3 o3, cX0_0 cI g3 o3, cX0_1 cI g3 o3, cX1 (g0 9) g4 q3, cX1_0 cZ g4 q3, cX1_3 cI g4 q3]) → va_S A s.heap H locs → lv_has ls 7 [(1, .int v1), (2, .int x42_2), (3, .int x42_3)] → W p l e (headSpec wsX7_tells rmX7_tells).room s m ([.ref a0, .int v1] : List Value).toArray below meth c H locs 0 0 Q (F0 m 166 ls []) := by
          intro h H locs ls hP hD hS hl
          rw [f_X7_tells_166] at h
          refine lv_iload_n hx hb dX7_tells_166 rfl (lv_at hl 0 rfl) ?_
          refine lv_if_eq (tgt := 176) hx hb dX7_tells_167 (by decide) (fun k4 => ?_) (fun k4 => ?_)
          · have h := ite_t k4 h
            refine lv_iload_n hx hb dX7_tells_176 rfl (lv_at hl 1 rfl) ?_
            refine lv_goto (tgt := 181) hx hb dX7_tells_177 (by decide) ?_
            have h := Option.some.inj h
            subst h
            subst hQ
            exact W.iret (v := x42_2) hx hb hr (fun t ht hW => ⟨⟨rfl, by rw [ht]; exact hP, hD⟩, hS.F ht⟩) hS.2.2 dX7_tells_181
          · have h := ite_f k4 h
            refine lv_iload_n hx hb dX7_tells_170 rfl (lv_at hl 1 rfl) ?_
            refine lv_bipush (v := (-4 : Int32)) hx hb dX7_tells_171 (by decide) ?_
            refine lv_icmp_ne (tgt := 180) hx hb dX7_tells_173 (by decide) (fun k5 => ?_) (fun k5 => ?_)
            · have h := ite_f k5 h
              refine lv_iload_n hx hb dX7_tells_180 rfl (lv_at hl 2 rfl) ?_
              have h := Option.some.inj h
              subst h
              subst hQ
              exact W.iret (v := x42_3) hx hb hr (fun t ht hW => ⟨⟨rfl, by rw [ht]; exact hP, hD⟩, hS.F ht⟩) hS.2.2 dX7_tells_181
            · have h := ite_t k5 h
              refine lv_iload_n hx hb dX7_tells_176 rfl (lv_at hl 1 rfl) ?_
              refine lv_goto (tgt := 181) hx hb dX7_tells_177 (by decide) ?_
              have h := Option.some.inj h
              subst h
              subst hQ
              exact W.iret (v := x42_2) hx hb hr (fun t ht hW => ⟨⟨rfl, by rw [ht]; exact hP, hD⟩, hS.F ht⟩) hS.2.2 dX7_tells_181
        refine lv_icmp_ge (tgt := 166) hx hb dX7_tells_51 (by decide) (fun k6 => ?_) (fun k6 => ?_)
        · have h := ite_t k6 h
          exact jn166 h _ _ _ hP hD hS (lv_sub hl [1, 2, 3] rfl)
        · have h := ite_f k6 h
          refine lv_aload_n hx hb dX7_tells_54 rfl (lv_at hl 0 rfl) ?_
          refine va_get (D := (dC, dI)) (ci := 7) (v := .ref (g0 9)) (C := RX7) (T := TX7) (N := 11) hx hb hts hiX7 hown hKK.1 hP 0 rfl rfl 9 (by decide) (hts (.fieldLink RX7 65 "SlideLand" "byShift" "LSlideLand$ByShift;") (List.mem_of_getElem? (i := 1) rfl)) (fun _ h9 => h9) rfl dX7_tells_55 ?_
          refine va_get (D := (dC, dI)) (ci := 1) (v := .int (q3.1 1)) (C := RX1) (T := TX1) (N := 4) hx hb hts hiX1 hown hKK.1 hP 17 rfl rfl 1 (by decide) (hts (.fieldLink RX7 215 "SlideLand$ByShift" "howManySo" "I") (List.mem_of_getElem? (i := 7) rfl)) (fun _ h9 => h9) rfl dX7_tells_58 ?_
          refine lv_if_le (tgt := 166) hx hb dX7_tells_61 (by decide) (fun k7 => ?_) (fun k7 => ?_)
          · have h := ite_t k7 h
            exact jn166 h _ _ _ hP hD hS (lv_sub hl [1, 2, 3] rfl)
          · have h := ite_f k7 h
            refine lv_iconst (v := (0 : Int32)) hx hb dX7_tells_64 (by decide) ?_
            refine lv_istore (lv' := [(5, .int (0 : Int32)), (0, .ref a0), (1, .int v1), (2, .int x42_2), (3, .int x42_3), (4, .int x42_4)]) hx hb dX7_tells_65 hl (by decide) rfl (fun ls hl => ?_)
            have lp67 : ∀ (nn67 : Nat) (x67_2 : Int32) (x67_3 : Int32) (x67_5 : Int32), f_X7_tells_67 o1 o2 o3 q3 x42_4 (f_X7_tells_42 o1 o2 o3 v1 q3 nn42) nn67 x67_2 x67_3 x67_5 = some r → ∀ (H : Heap) (locs : List Loc) (ls : Array Slot), va_P (dC, dI) vwCl ([cX7 a0 g0 o0, cX7_10 cI g0 o0, cX6 (g0 1) g1 o1, cX6_0 cI g1 o1, cX6_1 cI g1 o1, cX6_2 cI g1 o1, cX6_3 cI g1 o1, cX6_4 cI g1 o1, cX6_5 cI g1 o1, cX6_6 cI g1 o1, cX6_7 cI g1 o1, cX5 (g0 3) g2 o2, cX5_5 cI g2 o2, cX5_6 cI g2 o2, cX0 (g0 7) g3 o3, cX0_0 cI g3 o3, cX0_1 cI g3 o3, cX1 (g0 9) g4 q3, cX1_0 cZ g4 q3, cX1_3 cI g4 q3]) H → va_D A ([cX7 a0 g0 o0, cX7_10 cI g0 o0, cX6 (g0 1) g1 o1, cX6_0 cI g1 o1, cX6_1 cI g1 o1, cX6_2 cI g1 o1, cX6_3 cI g1 o1, cX6_4 cI g1 o1, cX6_5 cI g1 o1, cX6_6 cI g1 o1, cX6_7 cI g1 o1, cX5 (g0 3) g2 o2, cX5_5 cI g2 o2, cX5_6 cI g2 o2, cX0 (g0 7) g3 o3, cX0_0 cI g3 o3, cX0_1 cI g3 o3, cX1 (g0 9) g4 q3, cX1_0 cZ g4 q3, cX1_3 cI g4 q3]) → va_S A s.heap H locs → lv_has ls 7 [(0, .ref a0), (1, .int v1), (2, .int x67_2), (3, .int x67_3), (4, .int x42_4), (5, .int x67_5)] → W p l e (headSpec wsX7_tells rmX7_tells).room s m ([.ref a0, .int v1] : List Value).toArray below meth c H locs 0 0 Q (F0 m 67 ls []) := by
              intro nn67
              induction nn67 with
              | zero => intro x67_2 x67_3 x67_5 h; rw [f_X7_tells_67] at h; cases h
              | succ nn67 ih67 =>
                intro x67_2 x67_3 x67_5 h H locs ls hP hD hS hl
                rw [f_X7_tells_67] at h
                refine lv_iload hx hb dX7_tells_67 (lv_at hl 5 rfl) ?_
                refine lv_bipush (v := (12 : Int32)) hx hb dX7_tells_69 (by decide) ?_
                refine lv_icmp_ge (tgt := 160) hx hb dX7_tells_71 (by decide) (fun k8 => ?_) (fun k8 => ?_)
                · have h := ite_t k8 h
                  obtain ⟨x9, hx9, h⟩ := bnd_e h
                  refine lv_iinc (v := x9) (lv' := [(4, .int x9), (0, .ref a0), (1, .int v1), (2, .int x67_2), (3, .int x67_3), (5, .int x67_5)]) hx hb dX7_tells_160 hl (k := 4) rfl (by rw [← hx9]; rfl) (by decide) rfl (fun ls hl => ?_)
                  refine lv_goto (tgt := 42) hx hb dX7_tells_163 (by decide) ?_
                  exact ih42 x67_2 x67_3 x9 h _ _ _ hP hD hS (lv_sub hl [1, 2, 3, 4, 0] rfl)
                · have h := ite_f k8 h
                  refine lv_aload_n hx hb dX7_tells_74 rfl (lv_at hl 0 rfl) ?_
                  refine va_get (D := (dC, dI)) (ci := 7) (v := .ref (g0 1)) (C := RX7) (T := TX7) (N := 11) hx hb hts hiX7 hown hKK.1 hP 0 rfl rfl 1 (by decide) (hts (.fieldLink RX7 19 "SlideLand" "told" "LSlideLand$Told;") (List.mem_of_getElem? (i := 2) rfl)) (fun _ h9 => h9) rfl dX7_tells_75 ?_
                  refine lv_iload hx hb dX7_tells_78 (lv_at hl 5 rfl) ?_
                  obtain ⟨q10, hq10, h⟩ := obd_e h
                  refine kcV (rest := []) (w2 := ([cX7 a0 g0 o0, cX7_10 cI g0 o0, cX6 (g0 1) g1 o1, cX6_0 cI g1 o1, cX6_1 cI g1 o1, cX6_2 cI g1 o1, cX6_3 cI g1 o1, cX6_4 cI g1 o1, cX6_5 cI g1 o1, cX6_6 cI g1 o1, cX6_7 cI g1 o1, cX5 (g0 3) g2 o2, cX5_5 cI g2 o2, cX5_6 cI g2 o2, cX0 (g0 7) g3 o3, cX0_0 cI g3 o3, cX0_1 cI g3 o3, cX1 (g0 9) g4 q3, cX1_0 cZ g4 q3, cX1_3 cI g4 q3])) hx hb hml hown hts hKK hP hD hS hA (c_X6_isTold l dC dI cB cI cZ cO (g0 1) g1 o1 x67_5 hq10) [2, 3, 4, 5, 6, 7, 8, 9, 10] (atAll_map ⟨rfl, rfl, rfl, rfl, rfl, rfl, rfl, rfl, rfl, trivial⟩) (by decide +kernel) (sameAd_map ⟨rfl, rfl, rfl, rfl, rfl, rfl, rfl, rfl, rfl, trivial⟩) (atAll_map ⟨rfl, rfl, rfl, rfl, rfl, rfl, rfl, rfl, rfl, trivial⟩) (agr_refl _ _ _) (cwV 1 hts gX7_tells_X6_isTold rfl rfl rfl ⟨rfl, dsc_X6_isTold⟩ ⟨Nat.le_of_ble_eq_true rfl, Nat.le_of_ble_eq_true rfl⟩) (va_recv hKK.1 hP (ci := 6) (q0 := 2) rfl rfl) rfl hl.1 rfl (Nat.le_of_ble_eq_true rfl) dX7_tells_80 ⟨Nat.zero_le _, Nat.zero_le _⟩ (fun H locs hP hD hS => ?_)
                  have jn154 : ∀ (x154_2 : Int32) (x154_3 : Int32), f_X7_tells_154 x67_5 (f_X7_tells_67 o1 o2 o3 q3 x42_4 (f_X7_tells_42 o1 o2 o3 v1 q3 nn42) nn67) x154_2 x154_3 = some r → ∀ (H : Heap) (locs : List Loc) (ls : Array Slot), va_P (dC, dI) vwCl ([cX7 a0 g0 o0, cX7_10 cI g0 o0, cX6 (g0 1) g1 o1, cX6_0 cI g1 o1, cX6_1 cI g1 o1, cX6_2 cI g1 o1, cX6_3 cI g1 o1, cX6_4 cI g1 o1, cX6_5 cI g1 o1, cX6_6 cI g1 o1, cX6_7 cI g1 o1, cX5 (g0 3) g2 o2, cX5_5 cI g2 o2, cX5_6 cI g2 o2, cX0 (g0 7) g3 o3, cX0_0 cI g3 o3, cX0_1 cI g3 o3, cX1 (g0 9) g4 q3, cX1_0 cZ g4 q3, cX1_3 cI g4 q3]) H → va_D A ([cX7 a0 g0 o0, cX7_10 cI g0 o0, cX6 (g0 1) g1 o1, cX6_0 cI g1 o1, cX6_1 cI g1 o1, cX6_2 cI g1 o1, cX6_3 cI g1 o1, cX6_4 cI g1 o1, cX6_5 cI g1 o1, cX6_6 cI g1 o1, cX6_7 cI g1 o1, cX5 (g0 3) g2 o2, cX5_5 cI g2 o2, cX5_6 cI g2 o2, cX0 (g0 7) g3 o3, cX0_0 cI g3 o3, cX0_1 cI g3 o3, cX1 (g0 9) g4 q3, cX1_0 cZ g4 q3, cX1_3 cI g4 q3]) → va_S A s.heap H locs → lv_has ls 7 [(0, .ref a0), (1, .int v1), (2, .int x154_2), (3, .int x154_3), (4, .int x42_4), (5, .int x67_5)] → W p l e (headSpec wsX7_tells rmX7_tells).room s m ([.ref a0, .int v1] : List Value).toArray below meth c H locs 0 0 Q (F0 m 154 ls []) := by
                    intro x154_2 x154_3 h H locs ls hP hD hS hl
                    rw [f_X7_tells_154] at h
                    obtain ⟨x11, hx11, h⟩ := bnd_e h
                    refine lv_iinc (v := x11) (lv' := [(5, .int x11), (0, .ref a0), (1, .int v1), (2, .int x154_2), (3, .int x154_3), (4, .int x42_4)]) hx hb dX7_tells_154 hl (k := 5) rfl (by rw [← hx11]; rfl) (by decide) rfl (fun ls hl => ?_)
                    refine lv_goto (tgt := 67) hx hb dX7_tells_157 (by decide) ?_
                    exact ih67 x154_2 x154_3 x11 h _ _ _ hP hD hS (lv_sub hl [1, 2, 3, 4, 5, 0] rfl)
                  refine lv_if_eq (tgt := 154) hx hb dX7_tells_83 (by decide) (fun k12 => ?_) (fun k12 => ?_)
                  · have h := ite_t k12 h
                    exact jn154 x67_2 x67_3 h _ _ _ hP hD hS (lv_sub hl [0, 1, 2, 3, 4, 5] rfl)
                  · have h := ite_f k12 h
                    refine lv_aload_n hx hb dX7_tells_86 rfl (lv_at hl 0 rfl) ?_
                    refine va_get (D := (dC, dI)) (ci := 7) (v := .ref (g0 7)) (C := RX7) (T := TX7) (N := 11) hx hb hts hiX7 hown hKK.1 hP 0 rfl rfl 7 (by decide) (hts (.fieldLink RX7 51 "SlideLand" "asked" "LSlideLand$Asked;") (List.mem_of_getElem? (i := 5) rfl)) (fun _ h9 => h9) rfl dX7_tells_87 ?_
                    refine lv_iload hx hb dX7_tells_90 (lv_at hl 4 rfl) ?_
                    refine lv_iload hx hb dX7_tells_92 (lv_at hl 5 rfl) ?_
                    obtain ⟨q13, hq13, h⟩ := obd_e h
                    refine kcV (rest := []) (w2 := ([cX7 a0 g0 o0, cX7_10 cI g0 o0, cX6 (g0 1) g1 o1, cX6_0 cI g1 o1, cX6_1 cI g1 o1, cX6_2 cI g1 o1, cX6_3 cI g1 o1, cX6_4 cI g1 o1, cX6_5 cI g1 o1, cX6_6 cI g1 o1, cX6_7 cI g1 o1, cX5 (g0 3) g2 o2, cX5_5 cI g2 o2, cX5_6 cI g2 o2, cX0 (g0 7) g3 o3, cX0_0 cI g3 o3, cX0_1 cI g3 o3, cX1 (g0 9) g4 q3, cX1_0 cZ g4 q3, cX1_3 cI g4 q3])) hx hb hml hown hts hKK hP hD hS hA (c_X0_holds l dC dI cB cI cZ cO (g0 7) g3 o3 x42_4 x67_5 hq13) [14, 15, 16] (atAll_map ⟨rfl, rfl, rfl, trivial⟩) (by decide +kernel) (sameAd_map ⟨rfl, rfl, rfl, trivial⟩) (atAll_map ⟨rfl, rfl, rfl, trivial⟩) (agr_refl _ _ _) (cwV 2 hts gX7_tells_X0_holds rfl rfl rfl ⟨rfl, dsc_X0_holds⟩ ⟨Nat.le_of_ble_eq_true rfl, Nat.le_of_ble_eq_true rfl⟩) (va_recv hKK.1 hP (ci := 0) (q0 := 14) rfl rfl) rfl hl.1 rfl (Nat.le_of_ble_eq_true rfl) dX7_tells_94 ⟨Nat.zero_le _, Nat.zero_le _⟩ (fun H locs hP hD hS => ?_)
                    refine lv_if_ne (tgt := 154) hx hb dX7_tells_97 (by decide) (fun k14 => ?_) (fun k14 => ?_)
                    · have h := ite_f k14 h
                      exact jn154 x67_2 x67_3 h _ _ _ hP hD hS (lv_sub hl [0, 1, 2, 3, 4, 5] rfl)
                    · have h := ite_t k14 h
                      refine lv_aload_n hx hb dX7_tells_100 rfl (lv_at hl 0 rfl) ?_
                      refine va_get (D := (dC, dI)) (ci := 7) (v := .ref (g0 9)) (C := RX7) (T := TX7) (N := 11) hx hb hts hiX7 hown hKK.1 hP 0 rfl rfl 9 (by decide) (hts (.fieldLink RX7 65 "SlideLand" "byShift" "LSlideLand$ByShift;") (List.mem_of_getElem? (i := 1) rfl)) (fun _ h9 => h9) rfl dX7_tells_101 ?_
                      refine lv_aload_n hx hb dX7_tells_104 rfl (lv_at hl 0 rfl) ?_
                      refine va_get (D := (dC, dI)) (ci := 7) (v := .ref (g0 1)) (C := RX7) (T := TX7) (N := 11) hx hb hts hiX7 hown hKK.1 hP 0 rfl rfl 1 (by decide) (hts (.fieldLink RX7 19 "SlideLand" "told" "LSlideLand$Told;") (List.mem_of_getElem? (i := 2) rfl)) (fun _ h9 => h9) rfl dX7_tells_105 ?_
                      refine lv_aload_n hx hb dX7_tells_108 rfl (lv_at hl 0 rfl) ?_
                      refine va_get (D := (dC, dI)) (ci := 7) (v := .ref (g0 3)) (C := RX7) (T := TX7) (N := 11) hx hb hts hiX7 hown hKK.1 hP 0 rfl rfl 3 (by decide) (hts (.fieldLink RX7 29 "SlideLand" "now" "LSlideLand$Stand;") (List.mem_of_getElem? (i := 3) rfl)) (fun _ h9 => h9) rfl dX7_tells_109 ?_
                      refine va_get (D := (dC, dI)) (ci := 5) (v := .int (o2.1 3)) (C := RX5) (T := TX5) (N := 7) hx hb hts hiX5 hown hKK.1 hP 11 rfl rfl 3 (by decide) (hts (.fieldLink RX7 153 "SlideLand$Stand" "year" "I") (List.mem_of_getElem? (i := 4) rfl)) (fun _ h9 => h9) rfl dX7_tells_112 ?_
                      refine lv_iload hx hb dX7_tells_115 (lv_at hl 4 rfl) ?_
                      refine lv_iload hx hb dX7_tells_117 (lv_at hl 5 rfl) ?_
                      obtain ⟨q15, hq15, h⟩ := obd_e h
                      refine kcV (rest := []) (w2 := ([cX7 a0 g0 o0, cX7_10 cI g0 o0, cX6 (g0 1) g1 o1, cX6_0 cI g1 o1, cX6_1 cI g1 o1, cX6_2 cI g1 o1, cX6_3 cI g1 o1, cX6_4 cI g1 o1, cX6_5 cI g1 o1, cX6_6 cI g1 o1, cX6_7 cI g1 o1, cX5 (g0 3) g2 o2, cX5_5 cI g2 o2, cX5_6 cI g2 o2, cX0 (g0 7) g3 o3, cX0_0 cI g3 o3, cX0_1 cI g3 o3, cX1 (g0 9) g4 q3, cX1_0 cZ g4 q3, cX1_3 cI g4 q3])) hx hb hml hown hts hKK hP hD hS hA (c_X1_greaterPart l dC dI cB cI cZ cO (g0 9) g4 q3 (g0 1) g1 o1 (o2.1 3) x42_4 x67_5 hq15) [17, 18, 19, 2, 3, 4, 5, 6, 7, 8, 9, 10] (atAll_map ⟨rfl, rfl, rfl, rfl, rfl, rfl, rfl, rfl, rfl, rfl, rfl, rfl, trivial⟩) (by decide +kernel) (sameAd_map ⟨rfl, rfl, rfl, rfl, rfl, rfl, rfl, rfl, rfl, rfl, rfl, rfl, trivial⟩) (atAll_map ⟨rfl, rfl, rfl, rfl, rfl, rfl, rfl, rfl, rfl, rfl, rfl, rfl, trivial⟩) (agr_refl _ _ _) (cwV 4 hts gX7_tells_X1_greaterPart rfl rfl rfl ⟨rfl, dsc_X1_greaterPart⟩ ⟨Nat.le_of_ble_eq_true rfl, Nat.le_of_ble_eq_true rfl⟩) (va_recv hKK.1 hP (ci := 1) (q0 := 17) rfl rfl) rfl hl.1 rfl (Nat.le_of_ble_eq_true rfl) dX7_tells_119 ⟨Nat.zero_le _, Nat.zero_le _⟩ (fun H locs hP hD hS => ?_)
                      refine lv_istore (lv' := [(6, .int q15), (0, .ref a0), (1, .int v1), (2, .int x67_2), (3, .int x67_3), (4, .int x42_4), (5, .int x67_5)]) hx hb dX7_tells_122 hl (by decide) rfl (fun ls hl => ?_)
                      refine lv_iload hx hb dX7_tells_124 (lv_at hl 0 rfl) ?_
                      refine lv_iload_n hx hb dX7_tells_126 rfl (lv_at hl 4 rfl) ?_
                      refine lv_icmp_ge (tgt := 154) hx hb dX7_tells_127 (by decide) (fun k16 => ?_) (fun k16 => ?_)
                      · have h := ite_t k16 h
                        exact jn154 x67_2 x67_3 h _ _ _ hP hD hS (lv_sub hl [1, 2, 3, 4, 5, 6] rfl)
                      · have h := ite_f k16 h
                        refine lv_iload hx hb dX7_tells_130 (lv_at hl 0 rfl) ?_
                        refine lv_istore_n (lv' := [(3, .int q15), (6, .int q15), (0, .ref a0), (1, .int v1), (2, .int x67_2), (4, .int x42_4), (5, .int x67_5)]) hx hb dX7_tells_132 rfl hl (by decide) rfl (fun ls hl => ?_)
                        refine lv_bipush (v := (100 : Int32)) hx hb dX7_tells_133 (by decide) ?_
                        refine lv_iload hx hb dX7_tells_135 (lv_at hl 5 rfl) ?_
                        refine lv_imul hx hb dX7_tells_137 ?_
                        refine lv_bipush (v := (10 : Int32)) hx hb dX7_tells_138 (by decide) ?_
                        refine lv_iload hx hb dX7_tells_140 (lv_at hl 6 rfl) ?_
                        obtain ⟨q17, hq17, h⟩ := bnd_e h
                        refine kcS (rest := [.int (10 : Int32), .int ((100 : Int32) * x42_4)]) (w2 := ([cX7 a0 g0 o0, cX7_10 cI g0 o0, cX6 (g0 1) g1 o1, cX6_0 cI g1 o1, cX6_1 cI g1 o1, cX6_2 cI g1 o1, cX6_3 cI g1 o1, cX6_4 cI g1 o1, cX6_5 cI g1 o1, cX6_6 cI g1 o1, cX6_7 cI g1 o1, cX5 (g0 3) g2 o2, cX5_5 cI g2 o2, cX5_6 cI g2 o2, cX0 (g0 7) g3 o3, cX0_0 cI g3 o3, cX0_1 cI g3 o3, cX1 (g0 9) g4 q3, cX1_0 cZ g4 q3, cX1_3 cI g4 q3])) hx hb hml hown hts hKK hP hD hS hA (c_X7_landOf l dC dI cB cI cZ cO x67_5 hq17) [] (atAll_map trivial) (by decide +kernel) (sameAd_map trivial) (atAll_map trivial) (agr_refl _ _ _) (va_cwS 1 hts gX7_tells_X7_landOf rfl rfl rfl dsc_X7_landOf ⟨Nat.le_of_ble_eq_true rfl, Nat.le_of_ble_eq_true rfl⟩) rfl hl.1 rfl (Nat.le_of_ble_eq_true rfl) dX7_tells_142 ⟨Nat.zero_le _, Nat.zero_le _⟩ (fun H locs hP hD hS => ?_)
                        refine lv_imul hx hb dX7_tells_145 ?_
                        refine lv_iadd hx hb dX7_tells_146 ?_
                        refine lv_iload hx hb dX7_tells_147 (lv_at hl 6 rfl) ?_
                        obtain ⟨q18, hq18, h⟩ := bnd_e h
                        refine kcS (rest := [.int (((100 : Int32) * x42_4) + ((10 : Int32) * q17))]) (w2 := ([cX7 a0 g0 o0, cX7_10 cI g0 o0, cX6 (g0 1) g1 o1, cX6_0 cI g1 o1, cX6_1 cI g1 o1, cX6_2 cI g1 o1, cX6_3 cI g1 o1, cX6_4 cI g1 o1, cX6_5 cI g1 o1, cX6_6 cI g1 o1, cX6_7 cI g1 o1, cX5 (g0 3) g2 o2, cX5_5 cI g2 o2, cX5_6 cI g2 o2, cX0 (g0 7) g3 o3, cX0_0 cI g3 o3, cX0_1 cI g3 o3, cX1 (g0 9) g4 q3, cX1_0 cZ g4 q3, cX1_3 cI g4 q3])) hx hb hml hown hts hKK hP hD hS hA (c_X7_kOf l dC dI cB cI cZ cO x67_5 hq18) [] (atAll_map trivial) (by decide +kernel) (sameAd_map trivial) (atAll_map trivial) (agr_refl _ _ _) (va_cwS 1 hts gX7_tells_X7_kOf rfl rfl rfl dsc_X7_kOf ⟨Nat.le_of_ble_eq_true rfl, Nat.le_of_ble_eq_true rfl⟩) rfl hl.1 rfl (Nat.le_of_ble_eq_true rfl) dX7_tells_149 ⟨Nat.zero_le _, Nat.zero_le _⟩ (fun H locs hP hD hS => ?_)
                        refine lv_iadd hx hb dX7_tells_152 ?_
                        obtain ⟨x19, hx19, h⟩ := bnd_e h
                        refine lv_topE hx19 ?_
                        refine lv_istore_n (lv' := [(2, .int x19), (3, .int q15), (6, .int q15), (0, .ref a0), (1, .int v1), (4, .int x42_4), (5, .int x67_5)]) hx hb dX7_tells_153 rfl hl (by decide) rfl (fun ls hl => ?_)
                        exact jn154 x19 q15 h _ _ _ hP hD hS (lv_sub hl [3, 4, 0, 1, 5, 6] rfl)
            exact lp67 FU x42_2 x42_3 (0 : Int32) h _ _ _ hP hD hS (lv_sub hl [1, 2, 3, 4, 5, 0] rfl)
    exact lp42 FU (-4 : Int32) (82 : Int32) (0 : Int32) h _ _ _ hP hD hS (lv_sub hl [3, 4, 2, 1, 0] rfl)
  · have h := ite_t k2 h
    refine lv_iconst (v := (-1 : Int32)) hx hb dX7_tells_9 (by decide) ?_
    have h := Option.some.inj h
    subst h
    subst hQ
    exact W.iret (v := (-1 : Int32)) hx hb hr (fun t ht hW => ⟨⟨rfl, by rw [ht]; exact hP, hD⟩, hS.F ht⟩) hS.2.2 dX7_tells_10
def f_X7_weighSlips_41 (v2 : Int32) (x33_3 : Int32) (kL33 : (Int32 → Ob → Option (Ob))) : Nat → Int32 → Ob → Option (Ob)
  | 0, _, _ => none
  | nn41+1, x41_4, o41_0 => if x41_4 ≤ 0 then ((f_X7_cell 9 (o41_0.2 10) (0 : Int32)).bind fun q5 : Int32 => (f_X7_setCell 9 (o41_0.2 10) (0 : Int32) (q5 * v2)).bind fun q6 : (Nat → Int32) => bnd (x33_3 + (1 : Int32)) fun x7 : Int32 => kL33 x7 (stR o41_0 10 q6)) else ((f_X7_cell 9 (o41_0.2 10) x41_4).bind fun q8 : Int32 => (f_X7_cell 9 (o41_0.2 10) (x41_4 - (1 : Int32))).bind fun q9 : Int32 => (f_X7_setCell 9 (o41_0.2 10) x41_4 ((q8 * v2) + (q9 * ((10 : Int32) - v2)))).bind fun q10 : (Nat → Int32) => bnd (x41_4 + (-1 : Int32)) fun x11 : Int32 => (f_X7_weighSlips_41 v2 x33_3 kL33 nn41) x11 (stR o41_0 10 q10))
def f_X7_weighSlips_33 (v1 : Int32) (v2 : Int32) : Nat → Int32 → Ob → Option (Ob)
  | 0, _, _ => none
  | nn33+1, x33_3, o33_0 => if v1 < x33_3 then (some o33_0) else (f_X7_weighSlips_41 v2 x33_3 (f_X7_weighSlips_33 v1 v2 nn33) FU x33_3 o33_0)
def f_X7_weighSlips_11 (v1 : Int32) (v2 : Int32) : Nat → Int32 → Ob → Option (Ob)
  | 0, _, _ => none
  | nn11+1, x11_3, o11_0 => if v1 < x11_3 then (f_X7_weighSlips_33 v1 v2 FU (1 : Int32) o11_0) else ((f_X7_setCell 9 (o11_0.2 10) x11_3 (0 : Int32)).bind fun q12 : (Nat → Int32) => bnd (x11_3 + (1 : Int32)) fun x13 : Int32 => (f_X7_weighSlips_11 v1 v2 nn11) x13 (stR o11_0 10 q12))
def f_X7_weighSlips (o0 : Ob) (v1 : Int32) (v2 : Int32) : Option (Ob) := (f_X7_setCell 9 (o0.2 10) (0 : Int32) (1 : Int32)).bind fun q1 : (Nat → Int32) => f_X7_weighSlips_11 v1 v2 FU (1 : Int32) (stR o0 10 q1)
abbrev rmX7_weighSlips : Room := { frames := 1, cells := 0, slots := 0, locals := 22 }
theorem dsc_X7_weighSlips : yX7_weighSlips.cls ≠ "java/lang/invoke/MethodHandle" ∧ yX7_weighSlips.cls ≠ "java/lang/invoke/VarHandle" ∧ (parseMethodDescriptor yX7_weighSlips.desc).map (fun d => d.parameters.length) = some 2 := by decide +kernel
set_option maxHeartbeats 4000000 in
set_option maxRecDepth 100000 in
theorem c_X7_weighSlips (l : Launch) (dC : Nat → ClassId) (dI : Nat → Nat → Nat) (cB cI cZ cO : ClassId) (a0 : Nat) (g0 : Nat → Nat) (o0 : Ob) (v1 : Int32) (v2 : Int32) {r : Ob} (h : f_X7_weighSlips o0 v1 v2 = some r) : Ct dC dI cB cI cZ cO l yX7_weighSlips wsX7_weighSlips rmX7_weighSlips [.ref a0, .int v1, .int v2] ([cX7 a0 g0 o0, cX7_10 cI g0 o0]) none ([cX7 a0 g0 r, cX7_10 cI g0 r]) := by
  intro sz
  refine Met.ofW (cc := cX7_weighSlips) (maxL := 5) (ret := none) (by decide) rfl ?_
  intro p e s m args below meth c s₁ B hml hv
  obtain ⟨rfl, hsz, hP, hKK, hD0⟩ := hv
  have hx := B.exec
  have hb := B.bytes
  have hr := B.returns
  have hts := atoms_spec (ws := wsX7_weighSlips) B.pre
  have hown : s.vm.findClass RX7 = some m.cls := findClass_of_methodNamed B.named
  have hlocks := B.notSynchronized
  have hiX7 : ∀ w ∈ u_ws RX7 TX7 11, w ∈ wsX7_weighSlips := fun w h => List.mem_cons_of_mem _ (List.mem_append_right _ h)
  subst hsz
  have hD := hD0.self (sz := s.heap.size)
  generalize hAe : va_A ([cX7 a0 g0 o0, cX7_10 cI g0 o0]) s.heap.size = A at hD ⊢
  have hA : ∀ q : Nat, s.heap.size ≤ q → A q := fun q h => by rw [← hAe]; exact Or.inr h
  have hS : va_S A s.heap s.heap [] := va_S.rf
  have hP : va_P (dC, dI) vwCl ([cX7 a0 g0 o0, cX7_10 cI g0 o0]) s.heap := hP
  have hD : va_D A ([cX7 a0 g0 o0, cX7_10 cI g0 o0]) := hD
  have hl := lv_entry ([.ref a0, .int v1, .int v2]) (n := 5) (Nat.le_of_ble_eq_true rfl)
  rw [lg_entry_eq]
  generalize (lg_sl ([.ref a0, .int v1, .int v2]) ++ List.replicate (5 - (lg_sl ([.ref a0, .int v1, .int v2])).length) Slot.unset).toArray = ls at hl ⊢
  have hl : lv_has ls 5 [(0, .ref a0), (1, .int v1), (2, .int v2)] := hl
  obtain ⟨Q, hQ⟩ : ∃ Q, Q = MQ below (Qq dC dI none ([cX7 a0 g0 r, cX7_10 cI g0 r]) A) ([.ref a0, .int v1, .int v2] : List Value).toArray s 0 0 A := ⟨_, rfl⟩
  rw [← hQ]
  rw [f_X7_weighSlips] at h
  clear hAe hD0
  refine lv_aload_n hx hb dX7_weighSlips_0 rfl (lv_at hl 0 rfl) ?_
  refine va_get (D := (dC, dI)) (ci := 7) (v := .ref (g0 10)) (C := RX7) (T := TX7) (N := 11) hx hb hts hiX7 hown hKK.1 hP 0 rfl rfl 10 (by decide) (hts (.fieldLink RX7 69 "SlideLand" "luck" "[I") (List.mem_of_getElem? (i := 1) rfl)) (fun _ h9 => h9) rfl dX7_weighSlips_1 ?_
  refine lv_iconst (v := (0 : Int32)) hx hb dX7_weighSlips_4 (by decide) ?_
  refine lv_iconst (v := (1 : Int32)) hx hb dX7_weighSlips_5 (by decide) ?_
  obtain ⟨q1, hq1, h⟩ := obd_e h
  refine kcS (rest := []) (w2 := ([cX7 a0 g0 (stR o0 10 q1), cX7_10 cI g0 (stR o0 10 q1)])) hx hb hml hown hts hKK hP hD hS hA (c_X7_setCell l dC dI cB cI cZ cO (g0 10) 9 (o0.2 10) (0 : Int32) (1 : Int32) hq1) [1] (atAll_map ⟨rfl, trivial⟩) (by decide +kernel) (sameAd_map ⟨rfl, trivial⟩) (atAll_map ⟨rfl, trivial⟩) ⟨Or.inl rfl, Or.inr (by decide), trivial⟩ (va_cwS 3 hts gX7_weighSlips_X7_setCell rfl rfl rfl dsc_X7_setCell ⟨Nat.le_of_ble_eq_true rfl, Nat.le_of_ble_eq_true rfl⟩) rfl hl.1 rfl (Nat.le_of_ble_eq_true rfl) dX7_weighSlips_6 ⟨Nat.zero_le _, Nat.zero_le _⟩ (fun H locs hP hD hS => ?_)
  refine lv_iconst (v := (1 : Int32)) hx hb dX7_weighSlips_9 (by decide) ?_
  refine lv_istore_n (lv' := [(3, .int (1 : Int32)), (0, .ref a0), (1, .int v1), (2, .int v2)]) hx hb dX7_weighSlips_10 rfl hl (by decide) rfl (fun ls hl => ?_)
  have lp11 : ∀ (nn11 : Nat) (x11_3 : Int32) (o11_0 : Ob), f_X7_weighSlips_11 v1 v2 nn11 x11_3 o11_0 = some r → ∀ (H : Heap) (locs : List Loc) (ls : Array Slot), va_P (dC, dI) vwCl ([cX7 a0 g0 o11_0, cX7_10 cI g0 o11_0]) H → va_D A ([cX7 a0 g0 o11_0, cX7_10 cI g0 o11_0]) → va_S A s.heap H locs → lv_has ls 5 [(0, .ref a0), (1, .int v1), (2, .int v2), (3, .int x11_3)] → W p l e (headSpec wsX7_weighSlips rmX7_weighSlips).room s m ([.ref a0, .int v1, .int v2] : List Value).toArray below meth c H locs 0 0 Q (F0 m 11 ls []) := by
    intro nn11
    induction nn11 with
    | zero => intro x11_3 o11_0 h; rw [f_X7_weighSlips_11] at h; cases h
    | succ nn11 ih11 =>
      intro x11_3 o11_0 h H locs ls hP hD hS hl
      rw [f_X7_weighSlips_11] at h
      refine lv_iload_n hx hb dX7_weighSlips_11 rfl (lv_at hl 3 rfl) ?_
      refine lv_iload_n hx hb dX7_weighSlips_12 rfl (lv_at hl 1 rfl) ?_
      refine lv_icmp_gt (tgt := 31) hx hb dX7_weighSlips_13 (by decide) (fun k2 => ?_) (fun k2 => ?_)
      · have h := ite_t k2 h
        refine lv_iconst (v := (1 : Int32)) hx hb dX7_weighSlips_31 (by decide) ?_
        refine lv_istore_n (lv' := [(3, .int (1 : Int32)), (0, .ref a0), (1, .int v1), (2, .int v2)]) hx hb dX7_weighSlips_32 rfl hl (by decide) rfl (fun ls hl => ?_)
        have lp33 : ∀ (nn33 : Nat) (x33_3 : Int32) (o33_0 : Ob), f_X7_weighSlips_33 v1 v2 nn33 x33_3 o33_0 = some r → ∀ (H : Heap) (locs : List Loc) (ls : Array Slot), va_P (dC, dI) vwCl ([cX7 a0 g0 o33_0, cX7_10 cI g0 o33_0]) H → va_D A ([cX7 a0 g0 o33_0, cX7_10 cI g0 o33_0]) → va_S A s.heap H locs → lv_has ls 5 [(0, .ref a0), (1, .int v1), (2, .int v2), (3, .int x33_3)] → W p l e (headSpec wsX7_weighSlips rmX7_weighSlips).room s m ([.ref a0, .int v1, .int v2] : List Value).toArray below meth c H locs 0 0 Q (F0 m 33 ls []) := by
          intro nn33
          induction nn33 with
          | zero => intro x33_3 o33_0 h; rw [f_X7_weighSlips_33] at h; cases h
          | succ nn33 ih33 =>
            intro x33_3 o33_0 h H locs ls hP hD hS hl
            rw [f_X7_weighSlips_33] at h
            refine lv_iload_n hx hb dX7_weighSlips_33 rfl (lv_at hl 3 rfl) ?_
            refine lv_iload_n hx hb dX7_weighSlips_34 rfl (lv_at hl 1 rfl) ?_
            refine lv_icmp_gt (tgt := 113) hx hb dX7_weighSlips_35 (by decide) (fun k3 => ?_) (fun k3 => ?_)
            · have h := ite_t k3 h
              have h := Option.some.inj h
              subst h
              subst hQ
              exact W.vret hx hb hr (fun t ht hW => ⟨⟨rfl, by rw [ht]; exact hP, hD⟩, hS.F ht⟩) hS.2.2 dX7_weighSlips_113
            · have h := ite_f k3 h
              refine lv_iload_n hx hb dX7_weighSlips_38 rfl (lv_at hl 3 rfl) ?_
              refine lv_istore (lv' := [(4, .int x33_3), (0, .ref a0), (1, .int v1), (2, .int v2), (3, .int x33_3)]) hx hb dX7_weighSlips_39 hl (by decide) rfl (fun ls hl => ?_)
              have lp41 : ∀ (nn41 : Nat) (x41_4 : Int32) (o41_0 : Ob), f_X7_weighSlips_41 v2 x33_3 (f_X7_weighSlips_33 v1 v2 nn33) nn41 x41_4 o41_0 = some r → ∀ (H : Heap) (locs : List Loc) (ls : Array Slot), va_P (dC, dI) vwCl ([cX7 a0 g0 o41_0, cX7_10 cI g0 o41_0]) H → va_D A ([cX7 a0 g0 o41_0, cX7_10 cI g0 o41_0]) → va_S A s.heap H locs → lv_has ls 5 [(0, .ref a0), (1, .int v1), (2, .int v2), (3, .int x33_3), (4, .int x41_4)] → W p l e (headSpec wsX7_weighSlips rmX7_weighSlips).room s m ([.ref a0, .int v1, .int v2] : List Value).toArray below meth c H locs 0 0 Q (F0 m 41 ls []) := by
                intro nn41
                induction nn41 with
                | zero => intro x41_4 o41_0 h; rw [f_X7_weighSlips_41] at h; cases h
                | succ nn41 ih41 =>
                  intro x41_4 o41_0 h H locs ls hP hD hS hl
                  rw [f_X7_weighSlips_41] at h
                  refine lv_iload hx hb dX7_weighSlips_41 (lv_at hl 4 rfl) ?_
                  refine lv_if_le (tgt := 89) hx hb dX7_weighSlips_43 (by decide) (fun k4 => ?_) (fun k4 => ?_)
                  · have h := ite_t k4 h
                    refine lv_aload_n hx hb dX7_weighSlips_89 rfl (lv_at hl 0 rfl) ?_
                    refine va_get (D := (dC, dI)) (ci := 7) (v := .ref (g0 10)) (C := RX7) (T := TX7) (N := 11) hx hb hts hiX7 hown hKK.1 hP 0 rfl rfl 10 (by decide) (hts (.fieldLink RX7 69 "SlideLand" "luck" "[I") (List.mem_of_getElem? (i := 1) rfl)) (fun _ h9 => h9) rfl dX7_weighSlips_90 ?_
                    refine lv_iconst (v := (0 : Int32)) hx hb dX7_weighSlips_93 (by decide) ?_
                    refine lv_aload_n hx hb dX7_weighSlips_94 rfl (lv_at hl 0 rfl) ?_
                    refine va_get (D := (dC, dI)) (ci := 7) (v := .ref (g0 10)) (C := RX7) (T := TX7) (N := 11) hx hb hts hiX7 hown hKK.1 hP 0 rfl rfl 10 (by decide) (hts (.fieldLink RX7 69 "SlideLand" "luck" "[I") (List.mem_of_getElem? (i := 1) rfl)) (fun _ h9 => h9) rfl dX7_weighSlips_95 ?_
                    refine lv_iconst (v := (0 : Int32)) hx hb dX7_weighSlips_98 (by decide) ?_
                    obtain ⟨q5, hq5, h⟩ := obd_e h
                    refine kcS (rest := [.int (0 : Int32), .ref (g0 10)]) (w2 := ([cX7 a0 g0 o41_0, cX7_10 cI g0 o41_0])) hx hb hml hown hts hKK hP hD hS hA (c_X7_cell l dC dI cB cI cZ cO (g0 10) 9 (o41_0.2 10) (0 : Int32) hq5) [1] (atAll_map ⟨rfl, trivial⟩) (by decide +kernel) (sameAd_map ⟨rfl, trivial⟩) (atAll_map ⟨rfl, trivial⟩) (agr_refl _ _ _) (va_cwS 2 hts gX7_weighSlips_X7_cell rfl rfl rfl dsc_X7_cell ⟨Nat.le_of_ble_eq_true rfl, Nat.le_of_ble_eq_true rfl⟩) rfl hl.1 rfl (Nat.le_of_ble_eq_true rfl) dX7_weighSlips_99 ⟨Nat.zero_le _, Nat.zero_le _⟩ (fun H locs hP hD hS => ?_)
                    refine lv_iload_n hx hb dX7_weighSlips_102 rfl (lv_at hl 2 rfl) ?_
                    refine lv_imul hx hb dX7_weighSlips_103 ?_
                    obtain ⟨q6, hq6, h⟩ := obd_e h
                    refine kcS (rest := []) (w2 := ([cX7 a0 g0 (stR o41_0 10 q6), cX7_10 cI g0 (stR o41_0 10 q6)])) hx hb hml hown hts hKK hP hD hS hA (c_X7_setCell l dC dI cB cI cZ cO (g0 10) 9 (o41_0.2 10) (0 : Int32) (q5 * v2) hq6) [1] (atAll_map ⟨rfl, trivial⟩) (by decide +kernel) (sameAd_map ⟨rfl, trivial⟩) (atAll_map ⟨rfl, trivial⟩) ⟨Or.inl rfl, Or.inr (by decide), trivial⟩ (va_cwS 3 hts gX7_weighSlips_X7_setCell rfl rfl rfl dsc_X7_setCell ⟨Nat.le_of_ble_eq_true rfl, Nat.le_of_ble_eq_true rfl⟩) rfl hl.1 rfl (Nat.le_of_ble_eq_true rfl) dX7_weighSlips_104 ⟨Nat.zero_le _, Nat.zero_le _⟩ (fun H locs hP hD hS => ?_)
                    obtain ⟨x7, hx7, h⟩ := bnd_e h
                    refine lv_iinc (v := x7) (lv' := [(3, .int x7), (0, .ref a0), (1, .int v1), (2, .int v2), (4, .int x41_4)]) hx hb dX7_weighSlips_107 hl (k := 3) rfl (by rw [← hx7]; rfl) (by decide) rfl (fun ls hl => ?_)
                    refine lv_goto (tgt := 33) hx hb dX7_weighSlips_110 (by decide) ?_
                    exact ih33 x7 (stR o41_0 10 q6) h _ _ _ hP hD hS (lv_sub hl [1, 2, 3, 0] rfl)
                  · have h := ite_f k4 h
                    refine lv_aload_n hx hb dX7_weighSlips_46 rfl (lv_at hl 0 rfl) ?_
                    refine va_get (D := (dC, dI)) (ci := 7) (v := .ref (g0 10)) (C := RX7) (T := TX7) (N := 11) hx hb hts hiX7 hown hKK.1 hP 0 rfl rfl 10 (by decide) (hts (.fieldLink RX7 69 "SlideLand" "luck" "[I") (List.mem_of_getElem? (i := 1) rfl)) (fun _ h9 => h9) rfl dX7_weighSlips_47 ?_
                    refine lv_iload hx hb dX7_weighSlips_50 (lv_at hl 4 rfl) ?_
                    refine lv_aload_n hx hb dX7_weighSlips_52 rfl (lv_at hl 0 rfl) ?_
                    refine va_get (D := (dC, dI)) (ci := 7) (v := .ref (g0 10)) (C := RX7) (T := TX7) (N := 11) hx hb hts hiX7 hown hKK.1 hP 0 rfl rfl 10 (by decide) (hts (.fieldLink RX7 69 "SlideLand" "luck" "[I") (List.mem_of_getElem? (i := 1) rfl)) (fun _ h9 => h9) rfl dX7_weighSlips_53 ?_
                    refine lv_iload hx hb dX7_weighSlips_56 (lv_at hl 4 rfl) ?_
                    obtain ⟨q8, hq8, h⟩ := obd_e h
                    refine kcS (rest := [.int x41_4, .ref (g0 10)]) (w2 := ([cX7 a0 g0 o41_0, cX7_10 cI g0 o41_0])) hx hb hml hown hts hKK hP hD hS hA (c_X7_cell l dC dI cB cI cZ cO (g0 10) 9 (o41_0.2 10) x41_4 hq8) [1] (atAll_map ⟨rfl, trivial⟩) (by decide +kernel) (sameAd_map ⟨rfl, trivial⟩) (atAll_map ⟨rfl, trivial⟩) (agr_refl _ _ _) (va_cwS 2 hts gX7_weighSlips_X7_cell rfl rfl rfl dsc_X7_cell ⟨Nat.le_of_ble_eq_true rfl, Nat.le_of_ble_eq_true rfl⟩) rfl hl.1 rfl (Nat.le_of_ble_eq_true rfl) dX7_weighSlips_58 ⟨Nat.zero_le _, Nat.zero_le _⟩ (fun H locs hP hD hS => ?_)
                    refine lv_iload_n hx hb dX7_weighSlips_61 rfl (lv_at hl 2 rfl) ?_
                    refine lv_imul hx hb dX7_weighSlips_62 ?_
                    refine lv_aload_n hx hb dX7_weighSlips_63 rfl (lv_at hl 0 rfl) ?_
                    refine va_get (D := (dC, dI)) (ci := 7) (v := .ref (g0 10)) (C := RX7) (T := TX7) (N := 11) hx hb hts hiX7 hown hKK.1 hP 0 rfl rfl 10 (by decide) (hts (.fieldLink RX7 69 "SlideLand" "luck" "[I") (List.mem_of_getElem? (i := 1) rfl)) (fun _ h9 => h9) rfl dX7_weighSlips_64 ?_
                    refine lv_iload hx hb dX7_weighSlips_67 (lv_at hl 4 rfl) ?_
                    refine lv_iconst (v := (1 : Int32)) hx hb dX7_weighSlips_69 (by decide) ?_
                    refine lv_isub hx hb dX7_weighSlips_70 ?_
                    obtain ⟨q9, hq9, h⟩ := obd_e h
                    refine kcS (rest := [.int (q8 * v2), .int x41_4, .ref (g0 10)]) (w2 := ([cX7 a0 g0 o41_0, cX7_10 cI g0 o41_0])) hx hb hml hown hts hKK hP hD hS hA (c_X7_cell l dC dI cB cI cZ cO (g0 10) 9 (o41_0.2 10) (x41_4 - (1 : Int32)) hq9) [1] (atAll_map ⟨rfl, trivial⟩) (by decide +kernel) (sameAd_map ⟨rfl, trivial⟩) (atAll_map ⟨rfl, trivial⟩) (agr_refl _ _ _) (va_cwS 2 hts gX7_weighSlips_X7_cell rfl rfl rfl dsc_X7_cell ⟨Nat.le_of_ble_eq_true rfl, Nat.le_of_ble_eq_true rfl⟩) rfl hl.1 rfl (Nat.le_of_ble_eq_true rfl) dX7_weighSlips_71 ⟨Nat.zero_le _, Nat.zero_le _⟩ (fun H locs hP hD hS => ?_)
                    refine lv_bipush (v := (10 : Int32)) hx hb dX7_weighSlips_74 (by decide) ?_
                    refine lv_iload_n hx hb dX7_weighSlips_76 rfl (lv_at hl 2 rfl) ?_
                    refine lv_isub hx hb dX7_weighSlips_77 ?_
                    refine lv_imul hx hb dX7_weighSlips_78 ?_
                    refine lv_iadd hx hb dX7_weighSlips_79 ?_
                    obtain ⟨q10, hq10, h⟩ := obd_e h
                    refine kcS (rest := []) (w2 := ([cX7 a0 g0 (stR o41_0 10 q10), cX7_10 cI g0 (stR o41_0 10 q10)])) hx hb hml hown hts hKK hP hD hS hA (c_X7_setCell l dC dI cB cI cZ cO (g0 10) 9 (o41_0.2 10) x41_4 ((q8 * v2) + (q9 * ((10 : Int32) - v2))) hq10) [1] (atAll_map ⟨rfl, trivial⟩) (by decide +kernel) (sameAd_map ⟨rfl, trivial⟩) (atAll_map ⟨rfl, trivial⟩) ⟨Or.inl rfl, Or.inr (by decide), trivial⟩ (va_cwS 3 hts gX7_weighSlips_X7_setCell rfl rfl rfl dsc_X7_setCell ⟨Nat.le_of_ble_eq_true rfl, Nat.le_of_ble_eq_true rfl⟩) rfl hl.1 rfl (Nat.le_of_ble_eq_true rfl) dX7_weighSlips_80 ⟨Nat.zero_le _, Nat.zero_le _⟩ (fun H locs hP hD hS => ?_)
                    obtain ⟨x11, hx11, h⟩ := bnd_e h
                    refine lv_iinc (v := x11) (lv' := [(4, .int x11), (0, .ref a0), (1, .int v1), (2, .int v2), (3, .int x33_3)]) hx hb dX7_weighSlips_83 hl (k := 4) rfl (by rw [← hx11]; rfl) (by decide) rfl (fun ls hl => ?_)
                    refine lv_goto (tgt := 41) hx hb dX7_weighSlips_86 (by decide) ?_
                    exact ih41 x11 (stR o41_0 10 q10) h _ _ _ hP hD hS (lv_sub hl [1, 2, 3, 4, 0] rfl)
              exact lp41 FU x33_3 o33_0 h _ _ _ hP hD hS (lv_sub hl [1, 2, 3, 4, 0] rfl)
        exact lp33 FU (1 : Int32) o11_0 h _ _ _ hP hD hS (lv_sub hl [1, 2, 3, 0] rfl)
      · have h := ite_f k2 h
        refine lv_aload_n hx hb dX7_weighSlips_16 rfl (lv_at hl 0 rfl) ?_
        refine va_get (D := (dC, dI)) (ci := 7) (v := .ref (g0 10)) (C := RX7) (T := TX7) (N := 11) hx hb hts hiX7 hown hKK.1 hP 0 rfl rfl 10 (by decide) (hts (.fieldLink RX7 69 "SlideLand" "luck" "[I") (List.mem_of_getElem? (i := 1) rfl)) (fun _ h9 => h9) rfl dX7_weighSlips_17 ?_
        refine lv_iload_n hx hb dX7_weighSlips_20 rfl (lv_at hl 3 rfl) ?_
        refine lv_iconst (v := (0 : Int32)) hx hb dX7_weighSlips_21 (by decide) ?_
        obtain ⟨q12, hq12, h⟩ := obd_e h
        refine kcS (rest := []) (w2 := ([cX7 a0 g0 (stR o11_0 10 q12), cX7_10 cI g0 (stR o11_0 10 q12)])) hx hb hml hown hts hKK hP hD hS hA (c_X7_setCell l dC dI cB cI cZ cO (g0 10) 9 (o11_0.2 10) x11_3 (0 : Int32) hq12) [1] (atAll_map ⟨rfl, trivial⟩) (by decide +kernel) (sameAd_map ⟨rfl, trivial⟩) (atAll_map ⟨rfl, trivial⟩) ⟨Or.inl rfl, Or.inr (by decide), trivial⟩ (va_cwS 3 hts gX7_weighSlips_X7_setCell rfl rfl rfl dsc_X7_setCell ⟨Nat.le_of_ble_eq_true rfl, Nat.le_of_ble_eq_true rfl⟩) rfl hl.1 rfl (Nat.le_of_ble_eq_true rfl) dX7_weighSlips_22 ⟨Nat.zero_le _, Nat.zero_le _⟩ (fun H locs hP hD hS => ?_)
        obtain ⟨x13, hx13, h⟩ := bnd_e h
        refine lv_iinc (v := x13) (lv' := [(3, .int x13), (0, .ref a0), (1, .int v1), (2, .int v2)]) hx hb dX7_weighSlips_25 hl (k := 3) rfl (by rw [← hx13]; rfl) (by decide) rfl (fun ls hl => ?_)
        refine lv_goto (tgt := 11) hx hb dX7_weighSlips_28 (by decide) ?_
        exact ih11 x13 (stR o11_0 10 q12) h _ _ _ hP hD hS (lv_sub hl [1, 2, 3, 0] rfl)
  exact lp11 FU (1 : Int32) (stR o0 10 q1) h _ _ _ hP hD hS (lv_sub hl [1, 2, 3, 0] rfl)
def f_X7_slips_118 (o1 : Ob) (v1 : Int32) (v2 : Int32) (x69_8 : Int32) (o69_3 : Ob) (kL69 : (Int32 → Int32 → Int32 → Ob → Option (Int32 × Ob × Ob))) (x18 : Int32) (x118_6 : Int32) : Option (Int32 × Ob × Ob) := (f_X5_shove o69_3 o1 v1 v2).bind fun q20 : Ob => bnd (x69_8 + (1 : Int32)) fun x21 : Int32 => kL69 x118_6 x18 x21 q20
def f_X7_slips_69 (o1 : Ob) (o4 : Ob) (v1 : Int32) (v2 : Int32) (v3 : Int32) (v5 : Int32) (q9 : Ob) : Nat → Int32 → Int32 → Int32 → Ob → Option (Int32 × Ob × Ob)
  | 0, _, _, _, _ => none
  | nn69+1, x69_6, x69_7, x69_8, o69_3 => if v3 < x69_8 then ((f_X7_commonDivisor x69_6 x69_7).bind fun q12 : Int32 => if 0 < q12 then (if v5 = 0 then (if q12 = 0 then none else some ((x69_6 / q12), q9, o69_3)) else (if q12 = 0 then none else some ((x69_7 / q12), q9, o69_3))) else (some ((-1 : Int32), q9, o69_3))) else ((f_X7_cell 9 (q9.2 10) x69_8).bind fun q17 : Int32 => bnd (x69_7 + q17) fun x18 : Int32 => (f_X0_allSo o4 o1 o69_3).bind fun q19 : Bool => if (b2i q19) = 0 then (f_X7_slips_118 o1 v1 v2 x69_8 o69_3 (f_X7_slips_69 o1 o4 v1 v2 v3 v5 q9 nn69) x18 x69_6) else (bnd (x69_6 + q17) fun x23 : Int32 => f_X7_slips_118 o1 v1 v2 x69_8 o69_3 (f_X7_slips_69 o1 o4 v1 v2 v3 v5 q9 nn69) x18 x23))
def f_X7_slips (o0 : Ob) (o1 : Ob) (o2 : Ob) (o3 : Ob) (o4 : Ob) (v1 : Int32) (v2 : Int32) (v3 : Int32) (v4 : Int32) (v5 : Int32) : Option (Int32 × Ob × Ob) := bnd (f_X7_isPush o0 o1 v1 v2) fun q1 : Bool => if (b2i q1) = 0 then (some ((-1 : Int32), o0, o3)) else (bnd (f_X7_within v3 (0 : Int32) (8 : Int32)) fun q3 : Bool => if (b2i q3) = 0 then (some ((-1 : Int32), o0, o3)) else (bnd (f_X7_within v4 (0 : Int32) (10 : Int32)) fun q5 : Bool => if (b2i q5) = 0 then (some ((-1 : Int32), o0, o3)) else (bnd (f_X7_within v5 (0 : Int32) (1 : Int32)) fun q7 : Bool => if (b2i q7) = 0 then (some ((-1 : Int32), o0, o3)) else ((f_X7_weighSlips o0 v3 v4).bind fun q9 : Ob => (f_X5_copy o3 o2).bind fun q10 : Ob => f_X7_slips_69 o1 o4 v1 v2 v3 v5 q9 FU (0 : Int32) (0 : Int32) (0 : Int32) q10))))
abbrev rmX7_slips : Room := { frames := 4, cells := 0, slots := 0, locals := 91 }
theorem dsc_X7_slips : yX7_slips.cls ≠ "java/lang/invoke/MethodHandle" ∧ yX7_slips.cls ≠ "java/lang/invoke/VarHandle" ∧ (parseMethodDescriptor yX7_slips.desc).map (fun d => d.parameters.length) = some 5 := by decide +kernel
set_option maxHeartbeats 4000000 in
set_option maxRecDepth 100000 in
theorem c_X7_slips (l : Launch) (dC : Nat → ClassId) (dI : Nat → Nat → Nat) (cB cI cZ cO : ClassId) (a0 : Nat) (g0 : Nat → Nat) (o0 : Ob) (g1 : Nat → Nat) (o1 : Ob) (g2 : Nat → Nat) (o2 : Ob) (g3 : Nat → Nat) (o3 : Ob) (g4 : Nat → Nat) (o4 : Ob) (v1 : Int32) (v2 : Int32) (v3 : Int32) (v4 : Int32) (v5 : Int32) {r : Int32 × Ob × Ob} (h : f_X7_slips o0 o1 o2 o3 o4 v1 v2 v3 v4 v5 = some r) : Ct dC dI cB cI cZ cO l yX7_slips wsX7_slips rmX7_slips [.ref a0, .int v1, .int v2, .int v3, .int v4, .int v5] ([cX7 a0 g0 o0, cX7_10 cI g0 o0, cX6 (g0 1) g1 o1, cX6_0 cI g1 o1, cX6_1 cI g1 o1, cX6_2 cI g1 o1, cX6_3 cI g1 o1, cX6_4 cI g1 o1, cX6_5 cI g1 o1, cX6_6 cI g1 o1, cX6_7 cI g1 o1, cX5 (g0 3) g2 o2, cX5_5 cI g2 o2, cX5_6 cI g2 o2, cX5 (g0 4) g3 o3, cX5_5 cI g3 o3, cX5_6 cI g3 o3, cX0 (g0 7) g4 o4, cX0_0 cI g4 o4, cX0_1 cI g4 o4]) (some (.int r.1)) ([cX7 a0 g0 r.2.1, cX7_10 cI g0 r.2.1, cX6 (g0 1) g1 o1, cX6_0 cI g1 o1, cX6_1 cI g1 o1, cX6_2 cI g1 o1, cX6_3 cI g1 o1, cX6_4 cI g1 o1, cX6_5 cI g1 o1, cX6_6 cI g1 o1, cX6_7 cI g1 o1, cX5 (g0 3) g2 o2, cX5_5 cI g2 o2, cX5_6 cI g2 o2, cX5 (g0 4) g3 r.2.2, cX5_5 cI g3 r.2.2, cX5_6 cI g3 r.2.2, cX0 (g0 7) g4 o4, cX0_0 cI g4 o4, cX0_1 cI g4 o4]) := by
  intro sz
  refine Met.ofW (cc := cX7_slips) (maxL := 10) (ret := (some .int)) (by decide) rfl ?_
  intro p e s m args below meth c s₁ B hml hv
  obtain ⟨rfl, hsz, hP, hKK, hD0⟩ := hv
  have hx := B.exec
  have hb := B.bytes
  have hr := B.returns
  have hts := atoms_spec (ws := wsX7_slips) B.pre
  have hown : s.vm.findClass RX7 = some m.cls := findClass_of_methodNamed B.named
  have hlocks := B.notSynchronized
  have hiX7 : ∀ w ∈ u_ws RX7 TX7 11, w ∈ wsX7_slips := fun w h => List.mem_cons_of_mem _ (List.mem_append_left _ (List.mem_append_left _ (List.mem_append_left _ (List.mem_append_right _ h))))
  subst hsz
  have hD := hD0.self (sz := s.heap.size)
  generalize hAe : va_A ([cX7 a0 g0 o0, cX7_10 cI g0 o0, cX6 (g0 1) g1 o1, cX6_0 cI g1 o1, cX6_1 cI g1 o1, cX6_2 cI g1 o1, cX6_3 cI g1 o1, cX6_4 cI g1 o1, cX6_5 cI g1 o1, cX6_6 cI g1 o1, cX6_7 cI g1 o1, cX5 (g0 3) g2 o2, cX5_5 cI g2 o2, cX5_6 cI g2 o2, cX5 (g0 4) g3 o3, cX5_5 cI g3 o3, cX5_6 cI g3 o3, cX0 (g0 7) g4 o4, cX0_0 cI g4 o4, cX0_1 cI g4 o4]) s.heap.size = A at hD ⊢
  have hA : ∀ q : Nat, s.heap.size ≤ q → A q := fun q h => by rw [← hAe]; exact Or.inr h
  have hS : va_S A s.heap s.heap [] := va_S.rf
  have hP : va_P (dC, dI) vwCl ([cX7 a0 g0 o0, cX7_10 cI g0 o0, cX6 (g0 1) g1 o1, cX6_0 cI g1 o1, cX6_1 cI g1 o1, cX6_2 cI g1 o1, cX6_3 cI g1 o1, cX6_4 cI g1 o1, cX6_5 cI g1 o1, cX6_6 cI g1 o1, cX6_7 cI g1 o1, cX5 (g0 3) g2 o2, cX5_5 cI g2 o2, cX5_6 cI g2 o2, cX5 (g0 4) g3 o3, cX5_5 cI g3 o3, cX5_6 cI g3 o3, cX0 (g0 7) g4 o4, cX0_0 cI g4 o4, cX0_1 cI g4 o4]) s.heap := hP
  have hD : va_D A ([cX7 a0 g0 o0, cX7_10 cI g0 o0, cX6 (g0 1) g1 o1, cX6_0 cI g1 o1, cX6_1 cI g1 o1, cX6_2 cI g1 o1, cX6_3 cI g1 o1, cX6_4 cI g1 o1, cX6_5 cI g1 o1, cX6_6 cI g1 o1, cX6_7 cI g1 o1, cX5 (g0 3) g2 o2, cX5_5 cI g2 o2, cX5_6 cI g2 o2, cX5 (g0 4) g3 o3, cX5_5 cI g3 o3, cX5_6 cI g3 o3, cX0 (g0 7) g4 o4, cX0_0 cI g4 o4, cX0_1 cI g4 o4]) := hD
  have hl := lv_entry ([.ref a0, .int v1, .int v2, .int v3, .int v4, .int v5]) (n := 10) (Nat.le_of_ble_eq_true rfl)
  rw [lg_entry_eq]
  generalize (lg_sl ([.ref a0, .int v1, .int v2, .int v3, .int v4, .int v5]) ++ List.replicate (10 - (lg_sl ([.ref a0, .int v1, .int v2, .int v3, .int v4, .int v5])).length) Slot.unset).toArray = ls at hl ⊢
  have hl : lv_has ls 10 [(0, .ref a0), (1, .int v1), (2, .int v2), (3, .int v3), (4, .int v4), (5, .int v5)] := hl
  obtain ⟨Q, hQ⟩ : ∃ Q, Q = MQ below (Qq dC dI (some (.int r.1)) ([cX7 a0 g0 r.2.1, cX7_10 cI g0 r.2.1, cX6 (g0 1) g1 o1, cX6_0 cI g1 o1, cX6_1 cI g1 o1, cX6_2 cI g1 o1, cX6_3 cI g1 o1, cX6_4 cI g1 o1, cX6_5 cI g1 o1, cX6_6 cI g1 o1, cX6_7 cI g1 o1, cX5 (g0 3) g2 o2, cX5_5 cI g2 o2, cX5_6 cI g2 o2, cX5 (g0 4) g3 r.2.2, cX5_5 cI g3 r.2.2, cX5_6 cI g3 r.2.2, cX0 (g0 7) g4 o4, cX0_0 cI g4 o4, cX0_1 cI g4 o4]) A) ([.ref a0, .int v1, .int v2, .int v3, .int v4, .int v5] : List Value).toArray s 0 0 A := ⟨_, rfl⟩
  rw [← hQ]
  rw [f_X7_slips] at h
  clear hAe hD0
  refine lv_aload_n hx hb dX7_slips_0 rfl (lv_at hl 0 rfl) ?_
  refine lv_iload_n hx hb dX7_slips_1 rfl (lv_at hl 1 rfl) ?_
  refine lv_iload_n hx hb dX7_slips_2 rfl (lv_at hl 2 rfl) ?_
  obtain ⟨q1, hq1, h⟩ := bnd_e h
  refine kcV (rest := []) (w2 := ([cX7 a0 g0 o0, cX7_10 cI g0 o0, cX6 (g0 1) g1 o1, cX6_0 cI g1 o1, cX6_1 cI g1 o1, cX6_2 cI g1 o1, cX6_3 cI g1 o1, cX6_4 cI g1 o1, cX6_5 cI g1 o1, cX6_6 cI g1 o1, cX6_7 cI g1 o1, cX5 (g0 3) g2 o2, cX5_5 cI g2 o2, cX5_6 cI g2 o2, cX5 (g0 4) g3 o3, cX5_5 cI g3 o3, cX5_6 cI g3 o3, cX0 (g0 7) g4 o4, cX0_0 cI g4 o4, cX0_1 cI g4 o4])) hx hb hml hown hts hKK hP hD hS hA (c_X7_isPush l dC dI cB cI cZ cO a0 g0 o0 g1 o1 v1 v2 hq1) [0, 1, 2, 3, 4, 5, 6, 7, 8, 9, 10] (atAll_map ⟨rfl, rfl, rfl, rfl, rfl, rfl, rfl, rfl, rfl, rfl, rfl, trivial⟩) (by decide +kernel) (sameAd_map ⟨rfl, rfl, rfl, rfl, rfl, rfl, rfl, rfl, rfl, rfl, rfl, trivial⟩) (atAll_map ⟨rfl, rfl, rfl, rfl, rfl, rfl, rfl, rfl, rfl, rfl, rfl, trivial⟩) (agr_refl _ _ _) (cwV 2 hts gX7_slips_X7_isPush rfl rfl rfl ⟨rfl, dsc_X7_isPush⟩ ⟨Nat.le_of_ble_eq_true rfl, Nat.le_of_ble_eq_true rfl⟩) (va_recv hKK.1 hP (ci := 7) (q0 := 0) rfl rfl) rfl hl.1 rfl (Nat.le_of_ble_eq_true rfl) dX7_slips_3 ⟨Nat.zero_le _, Nat.zero_le _⟩ (fun H locs hP hD hS => ?_)
  refine lv_if_eq (tgt := 40) hx hb dX7_slips_6 (by decide) (fun k2 => ?_) (fun k2 => ?_)
  · have h := ite_t k2 h
    refine lv_iconst (v := (-1 : Int32)) hx hb dX7_slips_40 (by decide) ?_
    have h := Option.some.inj h
    subst h
    subst hQ
    exact W.iret (v := (-1 : Int32)) hx hb hr (fun t ht hW => ⟨⟨rfl, by rw [ht]; exact hP, hD⟩, hS.F ht⟩) hS.2.2 dX7_slips_41
  · have h := ite_f k2 h
    refine lv_iload_n hx hb dX7_slips_9 rfl (lv_at hl 3 rfl) ?_
    refine lv_iconst (v := (0 : Int32)) hx hb dX7_slips_10 (by decide) ?_
    refine lv_bipush (v := (8 : Int32)) hx hb dX7_slips_11 (by decide) ?_
    obtain ⟨q3, hq3, h⟩ := bnd_e h
    refine kcS (rest := []) (w2 := ([cX7 a0 g0 o0, cX7_10 cI g0 o0, cX6 (g0 1) g1 o1, cX6_0 cI g1 o1, cX6_1 cI g1 o1, cX6_2 cI g1 o1, cX6_3 cI g1 o1, cX6_4 cI g1 o1, cX6_5 cI g1 o1, cX6_6 cI g1 o1, cX6_7 cI g1 o1, cX5 (g0 3) g2 o2, cX5_5 cI g2 o2, cX5_6 cI g2 o2, cX5 (g0 4) g3 o3, cX5_5 cI g3 o3, cX5_6 cI g3 o3, cX0 (g0 7) g4 o4, cX0_0 cI g4 o4, cX0_1 cI g4 o4])) hx hb hml hown hts hKK hP hD hS hA (c_X7_within l dC dI cB cI cZ cO v3 (0 : Int32) (8 : Int32) hq3) [] (atAll_map trivial) (by decide +kernel) (sameAd_map trivial) (atAll_map trivial) (agr_refl _ _ _) (va_cwS 3 hts gX7_slips_X7_within rfl rfl rfl dsc_X7_within ⟨Nat.le_of_ble_eq_true rfl, Nat.le_of_ble_eq_true rfl⟩) rfl hl.1 rfl (Nat.le_of_ble_eq_true rfl) dX7_slips_13 ⟨Nat.zero_le _, Nat.zero_le _⟩ (fun H locs hP hD hS => ?_)
    refine lv_if_eq (tgt := 40) hx hb dX7_slips_16 (by decide) (fun k4 => ?_) (fun k4 => ?_)
    · have h := ite_t k4 h
      refine lv_iconst (v := (-1 : Int32)) hx hb dX7_slips_40 (by decide) ?_
      have h := Option.some.inj h
      subst h
      subst hQ
      exact W.iret (v := (-1 : Int32)) hx hb hr (fun t ht hW => ⟨⟨rfl, by rw [ht]; exact hP, hD⟩, hS.F ht⟩) hS.2.2 dX7_slips_41
    · have h := ite_f k4 h
      refine lv_iload hx hb dX7_slips_19 (lv_at hl 4 rfl) ?_
      refine lv_iconst (v := (0 : Int32)) hx hb dX7_slips_21 (by decide) ?_
      refine lv_bipush (v := (10 : Int32)) hx hb dX7_slips_22 (by decide) ?_
      obtain ⟨q5, hq5, h⟩ := bnd_e h
      refine kcS (rest := []) (w2 := ([cX7 a0 g0 o0, cX7_10 cI g0 o0, cX6 (g0 1) g1 o1, cX6_0 cI g1 o1, cX6_1 cI g1 o1, cX6_2 cI g1 o1, cX6_3 cI g1 o1, cX6_4 cI g1 o1, cX6_5 cI g1 o1, cX6_6 cI g1 o1, cX6_7 cI g1 o1, cX5 (g0 3) g2 o2, cX5_5 cI g2 o2, cX5_6 cI g2 o2, cX5 (g0 4) g3 o3, cX5_5 cI g3 o3, cX5_6 cI g3 o3, cX0 (g0 7) g4 o4, cX0_0 cI g4 o4, cX0_1 cI g4 o4])) hx hb hml hown hts hKK hP hD hS hA (c_X7_within l dC dI cB cI cZ cO v4 (0 : Int32) (10 : Int32) hq5) [] (atAll_map trivial) (by decide +kernel) (sameAd_map trivial) (atAll_map trivial) (agr_refl _ _ _) (va_cwS 3 hts gX7_slips_X7_within rfl rfl rfl dsc_X7_within ⟨Nat.le_of_ble_eq_true rfl, Nat.le_of_ble_eq_true rfl⟩) rfl hl.1 rfl (Nat.le_of_ble_eq_true rfl) dX7_slips_24 ⟨Nat.zero_le _, Nat.zero_le _⟩ (fun H locs hP hD hS => ?_)
      refine lv_if_eq (tgt := 40) hx hb dX7_slips_27 (by decide) (fun k6 => ?_) (fun k6 => ?_)
      · have h := ite_t k6 h
        refine lv_iconst (v := (-1 : Int32)) hx hb dX7_slips_40 (by decide) ?_
        have h := Option.some.inj h
        subst h
        subst hQ
        exact W.iret (v := (-1 : Int32)) hx hb hr (fun t ht hW => ⟨⟨rfl, by rw [ht]; exact hP, hD⟩, hS.F ht⟩) hS.2.2 dX7_slips_41
      · have h := ite_f k6 h
        refine lv_iload hx hb dX7_slips_30 (lv_at hl 5 rfl) ?_
        refine lv_iconst (v := (0 : Int32)) hx hb dX7_slips_32 (by decide) ?_
        refine lv_iconst (v := (1 : Int32)) hx hb dX7_slips_33 (by decide) ?_
        obtain ⟨q7, hq7, h⟩ := bnd_e h
        refine kcS (rest := []) (w2 := ([cX7 a0 g0 o0, cX7_10 cI g0 o0, cX6 (g0 1) g1 o1, cX6_0 cI g1 o1, cX6_1 cI g1 o1, cX6_2 cI g1 o1, cX6_3 cI g1 o1, cX6_4 cI g1 o1, cX6_5 cI g1 o1, cX6_6 cI g1 o1, cX6_7 cI g1 o1, cX5 (g0 3) g2 o2, cX5_5 cI g2 o2, cX5_6 cI g2 o2, cX5 (g0 4) g3 o3, cX5_5 cI g3 o3, cX5_6 cI g3 o3, cX0 (g0 7) g4 o4, cX0_0 cI g4 o4, cX0_1 cI g4 o4])) hx hb hml hown hts hKK hP hD hS hA (c_X7_within l dC dI cB cI cZ cO v5 (0 : Int32) (1 : Int32) hq7) [] (atAll_map trivial) (by decide +kernel) (sameAd_map trivial) (atAll_map trivial) (agr_refl _ _ _) (va_cwS 3 hts gX7_slips_X7_within rfl rfl rfl dsc_X7_within ⟨Nat.le_of_ble_eq_true rfl, Nat.le_of_ble_eq_true rfl⟩) rfl hl.1 rfl (Nat.le_of_ble_eq_true rfl) dX7_slips_34 ⟨Nat.zero_le _, Nat.zero_le _⟩ (fun H locs hP hD hS => ?_)
        refine lv_if_ne (tgt := 42) hx hb dX7_slips_37 (by decide) (fun k8 => ?_) (fun k8 => ?_)
        · have h := ite_f k8 h
          refine lv_aload_n hx hb dX7_slips_42 rfl (lv_at hl 0 rfl) ?_
          refine lv_iload_n hx hb dX7_slips_43 rfl (lv_at hl 3 rfl) ?_
          refine lv_iload hx hb dX7_slips_44 (lv_at hl 4 rfl) ?_
          obtain ⟨q9, hq9, h⟩ := obd_e h
          refine kcV (rest := []) (w2 := ([cX7 a0 g0 q9, cX7_10 cI g0 q9, cX6 (g0 1) g1 o1, cX6_0 cI g1 o1, cX6_1 cI g1 o1, cX6_2 cI g1 o1, cX6_3 cI g1 o1, cX6_4 cI g1 o1, cX6_5 cI g1 o1, cX6_6 cI g1 o1, cX6_7 cI g1 o1, cX5 (g0 3) g2 o2, cX5_5 cI g2 o2, cX5_6 cI g2 o2, cX5 (g0 4) g3 o3, cX5_5 cI g3 o3, cX5_6 cI g3 o3, cX0 (g0 7) g4 o4, cX0_0 cI g4 o4, cX0_1 cI g4 o4])) hx hb hml hown hts hKK hP hD hS hA (c_X7_weighSlips l dC dI cB cI cZ cO a0 g0 o0 v3 v4 hq9) [0, 1] (atAll_map ⟨rfl, rfl, trivial⟩) (by decide +kernel) (sameAd_map ⟨rfl, rfl, trivial⟩) (atAll_map ⟨rfl, rfl, trivial⟩) ⟨Or.inr (by decide), Or.inr (by decide), Or.inl rfl, Or.inl rfl, Or.inl rfl, Or.inl rfl, Or.inl rfl, Or.inl rfl, Or.inl rfl, Or.inl rfl, Or.inl rfl, Or.inl rfl, Or.inl rfl, Or.inl rfl, Or.inl rfl, Or.inl rfl, Or.inl rfl, Or.inl rfl, Or.inl rfl, Or.inl rfl, trivial⟩ (cwV 2 hts gX7_slips_X7_weighSlips rfl rfl rfl ⟨rfl, dsc_X7_weighSlips⟩ ⟨Nat.le_of_ble_eq_true rfl, Nat.le_of_ble_eq_true rfl⟩) (va_recv hKK.1 hP (ci := 7) (q0 := 0) rfl rfl) rfl hl.1 rfl (Nat.le_of_ble_eq_true rfl) dX7_slips_46 ⟨Nat.zero_le _, Nat.zero_le _⟩ (fun H locs hP hD hS => ?_)
          refine lv_iconst (v := (0 : Int32)) hx hb dX7_slips_49 (by decide) ?_
          refine lv_istore (lv' := [(6, .int (0 : Int32)), (0, .ref a0), (1, .int v1), (2, .int v2), (3, .int v3), (4, .int v4), (5, .int v5)]) hx hb dX7_slips_50 hl (by decide) rfl (fun ls hl => ?_)
          refine lv_iconst (v := (0 : Int32)) hx hb dX7_slips_52 (by decide) ?_
          refine lv_istore (lv' := [(7, .int (0 : Int32)), (6, .int (0 : Int32)), (0, .ref a0), (1, .int v1), (2, .int v2), (3, .int v3), (4, .int v4), (5, .int v5)]) hx hb dX7_slips_53 hl (by decide) rfl (fun ls hl => ?_)
          refine lv_aload_n hx hb dX7_slips_55 rfl (lv_at hl 2 rfl) ?_
          refine va_get (D := (dC, dI)) (ci := 7) (v := .ref (g0 4)) (C := RX7) (T := TX7) (N := 11) hx hb hts hiX7 hown hKK.1 hP 0 rfl rfl 4 (by decide) (hts (.fieldLink RX7 33 "SlideLand" "trial" "LSlideLand$Stand;") (List.mem_of_getElem? (i := 1) rfl)) (fun _ h9 => h9) rfl dX7_slips_56 ?_
          refine lv_aload_n hx hb dX7_slips_59 rfl (lv_at hl 2 rfl) ?_
          refine va_get (D := (dC, dI)) (ci := 7) (v := .ref (g0 3)) (C := RX7) (T := TX7) (N := 11) hx hb hts hiX7 hown hKK.1 hP 0 rfl rfl 3 (by decide) (hts (.fieldLink RX7 29 "SlideLand" "now" "LSlideLand$Stand;") (List.mem_of_getElem? (i := 2) rfl)) (fun _ h9 => h9) rfl dX7_slips_60 ?_
          obtain ⟨q10, hq10, h⟩ := obd_e h
          refine kcV (rest := []) (w2 := ([cX7 a0 g0 q9, cX7_10 cI g0 q9, cX6 (g0 1) g1 o1, cX6_0 cI g1 o1, cX6_1 cI g1 o1, cX6_2 cI g1 o1, cX6_3 cI g1 o1, cX6_4 cI g1 o1, cX6_5 cI g1 o1, cX6_6 cI g1 o1, cX6_7 cI g1 o1, cX5 (g0 3) g2 o2, cX5_5 cI g2 o2, cX5_6 cI g2 o2, cX5 (g0 4) g3 q10, cX5_5 cI g3 q10, cX5_6 cI g3 q10, cX0 (g0 7) g4 o4, cX0_0 cI g4 o4, cX0_1 cI g4 o4])) hx hb hml hown hts hKK hP hD hS hA (c_X5_copy l dC dI cB cI cZ cO (g0 4) g3 o3 (g0 3) g2 o2 hq10) [14, 15, 16, 11, 12, 13] (atAll_map ⟨rfl, rfl, rfl, rfl, rfl, rfl, trivial⟩) (by decide +kernel) (sameAd_map ⟨rfl, rfl, rfl, rfl, rfl, rfl, trivial⟩) (atAll_map ⟨rfl, rfl, rfl, rfl, rfl, rfl, trivial⟩) ⟨Or.inl rfl, Or.inl rfl, Or.inl rfl, Or.inl rfl, Or.inl rfl, Or.inl rfl, Or.inl rfl, Or.inl rfl, Or.inl rfl, Or.inl rfl, Or.inl rfl, Or.inl rfl, Or.inl rfl, Or.inl rfl, Or.inr (by decide), Or.inr (by decide), Or.inr (by decide), Or.inl rfl, Or.inl rfl, Or.inl rfl, trivial⟩ (cwV 1 hts gX7_slips_X5_copy rfl rfl rfl ⟨rfl, dsc_X5_copy⟩ ⟨Nat.le_of_ble_eq_true rfl, Nat.le_of_ble_eq_true rfl⟩) (va_recv hKK.1 hP (ci := 5) (q0 := 14) rfl rfl) rfl hl.1 rfl (Nat.le_of_ble_eq_true rfl) dX7_slips_63 ⟨Nat.zero_le _, Nat.zero_le _⟩ (fun H locs hP hD hS => ?_)
          refine lv_iconst (v := (0 : Int32)) hx hb dX7_slips_66 (by decide) ?_
          refine lv_istore (lv' := [(8, .int (0 : Int32)), (7, .int (0 : Int32)), (6, .int (0 : Int32)), (0, .ref a0), (1, .int v1), (2, .int v2), (3, .int v3), (4, .int v4), (5, .int v5)]) hx hb dX7_slips_67 hl (by decide) rfl (fun ls hl => ?_)
          have lp69 : ∀ (nn69 : Nat) (x69_6 : Int32) (x69_7 : Int32) (x69_8 : Int32) (o69_3 : Ob), f_X7_slips_69 o1 o4 v1 v2 v3 v5 q9 nn69 x69_6 x69_7 x69_8 o69_3 = some r → ∀ (H : Heap) (locs : List Loc) (ls : Array Slot), va_P (dC, dI) vwCl ([cX7 a0 g0 q9, cX7_10 cI g0 q9, cX6 (g0 1) g1 o1, cX6_0 cI g1 o1, cX6_1 cI g1 o1, cX6_2 cI g1 o1, cX6_3 cI g1 o1, cX6_4 cI g1 o1, cX6_5 cI g1 o1, cX6_6 cI g1 o1, cX6_7 cI g1 o1, cX5 (g0 3) g2 o2, cX5_5 cI g2 o2, cX5_6 cI g2 o2, cX5 (g0 4) g3 o69_3, cX5_5 cI g3 o69_3, cX5_6 cI g3 o69_3, cX0 (g0 7) g4 o4, cX0_0 cI g4 o4, cX0_1 cI g4 o4]) H → va_D A ([cX7 a0 g0 q9, cX7_10 cI g0 q9, cX6 (g0 1) g1 o1, cX6_0 cI g1 o1, cX6_1 cI g1 o1, cX6_2 cI g1 o1, cX6_3 cI g1 o1, cX6_4 cI g1 o1, cX6_5 cI g1 o1, cX6_6 cI g1 o1, cX6_7 cI g1 o1, cX5 (g0 3) g2 o2, cX5_5 cI g2 o2, cX5_6 cI g2 o2, cX5 (g0 4) g3 o69_3, cX5_5 cI g3 o69_3, cX5_6 cI g3 o69_3, cX0 (g0 7) g4 o4, cX0_0 cI g4 o4, cX0_1 cI g4 o4]) → va_S A s.heap H locs → lv_has ls 10 [(0, .ref a0), (1, .int v1), (2, .int v2), (3, .int v3), (5, .int v5), (6, .int x69_6), (7, .int x69_7), (8, .int x69_8)] → W p l e (headSpec wsX7_slips rmX7_slips).room s m ([.ref a0, .int v1, .int v2, .int v3, .int v4, .int v5] : List Value).toArray below meth c H locs 0 0 Q (F0 m 69 ls []) := by
            intro nn69
            induction nn69 with
            | zero => intro x69_6 x69_7 x69_8 o69_3 h; rw [f_X7_slips_69] at h; cases h
            | succ nn69 ih69 =>
              intro x69_6 x69_7 x69_8 o69_3 h H locs ls hP hD hS hl
              rw [f_X7_slips_69] at h
              refine lv_iload hx hb dX7_slips_69 (lv_at hl 7 rfl) ?_
              refine lv_iload_n hx hb dX7_slips_71 rfl (lv_at hl 3 rfl) ?_
              refine lv_icmp_gt (tgt := 137) hx hb dX7_slips_72 (by decide) (fun k11 => ?_) (fun k11 => ?_)
              · have h := ite_t k11 h
                refine lv_iload hx hb dX7_slips_137 (lv_at hl 5 rfl) ?_
                refine lv_iload hx hb dX7_slips_139 (lv_at hl 6 rfl) ?_
                obtain ⟨q12, hq12, h⟩ := obd_e h
                refine kcS (rest := []) (w2 := ([cX7 a0 g0 q9, cX7_10 cI g0 q9, cX6 (g0 1) g1 o1, cX6_0 cI g1 o1, cX6_1 cI g1 o1, cX6_2 cI g1 o1, cX6_3 cI g1 o1, cX6_4 cI g1 o1, cX6_5 cI g1 o1, cX6_6 cI g1 o1, cX6_7 cI g1 o1, cX5 (g0 3) g2 o2, cX5_5 cI g2 o2, cX5_6 cI g2 o2, cX5 (g0 4) g3 o69_3, cX5_5 cI g3 o69_3, cX5_6 cI g3 o69_3, cX0 (g0 7) g4 o4, cX0_0 cI g4 o4, cX0_1 cI g4 o4])) hx hb hml hown hts hKK hP hD hS hA (c_X7_commonDivisor l dC dI cB cI cZ cO x69_6 x69_7 hq12) [] (atAll_map trivial) (by decide +kernel) (sameAd_map trivial) (atAll_map trivial) (agr_refl _ _ _) (va_cwS 2 hts gX7_slips_X7_commonDivisor rfl rfl rfl dsc_X7_commonDivisor ⟨Nat.le_of_ble_eq_true rfl, Nat.le_of_ble_eq_true rfl⟩) rfl hl.1 rfl (Nat.le_of_ble_eq_true rfl) dX7_slips_141 ⟨Nat.zero_le _, Nat.zero_le _⟩ (fun H locs hP hD hS => ?_)
                refine lv_istore (lv' := [(8, .int q12), (0, .ref a0), (1, .int v1), (2, .int v2), (3, .int v3), (5, .int v5), (6, .int x69_6), (7, .int x69_7)]) hx hb dX7_slips_144 hl (by decide) rfl (fun ls hl => ?_)
                refine lv_iload hx hb dX7_slips_146 (lv_at hl 0 rfl) ?_
                refine lv_if_gt (tgt := 153) hx hb dX7_slips_148 (by decide) (fun k13 => ?_) (fun k13 => ?_)
                · have h := ite_t k13 h
                  refine lv_iload hx hb dX7_slips_153 (lv_at hl 5 rfl) ?_
                  refine lv_if_ne (tgt := 166) hx hb dX7_slips_155 (by decide) (fun k14 => ?_) (fun k14 => ?_)
                  · have h := ite_f k14 h
                    refine lv_iload hx hb dX7_slips_166 (lv_at hl 7 rfl) ?_
                    refine lv_iload hx hb dX7_slips_168 (lv_at hl 0 rfl) ?_
                    obtain ⟨k15, h⟩ := ite_n h
                    refine lv_idiv hx hb dX7_slips_170 k15 ?_
                    have h := Option.some.inj h
                    subst h
                    subst hQ
                    exact W.iret (v := (x69_7 / q12)) hx hb hr (fun t ht hW => ⟨⟨rfl, by rw [ht]; exact hP, hD⟩, hS.F ht⟩) hS.2.2 dX7_slips_171
                  · have h := ite_t k14 h
                    refine lv_iload hx hb dX7_slips_158 (lv_at hl 6 rfl) ?_
                    refine lv_iload hx hb dX7_slips_160 (lv_at hl 0 rfl) ?_
                    obtain ⟨k16, h⟩ := ite_n h
                    refine lv_idiv hx hb dX7_slips_162 k16 ?_
                    refine lv_goto (tgt := 171) hx hb dX7_slips_163 (by decide) ?_
                    have h := Option.some.inj h
                    subst h
                    subst hQ
                    exact W.iret (v := (x69_6 / q12)) hx hb hr (fun t ht hW => ⟨⟨rfl, by rw [ht]; exact hP, hD⟩, hS.F ht⟩) hS.2.2 dX7_slips_171
                · have h := ite_f k13 h
                  refine lv_iconst (v := (-1 : Int32)) hx hb dX7_slips_151 (by decide) ?_
                  have h := Option.some.inj h
                  subst h
                  subst hQ
                  exact W.iret (v := (-1 : Int32)) hx hb hr (fun t ht hW => ⟨⟨rfl, by rw [ht]; exact hP, hD⟩, hS.F ht⟩) hS.2.2 dX7_slips_152
              · have h := ite_f k11 h
                refine lv_aload_n hx hb dX7_slips_75 rfl (lv_at hl 0 rfl) ?_
                refine va_get (D := (dC, dI)) (ci := 7) (v := .ref (g0 10)) (C := RX7) (T := TX7) (N := 11) hx hb hts hiX7 hown hKK.1 hP 0 rfl rfl 10 (by decide) (hts (.fieldLink RX7 69 "SlideLand" "luck" "[I") (List.mem_of_getElem? (i := 3) rfl)) (fun _ h9 => h9) rfl dX7_slips_76 ?_
                refine lv_iload hx hb dX7_slips_79 (lv_at hl 7 rfl) ?_
                obtain ⟨q17, hq17, h⟩ := obd_e h
                refine kcS (rest := []) (w2 := ([cX7 a0 g0 q9, cX7_10 cI g0 q9, cX6 (g0 1) g1 o1, cX6_0 cI g1 o1, cX6_1 cI g1 o1, cX6_2 cI g1 o1, cX6_3 cI g1 o1, cX6_4 cI g1 o1, cX6_5 cI g1 o1, cX6_6 cI g1 o1, cX6_7 cI g1 o1, cX5 (g0 3) g2 o2, cX5_5 cI g2 o2, cX5_6 cI g2 o2, cX5 (g0 4) g3 o69_3, cX5_5 cI g3 o69_3, cX5_6 cI g3 o69_3, cX0 (g0 7) g4 o4, cX0_0 cI g4 o4, cX0_1 cI g4 o4])) hx hb hml hown hts hKK hP hD hS hA (c_X7_cell l dC dI cB cI cZ cO (g0 10) 9 (q9.2 10) x69_8 hq17) [1] (atAll_map ⟨rfl, trivial⟩) (by decide +kernel) (sameAd_map ⟨rfl, trivial⟩) (atAll_map ⟨rfl, trivial⟩) (agr_refl _ _ _) (va_cwS 2 hts gX7_slips_X7_cell rfl rfl rfl dsc_X7_cell ⟨Nat.le_of_ble_eq_true rfl, Nat.le_of_ble_eq_true rfl⟩) rfl hl.1 rfl (Nat.le_of_ble_eq_true rfl) dX7_slips_81 ⟨Nat.zero_le _, Nat.zero_le _⟩ (fun H locs hP hD hS => ?_)
                refine lv_istore (lv' := [(9, .int q17), (0, .ref a0), (1, .int v1), (2, .int v2), (3, .int v3), (5, .int v5), (6, .int x69_6), (7, .int x69_7), (8, .int x69_8)]) hx hb dX7_slips_84 hl (by decide) rfl (fun ls hl => ?_)
                refine lv_iload hx hb dX7_slips_86 (lv_at hl 7 rfl) ?_
                refine lv_iload hx hb dX7_slips_88 (lv_at hl 0 rfl) ?_
                refine lv_iadd hx hb dX7_slips_90 ?_
                obtain ⟨x18, hx18, h⟩ := bnd_e h
                refine lv_topE hx18 ?_
                refine lv_istore (lv' := [(7, .int x18), (9, .int q17), (0, .ref a0), (1, .int v1), (2, .int v2), (3, .int v3), (5, .int v5), (6, .int x69_6), (8, .int x69_8)]) hx hb dX7_slips_91 hl (by decide) rfl (fun ls hl => ?_)
                refine lv_aload_n hx hb dX7_slips_93 rfl (lv_at hl 2 rfl) ?_
                refine va_get (D := (dC, dI)) (ci := 7) (v := .ref (g0 7)) (C := RX7) (T := TX7) (N := 11) hx hb hts hiX7 hown hKK.1 hP 0 rfl rfl 7 (by decide) (hts (.fieldLink RX7 51 "SlideLand" "asked" "LSlideLand$Asked;") (List.mem_of_getElem? (i := 4) rfl)) (fun _ h9 => h9) rfl dX7_slips_94 ?_
                refine lv_aload_n hx hb dX7_slips_97 rfl (lv_at hl 2 rfl) ?_
                refine va_get (D := (dC, dI)) (ci := 7) (v := .ref (g0 1)) (C := RX7) (T := TX7) (N := 11) hx hb hts hiX7 hown hKK.1 hP 0 rfl rfl 1 (by decide) (hts (.fieldLink RX7 19 "SlideLand" "told" "LSlideLand$Told;") (List.mem_of_getElem? (i := 5) rfl)) (fun _ h9 => h9) rfl dX7_slips_98 ?_
                refine lv_aload_n hx hb dX7_slips_101 rfl (lv_at hl 2 rfl) ?_
                refine va_get (D := (dC, dI)) (ci := 7) (v := .ref (g0 4)) (C := RX7) (T := TX7) (N := 11) hx hb hts hiX7 hown hKK.1 hP 0 rfl rfl 4 (by decide) (hts (.fieldLink RX7 33 "SlideLand" "trial" "LSlideLand$Stand;") (List.mem_of_getElem? (i := 1) rfl)) (fun _ h9 => h9) rfl dX7_slips_102 ?_
                obtain ⟨q19, hq19, h⟩ := obd_e h
                refine kcV (rest := []) (w2 := ([cX7 a0 g0 q9, cX7_10 cI g0 q9, cX6 (g0 1) g1 o1, cX6_0 cI g1 o1, cX6_1 cI g1 o1, cX6_2 cI g1 o1, cX6_3 cI g1 o1, cX6_4 cI g1 o1, cX6_5 cI g1 o1, cX6_6 cI g1 o1, cX6_7 cI g1 o1, cX5 (g0 3) g2 o2, cX5_5 cI g2 o2, cX5_6 cI g2 o2, cX5 (g0 4) g3 o69_3, cX5_5 cI g3 o69_3, cX5_6 cI g3 o69_3, cX0 (g0 7) g4 o4, cX0_0 cI g4 o4, cX0_1 cI g4 o4])) hx hb hml hown hts hKK hP hD hS hA (c_X0_allSo l dC dI cB cI cZ cO (g0 7) g4 o4 (g0 1) g1 o1 (g0 4) g3 o69_3 hq19) [17, 18, 19, 2, 3, 4, 5, 6, 7, 8, 9, 10, 14, 15, 16] (atAll_map ⟨rfl, rfl, rfl, rfl, rfl, rfl, rfl, rfl, rfl, rfl, rfl, rfl, rfl, rfl, rfl, trivial⟩) (by decide +kernel) (sameAd_map ⟨rfl, rfl, rfl, rfl, rfl, rfl, rfl, rfl, rfl, rfl, rfl, rfl, rfl, rfl, rfl, trivial⟩) (atAll_map ⟨rfl, rfl, rfl, rfl, rfl, rfl, rfl, rfl, rfl, rfl, rfl, rfl, rfl, rfl, rfl, trivial⟩) (agr_refl _ _ _) (cwV 2 hts gX7_slips_X0_allSo rfl rfl rfl ⟨rfl, dsc_X0_allSo⟩ ⟨Nat.le_of_ble_eq_true rfl, Nat.le_of_ble_eq_true rfl⟩) (va_recv hKK.1 hP (ci := 0) (q0 := 17) rfl rfl) rfl hl.1 rfl (Nat.le_of_ble_eq_true rfl) dX7_slips_105 ⟨Nat.zero_le _, Nat.zero_le _⟩ (fun H locs hP hD hS => ?_)
                have jn118 : ∀ (x118_6 : Int32), f_X7_slips_118 o1 v1 v2 x69_8 o69_3 (f_X7_slips_69 o1 o4 v1 v2 v3 v5 q9 nn69) x18 x118_6 = some r → ∀ (H : Heap) (locs : List Loc) (ls : Array Slot), va_P (dC, dI) vwCl ([cX7 a0 g0 q9, cX7_10 cI g0 q9, cX6 (g0 1) g1 o1, cX6_0 cI g1 o1, cX6_1 cI g1 o1, cX6_2 cI g1 o1, cX6_3 cI g1 o1, cX6_4 cI g1 o1, cX6_5 cI g1 o1, cX6_6 cI g1 o1, cX6_7 cI g1 o1, cX5 (g0 3) g2 o2, cX5_5 cI g2 o2, cX5_6 cI g2 o2, cX5 (g0 4) g3 o69_3, cX5_5 cI g3 o69_3, cX5_6 cI g3 o69_3, cX0 (g0 7) g4 o4, cX0_0 cI g4 o4, cX0_1 cI g4 o4]) H → va_D A ([cX7 a0 g0 q9, cX7_10 cI g0 q9, cX6 (g0 1) g1 o1, cX6_0 cI g1 o1, cX6_1 cI g1 o1, cX6_2 cI g1 o1, cX6_3 cI g1 o1, cX6_4 cI g1 o1, cX6_5 cI g1 o1, cX6_6 cI g1 o1, cX6_7 cI g1 o1, cX5 (g0 3) g2 o2, cX5_5 cI g2 o2, cX5_6 cI g2 o2, cX5 (g0 4) g3 o69_3, cX5_5 cI g3 o69_3, cX5_6 cI g3 o69_3, cX0 (g0 7) g4 o4, cX0_0 cI g4 o4, cX0_1 cI g4 o4]) → va_S A s.heap H locs → lv_has ls 10 [(0, .ref a0), (1, .int v1), (2, .int v2), (3, .int v3), (5, .int v5), (6, .int x118_6), (7, .int x18), (8, .int x69_8)] → W p l e (headSpec wsX7_slips rmX7_slips).room s m ([.ref a0, .int v1, .int v2, .int v3, .int v4, .int v5] : List Value).toArray below meth c H locs 0 0 Q (F0 m 118 ls []) := by
                  intro x118_6 h H locs ls hP hD hS hl
                  rw [f_X7_slips_118] at h
                  refine lv_aload_n hx hb dX7_slips_118 rfl (lv_at hl 0 rfl) ?_
                  refine va_get (D := (dC, dI)) (ci := 7) (v := .ref (g0 4)) (C := RX7) (T := TX7) (N := 11) hx hb hts hiX7 hown hKK.1 hP 0 rfl rfl 4 (by decide) (hts (.fieldLink RX7 33 "SlideLand" "trial" "LSlideLand$Stand;") (List.mem_of_getElem? (i := 1) rfl)) (fun _ h9 => h9) rfl dX7_slips_119 ?_
                  refine lv_aload_n hx hb dX7_slips_122 rfl (lv_at hl 0 rfl) ?_
                  refine va_get (D := (dC, dI)) (ci := 7) (v := .ref (g0 1)) (C := RX7) (T := TX7) (N := 11) hx hb hts hiX7 hown hKK.1 hP 0 rfl rfl 1 (by decide) (hts (.fieldLink RX7 19 "SlideLand" "told" "LSlideLand$Told;") (List.mem_of_getElem? (i := 5) rfl)) (fun _ h9 => h9) rfl dX7_slips_123 ?_
                  refine lv_iload_n hx hb dX7_slips_126 rfl (lv_at hl 1 rfl) ?_
                  refine lv_iload_n hx hb dX7_slips_127 rfl (lv_at hl 2 rfl) ?_
                  obtain ⟨q20, hq20, h⟩ := obd_e h
                  refine kcV (rest := []) (w2 := ([cX7 a0 g0 q9, cX7_10 cI g0 q9, cX6 (g0 1) g1 o1, cX6_0 cI g1 o1, cX6_1 cI g1 o1, cX6_2 cI g1 o1, cX6_3 cI g1 o1, cX6_4 cI g1 o1, cX6_5 cI g1 o1, cX6_6 cI g1 o1, cX6_7 cI g1 o1, cX5 (g0 3) g2 o2, cX5_5 cI g2 o2, cX5_6 cI g2 o2, cX5 (g0 4) g3 q20, cX5_5 cI g3 q20, cX5_6 cI g3 q20, cX0 (g0 7) g4 o4, cX0_0 cI g4 o4, cX0_1 cI g4 o4])) hx hb hml hown hts hKK hP hD hS hA (c_X5_shove l dC dI cB cI cZ cO (g0 4) g3 o69_3 (g0 1) g1 o1 v1 v2 hq20) [14, 15, 16, 2, 3, 4, 5, 6, 7, 8, 9, 10] (atAll_map ⟨rfl, rfl, rfl, rfl, rfl, rfl, rfl, rfl, rfl, rfl, rfl, rfl, trivial⟩) (by decide +kernel) (sameAd_map ⟨rfl, rfl, rfl, rfl, rfl, rfl, rfl, rfl, rfl, rfl, rfl, rfl, trivial⟩) (atAll_map ⟨rfl, rfl, rfl, rfl, rfl, rfl, rfl, rfl, rfl, rfl, rfl, rfl, trivial⟩) ⟨Or.inl rfl, Or.inl rfl, Or.inl rfl, Or.inl rfl, Or.inl rfl, Or.inl rfl, Or.inl rfl, Or.inl rfl, Or.inl rfl, Or.inl rfl, Or.inl rfl, Or.inl rfl, Or.inl rfl, Or.inl rfl, Or.inr (by decide), Or.inr (by decide), Or.inr (by decide), Or.inl rfl, Or.inl rfl, Or.inl rfl, trivial⟩ (cwV 3 hts gX7_slips_X5_shove rfl rfl rfl ⟨rfl, dsc_X5_shove⟩ ⟨Nat.le_of_ble_eq_true rfl, Nat.le_of_ble_eq_true rfl⟩) (va_recv hKK.1 hP (ci := 5) (q0 := 14) rfl rfl) rfl hl.1 rfl (Nat.le_of_ble_eq_true rfl) dX7_slips_128 ⟨Nat.zero_le _, Nat.zero_le _⟩ (fun H locs hP hD hS => ?_)
                  obtain ⟨x21, hx21, h⟩ := bnd_e h
                  refine lv_iinc (v := x21) (lv' := [(8, .int x21), (0, .ref a0), (1, .int v1), (2, .int v2), (3, .int v3), (5, .int v5), (6, .int x118_6), (7, .int x18)]) hx hb dX7_slips_131 hl (k := 7) rfl (by rw [← hx21]; rfl) (by decide) rfl (fun ls hl => ?_)
                  refine lv_goto (tgt := 69) hx hb dX7_slips_134 (by decide) ?_
                  exact ih69 x118_6 x18 x21 q20 h _ _ _ hP hD hS (lv_sub hl [1, 2, 3, 4, 5, 6, 7, 0] rfl)
                refine lv_if_eq (tgt := 118) hx hb dX7_slips_108 (by decide) (fun k22 => ?_) (fun k22 => ?_)
                · have h := ite_t k22 h
                  exact jn118 x69_6 h _ _ _ hP hD hS (lv_sub hl [2, 3, 4, 5, 6, 7, 0, 8] rfl)
                · have h := ite_f k22 h
                  refine lv_iload hx hb dX7_slips_111 (lv_at hl 7 rfl) ?_
                  refine lv_iload hx hb dX7_slips_113 (lv_at hl 1 rfl) ?_
                  refine lv_iadd hx hb dX7_slips_115 ?_
                  obtain ⟨x23, hx23, h⟩ := bnd_e h
                  refine lv_topE hx23 ?_
                  refine lv_istore (lv' := [(6, .int x23), (7, .int x18), (9, .int q17), (0, .ref a0), (1, .int v1), (2, .int v2), (3, .int v3), (5, .int v5), (8, .int x69_8)]) hx hb dX7_slips_116 hl (by decide) rfl (fun ls hl => ?_)
                  exact jn118 x23 h _ _ _ hP hD hS (lv_sub hl [3, 4, 5, 6, 7, 0, 1, 8] rfl)
          exact lp69 FU (0 : Int32) (0 : Int32) (0 : Int32) q10 h _ _ _ hP hD hS (lv_sub hl [3, 4, 5, 6, 8, 2, 1, 0] rfl)
        · have h := ite_t k8 h
          refine lv_iconst (v := (-1 : Int32)) hx hb dX7_slips_40 (by decide) ?_
          have h := Option.some.inj h
          subst h
          subst hQ
          exact W.iret (v := (-1 : Int32)) hx hb hr (fun t ht hW => ⟨⟨rfl, by rw [ht]; exact hP, hD⟩, hS.F ht⟩) hS.2.2 dX7_slips_41
def f_X7_actByDraw_90 (o1 : Ob) (o2 : Ob) (x1 : Int32) (y90_3 : Bool) : Option (Ob) := (f_X5_shove o2 o1 (x1 - x1 / (o1.1 9) * (o1.1 9)) (b2i y90_3)).bind fun q10 : Ob => some q10
def f_X7_actByDraw (o0 : Ob) (o1 : Ob) (o2 : Ob) (v1 : Int32) : Option (Ob) := bnd (v1 / (8 : Int32)) fun x1 : Int32 => if (v1 - v1 / (8 : Int32) * (8 : Int32)) = (0 : Int32) then (if (o1.1 9) ≤ 0 then (some o2) else (if (o1.1 9) = 0 then none else if ((v1 / (64 : Int32)) - (v1 / (64 : Int32)) / (2 : Int32) * (2 : Int32)) = (1 : Int32) then (f_X7_actByDraw_90 o1 o2 x1 true) else (f_X7_actByDraw_90 o1 o2 x1 false))) else if (v1 - v1 / (8 : Int32) * (8 : Int32)) = (1 : Int32) then (if (o1.1 9) ≤ 0 then (some o2) else (if (o1.1 9) = 0 then none else if ((v1 / (64 : Int32)) - (v1 / (64 : Int32)) / (2 : Int32) * (2 : Int32)) = (1 : Int32) then (f_X7_actByDraw_90 o1 o2 x1 true) else (f_X7_actByDraw_90 o1 o2 x1 false))) else if (v1 - v1 / (8 : Int32) * (8 : Int32)) = (2 : Int32) then (if (o1.1 9) ≤ 0 then (some o2) else (if (o1.1 9) = 0 then none else if ((v1 / (64 : Int32)) - (v1 / (64 : Int32)) / (2 : Int32) * (2 : Int32)) = (1 : Int32) then (f_X7_actByDraw_90 o1 o2 x1 true) else (f_X7_actByDraw_90 o1 o2 x1 false))) else if (v1 - v1 / (8 : Int32) * (8 : Int32)) = (3 : Int32) then (if (o1.1 9) ≤ 0 then (some o2) else (if (o1.1 9) = 0 then none else if ((v1 / (64 : Int32)) - (v1 / (64 : Int32)) / (2 : Int32) * (2 : Int32)) = (1 : Int32) then (f_X7_actByDraw_90 o1 o2 x1 true) else (f_X7_actByDraw_90 o1 o2 x1 false))) else if (v1 - v1 / (8 : Int32) * (8 : Int32)) = (4 : Int32) then (bnd (x1 - x1 / (10 : Int32) * (10 : Int32)) fun x8 : Int32 => some (stF o2 2 x8)) else if (v1 - v1 / (8 : Int32) * (8 : Int32)) = (5 : Int32) then ((f_X5_coupleAt o2 o1 (x1 - x1 / (61 : Int32) * (61 : Int32))).bind fun q8 : Int32 => bnd ((o2.1 4) ||| q8) fun x9 : Int32 => some (stF o2 4 x9)) else (if (999 : Int32) ≤ (o2.1 3) then (some o2) else ((f_X5_trade o2 o1 (1 : Int32)).bind fun q11 : Ob => some q11))
abbrev rmX7_actByDraw : Room := { frames := 5, cells := 0, slots := 0, locals := 117 }
theorem dsc_X7_actByDraw : yX7_actByDraw.cls ≠ "java/lang/invoke/MethodHandle" ∧ yX7_actByDraw.cls ≠ "java/lang/invoke/VarHandle" ∧ (parseMethodDescriptor yX7_actByDraw.desc).map (fun d => d.parameters.length) = some 1 := by decide +kernel
set_option maxHeartbeats 4000000 in
set_option maxRecDepth 100000 in
theorem c_X7_actByDraw (l : Launch) (dC : Nat → ClassId) (dI : Nat → Nat → Nat) (cB cI cZ cO : ClassId) (a0 : Nat) (g0 : Nat → Nat) (o0 : Ob) (g1 : Nat → Nat) (o1 : Ob) (g2 : Nat → Nat) (o2 : Ob) (v1 : Int32) {r : Ob} (h : f_X7_actByDraw o0 o1 o2 v1 = some r) : Ct dC dI cB cI cZ cO l yX7_actByDraw wsX7_actByDraw rmX7_actByDraw [.ref a0, .int v1] ([cX7 a0 g0 o0, cX7_10 cI g0 o0, cX6 (g0 1) g1 o1, cX6_0 cI g1 o1, cX6_1 cI g1 o1, cX6_2 cI g1 o1, cX6_3 cI g1 o1, cX6_4 cI g1 o1, cX6_5 cI g1 o1, cX6_6 cI g1 o1, cX6_7 cI g1 o1, cX5 (g0 4) g2 o2, cX5_5 cI g2 o2, cX5_6 cI g2 o2]) none ([cX7 a0 g0 o0, cX7_10 cI g0 o0, cX6 (g0 1) g1 o1, cX6_0 cI g1 o1, cX6_1 cI g1 o1, cX6_2 cI g1 o1, cX6_3 cI g1 o1, cX6_4 cI g1 o1, cX6_5 cI g1 o1, cX6_6 cI g1 o1, cX6_7 cI g1 o1, cX5 (g0 4) g2 r, cX5_5 cI g2 r, cX5_6 cI g2 r]) := by
  intro sz
  refine Met.ofW (cc := cX7_actByDraw) (maxL := 3) (ret := none) (by decide) rfl ?_
  intro p e s m args below meth c s₁ B hml hv
  obtain ⟨rfl, hsz, hP, hKK, hD0⟩ := hv
  have hx := B.exec
  have hb := B.bytes
  have hr := B.returns
  have hts := atoms_spec (ws := wsX7_actByDraw) B.pre
  have hown : s.vm.findClass RX7 = some m.cls := findClass_of_methodNamed B.named
  have hlocks := B.notSynchronized
  have hiX7 : ∀ w ∈ u_ws RX7 TX7 11, w ∈ wsX7_actByDraw := fun w h => List.mem_cons_of_mem _ (List.mem_append_left _ (List.mem_append_left _ (List.mem_append_right _ h)))
  have hiX6 : ∀ w ∈ u_ws RX6 TX6 11, w ∈ wsX7_actByDraw := fun w h => List.mem_cons_of_mem _ (List.mem_append_left _ (List.mem_append_right _ h))
  have hiX5 : ∀ w ∈ u_ws RX5 TX5 7, w ∈ wsX7_actByDraw := fun w h => List.mem_cons_of_mem _ (List.mem_append_right _ h)
  subst hsz
  have hD := hD0.self (sz := s.heap.size)
  generalize hAe : va_A ([cX7 a0 g0 o0, cX7_10 cI g0 o0, cX6 (g0 1) g1 o1, cX6_0 cI g1 o1, cX6_1 cI g1 o1, cX6_2 cI g1 o1, cX6_3 cI g1 o1, cX6_4 cI g1 o1, cX6_5 cI g1 o1, cX6_6 cI g1 o1, cX6_7 cI g1 o1, cX5 (g0 4) g2 o2, cX5_5 cI g2 o2, cX5_6 cI g2 o2]) s.heap.size = A at hD ⊢
  have hA : ∀ q : Nat, s.heap.size ≤ q → A q := fun q h => by rw [← hAe]; exact Or.inr h
  have hS : va_S A s.heap s.heap [] := va_S.rf
  have hP : va_P (dC, dI) vwCl ([cX7 a0 g0 o0, cX7_10 cI g0 o0, cX6 (g0 1) g1 o1, cX6_0 cI g1 o1, cX6_1 cI g1 o1, cX6_2 cI g1 o1, cX6_3 cI g1 o1, cX6_4 cI g1 o1, cX6_5 cI g1 o1, cX6_6 cI g1 o1, cX6_7 cI g1 o1, cX5 (g0 4) g2 o2, cX5_5 cI g2 o2, cX5_6 cI g2 o2]) s.heap := hP
  have hD : va_D A ([cX7 a0 g0 o0, cX7_10 cI g0 o0, cX6 (g0 1) g1 o1, cX6_0 cI g1 o1, cX6_1 cI g1 o1, cX6_2 cI g1 o1, cX6_3 cI g1 o1, cX6_4 cI g1 o1, cX6_5 cI g1 o1, cX6_6 cI g1 o1, cX6_7 cI g1 o1, cX5 (g0 4) g2 o2, cX5_5 cI g2 o2, cX5_6 cI g2 o2]) := hD
  have hl := lv_entry ([.ref a0, .int v1]) (n := 3) (Nat.le_of_ble_eq_true rfl)
  rw [lg_entry_eq]
  generalize (lg_sl ([.ref a0, .int v1]) ++ List.replicate (3 - (lg_sl ([.ref a0, .int v1])).length) Slot.unset).toArray = ls at hl ⊢
  have hl : lv_has ls 3 [(0, .ref a0), (1, .int v1)] := hl
  obtain ⟨Q, hQ⟩ : ∃ Q, Q = MQ below (Qq dC dI none ([cX7 a0 g0 o0, cX7_10 cI g0 o0, cX6 (g0 1) g1 o1, cX6_0 cI g1 o1, cX6_1 cI g1 o1, cX6_2 cI g1 o1, cX6_3 cI g1 o1, cX6_4 cI g1 o1, cX6_5 cI g1 o1, cX6_6 cI g1 o1, cX6_7 cI g1 o1, cX5 (g0 4) g2 r, cX5_5 cI g2 r, cX5_6 cI g2 r]) A) ([.ref a0, .int v1] : List Value).toArray s 0 0 A := ⟨_, rfl⟩
  rw [← hQ]
  rw [f_X7_actByDraw] at h
  clear hAe hD0
  refine lv_iload_n hx hb dX7_actByDraw_0 rfl (lv_at hl 1 rfl) ?_
  refine lv_bipush (v := (8 : Int32)) hx hb dX7_actByDraw_1 (by decide) ?_
  refine lv_idiv hx hb dX7_actByDraw_3 (by decide) ?_
  obtain ⟨x1, hx1, h⟩ := bnd_e h
  refine lv_topE hx1 ?_
  refine lv_istore_n (lv' := [(2, .int x1), (0, .ref a0), (1, .int v1)]) hx hb dX7_actByDraw_4 rfl hl (by decide) rfl (fun ls hl => ?_)
  refine lv_iload_n hx hb dX7_actByDraw_5 rfl (lv_at hl 2 rfl) ?_
  refine lv_bipush (v := (8 : Int32)) hx hb dX7_actByDraw_6 (by decide) ?_
  refine lv_irem hx hb dX7_actByDraw_8 (by decide) ?_
  by_cases k2 : (v1 - v1 / (8 : Int32) * (8 : Int32)) = (0 : Int32)
  · have h := ite_t k2 h
    refine lv_tableIn (off := 39) (tgt := 48) hx hb dX7_actByDraw_9 (by rw [k2]; decide) (by rw [k2]; decide) (by rw [k2]; rfl) (by decide) ?_
    refine lv_aload_n hx hb dX7_actByDraw_48 rfl (lv_at hl 1 rfl) ?_
    refine va_get (D := (dC, dI)) (ci := 7) (v := .ref (g0 1)) (C := RX7) (T := TX7) (N := 11) hx hb hts hiX7 hown hKK.1 hP 0 rfl rfl 1 (by decide) (hts (.fieldLink RX7 19 "SlideLand" "told" "LSlideLand$Told;") (List.mem_of_getElem? (i := 1) rfl)) (fun _ h9 => h9) rfl dX7_actByDraw_49 ?_
    refine va_get (D := (dC, dI)) (ci := 6) (v := .int (o1.1 9)) (C := RX6) (T := TX6) (N := 11) hx hb hts hiX6 hown hKK.1 hP 2 rfl rfl 9 (by decide) (hts (.fieldLink RX7 108 "SlideLand$Told" "pushes" "I") (List.mem_of_getElem? (i := 2) rfl)) (fun _ h9 => h9) rfl dX7_actByDraw_52 ?_
    refine lv_if_le (tgt := 165) hx hb dX7_actByDraw_55 (by decide) (fun k8 => ?_) (fun k8 => ?_)
    · have h := ite_t k8 h
      have h := Option.some.inj h
      subst h
      subst hQ
      exact W.vret hx hb hr (fun t ht hW => ⟨⟨rfl, by rw [ht]; exact hP, hD⟩, hS.F ht⟩) hS.2.2 dX7_actByDraw_165
    · have h := ite_f k8 h
      refine lv_aload_n hx hb dX7_actByDraw_58 rfl (lv_at hl 1 rfl) ?_
      refine va_get (D := (dC, dI)) (ci := 7) (v := .ref (g0 4)) (C := RX7) (T := TX7) (N := 11) hx hb hts hiX7 hown hKK.1 hP 0 rfl rfl 4 (by decide) (hts (.fieldLink RX7 33 "SlideLand" "trial" "LSlideLand$Stand;") (List.mem_of_getElem? (i := 3) rfl)) (fun _ h9 => h9) rfl dX7_actByDraw_59 ?_
      refine lv_aload_n hx hb dX7_actByDraw_62 rfl (lv_at hl 1 rfl) ?_
      refine va_get (D := (dC, dI)) (ci := 7) (v := .ref (g0 1)) (C := RX7) (T := TX7) (N := 11) hx hb hts hiX7 hown hKK.1 hP 0 rfl rfl 1 (by decide) (hts (.fieldLink RX7 19 "SlideLand" "told" "LSlideLand$Told;") (List.mem_of_getElem? (i := 1) rfl)) (fun _ h9 => h9) rfl dX7_actByDraw_63 ?_
      refine lv_iload_n hx hb dX7_actByDraw_66 rfl (lv_at hl 0 rfl) ?_
      refine lv_aload_n hx hb dX7_actByDraw_67 rfl (lv_at hl 1 rfl) ?_
      refine va_get (D := (dC, dI)) (ci := 7) (v := .ref (g0 1)) (C := RX7) (T := TX7) (N := 11) hx hb hts hiX7 hown hKK.1 hP 0 rfl rfl 1 (by decide) (hts (.fieldLink RX7 19 "SlideLand" "told" "LSlideLand$Told;") (List.mem_of_getElem? (i := 1) rfl)) (fun _ h9 => h9) rfl dX7_actByDraw_68 ?_
      refine va_get (D := (dC, dI)) (ci := 6) (v := .int (o1.1 9)) (C := RX6) (T := TX6) (N := 11) hx hb hts hiX6 hown hKK.1 hP 2 rfl rfl 9 (by decide) (hts (.fieldLink RX7 108 "SlideLand$Told" "pushes" "I") (List.mem_of_getElem? (i := 2) rfl)) (fun _ h9 => h9) rfl dX7_actByDraw_71 ?_
      obtain ⟨k9, h⟩ := ite_n h
      refine lv_irem hx hb dX7_actByDraw_74 k9 ?_
      refine lv_iload_n hx hb dX7_actByDraw_75 rfl (lv_at hl 2 rfl) ?_
      refine lv_bipush (v := (64 : Int32)) hx hb dX7_actByDraw_76 (by decide) ?_
      refine lv_idiv hx hb dX7_actByDraw_78 (by decide) ?_
      refine lv_iconst (v := (2 : Int32)) hx hb dX7_actByDraw_79 (by decide) ?_
      refine lv_irem hx hb dX7_actByDraw_80 (by decide) ?_
      refine lv_iconst (v := (1 : Int32)) hx hb dX7_actByDraw_81 (by decide) ?_
      have jn90 : ∀ (y90_3 : Bool), f_X7_actByDraw_90 o1 o2 x1 y90_3 = some r → ∀ (H : Heap) (locs : List Loc) (ls : Array Slot), va_P (dC, dI) vwCl ([cX7 a0 g0 o0, cX7_10 cI g0 o0, cX6 (g0 1) g1 o1, cX6_0 cI g1 o1, cX6_1 cI g1 o1, cX6_2 cI g1 o1, cX6_3 cI g1 o1, cX6_4 cI g1 o1, cX6_5 cI g1 o1, cX6_6 cI g1 o1, cX6_7 cI g1 o1, cX5 (g0 4) g2 o2, cX5_5 cI g2 o2, cX5_6 cI g2 o2]) H → va_D A ([cX7 a0 g0 o0, cX7_10 cI g0 o0, cX6 (g0 1) g1 o1, cX6_0 cI g1 o1, cX6_1 cI g1 o1, cX6_2 cI g1 o1, cX6_3 cI g1 o1, cX6_4 cI g1 o1, cX6_5 cI g1 o1, cX6_6 cI g1 o1, cX6_7 cI g1 o1, cX5 (g0 4) g2 o2, cX5_5 cI g2 o2, cX5_6 cI g2 o2]) → va_S A s.heap H locs → lv_has ls 3 [] → W p l e (headSpec wsX7_actByDraw rmX7_actByDraw).room s m ([.ref a0, .int v1] : List Value).toArray below meth c H locs 0 0 Q (F0 m 90 ls [.int (b2i y90_3), .int (x1 - x1 / (o1.1 9) * (o1.1 9)), .ref (g0 1), .ref (g0 4)]) := by
        intro y90_3 h H locs ls hP hD hS hl
        rw [f_X7_actByDraw_90] at h
        obtain ⟨q10, hq10, h⟩ := obd_e h
        refine kcV (rest := []) (w2 := ([cX7 a0 g0 o0, cX7_10 cI g0 o0, cX6 (g0 1) g1 o1, cX6_0 cI g1 o1, cX6_1 cI g1 o1, cX6_2 cI g1 o1, cX6_3 cI g1 o1, cX6_4 cI g1 o1, cX6_5 cI g1 o1, cX6_6 cI g1 o1, cX6_7 cI g1 o1, cX5 (g0 4) g2 q10, cX5_5 cI g2 q10, cX5_6 cI g2 q10])) hx hb hml hown hts hKK hP hD hS hA (c_X5_shove l dC dI cB cI cZ cO (g0 4) g2 o2 (g0 1) g1 o1 (x1 - x1 / (o1.1 9) * (o1.1 9)) (b2i y90_3) hq10) [11, 12, 13, 2, 3, 4, 5, 6, 7, 8, 9, 10] (atAll_map ⟨rfl, rfl, rfl, rfl, rfl, rfl, rfl, rfl, rfl, rfl, rfl, rfl, trivial⟩) (by decide +kernel) (sameAd_map ⟨rfl, rfl, rfl, rfl, rfl, rfl, rfl, rfl, rfl, rfl, rfl, rfl, trivial⟩) (atAll_map ⟨rfl, rfl, rfl, rfl, rfl, rfl, rfl, rfl, rfl, rfl, rfl, rfl, trivial⟩) ⟨Or.inl rfl, Or.inl rfl, Or.inl rfl, Or.inl rfl, Or.inl rfl, Or.inl rfl, Or.inl rfl, Or.inl rfl, Or.inl rfl, Or.inl rfl, Or.inl rfl, Or.inr (by decide), Or.inr (by decide), Or.inr (by decide), trivial⟩ (cwV 3 hts gX7_actByDraw_X5_shove rfl rfl rfl ⟨rfl, dsc_X5_shove⟩ ⟨Nat.le_of_ble_eq_true rfl, Nat.le_of_ble_eq_true rfl⟩) (va_recv hKK.1 hP (ci := 5) (q0 := 11) rfl rfl) rfl hl.1 rfl (Nat.le_of_ble_eq_true rfl) dX7_actByDraw_90 ⟨Nat.zero_le _, Nat.zero_le _⟩ (fun H locs hP hD hS => ?_)
        refine lv_goto (tgt := 165) hx hb dX7_actByDraw_93 (by decide) ?_
        have h := Option.some.inj h
        subst h
        subst hQ
        exact W.vret hx hb hr (fun t ht hW => ⟨⟨rfl, by rw [ht]; exact hP, hD⟩, hS.F ht⟩) hS.2.2 dX7_actByDraw_165
      refine lv_icmp_ne (tgt := 89) hx hb dX7_actByDraw_82 (by decide) (fun k11 => ?_) (fun k11 => ?_)
      · have h := ite_f k11 h
        refine lv_iconst (v := (0 : Int32)) hx hb dX7_actByDraw_89 (by decide) ?_
        exact jn90 false h _ _ _ hP hD hS (lv_sub hl [] rfl)
      · have h := ite_t k11 h
        refine lv_iconst (v := (1 : Int32)) hx hb dX7_actByDraw_85 (by decide) ?_
        refine lv_goto (tgt := 90) hx hb dX7_actByDraw_86 (by decide) ?_
        exact jn90 true h _ _ _ hP hD hS (lv_sub hl [] rfl)
  · have h := ite_f k2 h
    by_cases k3 : (v1 - v1 / (8 : Int32) * (8 : Int32)) = (1 : Int32)
    · have h := ite_t k3 h
      refine lv_tableIn (off := 39) (tgt := 48) hx hb dX7_actByDraw_9 (by rw [k3]; decide) (by rw [k3]; decide) (by rw [k3]; rfl) (by decide) ?_
      refine lv_aload_n hx hb dX7_actByDraw_48 rfl (lv_at hl 1 rfl) ?_
      refine va_get (D := (dC, dI)) (ci := 7) (v := .ref (g0 1)) (C := RX7) (T := TX7) (N := 11) hx hb hts hiX7 hown hKK.1 hP 0 rfl rfl 1 (by decide) (hts (.fieldLink RX7 19 "SlideLand" "told" "LSlideLand$Told;") (List.mem_of_getElem? (i := 1) rfl)) (fun _ h9 => h9) rfl dX7_actByDraw_49 ?_
      refine va_get (D := (dC, dI)) (ci := 6) (v := .int (o1.1 9)) (C := RX6) (T := TX6) (N := 11) hx hb hts hiX6 hown hKK.1 hP 2 rfl rfl 9 (by decide) (hts (.fieldLink RX7 108 "SlideLand$Told" "pushes" "I") (List.mem_of_getElem? (i := 2) rfl)) (fun _ h9 => h9) rfl dX7_actByDraw_52 ?_
      refine lv_if_le (tgt := 165) hx hb dX7_actByDraw_55 (by decide) (fun k8 => ?_) (fun k8 => ?_)
      · have h := ite_t k8 h
        have h := Option.some.inj h
        subst h
        subst hQ
        exact W.vret hx hb hr (fun t ht hW => ⟨⟨rfl, by rw [ht]; exact hP, hD⟩, hS.F ht⟩) hS.2.2 dX7_actByDraw_165
      · have h := ite_f k8 h
        refine lv_aload_n hx hb dX7_actByDraw_58 rfl (lv_at hl 1 rfl) ?_
        refine va_get (D := (dC, dI)) (ci := 7) (v := .ref (g0 4)) (C := RX7) (T := TX7) (N := 11) hx hb hts hiX7 hown hKK.1 hP 0 rfl rfl 4 (by decide) (hts (.fieldLink RX7 33 "SlideLand" "trial" "LSlideLand$Stand;") (List.mem_of_getElem? (i := 3) rfl)) (fun _ h9 => h9) rfl dX7_actByDraw_59 ?_
        refine lv_aload_n hx hb dX7_actByDraw_62 rfl (lv_at hl 1 rfl) ?_
        refine va_get (D := (dC, dI)) (ci := 7) (v := .ref (g0 1)) (C := RX7) (T := TX7) (N := 11) hx hb hts hiX7 hown hKK.1 hP 0 rfl rfl 1 (by decide) (hts (.fieldLink RX7 19 "SlideLand" "told" "LSlideLand$Told;") (List.mem_of_getElem? (i := 1) rfl)) (fun _ h9 => h9) rfl dX7_actByDraw_63 ?_
        refine lv_iload_n hx hb dX7_actByDraw_66 rfl (lv_at hl 0 rfl) ?_
        refine lv_aload_n hx hb dX7_actByDraw_67 rfl (lv_at hl 1 rfl) ?_
        refine va_get (D := (dC, dI)) (ci := 7) (v := .ref (g0 1)) (C := RX7) (T := TX7) (N := 11) hx hb hts hiX7 hown hKK.1 hP 0 rfl rfl 1 (by decide) (hts (.fieldLink RX7 19 "SlideLand" "told" "LSlideLand$Told;") (List.mem_of_getElem? (i := 1) rfl)) (fun _ h9 => h9) rfl dX7_actByDraw_68 ?_
        refine va_get (D := (dC, dI)) (ci := 6) (v := .int (o1.1 9)) (C := RX6) (T := TX6) (N := 11) hx hb hts hiX6 hown hKK.1 hP 2 rfl rfl 9 (by decide) (hts (.fieldLink RX7 108 "SlideLand$Told" "pushes" "I") (List.mem_of_getElem? (i := 2) rfl)) (fun _ h9 => h9) rfl dX7_actByDraw_71 ?_
        obtain ⟨k9, h⟩ := ite_n h
        refine lv_irem hx hb dX7_actByDraw_74 k9 ?_
        refine lv_iload_n hx hb dX7_actByDraw_75 rfl (lv_at hl 2 rfl) ?_
        refine lv_bipush (v := (64 : Int32)) hx hb dX7_actByDraw_76 (by decide) ?_
        refine lv_idiv hx hb dX7_actByDraw_78 (by decide) ?_
        refine lv_iconst (v := (2 : Int32)) hx hb dX7_actByDraw_79 (by decide) ?_
        refine lv_irem hx hb dX7_actByDraw_80 (by decide) ?_
        refine lv_iconst (v := (1 : Int32)) hx hb dX7_actByDraw_81 (by decide) ?_
        have jn90 : ∀ (y90_3 : Bool), f_X7_actByDraw_90 o1 o2 x1 y90_3 = some r → ∀ (H : Heap) (locs : List Loc) (ls : Array Slot), va_P (dC, dI) vwCl ([cX7 a0 g0 o0, cX7_10 cI g0 o0, cX6 (g0 1) g1 o1, cX6_0 cI g1 o1, cX6_1 cI g1 o1, cX6_2 cI g1 o1, cX6_3 cI g1 o1, cX6_4 cI g1 o1, cX6_5 cI g1 o1, cX6_6 cI g1 o1, cX6_7 cI g1 o1, cX5 (g0 4) g2 o2, cX5_5 cI g2 o2, cX5_6 cI g2 o2]) H → va_D A ([cX7 a0 g0 o0, cX7_10 cI g0 o0, cX6 (g0 1) g1 o1, cX6_0 cI g1 o1, cX6_1 cI g1 o1, cX6_2 cI g1 o1, cX6_3 cI g1 o1, cX6_4 cI g1 o1, cX6_5 cI g1 o1, cX6_6 cI g1 o1, cX6_7 cI g1 o1, cX5 (g0 4) g2 o2, cX5_5 cI g2 o2, cX5_6 cI g2 o2]) → va_S A s.heap H locs → lv_has ls 3 [] → W p l e (headSpec wsX7_actByDraw rmX7_actByDraw).room s m ([.ref a0, .int v1] : List Value).toArray below meth c H locs 0 0 Q (F0 m 90 ls [.int (b2i y90_3), .int (x1 - x1 / (o1.1 9) * (o1.1 9)), .ref (g0 1), .ref (g0 4)]) := by
          intro y90_3 h H locs ls hP hD hS hl
          rw [f_X7_actByDraw_90] at h
          obtain ⟨q10, hq10, h⟩ := obd_e h
          refine kcV (rest := []) (w2 := ([cX7 a0 g0 o0, cX7_10 cI g0 o0, cX6 (g0 1) g1 o1, cX6_0 cI g1 o1, cX6_1 cI g1 o1, cX6_2 cI g1 o1, cX6_3 cI g1 o1, cX6_4 cI g1 o1, cX6_5 cI g1 o1, cX6_6 cI g1 o1, cX6_7 cI g1 o1, cX5 (g0 4) g2 q10, cX5_5 cI g2 q10, cX5_6 cI g2 q10])) hx hb hml hown hts hKK hP hD hS hA (c_X5_shove l dC dI cB cI cZ cO (g0 4) g2 o2 (g0 1) g1 o1 (x1 - x1 / (o1.1 9) * (o1.1 9)) (b2i y90_3) hq10) [11, 12, 13, 2, 3, 4, 5, 6, 7, 8, 9, 10] (atAll_map ⟨rfl, rfl, rfl, rfl, rfl, rfl, rfl, rfl, rfl, rfl, rfl, rfl, trivial⟩) (by decide +kernel) (sameAd_map ⟨rfl, rfl, rfl, rfl, rfl, rfl, rfl, rfl, rfl, rfl, rfl, rfl, trivial⟩) (atAll_map ⟨rfl, rfl, rfl, rfl, rfl, rfl, rfl, rfl, rfl, rfl, rfl, rfl, trivial⟩) ⟨Or.inl rfl, Or.inl rfl, Or.inl rfl, Or.inl rfl, Or.inl rfl, Or.inl rfl, Or.inl rfl, Or.inl rfl, Or.inl rfl, Or.inl rfl, Or.inl rfl, Or.inr (by decide), Or.inr (by decide), Or.inr (by decide), trivial⟩ (cwV 3 hts gX7_actByDraw_X5_shove rfl rfl rfl ⟨rfl, dsc_X5_shove⟩ ⟨Nat.le_of_ble_eq_true rfl, Nat.le_of_ble_eq_true rfl⟩) (va_recv hKK.1 hP (ci := 5) (q0 := 11) rfl rfl) rfl hl.1 rfl (Nat.le_of_ble_eq_true rfl) dX7_actByDraw_90 ⟨Nat.zero_le _, Nat.zero_le _⟩ (fun H locs hP hD hS => ?_)
          refine lv_goto (tgt := 165) hx hb dX7_actByDraw_93 (by decide) ?_
          have h := Option.some.inj h
          subst h
          subst hQ
          exact W.vret hx hb hr (fun t ht hW => ⟨⟨rfl, by rw [ht]; exact hP, hD⟩, hS.F ht⟩) hS.2.2 dX7_actByDraw_165
        refine lv_icmp_ne (tgt := 89) hx hb dX7_actByDraw_82 (by decide) (fun k11 => ?_) (fun k11 => ?_)
        · have h := ite_f k11 h
          refine lv_iconst (v := (0 : Int32)) hx hb dX7_actByDraw_89 (by decide) ?_
          exact jn90 false h _ _ _ hP hD hS (lv_sub hl [] rfl)
        · have h := ite_t k11 h
          refine lv_iconst (v := (1 : Int32)) hx hb dX7_actByDraw_85 (by decide) ?_
          refine lv_goto (tgt := 90) hx hb dX7_actByDraw_86 (by decide) ?_
          exact jn90 true h _ _ _ hP hD hS (lv_sub hl [] rfl)
    · have h := ite_f k3 h
      by_cases k4 : (v1 - v1 / (8 : Int32) * (8 : Int32)) = (2 : Int32)
      · have h := ite_t k4 h
        refine lv_tableIn (off := 39) (tgt := 48) hx hb dX7_actByDraw_9 (by rw [k4]; decide) (by rw [k4]; decide) (by rw [k4]; rfl) (by decide) ?_
        refine lv_aload_n hx hb dX7_actByDraw_48 rfl (lv_at hl 1 rfl) ?_
        refine va_get (D := (dC, dI)) (ci := 7) (v := .ref (g0 1)) (C := RX7) (T := TX7) (N := 11) hx hb hts hiX7 hown hKK.1 hP 0 rfl rfl 1 (by decide) (hts (.fieldLink RX7 19 "SlideLand" "told" "LSlideLand$Told;") (List.mem_of_getElem? (i := 1) rfl)) (fun _ h9 => h9) rfl dX7_actByDraw_49 ?_
        refine va_get (D := (dC, dI)) (ci := 6) (v := .int (o1.1 9)) (C := RX6) (T := TX6) (N := 11) hx hb hts hiX6 hown hKK.1 hP 2 rfl rfl 9 (by decide) (hts (.fieldLink RX7 108 "SlideLand$Told" "pushes" "I") (List.mem_of_getElem? (i := 2) rfl)) (fun _ h9 => h9) rfl dX7_actByDraw_52 ?_
        refine lv_if_le (tgt := 165) hx hb dX7_actByDraw_55 (by decide) (fun k8 => ?_) (fun k8 => ?_)
        · have h := ite_t k8 h
          have h := Option.some.inj h
          subst h
          subst hQ
          exact W.vret hx hb hr (fun t ht hW => ⟨⟨rfl, by rw [ht]; exact hP, hD⟩, hS.F ht⟩) hS.2.2 dX7_actByDraw_165
        · have h := ite_f k8 h
          refine lv_aload_n hx hb dX7_actByDraw_58 rfl (lv_at hl 1 rfl) ?_
          refine va_get (D := (dC, dI)) (ci := 7) (v := .ref (g0 4)) (C := RX7) (T := TX7) (N := 11) hx hb hts hiX7 hown hKK.1 hP 0 rfl rfl 4 (by decide) (hts (.fieldLink RX7 33 "SlideLand" "trial" "LSlideLand$Stand;") (List.mem_of_getElem? (i := 3) rfl)) (fun _ h9 => h9) rfl dX7_actByDraw_59 ?_
          refine lv_aload_n hx hb dX7_actByDraw_62 rfl (lv_at hl 1 rfl) ?_
          refine va_get (D := (dC, dI)) (ci := 7) (v := .ref (g0 1)) (C := RX7) (T := TX7) (N := 11) hx hb hts hiX7 hown hKK.1 hP 0 rfl rfl 1 (by decide) (hts (.fieldLink RX7 19 "SlideLand" "told" "LSlideLand$Told;") (List.mem_of_getElem? (i := 1) rfl)) (fun _ h9 => h9) rfl dX7_actByDraw_63 ?_
          refine lv_iload_n hx hb dX7_actByDraw_66 rfl (lv_at hl 0 rfl) ?_
          refine lv_aload_n hx hb dX7_actByDraw_67 rfl (lv_at hl 1 rfl) ?_
          refine va_get (D := (dC, dI)) (ci := 7) (v := .ref (g0 1)) (C := RX7) (T := TX7) (N := 11) hx hb hts hiX7 hown hKK.1 hP 0 rfl rfl 1 (by decide) (hts (.fieldLink RX7 19 "SlideLand" "told" "LSlideLand$Told;") (List.mem_of_getElem? (i := 1) rfl)) (fun _ h9 => h9) rfl dX7_actByDraw_68 ?_
          refine va_get (D := (dC, dI)) (ci := 6) (v := .int (o1.1 9)) (C := RX6) (T := TX6) (N := 11) hx hb hts hiX6 hown hKK.1 hP 2 rfl rfl 9 (by decide) (hts (.fieldLink RX7 108 "SlideLand$Told" "pushes" "I") (List.mem_of_getElem? (i := 2) rfl)) (fun _ h9 => h9) rfl dX7_actByDraw_71 ?_
          obtain ⟨k9, h⟩ := ite_n h
          refine lv_irem hx hb dX7_actByDraw_74 k9 ?_
          refine lv_iload_n hx hb dX7_actByDraw_75 rfl (lv_at hl 2 rfl) ?_
          refine lv_bipush (v := (64 : Int32)) hx hb dX7_actByDraw_76 (by decide) ?_
          refine lv_idiv hx hb dX7_actByDraw_78 (by decide) ?_
          refine lv_iconst (v := (2 : Int32)) hx hb dX7_actByDraw_79 (by decide) ?_
          refine lv_irem hx hb dX7_actByDraw_80 (by decide) ?_
          refine lv_iconst (v := (1 : Int32)) hx hb dX7_actByDraw_81 (by decide) ?_
          have jn90 : ∀ (y90_3 : Bool), f_X7_actByDraw_90 o1 o2 x1 y90_3 = some r → ∀ (H : Heap) (locs : List Loc) (ls : Array Slot), va_P (dC, dI) vwCl ([cX7 a0 g0 o0, cX7_10 cI g0 o0, cX6 (g0 1) g1 o1, cX6_0 cI g1 o1, cX6_1 cI g1 o1, cX6_2 cI g1 o1, cX6_3 cI g1 o1, cX6_4 cI g1 o1, cX6_5 cI g1 o1, cX6_6 cI g1 o1, cX6_7 cI g1 o1, cX5 (g0 4) g2 o2, cX5_5 cI g2 o2, cX5_6 cI g2 o2]) H → va_D A ([cX7 a0 g0 o0, cX7_10 cI g0 o0, cX6 (g0 1) g1 o1, cX6_0 cI g1 o1, cX6_1 cI g1 o1, cX6_2 cI g1 o1, cX6_3 cI g1 o1, cX6_4 cI g1 o1, cX6_5 cI g1 o1, cX6_6 cI g1 o1, cX6_7 cI g1 o1, cX5 (g0 4) g2 o2, cX5_5 cI g2 o2, cX5_6 cI g2 o2]) → va_S A s.heap H locs → lv_has ls 3 [] → W p l e (headSpec wsX7_actByDraw rmX7_actByDraw).room s m ([.ref a0, .int v1] : List Value).toArray below meth c H locs 0 0 Q (F0 m 90 ls [.int (b2i y90_3), .int (x1 - x1 / (o1.1 9) * (o1.1 9)), .ref (g0 1), .ref (g0 4)]) := by
            intro y90_3 h H locs ls hP hD hS hl
            rw [f_X7_actByDraw_90] at h
            obtain ⟨q10, hq10, h⟩ := obd_e h
            refine kcV (rest := []) (w2 := ([cX7 a0 g0 o0, cX7_10 cI g0 o0, cX6 (g0 1) g1 o1, cX6_0 cI g1 o1, cX6_1 cI g1 o1, cX6_2 cI g1 o1, cX6_3 cI g1 o1, cX6_4 cI g1 o1, cX6_5 cI g1 o1, cX6_6 cI g1 o1, cX6_7 cI g1 o1, cX5 (g0 4) g2 q10, cX5_5 cI g2 q10, cX5_6 cI g2 q10])) hx hb hml hown hts hKK hP hD hS hA (c_X5_shove l dC dI cB cI cZ cO (g0 4) g2 o2 (g0 1) g1 o1 (x1 - x1 / (o1.1 9) * (o1.1 9)) (b2i y90_3) hq10) [11, 12, 13, 2, 3, 4, 5, 6, 7, 8, 9, 10] (atAll_map ⟨rfl, rfl, rfl, rfl, rfl, rfl, rfl, rfl, rfl, rfl, rfl, rfl, trivial⟩) (by decide +kernel) (sameAd_map ⟨rfl, rfl, rfl, rfl, rfl, rfl, rfl, rfl, rfl, rfl, rfl, rfl, trivial⟩) (atAll_map ⟨rfl, rfl, rfl, rfl, rfl, rfl, rfl, rfl, rfl, rfl, rfl, rfl, trivial⟩) ⟨Or.inl rfl, Or.inl rfl, Or.inl rfl, Or.inl rfl, Or.inl rfl, Or.inl rfl, Or.inl rfl, Or.inl rfl, Or.inl rfl, Or.inl rfl, Or.inl rfl, Or.inr (by decide), Or.inr (by decide), Or.inr (by decide), trivial⟩ (cwV 3 hts gX7_actByDraw_X5_shove rfl rfl rfl ⟨rfl, dsc_X5_shove⟩ ⟨Nat.le_of_ble_eq_true rfl, Nat.le_of_ble_eq_true rfl⟩) (va_recv hKK.1 hP (ci := 5) (q0 := 11) rfl rfl) rfl hl.1 rfl (Nat.le_of_ble_eq_true rfl) dX7_actByDraw_90 ⟨Nat.zero_le _, Nat.zero_le _⟩ (fun H locs hP hD hS => ?_)
            refine lv_goto (tgt := 165) hx hb dX7_actByDraw_93 (by decide) ?_
            have h := Option.some.inj h
            subst h
            subst hQ
            exact W.vret hx hb hr (fun t ht hW => ⟨⟨rfl, by rw [ht]; exact hP, hD⟩, hS.F ht⟩) hS.2.2 dX7_actByDraw_165
          refine lv_icmp_ne (tgt := 89) hx hb dX7_actByDraw_82 (by decide) (fun k11 => ?_) (fun k11 => ?_)
          · have h := ite_f k11 h
            refine lv_iconst (v := (0 : Int32)) hx hb dX7_actByDraw_89 (by decide) ?_
            exact jn90 false h _ _ _ hP hD hS (lv_sub hl [] rfl)
          · have h := ite_t k11 h
            refine lv_iconst (v := (1 : Int32)) hx hb dX7_actByDraw_85 (by decide) ?_
            refine lv_goto (tgt := 90) hx hb dX7_actByDraw_86 (by decide) ?_
            exact jn90 true h _ _ _ hP hD hS (lv_sub hl [] rfl)
      · have h := ite_f k4 h
        by_cases k5 : (v1 - v1 / (8 : Int32) * (8 : Int32)) = (3 : Int32)
        · have h := ite_t k5 h
          refine lv_tableIn (off := 39) (tgt := 48) hx hb dX7_actByDraw_9 (by rw [k5]; decide) (by rw [k5]; decide) (by rw [k5]; rfl) (by decide) ?_
          refine lv_aload_n hx hb dX7_actByDraw_48 rfl (lv_at hl 1 rfl) ?_
          refine va_get (D := (dC, dI)) (ci := 7) (v := .ref (g0 1)) (C := RX7) (T := TX7) (N := 11) hx hb hts hiX7 hown hKK.1 hP 0 rfl rfl 1 (by decide) (hts (.fieldLink RX7 19 "SlideLand" "told" "LSlideLand$Told;") (List.mem_of_getElem? (i := 1) rfl)) (fun _ h9 => h9) rfl dX7_actByDraw_49 ?_
          refine va_get (D := (dC, dI)) (ci := 6) (v := .int (o1.1 9)) (C := RX6) (T := TX6) (N := 11) hx hb hts hiX6 hown hKK.1 hP 2 rfl rfl 9 (by decide) (hts (.fieldLink RX7 108 "SlideLand$Told" "pushes" "I") (List.mem_of_getElem? (i := 2) rfl)) (fun _ h9 => h9) rfl dX7_actByDraw_52 ?_
          refine lv_if_le (tgt := 165) hx hb dX7_actByDraw_55 (by decide) (fun k8 => ?_) (fun k8 => ?_)
          · have h := ite_t k8 h
            have h := Option.some.inj h
            subst h
            subst hQ
            exact W.vret hx hb hr (fun t ht hW => ⟨⟨rfl, by rw [ht]; exact hP, hD⟩, hS.F ht⟩) hS.2.2 dX7_actByDraw_165
          · have h := ite_f k8 h
            refine lv_aload_n hx hb dX7_actByDraw_58 rfl (lv_at hl 1 rfl) ?_
            refine va_get (D := (dC, dI)) (ci := 7) (v := .ref (g0 4)) (C := RX7) (T := TX7) (N := 11) hx hb hts hiX7 hown hKK.1 hP 0 rfl rfl 4 (by decide) (hts (.fieldLink RX7 33 "SlideLand" "trial" "LSlideLand$Stand;") (List.mem_of_getElem? (i := 3) rfl)) (fun _ h9 => h9) rfl dX7_actByDraw_59 ?_
            refine lv_aload_n hx hb dX7_actByDraw_62 rfl (lv_at hl 1 rfl) ?_
            refine va_get (D := (dC, dI)) (ci := 7) (v := .ref (g0 1)) (C := RX7) (T := TX7) (N := 11) hx hb hts hiX7 hown hKK.1 hP 0 rfl rfl 1 (by decide) (hts (.fieldLink RX7 19 "SlideLand" "told" "LSlideLand$Told;") (List.mem_of_getElem? (i := 1) rfl)) (fun _ h9 => h9) rfl dX7_actByDraw_63 ?_
            refine lv_iload_n hx hb dX7_actByDraw_66 rfl (lv_at hl 0 rfl) ?_
            refine lv_aload_n hx hb dX7_actByDraw_67 rfl (lv_at hl 1 rfl) ?_
            refine va_get (D := (dC, dI)) (ci := 7) (v := .ref (g0 1)) (C := RX7) (T := TX7) (N := 11) hx hb hts hiX7 hown hKK.1 hP 0 rfl rfl 1 (by decide) (hts (.fieldLink RX7 19 "SlideLand" "told" "LSlideLand$Told;") (List.mem_of_getElem? (i := 1) rfl)) (fun _ h9 => h9) rfl dX7_actByDraw_68 ?_
            refine va_get (D := (dC, dI)) (ci := 6) (v := .int (o1.1 9)) (C := RX6) (T := TX6) (N := 11) hx hb hts hiX6 hown hKK.1 hP 2 rfl rfl 9 (by decide) (hts (.fieldLink RX7 108 "SlideLand$Told" "pushes" "I") (List.mem_of_getElem? (i := 2) rfl)) (fun _ h9 => h9) rfl dX7_actByDraw_71 ?_
            obtain ⟨k9, h⟩ := ite_n h
            refine lv_irem hx hb dX7_actByDraw_74 k9 ?_
            refine lv_iload_n hx hb dX7_actByDraw_75 rfl (lv_at hl 2 rfl) ?_
            refine lv_bipush (v := (64 : Int32)) hx hb dX7_actByDraw_76 (by decide) ?_
            refine lv_idiv hx hb dX7_actByDraw_78 (by decide) ?_
            refine lv_iconst (v := (2 : Int32)) hx hb dX7_actByDraw_79 (by decide) ?_
            refine lv_irem hx hb dX7_actByDraw_80 (by decide) ?_
            refine lv_iconst (v := (1 : Int32)) hx hb dX7_actByDraw_81 (by decide) ?_
            have jn90 : ∀ (y90_3 : Bool), f_X7_actByDraw_90 o1 o2 x1 y90_3 = some r → ∀ (H : Heap) (locs : List Loc) (ls : Array Slot), va_P (dC, dI) vwCl ([cX7 a0 g0 o0, cX7_10 cI g0 o0, cX6 (g0 1) g1 o1, cX6_0 cI g1 o1, cX6_1 cI g1 o1, cX6_2 cI g1 o1, cX6_3 cI g1 o1, cX6_4 cI g1 o1, cX6_5 cI g1 o1, cX6_6 cI g1 o1, cX6_7 cI g1 o1, cX5 (g0 4) g2 o2, cX5_5 cI g2 o2, cX5_6 cI g2 o2]) H → va_D A ([cX7 a0 g0 o0, cX7_10 cI g0 o0, cX6 (g0 1) g1 o1, cX6_0 cI g1 o1, cX6_1 cI g1 o1, cX6_2 cI g1 o1, cX6_3 cI g1 o1, cX6_4 cI g1 o1, cX6_5 cI g1 o1, cX6_6 cI g1 o1, cX6_7 cI g1 o1, cX5 (g0 4) g2 o2, cX5_5 cI g2 o2, cX5_6 cI g2 o2]) → va_S A s.heap H locs → lv_has ls 3 [] → W p l e (headSpec wsX7_actByDraw rmX7_actByDraw).room s m ([.ref a0, .int v1] : List Value).toArray below meth c H locs 0 0 Q (F0 m 90 ls [.int (b2i y90_3), .int (x1 - x1 / (o1.1 9) * (o1.1 9)), .ref (g0 1), .ref (g0 4)]) := by
              intro y90_3 h H locs ls hP hD hS hl
              rw [f_X7_actByDraw_90] at h
              obtain ⟨q10, hq10, h⟩ := obd_e h
              refine kcV (rest := []) (w2 := ([cX7 a0 g0 o0, cX7_10 cI g0 o0, cX6 (g0 1) g1 o1, cX6_0 cI g1 o1, cX6_1 cI g1 o1, cX6_2 cI g1 o1, cX6_3 cI g1 o1, cX6_4 cI g1 o1, cX6_5 cI g1 o1, cX6_6 cI g1 o1, cX6_7 cI g1 o1, cX5 (g0 4) g2 q10, cX5_5 cI g2 q10, cX5_6 cI g2 q10])) hx hb hml hown hts hKK hP hD hS hA (c_X5_shove l dC dI cB cI cZ cO (g0 4) g2 o2 (g0 1) g1 o1 (x1 - x1 / (o1.1 9) * (o1.1 9)) (b2i y90_3) hq10) [11, 12, 13, 2, 3, 4, 5, 6, 7, 8, 9, 10] (atAll_map ⟨rfl, rfl, rfl, rfl, rfl, rfl, rfl, rfl, rfl, rfl, rfl, rfl, trivial⟩) (by decide +kernel) (sameAd_map ⟨rfl, rfl, rfl, rfl, rfl, rfl, rfl, rfl, rfl, rfl, rfl, rfl, trivial⟩) (atAll_map ⟨rfl, rfl, rfl, rfl, rfl, rfl, rfl, rfl, rfl, rfl, rfl, rfl, trivial⟩) ⟨Or.inl rfl, Or.inl rfl, Or.inl rfl, Or.inl rfl, Or.inl rfl, Or.inl rfl, Or.inl rfl, Or.inl rfl, Or.inl rfl, Or.inl rfl, Or.inl rfl, Or.inr (by decide), Or.inr (by decide), Or.inr (by decide), trivial⟩ (cwV 3 hts gX7_actByDraw_X5_shove rfl rfl rfl ⟨rfl, dsc_X5_shove⟩ ⟨Nat.le_of_ble_eq_true rfl, Nat.le_of_ble_eq_true rfl⟩) (va_recv hKK.1 hP (ci := 5) (q0 := 11) rfl rfl) rfl hl.1 rfl (Nat.le_of_ble_eq_true rfl) dX7_actByDraw_90 ⟨Nat.zero_le _, Nat.zero_le _⟩ (fun H locs hP hD hS => ?_)
              refine lv_goto (tgt := 165) hx hb dX7_actByDraw_93 (by decide) ?_
              have h := Option.some.inj h
              subst h
              subst hQ
              exact W.vret hx hb hr (fun t ht hW => ⟨⟨rfl, by rw [ht]; exact hP, hD⟩, hS.F ht⟩) hS.2.2 dX7_actByDraw_165
            refine lv_icmp_ne (tgt := 89) hx hb dX7_actByDraw_82 (by decide) (fun k11 => ?_) (fun k11 => ?_)
            · have h := ite_f k11 h
              refine lv_iconst (v := (0 : Int32)) hx hb dX7_actByDraw_89 (by decide) ?_
              exact jn90 false h _ _ _ hP hD hS (lv_sub hl [] rfl)
            · have h := ite_t k11 h
              refine lv_iconst (v := (1 : Int32)) hx hb dX7_actByDraw_85 (by decide) ?_
              refine lv_goto (tgt := 90) hx hb dX7_actByDraw_86 (by decide) ?_
              exact jn90 true h _ _ _ hP hD hS (lv_sub hl [] rfl)
        · have h := ite_f k5 h
          by_cases k6 : (v1 - v1 / (8 : Int32) * (8 : Int32)) = (4 : Int32)
          · have h := ite_t k6 h
            refine lv_tableIn (off := 87) (tgt := 96) hx hb dX7_actByDraw_9 (by rw [k6]; decide) (by rw [k6]; decide) (by rw [k6]; rfl) (by decide) ?_
            refine lv_aload_n hx hb dX7_actByDraw_96 rfl (lv_at hl 1 rfl) ?_
            refine va_get (D := (dC, dI)) (ci := 7) (v := .ref (g0 4)) (C := RX7) (T := TX7) (N := 11) hx hb hts hiX7 hown hKK.1 hP 0 rfl rfl 4 (by decide) (hts (.fieldLink RX7 33 "SlideLand" "trial" "LSlideLand$Stand;") (List.mem_of_getElem? (i := 3) rfl)) (fun _ h9 => h9) rfl dX7_actByDraw_97 ?_
            refine lv_iload_n hx hb dX7_actByDraw_100 rfl (lv_at hl 0 rfl) ?_
            refine lv_bipush (v := (10 : Int32)) hx hb dX7_actByDraw_101 (by decide) ?_
            refine lv_irem hx hb dX7_actByDraw_103 (by decide) ?_
            obtain ⟨x8, hx8, h⟩ := bnd_e h
            rw [hx8]
            refine va_put (D := (dC, dI)) (ci := 5) (v := .int x8) (ty := .int) (C := RX5) (T := TX5) (N := 7) hx hb hts hiX5 tyX5 tyX5_ok nmX5 hown hKK.1 hP hD hS 11 rfl rfl 2 (by decide) (hts (.fieldLink RX7 177 "SlideLand$Stand" "chalk" "I") (List.mem_of_getElem? (i := 4) rfl)) (fun _ h9 => h9) rfl (by decide +kernel) rfl rfl (Nat.le_of_ble_eq_true rfl) dX7_actByDraw_104 (fun H locs hP hD hS => ?_)
            have hP : va_P (dC, dI) vwCl ([cX7 a0 g0 o0, cX7_10 cI g0 o0, cX6 (g0 1) g1 o1, cX6_0 cI g1 o1, cX6_1 cI g1 o1, cX6_2 cI g1 o1, cX6_3 cI g1 o1, cX6_4 cI g1 o1, cX6_5 cI g1 o1, cX6_6 cI g1 o1, cX6_7 cI g1 o1, cX5 (g0 4) g2 (stF o2 2 x8), cX5_5 cI g2 (stF o2 2 x8), cX5_6 cI g2 (stF o2 2 x8)]) H := hP
            have hD : va_D A ([cX7 a0 g0 o0, cX7_10 cI g0 o0, cX6 (g0 1) g1 o1, cX6_0 cI g1 o1, cX6_1 cI g1 o1, cX6_2 cI g1 o1, cX6_3 cI g1 o1, cX6_4 cI g1 o1, cX6_5 cI g1 o1, cX6_6 cI g1 o1, cX6_7 cI g1 o1, cX5 (g0 4) g2 (stF o2 2 x8), cX5_5 cI g2 (stF o2 2 x8), cX5_6 cI g2 (stF o2 2 x8)]) := hD
            refine lv_goto (tgt := 165) hx hb dX7_actByDraw_107 (by decide) ?_
            have h := Option.some.inj h
            subst h
            subst hQ
            exact W.vret hx hb hr (fun t ht hW => ⟨⟨rfl, by rw [ht]; exact hP, hD⟩, hS.F ht⟩) hS.2.2 dX7_actByDraw_165
          · have h := ite_f k6 h
            by_cases k7 : (v1 - v1 / (8 : Int32) * (8 : Int32)) = (5 : Int32)
            · have h := ite_t k7 h
              refine lv_tableIn (off := 101) (tgt := 110) hx hb dX7_actByDraw_9 (by rw [k7]; decide) (by rw [k7]; decide) (by rw [k7]; rfl) (by decide) ?_
              refine lv_aload_n hx hb dX7_actByDraw_110 rfl (lv_at hl 1 rfl) ?_
              refine va_get (D := (dC, dI)) (ci := 7) (v := .ref (g0 4)) (C := RX7) (T := TX7) (N := 11) hx hb hts hiX7 hown hKK.1 hP 0 rfl rfl 4 (by decide) (hts (.fieldLink RX7 33 "SlideLand" "trial" "LSlideLand$Stand;") (List.mem_of_getElem? (i := 3) rfl)) (fun _ h9 => h9) rfl dX7_actByDraw_111 ?_
              refine lv_dup hx hb dX7_actByDraw_114 rfl ?_
              refine va_get (D := (dC, dI)) (ci := 5) (v := .int (o2.1 4)) (C := RX5) (T := TX5) (N := 7) hx hb hts hiX5 hown hKK.1 hP 11 rfl rfl 4 (by decide) (hts (.fieldLink RX7 131 "SlideLand$Stand" "wed" "I") (List.mem_of_getElem? (i := 5) rfl)) (fun _ h9 => h9) rfl dX7_actByDraw_115 ?_
              refine lv_aload_n hx hb dX7_actByDraw_118 rfl (lv_at hl 1 rfl) ?_
              refine va_get (D := (dC, dI)) (ci := 7) (v := .ref (g0 4)) (C := RX7) (T := TX7) (N := 11) hx hb hts hiX7 hown hKK.1 hP 0 rfl rfl 4 (by decide) (hts (.fieldLink RX7 33 "SlideLand" "trial" "LSlideLand$Stand;") (List.mem_of_getElem? (i := 3) rfl)) (fun _ h9 => h9) rfl dX7_actByDraw_119 ?_
              refine lv_aload_n hx hb dX7_actByDraw_122 rfl (lv_at hl 1 rfl) ?_
              refine va_get (D := (dC, dI)) (ci := 7) (v := .ref (g0 1)) (C := RX7) (T := TX7) (N := 11) hx hb hts hiX7 hown hKK.1 hP 0 rfl rfl 1 (by decide) (hts (.fieldLink RX7 19 "SlideLand" "told" "LSlideLand$Told;") (List.mem_of_getElem? (i := 1) rfl)) (fun _ h9 => h9) rfl dX7_actByDraw_123 ?_
              refine lv_iload_n hx hb dX7_actByDraw_126 rfl (lv_at hl 0 rfl) ?_
              refine lv_bipush (v := (61 : Int32)) hx hb dX7_actByDraw_127 (by decide) ?_
              refine lv_irem hx hb dX7_actByDraw_129 (by decide) ?_
              obtain ⟨q8, hq8, h⟩ := obd_e h
              refine kcV (rest := [.int (o2.1 4), .ref (g0 4)]) (w2 := ([cX7 a0 g0 o0, cX7_10 cI g0 o0, cX6 (g0 1) g1 o1, cX6_0 cI g1 o1, cX6_1 cI g1 o1, cX6_2 cI g1 o1, cX6_3 cI g1 o1, cX6_4 cI g1 o1, cX6_5 cI g1 o1, cX6_6 cI g1 o1, cX6_7 cI g1 o1, cX5 (g0 4) g2 o2, cX5_5 cI g2 o2, cX5_6 cI g2 o2])) hx hb hml hown hts hKK hP hD hS hA (c_X5_coupleAt l dC dI cB cI cZ cO (g0 4) g2 o2 (g0 1) g1 o1 (x1 - x1 / (61 : Int32) * (61 : Int32)) hq8) [11, 12, 13, 2, 3, 4, 5, 6, 7, 8, 9, 10] (atAll_map ⟨rfl, rfl, rfl, rfl, rfl, rfl, rfl, rfl, rfl, rfl, rfl, rfl, trivial⟩) (by decide +kernel) (sameAd_map ⟨rfl, rfl, rfl, rfl, rfl, rfl, rfl, rfl, rfl, rfl, rfl, rfl, trivial⟩) (atAll_map ⟨rfl, rfl, rfl, rfl, rfl, rfl, rfl, rfl, rfl, rfl, rfl, rfl, trivial⟩) (agr_refl _ _ _) (cwV 2 hts gX7_actByDraw_X5_coupleAt rfl rfl rfl ⟨rfl, dsc_X5_coupleAt⟩ ⟨Nat.le_of_ble_eq_true rfl, Nat.le_of_ble_eq_true rfl⟩) (va_recv hKK.1 hP (ci := 5) (q0 := 11) rfl rfl) rfl hl.1 rfl (Nat.le_of_ble_eq_true rfl) dX7_actByDraw_130 ⟨Nat.zero_le _, Nat.zero_le _⟩ (fun H locs hP hD hS => ?_)
              refine lv_ior hx hb dX7_actByDraw_133 ?_
              obtain ⟨x9, hx9, h⟩ := bnd_e h
              rw [hx9]
              refine va_put (D := (dC, dI)) (ci := 5) (v := .int x9) (ty := .int) (C := RX5) (T := TX5) (N := 7) hx hb hts hiX5 tyX5 tyX5_ok nmX5 hown hKK.1 hP hD hS 11 rfl rfl 4 (by decide) (hts (.fieldLink RX7 131 "SlideLand$Stand" "wed" "I") (List.mem_of_getElem? (i := 5) rfl)) (fun _ h9 => h9) rfl (by decide +kernel) rfl rfl (Nat.le_of_ble_eq_true rfl) dX7_actByDraw_134 (fun H locs hP hD hS => ?_)
              have hP : va_P (dC, dI) vwCl ([cX7 a0 g0 o0, cX7_10 cI g0 o0, cX6 (g0 1) g1 o1, cX6_0 cI g1 o1, cX6_1 cI g1 o1, cX6_2 cI g1 o1, cX6_3 cI g1 o1, cX6_4 cI g1 o1, cX6_5 cI g1 o1, cX6_6 cI g1 o1, cX6_7 cI g1 o1, cX5 (g0 4) g2 (stF o2 4 x9), cX5_5 cI g2 (stF o2 4 x9), cX5_6 cI g2 (stF o2 4 x9)]) H := hP
              have hD : va_D A ([cX7 a0 g0 o0, cX7_10 cI g0 o0, cX6 (g0 1) g1 o1, cX6_0 cI g1 o1, cX6_1 cI g1 o1, cX6_2 cI g1 o1, cX6_3 cI g1 o1, cX6_4 cI g1 o1, cX6_5 cI g1 o1, cX6_6 cI g1 o1, cX6_7 cI g1 o1, cX5 (g0 4) g2 (stF o2 4 x9), cX5_5 cI g2 (stF o2 4 x9), cX5_6 cI g2 (stF o2 4 x9)]) := hD
              refine lv_goto (tgt := 165) hx hb dX7_actByDraw_137 (by decide) ?_
              have h := Option.some.inj h
              subst h
              subst hQ
              exact W.vret hx hb hr (fun t ht hW => ⟨⟨rfl, by rw [ht]; exact hP, hD⟩, hS.F ht⟩) hS.2.2 dX7_actByDraw_165
            · have h := ite_f k7 h
              refine lv_tableOut (tgt := 140) hx hb dX7_actByDraw_9 (sw_out [0, 1, 2, 3, 4, 5] (by decide) (List.forall_mem_cons.mpr ⟨sw_ne k2 (by decide), (List.forall_mem_cons.mpr ⟨sw_ne k3 (by decide), (List.forall_mem_cons.mpr ⟨sw_ne k4 (by decide), (List.forall_mem_cons.mpr ⟨sw_ne k5 (by decide), (List.forall_mem_cons.mpr ⟨sw_ne k6 (by decide), (List.forall_mem_cons.mpr ⟨sw_ne k7 (by decide), (fun _ h => absurd h List.not_mem_nil)⟩)⟩)⟩)⟩)⟩)⟩)) (by decide) ?_
              refine lv_aload_n hx hb dX7_actByDraw_140 rfl (lv_at hl 1 rfl) ?_
              refine va_get (D := (dC, dI)) (ci := 7) (v := .ref (g0 4)) (C := RX7) (T := TX7) (N := 11) hx hb hts hiX7 hown hKK.1 hP 0 rfl rfl 4 (by decide) (hts (.fieldLink RX7 33 "SlideLand" "trial" "LSlideLand$Stand;") (List.mem_of_getElem? (i := 3) rfl)) (fun _ h9 => h9) rfl dX7_actByDraw_141 ?_
              refine va_get (D := (dC, dI)) (ci := 5) (v := .int (o2.1 3)) (C := RX5) (T := TX5) (N := 7) hx hb hts hiX5 hown hKK.1 hP 11 rfl rfl 3 (by decide) (hts (.fieldLink RX7 153 "SlideLand$Stand" "year" "I") (List.mem_of_getElem? (i := 6) rfl)) (fun _ h9 => h9) rfl dX7_actByDraw_144 ?_
              refine lv_sipush (v := (999 : Int32)) hx hb dX7_actByDraw_147 (by decide) ?_
              refine lv_icmp_ge (tgt := 165) hx hb dX7_actByDraw_150 (by decide) (fun k10 => ?_) (fun k10 => ?_)
              · have h := ite_t k10 h
                have h := Option.some.inj h
                subst h
                subst hQ
                exact W.vret hx hb hr (fun t ht hW => ⟨⟨rfl, by rw [ht]; exact hP, hD⟩, hS.F ht⟩) hS.2.2 dX7_actByDraw_165
              · have h := ite_f k10 h
                refine lv_aload_n hx hb dX7_actByDraw_153 rfl (lv_at hl 1 rfl) ?_
                refine va_get (D := (dC, dI)) (ci := 7) (v := .ref (g0 4)) (C := RX7) (T := TX7) (N := 11) hx hb hts hiX7 hown hKK.1 hP 0 rfl rfl 4 (by decide) (hts (.fieldLink RX7 33 "SlideLand" "trial" "LSlideLand$Stand;") (List.mem_of_getElem? (i := 3) rfl)) (fun _ h9 => h9) rfl dX7_actByDraw_154 ?_
                refine lv_aload_n hx hb dX7_actByDraw_157 rfl (lv_at hl 1 rfl) ?_
                refine va_get (D := (dC, dI)) (ci := 7) (v := .ref (g0 1)) (C := RX7) (T := TX7) (N := 11) hx hb hts hiX7 hown hKK.1 hP 0 rfl rfl 1 (by decide) (hts (.fieldLink RX7 19 "SlideLand" "told" "LSlideLand$Told;") (List.mem_of_getElem? (i := 1) rfl)) (fun _ h9 => h9) rfl dX7_actByDraw_158 ?_
                refine lv_iconst (v := (1 : Int32)) hx hb dX7_actByDraw_161 (by decide) ?_
                obtain ⟨q11, hq11, h⟩ := obd_e h
                refine kcV (rest := []) (w2 := ([cX7 a0 g0 o0, cX7_10 cI g0 o0, cX6 (g0 1) g1 o1, cX6_0 cI g1 o1, cX6_1 cI g1 o1, cX6_2 cI g1 o1, cX6_3 cI g1 o1, cX6_4 cI g1 o1, cX6_5 cI g1 o1, cX6_6 cI g1 o1, cX6_7 cI g1 o1, cX5 (g0 4) g2 q11, cX5_5 cI g2 q11, cX5_6 cI g2 q11])) hx hb hml hown hts hKK hP hD hS hA (c_X5_trade l dC dI cB cI cZ cO (g0 4) g2 o2 (g0 1) g1 o1 (1 : Int32) hq11) [11, 12, 13, 2, 3, 4, 5, 6, 7, 8, 9, 10] (atAll_map ⟨rfl, rfl, rfl, rfl, rfl, rfl, rfl, rfl, rfl, rfl, rfl, rfl, trivial⟩) (by decide +kernel) (sameAd_map ⟨rfl, rfl, rfl, rfl, rfl, rfl, rfl, rfl, rfl, rfl, rfl, rfl, trivial⟩) (atAll_map ⟨rfl, rfl, rfl, rfl, rfl, rfl, rfl, rfl, rfl, rfl, rfl, rfl, trivial⟩) ⟨Or.inl rfl, Or.inl rfl, Or.inl rfl, Or.inl rfl, Or.inl rfl, Or.inl rfl, Or.inl rfl, Or.inl rfl, Or.inl rfl, Or.inl rfl, Or.inl rfl, Or.inr (by decide), Or.inr (by decide), Or.inr (by decide), trivial⟩ (cwV 2 hts gX7_actByDraw_X5_trade rfl rfl rfl ⟨rfl, dsc_X5_trade⟩ ⟨Nat.le_of_ble_eq_true rfl, Nat.le_of_ble_eq_true rfl⟩) (va_recv hKK.1 hP (ci := 5) (q0 := 11) rfl rfl) rfl hl.1 rfl (Nat.le_of_ble_eq_true rfl) dX7_actByDraw_162 ⟨Nat.zero_le _, Nat.zero_le _⟩ (fun H locs hP hD hS => ?_)
                have h := Option.some.inj h
                subst h
                subst hQ
                exact W.vret hx hb hr (fun t ht hW => ⟨⟨rfl, by rw [ht]; exact hP, hD⟩, hS.F ht⟩) hS.2.2 dX7_actByDraw_165
def f_X7_century_46 (o0 : Ob) (o1 : Ob) (v1 : Int32) (v2 : Int32) (v3 : Int32) : Nat → Int32 → Ob → Option (Int32 × Ob)
  | 0, _, _ => none
  | nn46+1, x46_4, o46_3 => if v2 ≤ x46_4 then (if v3 = 0 then ((f_X5_allGoods o46_3 o1).bind fun q11 : Int32 => some (q11, o46_3)) else (bnd (f_J6_bitCount_0f7a4 (o46_3.1 4)) fun q10 : Int32 => some (q10, o46_3))) else (bnd (f_X7_drawOf v1 x46_4) fun q12 : Int32 => (f_X7_actByDraw o0 o1 o46_3 q12).bind fun q13 : Ob => bnd (x46_4 + (1 : Int32)) fun x14 : Int32 => (f_X7_century_46 o0 o1 v1 v2 v3 nn46) x14 q13)
def f_X7_century (o0 : Ob) (o1 : Ob) (o2 : Ob) (o3 : Ob) (v1 : Int32) (v2 : Int32) (v3 : Int32) : Option (Int32 × Ob) := bnd (f_X7_within v1 (0 : Int32) (9999 : Int32)) fun q1 : Bool => if (b2i q1) = 0 then (some ((-1 : Int32), o3)) else (bnd (f_X7_within v2 (1 : Int32) (60 : Int32)) fun q3 : Bool => if (b2i q3) = 0 then (some ((-1 : Int32), o3)) else (bnd (f_X7_within v3 (0 : Int32) (1 : Int32)) fun q5 : Bool => if (b2i q5) = 0 then (some ((-1 : Int32), o3)) else ((f_X5_copy o3 o2).bind fun q7 : Ob => f_X7_century_46 o0 o1 v1 v2 v3 FU (0 : Int32) q7)))
abbrev rmX7_century : Room := { frames := 6, cells := 0, slots := 0, locals := 139 }
theorem dsc_X7_century : yX7_century.cls ≠ "java/lang/invoke/MethodHandle" ∧ yX7_century.cls ≠ "java/lang/invoke/VarHandle" ∧ (parseMethodDescriptor yX7_century.desc).map (fun d => d.parameters.length) = some 3 := by decide +kernel
set_option maxHeartbeats 4000000 in
set_option maxRecDepth 100000 in
theorem c_X7_century (l : Launch) (dC : Nat → ClassId) (dI : Nat → Nat → Nat) (cB cI cZ cO : ClassId) (a0 : Nat) (g0 : Nat → Nat) (o0 : Ob) (g1 : Nat → Nat) (o1 : Ob) (g2 : Nat → Nat) (o2 : Ob) (g3 : Nat → Nat) (o3 : Ob) (v1 : Int32) (v2 : Int32) (v3 : Int32) {r : Int32 × Ob} (h : f_X7_century o0 o1 o2 o3 v1 v2 v3 = some r) : Ct dC dI cB cI cZ cO l yX7_century wsX7_century rmX7_century [.ref a0, .int v1, .int v2, .int v3] ([cX7 a0 g0 o0, cX7_10 cI g0 o0, cX6 (g0 1) g1 o1, cX6_0 cI g1 o1, cX6_1 cI g1 o1, cX6_2 cI g1 o1, cX6_3 cI g1 o1, cX6_4 cI g1 o1, cX6_5 cI g1 o1, cX6_6 cI g1 o1, cX6_7 cI g1 o1, cX5 (g0 3) g2 o2, cX5_5 cI g2 o2, cX5_6 cI g2 o2, cX5 (g0 4) g3 o3, cX5_5 cI g3 o3, cX5_6 cI g3 o3]) (some (.int r.1)) ([cX7 a0 g0 o0, cX7_10 cI g0 o0, cX6 (g0 1) g1 o1, cX6_0 cI g1 o1, cX6_1 cI g1 o1, cX6_2 cI g1 o1, cX6_3 cI g1 o1, cX6_4 cI g1 o1, cX6_5 cI g1 o1, cX6_6 cI g1 o1, cX6_7 cI g1 o1, cX5 (g0 3) g2 o2, cX5_5 cI g2 o2, cX5_6 cI g2 o2, cX5 (g0 4) g3 r.2, cX5_5 cI g3 r.2, cX5_6 cI g3 r.2]) := by
  intro sz
  refine Met.ofW (cc := cX7_century) (maxL := 5) (ret := (some .int)) (by decide) rfl ?_
  intro p e s m args below meth c s₁ B hml hv
  obtain ⟨rfl, hsz, hP, hKK, hD0⟩ := hv
  have hx := B.exec
  have hb := B.bytes
  have hr := B.returns
  have hts := atoms_spec (ws := wsX7_century) B.pre
  have hown : s.vm.findClass RX7 = some m.cls := findClass_of_methodNamed B.named
  have hlocks := B.notSynchronized
  have hiX7 : ∀ w ∈ u_ws RX7 TX7 11, w ∈ wsX7_century := fun w h => List.mem_cons_of_mem _ (List.mem_append_left _ (List.mem_append_left _ (List.mem_append_right _ h)))
  have hiX5 : ∀ w ∈ u_ws RX5 TX5 7, w ∈ wsX7_century := fun w h => List.mem_cons_of_mem _ (List.mem_append_left _ (List.mem_append_right _ h))
  subst hsz
  have hD := hD0.self (sz := s.heap.size)
  generalize hAe : va_A ([cX7 a0 g0 o0, cX7_10 cI g0 o0, cX6 (g0 1) g1 o1, cX6_0 cI g1 o1, cX6_1 cI g1 o1, cX6_2 cI g1 o1, cX6_3 cI g1 o1, cX6_4 cI g1 o1, cX6_5 cI g1 o1, cX6_6 cI g1 o1, cX6_7 cI g1 o1, cX5 (g0 3) g2 o2, cX5_5 cI g2 o2, cX5_6 cI g2 o2, cX5 (g0 4) g3 o3, cX5_5 cI g3 o3, cX5_6 cI g3 o3]) s.heap.size = A at hD ⊢
  have hA : ∀ q : Nat, s.heap.size ≤ q → A q := fun q h => by rw [← hAe]; exact Or.inr h
  have hS : va_S A s.heap s.heap [] := va_S.rf
  have hP : va_P (dC, dI) vwCl ([cX7 a0 g0 o0, cX7_10 cI g0 o0, cX6 (g0 1) g1 o1, cX6_0 cI g1 o1, cX6_1 cI g1 o1, cX6_2 cI g1 o1, cX6_3 cI g1 o1, cX6_4 cI g1 o1, cX6_5 cI g1 o1, cX6_6 cI g1 o1, cX6_7 cI g1 o1, cX5 (g0 3) g2 o2, cX5_5 cI g2 o2, cX5_6 cI g2 o2, cX5 (g0 4) g3 o3, cX5_5 cI g3 o3, cX5_6 cI g3 o3]) s.heap := hP
  have hD : va_D A ([cX7 a0 g0 o0, cX7_10 cI g0 o0, cX6 (g0 1) g1 o1, cX6_0 cI g1 o1, cX6_1 cI g1 o1, cX6_2 cI g1 o1, cX6_3 cI g1 o1, cX6_4 cI g1 o1, cX6_5 cI g1 o1, cX6_6 cI g1 o1, cX6_7 cI g1 o1, cX5 (g0 3) g2 o2, cX5_5 cI g2 o2, cX5_6 cI g2 o2, cX5 (g0 4) g3 o3, cX5_5 cI g3 o3, cX5_6 cI g3 o3]) := hD
  have hl := lv_entry ([.ref a0, .int v1, .int v2, .int v3]) (n := 5) (Nat.le_of_ble_eq_true rfl)
  rw [lg_entry_eq]
  generalize (lg_sl ([.ref a0, .int v1, .int v2, .int v3]) ++ List.replicate (5 - (lg_sl ([.ref a0, .int v1, .int v2, .int v3])).length) Slot.unset).toArray = ls at hl ⊢
  have hl : lv_has ls 5 [(0, .ref a0), (1, .int v1), (2, .int v2), (3, .int v3)] := hl
  obtain ⟨Q, hQ⟩ : ∃ Q, Q = MQ below (Qq dC dI (some (.int r.1)) ([cX7 a0 g0 o0, cX7_10 cI g0 o0, cX6 (g0 1) g1 o1, cX6_0 cI g1 o1, cX6_1 cI g1 o1, cX6_2 cI g1 o1, cX6_3 cI g1 o1, cX6_4 cI g1 o1, cX6_5 cI g1 o1, cX6_6 cI g1 o1, cX6_7 cI g1 o1, cX5 (g0 3) g2 o2, cX5_5 cI g2 o2, cX5_6 cI g2 o2, cX5 (g0 4) g3 r.2, cX5_5 cI g3 r.2, cX5_6 cI g3 r.2]) A) ([.ref a0, .int v1, .int v2, .int v3] : List Value).toArray s 0 0 A := ⟨_, rfl⟩
  rw [← hQ]
  rw [f_X7_century] at h
  clear hAe hD0
  refine lv_iload_n hx hb dX7_century_0 rfl (lv_at hl 1 rfl) ?_
  refine lv_iconst (v := (0 : Int32)) hx hb dX7_century_1 (by decide) ?_
  refine lv_sipush (v := (9999 : Int32)) hx hb dX7_century_2 (by decide) ?_
  obtain ⟨q1, hq1, h⟩ := bnd_e h
  refine kcS (rest := []) (w2 := ([cX7 a0 g0 o0, cX7_10 cI g0 o0, cX6 (g0 1) g1 o1, cX6_0 cI g1 o1, cX6_1 cI g1 o1, cX6_2 cI g1 o1, cX6_3 cI g1 o1, cX6_4 cI g1 o1, cX6_5 cI g1 o1, cX6_6 cI g1 o1, cX6_7 cI g1 o1, cX5 (g0 3) g2 o2, cX5_5 cI g2 o2, cX5_6 cI g2 o2, cX5 (g0 4) g3 o3, cX5_5 cI g3 o3, cX5_6 cI g3 o3])) hx hb hml hown hts hKK hP hD hS hA (c_X7_within l dC dI cB cI cZ cO v1 (0 : Int32) (9999 : Int32) hq1) [] (atAll_map trivial) (by decide +kernel) (sameAd_map trivial) (atAll_map trivial) (agr_refl _ _ _) (va_cwS 3 hts gX7_century_X7_within rfl rfl rfl dsc_X7_within ⟨Nat.le_of_ble_eq_true rfl, Nat.le_of_ble_eq_true rfl⟩) rfl hl.1 rfl (Nat.le_of_ble_eq_true rfl) dX7_century_5 ⟨Nat.zero_le _, Nat.zero_le _⟩ (fun H locs hP hD hS => ?_)
  refine lv_if_eq (tgt := 30) hx hb dX7_century_8 (by decide) (fun k2 => ?_) (fun k2 => ?_)
  · have h := ite_t k2 h
    refine lv_iconst (v := (-1 : Int32)) hx hb dX7_century_30 (by decide) ?_
    have h := Option.some.inj h
    subst h
    subst hQ
    exact W.iret (v := (-1 : Int32)) hx hb hr (fun t ht hW => ⟨⟨rfl, by rw [ht]; exact hP, hD⟩, hS.F ht⟩) hS.2.2 dX7_century_31
  · have h := ite_f k2 h
    refine lv_iload_n hx hb dX7_century_11 rfl (lv_at hl 2 rfl) ?_
    refine lv_iconst (v := (1 : Int32)) hx hb dX7_century_12 (by decide) ?_
    refine lv_bipush (v := (60 : Int32)) hx hb dX7_century_13 (by decide) ?_
    obtain ⟨q3, hq3, h⟩ := bnd_e h
    refine kcS (rest := []) (w2 := ([cX7 a0 g0 o0, cX7_10 cI g0 o0, cX6 (g0 1) g1 o1, cX6_0 cI g1 o1, cX6_1 cI g1 o1, cX6_2 cI g1 o1, cX6_3 cI g1 o1, cX6_4 cI g1 o1, cX6_5 cI g1 o1, cX6_6 cI g1 o1, cX6_7 cI g1 o1, cX5 (g0 3) g2 o2, cX5_5 cI g2 o2, cX5_6 cI g2 o2, cX5 (g0 4) g3 o3, cX5_5 cI g3 o3, cX5_6 cI g3 o3])) hx hb hml hown hts hKK hP hD hS hA (c_X7_within l dC dI cB cI cZ cO v2 (1 : Int32) (60 : Int32) hq3) [] (atAll_map trivial) (by decide +kernel) (sameAd_map trivial) (atAll_map trivial) (agr_refl _ _ _) (va_cwS 3 hts gX7_century_X7_within rfl rfl rfl dsc_X7_within ⟨Nat.le_of_ble_eq_true rfl, Nat.le_of_ble_eq_true rfl⟩) rfl hl.1 rfl (Nat.le_of_ble_eq_true rfl) dX7_century_15 ⟨Nat.zero_le _, Nat.zero_le _⟩ (fun H locs hP hD hS => ?_)
    refine lv_if_eq (tgt := 30) hx hb dX7_century_18 (by decide) (fun k4 => ?_) (fun k4 => ?_)
    · have h := ite_t k4 h
      refine lv_iconst (v := (-1 : Int32)) hx hb dX7_century_30 (by decide) ?_
      have h := Option.some.inj h
      subst h
      subst hQ
      exact W.iret (v := (-1 : Int32)) hx hb hr (fun t ht hW => ⟨⟨rfl, by rw [ht]; exact hP, hD⟩, hS.F ht⟩) hS.2.2 dX7_century_31
    · have h := ite_f k4 h
      refine lv_iload_n hx hb dX7_century_21 rfl (lv_at hl 3 rfl) ?_
      refine lv_iconst (v := (0 : Int32)) hx hb dX7_century_22 (by decide) ?_
      refine lv_iconst (v := (1 : Int32)) hx hb dX7_century_23 (by decide) ?_
      obtain ⟨q5, hq5, h⟩ := bnd_e h
      refine kcS (rest := []) (w2 := ([cX7 a0 g0 o0, cX7_10 cI g0 o0, cX6 (g0 1) g1 o1, cX6_0 cI g1 o1, cX6_1 cI g1 o1, cX6_2 cI g1 o1, cX6_3 cI g1 o1, cX6_4 cI g1 o1, cX6_5 cI g1 o1, cX6_6 cI g1 o1, cX6_7 cI g1 o1, cX5 (g0 3) g2 o2, cX5_5 cI g2 o2, cX5_6 cI g2 o2, cX5 (g0 4) g3 o3, cX5_5 cI g3 o3, cX5_6 cI g3 o3])) hx hb hml hown hts hKK hP hD hS hA (c_X7_within l dC dI cB cI cZ cO v3 (0 : Int32) (1 : Int32) hq5) [] (atAll_map trivial) (by decide +kernel) (sameAd_map trivial) (atAll_map trivial) (agr_refl _ _ _) (va_cwS 3 hts gX7_century_X7_within rfl rfl rfl dsc_X7_within ⟨Nat.le_of_ble_eq_true rfl, Nat.le_of_ble_eq_true rfl⟩) rfl hl.1 rfl (Nat.le_of_ble_eq_true rfl) dX7_century_24 ⟨Nat.zero_le _, Nat.zero_le _⟩ (fun H locs hP hD hS => ?_)
      refine lv_if_ne (tgt := 32) hx hb dX7_century_27 (by decide) (fun k6 => ?_) (fun k6 => ?_)
      · have h := ite_f k6 h
        refine lv_aload_n hx hb dX7_century_32 rfl (lv_at hl 0 rfl) ?_
        refine va_get (D := (dC, dI)) (ci := 7) (v := .ref (g0 4)) (C := RX7) (T := TX7) (N := 11) hx hb hts hiX7 hown hKK.1 hP 0 rfl rfl 4 (by decide) (hts (.fieldLink RX7 33 "SlideLand" "trial" "LSlideLand$Stand;") (List.mem_of_getElem? (i := 1) rfl)) (fun _ h9 => h9) rfl dX7_century_33 ?_
        refine lv_aload_n hx hb dX7_century_36 rfl (lv_at hl 0 rfl) ?_
        refine va_get (D := (dC, dI)) (ci := 7) (v := .ref (g0 3)) (C := RX7) (T := TX7) (N := 11) hx hb hts hiX7 hown hKK.1 hP 0 rfl rfl 3 (by decide) (hts (.fieldLink RX7 29 "SlideLand" "now" "LSlideLand$Stand;") (List.mem_of_getElem? (i := 2) rfl)) (fun _ h9 => h9) rfl dX7_century_37 ?_
        obtain ⟨q7, hq7, h⟩ := obd_e h
        refine kcV (rest := []) (w2 := ([cX7 a0 g0 o0, cX7_10 cI g0 o0, cX6 (g0 1) g1 o1, cX6_0 cI g1 o1, cX6_1 cI g1 o1, cX6_2 cI g1 o1, cX6_3 cI g1 o1, cX6_4 cI g1 o1, cX6_5 cI g1 o1, cX6_6 cI g1 o1, cX6_7 cI g1 o1, cX5 (g0 3) g2 o2, cX5_5 cI g2 o2, cX5_6 cI g2 o2, cX5 (g0 4) g3 q7, cX5_5 cI g3 q7, cX5_6 cI g3 q7])) hx hb hml hown hts hKK hP hD hS hA (c_X5_copy l dC dI cB cI cZ cO (g0 4) g3 o3 (g0 3) g2 o2 hq7) [14, 15, 16, 11, 12, 13] (atAll_map ⟨rfl, rfl, rfl, rfl, rfl, rfl, trivial⟩) (by decide +kernel) (sameAd_map ⟨rfl, rfl, rfl, rfl, rfl, rfl, trivial⟩) (atAll_map ⟨rfl, rfl, rfl, rfl, rfl, rfl, trivial⟩) ⟨Or.inl rfl, Or.inl rfl, Or.inl rfl, Or.inl rfl, Or.inl rfl, Or.inl rfl, Or.inl rfl, Or.inl rfl, Or.inl rfl, Or.inl rfl, Or.inl rfl, Or.inl rfl, Or.inl rfl, Or.inl rfl, Or.inr (by decide), Or.inr (by decide), Or.inr (by decide), trivial⟩ (cwV 1 hts gX7_century_X5_copy rfl rfl rfl ⟨rfl, dsc_X5_copy⟩ ⟨Nat.le_of_ble_eq_true rfl, Nat.le_of_ble_eq_true rfl⟩) (va_recv hKK.1 hP (ci := 5) (q0 := 14) rfl rfl) rfl hl.1 rfl (Nat.le_of_ble_eq_true rfl) dX7_century_40 ⟨Nat.zero_le _, Nat.zero_le _⟩ (fun H locs hP hD hS => ?_)
        refine lv_iconst (v := (0 : Int32)) hx hb dX7_century_43 (by decide) ?_
        refine lv_istore (lv' := [(4, .int (0 : Int32)), (0, .ref a0), (1, .int v1), (2, .int v2), (3, .int v3)]) hx hb dX7_century_44 hl (by decide) rfl (fun ls hl => ?_)
        have lp46 : ∀ (nn46 : Nat) (x46_4 : Int32) (o46_3 : Ob), f_X7_century_46 o0 o1 v1 v2 v3 nn46 x46_4 o46_3 = some r → ∀ (H : Heap) (locs : List Loc) (ls : Array Slot), va_P (dC, dI) vwCl ([cX7 a0 g0 o0, cX7_10 cI g0 o0, cX6 (g0 1) g1 o1, cX6_0 cI g1 o1, cX6_1 cI g1 o1, cX6_2 cI g1 o1, cX6_3 cI g1 o1, cX6_4 cI g1 o1, cX6_5 cI g1 o1, cX6_6 cI g1 o1, cX6_7 cI g1 o1, cX5 (g0 3) g2 o2, cX5_5 cI g2 o2, cX5_6 cI g2 o2, cX5 (g0 4) g3 o46_3, cX5_5 cI g3 o46_3, cX5_6 cI g3 o46_3]) H → va_D A ([cX7 a0 g0 o0, cX7_10 cI g0 o0, cX6 (g0 1) g1 o1, cX6_0 cI g1 o1, cX6_1 cI g1 o1, cX6_2 cI g1 o1, cX6_3 cI g1 o1, cX6_4 cI g1 o1, cX6_5 cI g1 o1, cX6_6 cI g1 o1, cX6_7 cI g1 o1, cX5 (g0 3) g2 o2, cX5_5 cI g2 o2, cX5_6 cI g2 o2, cX5 (g0 4) g3 o46_3, cX5_5 cI g3 o46_3, cX5_6 cI g3 o46_3]) → va_S A s.heap H locs → lv_has ls 5 [(0, .ref a0), (1, .int v1), (2, .int v2), (3, .int v3), (4, .int x46_4)] → W p l e (headSpec wsX7_century rmX7_century).room s m ([.ref a0, .int v1, .int v2, .int v3] : List Value).toArray below meth c H locs 0 0 Q (F0 m 46 ls []) := by
          intro nn46
          induction nn46 with
          | zero => intro x46_4 o46_3 h; rw [f_X7_century_46] at h; cases h
          | succ nn46 ih46 =>
            intro x46_4 o46_3 h H locs ls hP hD hS hl
            rw [f_X7_century_46] at h
            refine lv_iload hx hb dX7_century_46 (lv_at hl 4 rfl) ?_
            refine lv_iload_n hx hb dX7_century_48 rfl (lv_at hl 2 rfl) ?_
            refine lv_icmp_ge (tgt := 68) hx hb dX7_century_49 (by decide) (fun k8 => ?_) (fun k8 => ?_)
            · have h := ite_t k8 h
              refine lv_iload_n hx hb dX7_century_68 rfl (lv_at hl 3 rfl) ?_
              refine lv_if_ne (tgt := 86) hx hb dX7_century_69 (by decide) (fun k9 => ?_) (fun k9 => ?_)
              · have h := ite_f k9 h
                refine lv_aload_n hx hb dX7_century_86 rfl (lv_at hl 0 rfl) ?_
                refine va_get (D := (dC, dI)) (ci := 7) (v := .ref (g0 4)) (C := RX7) (T := TX7) (N := 11) hx hb hts hiX7 hown hKK.1 hP 0 rfl rfl 4 (by decide) (hts (.fieldLink RX7 33 "SlideLand" "trial" "LSlideLand$Stand;") (List.mem_of_getElem? (i := 1) rfl)) (fun _ h9 => h9) rfl dX7_century_87 ?_
                refine va_get (D := (dC, dI)) (ci := 5) (v := .int (o46_3.1 4)) (C := RX5) (T := TX5) (N := 7) hx hb hts hiX5 hown hKK.1 hP 14 rfl rfl 4 (by decide) (hts (.fieldLink RX7 131 "SlideLand$Stand" "wed" "I") (List.mem_of_getElem? (i := 4) rfl)) (fun _ h9 => h9) rfl dX7_century_90 ?_
                obtain ⟨q10, hq10, h⟩ := bnd_e h
                refine kcS (rest := []) (w2 := ([cX7 a0 g0 o0, cX7_10 cI g0 o0, cX6 (g0 1) g1 o1, cX6_0 cI g1 o1, cX6_1 cI g1 o1, cX6_2 cI g1 o1, cX6_3 cI g1 o1, cX6_4 cI g1 o1, cX6_5 cI g1 o1, cX6_6 cI g1 o1, cX6_7 cI g1 o1, cX5 (g0 3) g2 o2, cX5_5 cI g2 o2, cX5_6 cI g2 o2, cX5 (g0 4) g3 o46_3, cX5_5 cI g3 o46_3, cX5_6 cI g3 o46_3])) hx hb hml hown hts hKK hP hD hS hA (c_J6_bitCount_0f7a4 l dC dI cB cI cZ cO (o46_3.1 4) hq10) [] (atAll_map trivial) (by decide +kernel) (sameAd_map trivial) (atAll_map trivial) (agr_refl _ _ _) (va_cwS 1 hts gX7_century_J6_bitCount_0f7a4 rfl rfl rfl dsc_J6_bitCount_0f7a4 ⟨Nat.le_of_ble_eq_true rfl, Nat.le_of_ble_eq_true rfl⟩) rfl hl.1 rfl (Nat.le_of_ble_eq_true rfl) dX7_century_93 ⟨Nat.zero_le _, Nat.zero_le _⟩ (fun H locs hP hD hS => ?_)
                have h := Option.some.inj h
                subst h
                subst hQ
                exact W.iret (v := q10) hx hb hr (fun t ht hW => ⟨⟨rfl, by rw [ht]; exact hP, hD⟩, hS.F ht⟩) hS.2.2 dX7_century_96
              · have h := ite_t k9 h
                refine lv_aload_n hx hb dX7_century_72 rfl (lv_at hl 0 rfl) ?_
                refine va_get (D := (dC, dI)) (ci := 7) (v := .ref (g0 4)) (C := RX7) (T := TX7) (N := 11) hx hb hts hiX7 hown hKK.1 hP 0 rfl rfl 4 (by decide) (hts (.fieldLink RX7 33 "SlideLand" "trial" "LSlideLand$Stand;") (List.mem_of_getElem? (i := 1) rfl)) (fun _ h9 => h9) rfl dX7_century_73 ?_
                refine lv_aload_n hx hb dX7_century_76 rfl (lv_at hl 0 rfl) ?_
                refine va_get (D := (dC, dI)) (ci := 7) (v := .ref (g0 1)) (C := RX7) (T := TX7) (N := 11) hx hb hts hiX7 hown hKK.1 hP 0 rfl rfl 1 (by decide) (hts (.fieldLink RX7 19 "SlideLand" "told" "LSlideLand$Told;") (List.mem_of_getElem? (i := 3) rfl)) (fun _ h9 => h9) rfl dX7_century_77 ?_
                obtain ⟨q11, hq11, h⟩ := obd_e h
                refine kcV (rest := []) (w2 := ([cX7 a0 g0 o0, cX7_10 cI g0 o0, cX6 (g0 1) g1 o1, cX6_0 cI g1 o1, cX6_1 cI g1 o1, cX6_2 cI g1 o1, cX6_3 cI g1 o1, cX6_4 cI g1 o1, cX6_5 cI g1 o1, cX6_6 cI g1 o1, cX6_7 cI g1 o1, cX5 (g0 3) g2 o2, cX5_5 cI g2 o2, cX5_6 cI g2 o2, cX5 (g0 4) g3 o46_3, cX5_5 cI g3 o46_3, cX5_6 cI g3 o46_3])) hx hb hml hown hts hKK hP hD hS hA (c_X5_allGoods l dC dI cB cI cZ cO (g0 4) g3 o46_3 (g0 1) g1 o1 hq11) [14, 15, 16, 2, 3, 4, 5, 6, 7, 8, 9, 10] (atAll_map ⟨rfl, rfl, rfl, rfl, rfl, rfl, rfl, rfl, rfl, rfl, rfl, rfl, trivial⟩) (by decide +kernel) (sameAd_map ⟨rfl, rfl, rfl, rfl, rfl, rfl, rfl, rfl, rfl, rfl, rfl, rfl, trivial⟩) (atAll_map ⟨rfl, rfl, rfl, rfl, rfl, rfl, rfl, rfl, rfl, rfl, rfl, rfl, trivial⟩) (agr_refl _ _ _) (cwV 1 hts gX7_century_X5_allGoods rfl rfl rfl ⟨rfl, dsc_X5_allGoods⟩ ⟨Nat.le_of_ble_eq_true rfl, Nat.le_of_ble_eq_true rfl⟩) (va_recv hKK.1 hP (ci := 5) (q0 := 14) rfl rfl) rfl hl.1 rfl (Nat.le_of_ble_eq_true rfl) dX7_century_80 ⟨Nat.zero_le _, Nat.zero_le _⟩ (fun H locs hP hD hS => ?_)
                refine lv_goto (tgt := 96) hx hb dX7_century_83 (by decide) ?_
                have h := Option.some.inj h
                subst h
                subst hQ
                exact W.iret (v := q11) hx hb hr (fun t ht hW => ⟨⟨rfl, by rw [ht]; exact hP, hD⟩, hS.F ht⟩) hS.2.2 dX7_century_96
            · have h := ite_f k8 h
              refine lv_aload_n hx hb dX7_century_52 rfl (lv_at hl 0 rfl) ?_
              refine lv_iload_n hx hb dX7_century_53 rfl (lv_at hl 1 rfl) ?_
              refine lv_iload hx hb dX7_century_54 (lv_at hl 4 rfl) ?_
              obtain ⟨q12, hq12, h⟩ := bnd_e h
              refine kcS (rest := [.ref a0]) (w2 := ([cX7 a0 g0 o0, cX7_10 cI g0 o0, cX6 (g0 1) g1 o1, cX6_0 cI g1 o1, cX6_1 cI g1 o1, cX6_2 cI g1 o1, cX6_3 cI g1 o1, cX6_4 cI g1 o1, cX6_5 cI g1 o1, cX6_6 cI g1 o1, cX6_7 cI g1 o1, cX5 (g0 3) g2 o2, cX5_5 cI g2 o2, cX5_6 cI g2 o2, cX5 (g0 4) g3 o46_3, cX5_5 cI g3 o46_3, cX5_6 cI g3 o46_3])) hx hb hml hown hts hKK hP hD hS hA (c_X7_drawOf l dC dI cB cI cZ cO v1 x46_4 hq12) [] (atAll_map trivial) (by decide +kernel) (sameAd_map trivial) (atAll_map trivial) (agr_refl _ _ _) (va_cwS 2 hts gX7_century_X7_drawOf rfl rfl rfl dsc_X7_drawOf ⟨Nat.le_of_ble_eq_true rfl, Nat.le_of_ble_eq_true rfl⟩) rfl hl.1 rfl (Nat.le_of_ble_eq_true rfl) dX7_century_56 ⟨Nat.zero_le _, Nat.zero_le _⟩ (fun H locs hP hD hS => ?_)
              obtain ⟨q13, hq13, h⟩ := obd_e h
              refine kcV (rest := []) (w2 := ([cX7 a0 g0 o0, cX7_10 cI g0 o0, cX6 (g0 1) g1 o1, cX6_0 cI g1 o1, cX6_1 cI g1 o1, cX6_2 cI g1 o1, cX6_3 cI g1 o1, cX6_4 cI g1 o1, cX6_5 cI g1 o1, cX6_6 cI g1 o1, cX6_7 cI g1 o1, cX5 (g0 3) g2 o2, cX5_5 cI g2 o2, cX5_6 cI g2 o2, cX5 (g0 4) g3 q13, cX5_5 cI g3 q13, cX5_6 cI g3 q13])) hx hb hml hown hts hKK hP hD hS hA (c_X7_actByDraw l dC dI cB cI cZ cO a0 g0 o0 g1 o1 g3 o46_3 q12 hq13) [0, 1, 2, 3, 4, 5, 6, 7, 8, 9, 10, 14, 15, 16] (atAll_map ⟨rfl, rfl, rfl, rfl, rfl, rfl, rfl, rfl, rfl, rfl, rfl, rfl, rfl, rfl, trivial⟩) (by decide +kernel) (sameAd_map ⟨rfl, rfl, rfl, rfl, rfl, rfl, rfl, rfl, rfl, rfl, rfl, rfl, rfl, rfl, trivial⟩) (atAll_map ⟨rfl, rfl, rfl, rfl, rfl, rfl, rfl, rfl, rfl, rfl, rfl, rfl, rfl, rfl, trivial⟩) ⟨Or.inl rfl, Or.inl rfl, Or.inl rfl, Or.inl rfl, Or.inl rfl, Or.inl rfl, Or.inl rfl, Or.inl rfl, Or.inl rfl, Or.inl rfl, Or.inl rfl, Or.inl rfl, Or.inl rfl, Or.inl rfl, Or.inr (by decide), Or.inr (by decide), Or.inr (by decide), trivial⟩ (cwV 1 hts gX7_century_X7_actByDraw rfl rfl rfl ⟨rfl, dsc_X7_actByDraw⟩ ⟨Nat.le_of_ble_eq_true rfl, Nat.le_of_ble_eq_true rfl⟩) (va_recv hKK.1 hP (ci := 7) (q0 := 0) rfl rfl) rfl hl.1 rfl (Nat.le_of_ble_eq_true rfl) dX7_century_59 ⟨Nat.zero_le _, Nat.zero_le _⟩ (fun H locs hP hD hS => ?_)
              obtain ⟨x14, hx14, h⟩ := bnd_e h
              refine lv_iinc (v := x14) (lv' := [(4, .int x14), (0, .ref a0), (1, .int v1), (2, .int v2), (3, .int v3)]) hx hb dX7_century_62 hl (k := 4) rfl (by rw [← hx14]; rfl) (by decide) rfl (fun ls hl => ?_)
              refine lv_goto (tgt := 46) hx hb dX7_century_65 (by decide) ?_
              exact ih46 x14 q13 h _ _ _ hP hD hS (lv_sub hl [1, 2, 3, 4, 0] rfl)
        exact lp46 FU (0 : Int32) q7 h _ _ _ hP hD hS (lv_sub hl [1, 2, 3, 4, 0] rfl)
      · have h := ite_t k6 h
        refine lv_iconst (v := (-1 : Int32)) hx hb dX7_century_30 (by decide) ?_
        have h := Option.some.inj h
        subst h
        subst hQ
        exact W.iret (v := (-1 : Int32)) hx hb hr (fun t ht hW => ⟨⟨rfl, by rw [ht]; exact hP, hD⟩, hS.F ht⟩) hS.2.2 dX7_century_31
def f_X7_countNow (o0 : Ob) (o1 : Ob) (o2 : Ob) (v1 : Int32) : Option (Int32) := if v1 = (4 : Int32) then (some (o2.1 3)) else if v1 = (5 : Int32) then (some ((o2.1 0) + (40 : Int32))) else if v1 = (6 : Int32) then (some ((o2.1 1) + (40 : Int32))) else if v1 = (7 : Int32) then (some (o2.1 2)) else if v1 = (8 : Int32) then (bnd (f_J6_bitCount_0f7a4 (o2.1 4)) fun q7 : Int32 => some q7) else if v1 = (9 : Int32) then ((f_X5_allPairs o2 o1).bind fun q7 : Int32 => some q7) else (some (-1 : Int32))
abbrev rmX7_countNow : Room := { frames := 5, cells := 0, slots := 0, locals := 116 }
theorem dsc_X7_countNow : yX7_countNow.cls ≠ "java/lang/invoke/MethodHandle" ∧ yX7_countNow.cls ≠ "java/lang/invoke/VarHandle" ∧ (parseMethodDescriptor yX7_countNow.desc).map (fun d => d.parameters.length) = some 1 := by decide +kernel
set_option maxHeartbeats 4000000 in
set_option maxRecDepth 100000 in
theorem c_X7_countNow (l : Launch) (dC : Nat → ClassId) (dI : Nat → Nat → Nat) (cB cI cZ cO : ClassId) (a0 : Nat) (g0 : Nat → Nat) (o0 : Ob) (g1 : Nat → Nat) (o1 : Ob) (g2 : Nat → Nat) (o2 : Ob) (v1 : Int32) {r : Int32} (h : f_X7_countNow o0 o1 o2 v1 = some r) : Ct dC dI cB cI cZ cO l yX7_countNow wsX7_countNow rmX7_countNow [.ref a0, .int v1] ([cX7 a0 g0 o0, cX7_10 cI g0 o0, cX6 (g0 1) g1 o1, cX6_0 cI g1 o1, cX6_1 cI g1 o1, cX6_2 cI g1 o1, cX6_3 cI g1 o1, cX6_4 cI g1 o1, cX6_5 cI g1 o1, cX6_6 cI g1 o1, cX6_7 cI g1 o1, cX5 (g0 3) g2 o2, cX5_5 cI g2 o2, cX5_6 cI g2 o2]) (some (.int r)) ([cX7 a0 g0 o0, cX7_10 cI g0 o0, cX6 (g0 1) g1 o1, cX6_0 cI g1 o1, cX6_1 cI g1 o1, cX6_2 cI g1 o1, cX6_3 cI g1 o1, cX6_4 cI g1 o1, cX6_5 cI g1 o1, cX6_6 cI g1 o1, cX6_7 cI g1 o1, cX5 (g0 3) g2 o2, cX5_5 cI g2 o2, cX5_6 cI g2 o2]) := by
  intro sz
  refine Met.ofW (cc := cX7_countNow) (maxL := 2) (ret := (some .int)) (by decide) rfl ?_
  intro p e s m args below meth c s₁ B hml hv
  obtain ⟨rfl, hsz, hP, hKK, hD0⟩ := hv
  have hx := B.exec
  have hb := B.bytes
  have hr := B.returns
  have hts := atoms_spec (ws := wsX7_countNow) B.pre
  have hown : s.vm.findClass RX7 = some m.cls := findClass_of_methodNamed B.named
  have hlocks := B.notSynchronized
  have hiX7 : ∀ w ∈ u_ws RX7 TX7 11, w ∈ wsX7_countNow := fun w h => List.mem_cons_of_mem _ (List.mem_append_left _ (List.mem_append_left _ (List.mem_append_right _ h)))
  have hiX5 : ∀ w ∈ u_ws RX5 TX5 7, w ∈ wsX7_countNow := fun w h => List.mem_cons_of_mem _ (List.mem_append_left _ (List.mem_append_right _ h))
  subst hsz
  have hD := hD0.self (sz := s.heap.size)
  generalize hAe : va_A ([cX7 a0 g0 o0, cX7_10 cI g0 o0, cX6 (g0 1) g1 o1, cX6_0 cI g1 o1, cX6_1 cI g1 o1, cX6_2 cI g1 o1, cX6_3 cI g1 o1, cX6_4 cI g1 o1, cX6_5 cI g1 o1, cX6_6 cI g1 o1, cX6_7 cI g1 o1, cX5 (g0 3) g2 o2, cX5_5 cI g2 o2, cX5_6 cI g2 o2]) s.heap.size = A at hD ⊢
  have hA : ∀ q : Nat, s.heap.size ≤ q → A q := fun q h => by rw [← hAe]; exact Or.inr h
  have hS : va_S A s.heap s.heap [] := va_S.rf
  have hP : va_P (dC, dI) vwCl ([cX7 a0 g0 o0, cX7_10 cI g0 o0, cX6 (g0 1) g1 o1, cX6_0 cI g1 o1, cX6_1 cI g1 o1, cX6_2 cI g1 o1, cX6_3 cI g1 o1, cX6_4 cI g1 o1, cX6_5 cI g1 o1, cX6_6 cI g1 o1, cX6_7 cI g1 o1, cX5 (g0 3) g2 o2, cX5_5 cI g2 o2, cX5_6 cI g2 o2]) s.heap := hP
  have hD : va_D A ([cX7 a0 g0 o0, cX7_10 cI g0 o0, cX6 (g0 1) g1 o1, cX6_0 cI g1 o1, cX6_1 cI g1 o1, cX6_2 cI g1 o1, cX6_3 cI g1 o1, cX6_4 cI g1 o1, cX6_5 cI g1 o1, cX6_6 cI g1 o1, cX6_7 cI g1 o1, cX5 (g0 3) g2 o2, cX5_5 cI g2 o2, cX5_6 cI g2 o2]) := hD
  have hl := lv_entry ([.ref a0, .int v1]) (n := 2) (Nat.le_of_ble_eq_true rfl)
  rw [lg_entry_eq]
  generalize (lg_sl ([.ref a0, .int v1]) ++ List.replicate (2 - (lg_sl ([.ref a0, .int v1])).length) Slot.unset).toArray = ls at hl ⊢
  have hl : lv_has ls 2 [(0, .ref a0), (1, .int v1)] := hl
  obtain ⟨Q, hQ⟩ : ∃ Q, Q = MQ below (Qq dC dI (some (.int r)) ([cX7 a0 g0 o0, cX7_10 cI g0 o0, cX6 (g0 1) g1 o1, cX6_0 cI g1 o1, cX6_1 cI g1 o1, cX6_2 cI g1 o1, cX6_3 cI g1 o1, cX6_4 cI g1 o1, cX6_5 cI g1 o1, cX6_6 cI g1 o1, cX6_7 cI g1 o1, cX5 (g0 3) g2 o2, cX5_5 cI g2 o2, cX5_6 cI g2 o2]) A) ([.ref a0, .int v1] : List Value).toArray s 0 0 A := ⟨_, rfl⟩
  rw [← hQ]
  rw [f_X7_countNow] at h
  clear hAe hD0
  refine lv_iload_n hx hb dX7_countNow_0 rfl (lv_at hl 1 rfl) ?_
  by_cases k1 : v1 = (4 : Int32)
  · have h := ite_t k1 h
    refine lv_tableIn (off := 39) (tgt := 40) hx hb dX7_countNow_1 (by rw [k1]; decide) (by rw [k1]; decide) (by rw [k1]; rfl) (by decide) ?_
    refine lv_aload_n hx hb dX7_countNow_40 rfl (lv_at hl 0 rfl) ?_
    refine va_get (D := (dC, dI)) (ci := 7) (v := .ref (g0 3)) (C := RX7) (T := TX7) (N := 11) hx hb hts hiX7 hown hKK.1 hP 0 rfl rfl 3 (by decide) (hts (.fieldLink RX7 29 "SlideLand" "now" "LSlideLand$Stand;") (List.mem_of_getElem? (i := 1) rfl)) (fun _ h9 => h9) rfl dX7_countNow_41 ?_
    refine va_get (D := (dC, dI)) (ci := 5) (v := .int (o2.1 3)) (C := RX5) (T := TX5) (N := 7) hx hb hts hiX5 hown hKK.1 hP 11 rfl rfl 3 (by decide) (hts (.fieldLink RX7 153 "SlideLand$Stand" "year" "I") (List.mem_of_getElem? (i := 2) rfl)) (fun _ h9 => h9) rfl dX7_countNow_44 ?_
    have h := Option.some.inj h
    subst h
    subst hQ
    exact W.iret (v := (o2.1 3)) hx hb hr (fun t ht hW => ⟨⟨rfl, by rw [ht]; exact hP, hD⟩, hS.F ht⟩) hS.2.2 dX7_countNow_47
  · have h := ite_f k1 h
    by_cases k2 : v1 = (5 : Int32)
    · have h := ite_t k2 h
      refine lv_tableIn (off := 47) (tgt := 48) hx hb dX7_countNow_1 (by rw [k2]; decide) (by rw [k2]; decide) (by rw [k2]; rfl) (by decide) ?_
      refine lv_aload_n hx hb dX7_countNow_48 rfl (lv_at hl 0 rfl) ?_
      refine va_get (D := (dC, dI)) (ci := 7) (v := .ref (g0 3)) (C := RX7) (T := TX7) (N := 11) hx hb hts hiX7 hown hKK.1 hP 0 rfl rfl 3 (by decide) (hts (.fieldLink RX7 29 "SlideLand" "now" "LSlideLand$Stand;") (List.mem_of_getElem? (i := 1) rfl)) (fun _ h9 => h9) rfl dX7_countNow_49 ?_
      refine va_get (D := (dC, dI)) (ci := 5) (v := .int (o2.1 0)) (C := RX5) (T := TX5) (N := 7) hx hb hts hiX5 hown hKK.1 hP 11 rfl rfl 0 (by decide) (hts (.fieldLink RX7 174 "SlideLand$Stand" "shift" "I") (List.mem_of_getElem? (i := 3) rfl)) (fun _ h9 => h9) rfl dX7_countNow_52 ?_
      refine lv_bipush (v := (40 : Int32)) hx hb dX7_countNow_55 (by decide) ?_
      refine lv_iadd hx hb dX7_countNow_57 ?_
      have h := Option.some.inj h
      subst h
      subst hQ
      exact W.iret (v := ((o2.1 0) + (40 : Int32))) hx hb hr (fun t ht hW => ⟨⟨rfl, by rw [ht]; exact hP, hD⟩, hS.F ht⟩) hS.2.2 dX7_countNow_58
    · have h := ite_f k2 h
      by_cases k3 : v1 = (6 : Int32)
      · have h := ite_t k3 h
        refine lv_tableIn (off := 58) (tgt := 59) hx hb dX7_countNow_1 (by rw [k3]; decide) (by rw [k3]; decide) (by rw [k3]; rfl) (by decide) ?_
        refine lv_aload_n hx hb dX7_countNow_59 rfl (lv_at hl 0 rfl) ?_
        refine va_get (D := (dC, dI)) (ci := 7) (v := .ref (g0 3)) (C := RX7) (T := TX7) (N := 11) hx hb hts hiX7 hown hKK.1 hP 0 rfl rfl 3 (by decide) (hts (.fieldLink RX7 29 "SlideLand" "now" "LSlideLand$Stand;") (List.mem_of_getElem? (i := 1) rfl)) (fun _ h9 => h9) rfl dX7_countNow_60 ?_
        refine va_get (D := (dC, dI)) (ci := 5) (v := .int (o2.1 1)) (C := RX5) (T := TX5) (N := 7) hx hb hts hiX5 hown hKK.1 hP 11 rfl rfl 1 (by decide) (hts (.fieldLink RX7 280 "SlideLand$Stand" "before" "I") (List.mem_of_getElem? (i := 4) rfl)) (fun _ h9 => h9) rfl dX7_countNow_63 ?_
        refine lv_bipush (v := (40 : Int32)) hx hb dX7_countNow_66 (by decide) ?_
        refine lv_iadd hx hb dX7_countNow_68 ?_
        have h := Option.some.inj h
        subst h
        subst hQ
        exact W.iret (v := ((o2.1 1) + (40 : Int32))) hx hb hr (fun t ht hW => ⟨⟨rfl, by rw [ht]; exact hP, hD⟩, hS.F ht⟩) hS.2.2 dX7_countNow_69
      · have h := ite_f k3 h
        by_cases k4 : v1 = (7 : Int32)
        · have h := ite_t k4 h
          refine lv_tableIn (off := 69) (tgt := 70) hx hb dX7_countNow_1 (by rw [k4]; decide) (by rw [k4]; decide) (by rw [k4]; rfl) (by decide) ?_
          refine lv_aload_n hx hb dX7_countNow_70 rfl (lv_at hl 0 rfl) ?_
          refine va_get (D := (dC, dI)) (ci := 7) (v := .ref (g0 3)) (C := RX7) (T := TX7) (N := 11) hx hb hts hiX7 hown hKK.1 hP 0 rfl rfl 3 (by decide) (hts (.fieldLink RX7 29 "SlideLand" "now" "LSlideLand$Stand;") (List.mem_of_getElem? (i := 1) rfl)) (fun _ h9 => h9) rfl dX7_countNow_71 ?_
          refine va_get (D := (dC, dI)) (ci := 5) (v := .int (o2.1 2)) (C := RX5) (T := TX5) (N := 7) hx hb hts hiX5 hown hKK.1 hP 11 rfl rfl 2 (by decide) (hts (.fieldLink RX7 177 "SlideLand$Stand" "chalk" "I") (List.mem_of_getElem? (i := 5) rfl)) (fun _ h9 => h9) rfl dX7_countNow_74 ?_
          have h := Option.some.inj h
          subst h
          subst hQ
          exact W.iret (v := (o2.1 2)) hx hb hr (fun t ht hW => ⟨⟨rfl, by rw [ht]; exact hP, hD⟩, hS.F ht⟩) hS.2.2 dX7_countNow_77
        · have h := ite_f k4 h
          by_cases k5 : v1 = (8 : Int32)
          · have h := ite_t k5 h
            refine lv_tableIn (off := 77) (tgt := 78) hx hb dX7_countNow_1 (by rw [k5]; decide) (by rw [k5]; decide) (by rw [k5]; rfl) (by decide) ?_
            refine lv_aload_n hx hb dX7_countNow_78 rfl (lv_at hl 0 rfl) ?_
            refine va_get (D := (dC, dI)) (ci := 7) (v := .ref (g0 3)) (C := RX7) (T := TX7) (N := 11) hx hb hts hiX7 hown hKK.1 hP 0 rfl rfl 3 (by decide) (hts (.fieldLink RX7 29 "SlideLand" "now" "LSlideLand$Stand;") (List.mem_of_getElem? (i := 1) rfl)) (fun _ h9 => h9) rfl dX7_countNow_79 ?_
            refine va_get (D := (dC, dI)) (ci := 5) (v := .int (o2.1 4)) (C := RX5) (T := TX5) (N := 7) hx hb hts hiX5 hown hKK.1 hP 11 rfl rfl 4 (by decide) (hts (.fieldLink RX7 131 "SlideLand$Stand" "wed" "I") (List.mem_of_getElem? (i := 6) rfl)) (fun _ h9 => h9) rfl dX7_countNow_82 ?_
            obtain ⟨q7, hq7, h⟩ := bnd_e h
            refine kcS (rest := []) (w2 := ([cX7 a0 g0 o0, cX7_10 cI g0 o0, cX6 (g0 1) g1 o1, cX6_0 cI g1 o1, cX6_1 cI g1 o1, cX6_2 cI g1 o1, cX6_3 cI g1 o1, cX6_4 cI g1 o1, cX6_5 cI g1 o1, cX6_6 cI g1 o1, cX6_7 cI g1 o1, cX5 (g0 3) g2 o2, cX5_5 cI g2 o2, cX5_6 cI g2 o2])) hx hb hml hown hts hKK hP hD hS hA (c_J6_bitCount_0f7a4 l dC dI cB cI cZ cO (o2.1 4) hq7) [] (atAll_map trivial) (by decide +kernel) (sameAd_map trivial) (atAll_map trivial) (agr_refl _ _ _) (va_cwS 1 hts gX7_countNow_J6_bitCount_0f7a4 rfl rfl rfl dsc_J6_bitCount_0f7a4 ⟨Nat.le_of_ble_eq_true rfl, Nat.le_of_ble_eq_true rfl⟩) rfl hl.1 rfl (Nat.le_of_ble_eq_true rfl) dX7_countNow_85 ⟨Nat.zero_le _, Nat.zero_le _⟩ (fun H locs hP hD hS => ?_)
            have h := Option.some.inj h
            subst h
            subst hQ
            exact W.iret (v := q7) hx hb hr (fun t ht hW => ⟨⟨rfl, by rw [ht]; exact hP, hD⟩, hS.F ht⟩) hS.2.2 dX7_countNow_88
          · have h := ite_f k5 h
            by_cases k6 : v1 = (9 : Int32)
            · have h := ite_t k6 h
              refine lv_tableIn (off := 88) (tgt := 89) hx hb dX7_countNow_1 (by rw [k6]; decide) (by rw [k6]; decide) (by rw [k6]; rfl) (by decide) ?_
              refine lv_aload_n hx hb dX7_countNow_89 rfl (lv_at hl 0 rfl) ?_
              refine va_get (D := (dC, dI)) (ci := 7) (v := .ref (g0 3)) (C := RX7) (T := TX7) (N := 11) hx hb hts hiX7 hown hKK.1 hP 0 rfl rfl 3 (by decide) (hts (.fieldLink RX7 29 "SlideLand" "now" "LSlideLand$Stand;") (List.mem_of_getElem? (i := 1) rfl)) (fun _ h9 => h9) rfl dX7_countNow_90 ?_
              refine lv_aload_n hx hb dX7_countNow_93 rfl (lv_at hl 0 rfl) ?_
              refine va_get (D := (dC, dI)) (ci := 7) (v := .ref (g0 1)) (C := RX7) (T := TX7) (N := 11) hx hb hts hiX7 hown hKK.1 hP 0 rfl rfl 1 (by decide) (hts (.fieldLink RX7 19 "SlideLand" "told" "LSlideLand$Told;") (List.mem_of_getElem? (i := 7) rfl)) (fun _ h9 => h9) rfl dX7_countNow_94 ?_
              obtain ⟨q7, hq7, h⟩ := obd_e h
              refine kcV (rest := []) (w2 := ([cX7 a0 g0 o0, cX7_10 cI g0 o0, cX6 (g0 1) g1 o1, cX6_0 cI g1 o1, cX6_1 cI g1 o1, cX6_2 cI g1 o1, cX6_3 cI g1 o1, cX6_4 cI g1 o1, cX6_5 cI g1 o1, cX6_6 cI g1 o1, cX6_7 cI g1 o1, cX5 (g0 3) g2 o2, cX5_5 cI g2 o2, cX5_6 cI g2 o2])) hx hb hml hown hts hKK hP hD hS hA (c_X5_allPairs l dC dI cB cI cZ cO (g0 3) g2 o2 (g0 1) g1 o1 hq7) [11, 12, 13, 2, 3, 4, 5, 6, 7, 8, 9, 10] (atAll_map ⟨rfl, rfl, rfl, rfl, rfl, rfl, rfl, rfl, rfl, rfl, rfl, rfl, trivial⟩) (by decide +kernel) (sameAd_map ⟨rfl, rfl, rfl, rfl, rfl, rfl, rfl, rfl, rfl, rfl, rfl, rfl, trivial⟩) (atAll_map ⟨rfl, rfl, rfl, rfl, rfl, rfl, rfl, rfl, rfl, rfl, rfl, rfl, trivial⟩) (agr_refl _ _ _) (cwV 1 hts gX7_countNow_X5_allPairs rfl rfl rfl ⟨rfl, dsc_X5_allPairs⟩ ⟨Nat.le_of_ble_eq_true rfl, Nat.le_of_ble_eq_true rfl⟩) (va_recv hKK.1 hP (ci := 5) (q0 := 11) rfl rfl) rfl hl.1 rfl (Nat.le_of_ble_eq_true rfl) dX7_countNow_97 ⟨Nat.zero_le _, Nat.zero_le _⟩ (fun H locs hP hD hS => ?_)
              have h := Option.some.inj h
              subst h
              subst hQ
              exact W.iret (v := q7) hx hb hr (fun t ht hW => ⟨⟨rfl, by rw [ht]; exact hP, hD⟩, hS.F ht⟩) hS.2.2 dX7_countNow_100
            · have h := ite_f k6 h
              refine lv_tableOut (tgt := 101) hx hb dX7_countNow_1 (sw_out [4, 5, 6, 7, 8, 9] (by decide) (List.forall_mem_cons.mpr ⟨sw_ne k1 (by decide), (List.forall_mem_cons.mpr ⟨sw_ne k2 (by decide), (List.forall_mem_cons.mpr ⟨sw_ne k3 (by decide), (List.forall_mem_cons.mpr ⟨sw_ne k4 (by decide), (List.forall_mem_cons.mpr ⟨sw_ne k5 (by decide), (List.forall_mem_cons.mpr ⟨sw_ne k6 (by decide), (fun _ h => absurd h List.not_mem_nil)⟩)⟩)⟩)⟩)⟩)⟩)) (by decide) ?_
              refine lv_iconst (v := (-1 : Int32)) hx hb dX7_countNow_101 (by decide) ?_
              have h := Option.some.inj h
              subst h
              subst hQ
              exact W.iret (v := (-1 : Int32)) hx hb hr (fun t ht hW => ⟨⟨rfl, by rw [ht]; exact hP, hD⟩, hS.F ht⟩) hS.2.2 dX7_countNow_102
def f_X7_count (o0 : Ob) (o1 : Ob) (o2 : Ob) (o3 : Ob) (o4 : Ob) (o5 : Ob) (o6 : Ob) (v1 : Int32) : Option (Int32) := if v1 = (0 : Int32) then ((f_X7_cell 2 (o2.2 1) (0 : Int32)).bind fun q15 : Int32 => some q15) else if v1 = (1 : Int32) then ((f_X7_cell 2 (o2.2 1) (1 : Int32)).bind fun q15 : Int32 => some q15) else if v1 = (2 : Int32) then (some (o2.1 8)) else if v1 = (3 : Int32) then (some (o2.1 9)) else if v1 = (4 : Int32) then ((f_X7_countNow o0 o2 o3 v1).bind fun q15 : Int32 => some q15) else if v1 = (5 : Int32) then ((f_X7_countNow o0 o2 o3 v1).bind fun q15 : Int32 => some q15) else if v1 = (6 : Int32) then ((f_X7_countNow o0 o2 o3 v1).bind fun q15 : Int32 => some q15) else if v1 = (7 : Int32) then ((f_X7_countNow o0 o2 o3 v1).bind fun q15 : Int32 => some q15) else if v1 = (8 : Int32) then ((f_X7_countNow o0 o2 o3 v1).bind fun q15 : Int32 => some q15) else if v1 = (9 : Int32) then ((f_X7_countNow o0 o2 o3 v1).bind fun q15 : Int32 => some q15) else if v1 = (10 : Int32) then (some (o6.1 2)) else if v1 = (11 : Int32) then (some (o4.1 1)) else if v1 = (12 : Int32) then (some (o5.1 1)) else if v1 = (13 : Int32) then (some (o1.1 1)) else ((f_X7_countNow o0 o2 o3 v1).bind fun q15 : Int32 => some q15)
abbrev rmX7_count : Room := { frames := 6, cells := 0, slots := 0, locals := 137 }
theorem dsc_X7_count : yX7_count.cls ≠ "java/lang/invoke/MethodHandle" ∧ yX7_count.cls ≠ "java/lang/invoke/VarHandle" ∧ (parseMethodDescriptor yX7_count.desc).map (fun d => d.parameters.length) = some 1 := by decide +kernel
set_option maxHeartbeats 4000000 in
set_option maxRecDepth 100000 in
theorem c_X7_count (l : Launch) (dC : Nat → ClassId) (dI : Nat → Nat → Nat) (cB cI cZ cO : ClassId) (a0 : Nat) (g0 : Nat → Nat) (o0 : Ob) (g1 : Nat → Nat) (o1 : Ob) (g2 : Nat → Nat) (o2 : Ob) (g3 : Nat → Nat) (o3 : Ob) (g4 : Nat → Nat) (o4 : Ob) (g5 : Nat → Nat) (o5 : Ob) (g6 : Nat → Nat) (o6 : Ob) (v1 : Int32) {r : Int32} (h : f_X7_count o0 o1 o2 o3 o4 o5 o6 v1 = some r) : Ct dC dI cB cI cZ cO l yX7_count wsX7_count rmX7_count [.ref a0, .int v1] ([cX7 a0 g0 o0, cX7_10 cI g0 o0, cX2 (g0 0) g1 o1, cX2_0 cI g1 o1, cX6 (g0 1) g2 o2, cX6_0 cI g2 o2, cX6_1 cI g2 o2, cX6_2 cI g2 o2, cX6_3 cI g2 o2, cX6_4 cI g2 o2, cX6_5 cI g2 o2, cX6_6 cI g2 o2, cX6_7 cI g2 o2, cX5 (g0 3) g3 o3, cX5_5 cI g3 o3, cX5_6 cI g3 o3, cX3 (g0 5) g4 o4, cX3 (g0 6) g5 o5, cX0 (g0 7) g6 o6, cX0_0 cI g6 o6, cX0_1 cI g6 o6]) (some (.int r)) ([cX7 a0 g0 o0, cX7_10 cI g0 o0, cX2 (g0 0) g1 o1, cX2_0 cI g1 o1, cX6 (g0 1) g2 o2, cX6_0 cI g2 o2, cX6_1 cI g2 o2, cX6_2 cI g2 o2, cX6_3 cI g2 o2, cX6_4 cI g2 o2, cX6_5 cI g2 o2, cX6_6 cI g2 o2, cX6_7 cI g2 o2, cX5 (g0 3) g3 o3, cX5_5 cI g3 o3, cX5_6 cI g3 o3, cX3 (g0 5) g4 o4, cX3 (g0 6) g5 o5, cX0 (g0 7) g6 o6, cX0_0 cI g6 o6, cX0_1 cI g6 o6]) := by
  intro sz
  refine Met.ofW (cc := cX7_count) (maxL := 2) (ret := (some .int)) (by decide) rfl ?_
  intro p e s m args below meth c s₁ B hml hv
  obtain ⟨rfl, hsz, hP, hKK, hD0⟩ := hv
  have hx := B.exec
  have hb := B.bytes
  have hr := B.returns
  have hts := atoms_spec (ws := wsX7_count) B.pre
  have hown : s.vm.findClass RX7 = some m.cls := findClass_of_methodNamed B.named
  have hlocks := B.notSynchronized
  have hiX7 : ∀ w ∈ u_ws RX7 TX7 11, w ∈ wsX7_count := fun w h => List.mem_cons_of_mem _ (List.mem_append_left _ (List.mem_append_left _ (List.mem_append_left _ (List.mem_append_left _ (List.mem_append_left _ (List.mem_append_right _ h))))))
  have hiX6 : ∀ w ∈ u_ws RX6 TX6 11, w ∈ wsX7_count := fun w h => List.mem_cons_of_mem _ (List.mem_append_left _ (List.mem_append_left _ (List.mem_append_left _ (List.mem_append_left _ (List.mem_append_right _ h)))))
  have hiX0 : ∀ w ∈ u_ws RX0 TX0 3, w ∈ wsX7_count := fun w h => List.mem_cons_of_mem _ (List.mem_append_left _ (List.mem_append_left _ (List.mem_append_left _ (List.mem_append_right _ h))))
  have hiX3 : ∀ w ∈ u_ws RX3 TX3 2, w ∈ wsX7_count := fun w h => List.mem_cons_of_mem _ (List.mem_append_left _ (List.mem_append_left _ (List.mem_append_right _ h)))
  have hiX2 : ∀ w ∈ u_ws RX2 TX2 2, w ∈ wsX7_count := fun w h => List.mem_cons_of_mem _ (List.mem_append_left _ (List.mem_append_right _ h))
  subst hsz
  have hD := hD0.self (sz := s.heap.size)
  generalize hAe : va_A ([cX7 a0 g0 o0, cX7_10 cI g0 o0, cX2 (g0 0) g1 o1, cX2_0 cI g1 o1, cX6 (g0 1) g2 o2, cX6_0 cI g2 o2, cX6_1 cI g2 o2, cX6_2 cI g2 o2, cX6_3 cI g2 o2, cX6_4 cI g2 o2, cX6_5 cI g2 o2, cX6_6 cI g2 o2, cX6_7 cI g2 o2, cX5 (g0 3) g3 o3, cX5_5 cI g3 o3, cX5_6 cI g3 o3, cX3 (g0 5) g4 o4, cX3 (g0 6) g5 o5, cX0 (g0 7) g6 o6, cX0_0 cI g6 o6, cX0_1 cI g6 o6]) s.heap.size = A at hD ⊢
  have hA : ∀ q : Nat, s.heap.size ≤ q → A q := fun q h => by rw [← hAe]; exact Or.inr h
  have hS : va_S A s.heap s.heap [] := va_S.rf
  have hP : va_P (dC, dI) vwCl ([cX7 a0 g0 o0, cX7_10 cI g0 o0, cX2 (g0 0) g1 o1, cX2_0 cI g1 o1, cX6 (g0 1) g2 o2, cX6_0 cI g2 o2, cX6_1 cI g2 o2, cX6_2 cI g2 o2, cX6_3 cI g2 o2, cX6_4 cI g2 o2, cX6_5 cI g2 o2, cX6_6 cI g2 o2, cX6_7 cI g2 o2, cX5 (g0 3) g3 o3, cX5_5 cI g3 o3, cX5_6 cI g3 o3, cX3 (g0 5) g4 o4, cX3 (g0 6) g5 o5, cX0 (g0 7) g6 o6, cX0_0 cI g6 o6, cX0_1 cI g6 o6]) s.heap := hP
  have hD : va_D A ([cX7 a0 g0 o0, cX7_10 cI g0 o0, cX2 (g0 0) g1 o1, cX2_0 cI g1 o1, cX6 (g0 1) g2 o2, cX6_0 cI g2 o2, cX6_1 cI g2 o2, cX6_2 cI g2 o2, cX6_3 cI g2 o2, cX6_4 cI g2 o2, cX6_5 cI g2 o2, cX6_6 cI g2 o2, cX6_7 cI g2 o2, cX5 (g0 3) g3 o3, cX5_5 cI g3 o3, cX5_6 cI g3 o3, cX3 (g0 5) g4 o4, cX3 (g0 6) g5 o5, cX0 (g0 7) g6 o6, cX0_0 cI g6 o6, cX0_1 cI g6 o6]) := hD
  have hl := lv_entry ([.ref a0, .int v1]) (n := 2) (Nat.le_of_ble_eq_true rfl)
  rw [lg_entry_eq]
  generalize (lg_sl ([.ref a0, .int v1]) ++ List.replicate (2 - (lg_sl ([.ref a0, .int v1])).length) Slot.unset).toArray = ls at hl ⊢
  have hl : lv_has ls 2 [(0, .ref a0), (1, .int v1)] := hl
  obtain ⟨Q, hQ⟩ : ∃ Q, Q = MQ below (Qq dC dI (some (.int r)) ([cX7 a0 g0 o0, cX7_10 cI g0 o0, cX2 (g0 0) g1 o1, cX2_0 cI g1 o1, cX6 (g0 1) g2 o2, cX6_0 cI g2 o2, cX6_1 cI g2 o2, cX6_2 cI g2 o2, cX6_3 cI g2 o2, cX6_4 cI g2 o2, cX6_5 cI g2 o2, cX6_6 cI g2 o2, cX6_7 cI g2 o2, cX5 (g0 3) g3 o3, cX5_5 cI g3 o3, cX5_6 cI g3 o3, cX3 (g0 5) g4 o4, cX3 (g0 6) g5 o5, cX0 (g0 7) g6 o6, cX0_0 cI g6 o6, cX0_1 cI g6 o6]) A) ([.ref a0, .int v1] : List Value).toArray s 0 0 A := ⟨_, rfl⟩
  rw [← hQ]
  rw [f_X7_count] at h
  clear hAe hD0
  refine lv_iload_n hx hb dX7_count_0 rfl (lv_at hl 1 rfl) ?_
  by_cases k1 : v1 = (0 : Int32)
  · have h := ite_t k1 h
    refine lv_tableIn (off := 71) (tgt := 72) hx hb dX7_count_1 (by rw [k1]; decide) (by rw [k1]; decide) (by rw [k1]; rfl) (by decide) ?_
    refine lv_aload_n hx hb dX7_count_72 rfl (lv_at hl 0 rfl) ?_
    refine va_get (D := (dC, dI)) (ci := 7) (v := .ref (g0 1)) (C := RX7) (T := TX7) (N := 11) hx hb hts hiX7 hown hKK.1 hP 0 rfl rfl 1 (by decide) (hts (.fieldLink RX7 19 "SlideLand" "told" "LSlideLand$Told;") (List.mem_of_getElem? (i := 1) rfl)) (fun _ h9 => h9) rfl dX7_count_73 ?_
    refine va_get (D := (dC, dI)) (ci := 6) (v := .ref (g2 1)) (C := RX6) (T := TX6) (N := 11) hx hb hts hiX6 hown hKK.1 hP 4 rfl rfl 1 (by decide) (hts (.fieldLink RX7 274 "SlideLand$Told" "ofLand" "[I") (List.mem_of_getElem? (i := 2) rfl)) (fun _ h9 => h9) rfl dX7_count_76 ?_
    refine lv_iconst (v := (0 : Int32)) hx hb dX7_count_79 (by decide) ?_
    obtain ⟨q15, hq15, h⟩ := obd_e h
    refine kcS (rest := []) (w2 := ([cX7 a0 g0 o0, cX7_10 cI g0 o0, cX2 (g0 0) g1 o1, cX2_0 cI g1 o1, cX6 (g0 1) g2 o2, cX6_0 cI g2 o2, cX6_1 cI g2 o2, cX6_2 cI g2 o2, cX6_3 cI g2 o2, cX6_4 cI g2 o2, cX6_5 cI g2 o2, cX6_6 cI g2 o2, cX6_7 cI g2 o2, cX5 (g0 3) g3 o3, cX5_5 cI g3 o3, cX5_6 cI g3 o3, cX3 (g0 5) g4 o4, cX3 (g0 6) g5 o5, cX0 (g0 7) g6 o6, cX0_0 cI g6 o6, cX0_1 cI g6 o6])) hx hb hml hown hts hKK hP hD hS hA (c_X7_cell l dC dI cB cI cZ cO (g2 1) 2 (o2.2 1) (0 : Int32) hq15) [6] (atAll_map ⟨rfl, trivial⟩) (by decide +kernel) (sameAd_map ⟨rfl, trivial⟩) (atAll_map ⟨rfl, trivial⟩) (agr_refl _ _ _) (va_cwS 2 hts gX7_count_X7_cell rfl rfl rfl dsc_X7_cell ⟨Nat.le_of_ble_eq_true rfl, Nat.le_of_ble_eq_true rfl⟩) rfl hl.1 rfl (Nat.le_of_ble_eq_true rfl) dX7_count_80 ⟨Nat.zero_le _, Nat.zero_le _⟩ (fun H locs hP hD hS => ?_)
    have h := Option.some.inj h
    subst h
    subst hQ
    exact W.iret (v := q15) hx hb hr (fun t ht hW => ⟨⟨rfl, by rw [ht]; exact hP, hD⟩, hS.F ht⟩) hS.2.2 dX7_count_83
  · have h := ite_f k1 h
    by_cases k2 : v1 = (1 : Int32)
    · have h := ite_t k2 h
      refine lv_tableIn (off := 83) (tgt := 84) hx hb dX7_count_1 (by rw [k2]; decide) (by rw [k2]; decide) (by rw [k2]; rfl) (by decide) ?_
      refine lv_aload_n hx hb dX7_count_84 rfl (lv_at hl 0 rfl) ?_
      refine va_get (D := (dC, dI)) (ci := 7) (v := .ref (g0 1)) (C := RX7) (T := TX7) (N := 11) hx hb hts hiX7 hown hKK.1 hP 0 rfl rfl 1 (by decide) (hts (.fieldLink RX7 19 "SlideLand" "told" "LSlideLand$Told;") (List.mem_of_getElem? (i := 1) rfl)) (fun _ h9 => h9) rfl dX7_count_85 ?_
      refine va_get (D := (dC, dI)) (ci := 6) (v := .ref (g2 1)) (C := RX6) (T := TX6) (N := 11) hx hb hts hiX6 hown hKK.1 hP 4 rfl rfl 1 (by decide) (hts (.fieldLink RX7 274 "SlideLand$Told" "ofLand" "[I") (List.mem_of_getElem? (i := 2) rfl)) (fun _ h9 => h9) rfl dX7_count_88 ?_
      refine lv_iconst (v := (1 : Int32)) hx hb dX7_count_91 (by decide) ?_
      obtain ⟨q15, hq15, h⟩ := obd_e h
      refine kcS (rest := []) (w2 := ([cX7 a0 g0 o0, cX7_10 cI g0 o0, cX2 (g0 0) g1 o1, cX2_0 cI g1 o1, cX6 (g0 1) g2 o2, cX6_0 cI g2 o2, cX6_1 cI g2 o2, cX6_2 cI g2 o2, cX6_3 cI g2 o2, cX6_4 cI g2 o2, cX6_5 cI g2 o2, cX6_6 cI g2 o2, cX6_7 cI g2 o2, cX5 (g0 3) g3 o3, cX5_5 cI g3 o3, cX5_6 cI g3 o3, cX3 (g0 5) g4 o4, cX3 (g0 6) g5 o5, cX0 (g0 7) g6 o6, cX0_0 cI g6 o6, cX0_1 cI g6 o6])) hx hb hml hown hts hKK hP hD hS hA (c_X7_cell l dC dI cB cI cZ cO (g2 1) 2 (o2.2 1) (1 : Int32) hq15) [6] (atAll_map ⟨rfl, trivial⟩) (by decide +kernel) (sameAd_map ⟨rfl, trivial⟩) (atAll_map ⟨rfl, trivial⟩) (agr_refl _ _ _) (va_cwS 2 hts gX7_count_X7_cell rfl rfl rfl dsc_X7_cell ⟨Nat.le_of_ble_eq_true rfl, Nat.le_of_ble_eq_true rfl⟩) rfl hl.1 rfl (Nat.le_of_ble_eq_true rfl) dX7_count_92 ⟨Nat.zero_le _, Nat.zero_le _⟩ (fun H locs hP hD hS => ?_)
      have h := Option.some.inj h
      subst h
      subst hQ
      exact W.iret (v := q15) hx hb hr (fun t ht hW => ⟨⟨rfl, by rw [ht]; exact hP, hD⟩, hS.F ht⟩) hS.2.2 dX7_count_95
    · have h := ite_f k2 h
      by_cases k3 : v1 = (2 : Int32)
      · have h := ite_t k3 h
        refine lv_tableIn (off := 95) (tgt := 96) hx hb dX7_count_1 (by rw [k3]; decide) (by rw [k3]; decide) (by rw [k3]; rfl) (by decide) ?_
        refine lv_aload_n hx hb dX7_count_96 rfl (lv_at hl 0 rfl) ?_
        refine va_get (D := (dC, dI)) (ci := 7) (v := .ref (g0 1)) (C := RX7) (T := TX7) (N := 11) hx hb hts hiX7 hown hKK.1 hP 0 rfl rfl 1 (by decide) (hts (.fieldLink RX7 19 "SlideLand" "told" "LSlideLand$Told;") (List.mem_of_getElem? (i := 1) rfl)) (fun _ h9 => h9) rfl dX7_count_97 ?_
        refine va_get (D := (dC, dI)) (ci := 6) (v := .int (o2.1 8)) (C := RX6) (T := TX6) (N := 11) hx hb hts hiX6 hown hKK.1 hP 4 rfl rfl 8 (by decide) (hts (.fieldLink RX7 105 "SlideLand$Told" "strips" "I") (List.mem_of_getElem? (i := 3) rfl)) (fun _ h9 => h9) rfl dX7_count_100 ?_
        have h := Option.some.inj h
        subst h
        subst hQ
        exact W.iret (v := (o2.1 8)) hx hb hr (fun t ht hW => ⟨⟨rfl, by rw [ht]; exact hP, hD⟩, hS.F ht⟩) hS.2.2 dX7_count_103
      · have h := ite_f k3 h
        by_cases k4 : v1 = (3 : Int32)
        · have h := ite_t k4 h
          refine lv_tableIn (off := 103) (tgt := 104) hx hb dX7_count_1 (by rw [k4]; decide) (by rw [k4]; decide) (by rw [k4]; rfl) (by decide) ?_
          refine lv_aload_n hx hb dX7_count_104 rfl (lv_at hl 0 rfl) ?_
          refine va_get (D := (dC, dI)) (ci := 7) (v := .ref (g0 1)) (C := RX7) (T := TX7) (N := 11) hx hb hts hiX7 hown hKK.1 hP 0 rfl rfl 1 (by decide) (hts (.fieldLink RX7 19 "SlideLand" "told" "LSlideLand$Told;") (List.mem_of_getElem? (i := 1) rfl)) (fun _ h9 => h9) rfl dX7_count_105 ?_
          refine va_get (D := (dC, dI)) (ci := 6) (v := .int (o2.1 9)) (C := RX6) (T := TX6) (N := 11) hx hb hts hiX6 hown hKK.1 hP 4 rfl rfl 9 (by decide) (hts (.fieldLink RX7 108 "SlideLand$Told" "pushes" "I") (List.mem_of_getElem? (i := 4) rfl)) (fun _ h9 => h9) rfl dX7_count_108 ?_
          have h := Option.some.inj h
          subst h
          subst hQ
          exact W.iret (v := (o2.1 9)) hx hb hr (fun t ht hW => ⟨⟨rfl, by rw [ht]; exact hP, hD⟩, hS.F ht⟩) hS.2.2 dX7_count_111
        · have h := ite_f k4 h
          by_cases k5 : v1 = (4 : Int32)
          · have h := ite_t k5 h
            refine lv_tableIn (off := 143) (tgt := 144) hx hb dX7_count_1 (by rw [k5]; decide) (by rw [k5]; decide) (by rw [k5]; rfl) (by decide) ?_
            refine lv_aload_n hx hb dX7_count_144 rfl (lv_at hl 0 rfl) ?_
            refine lv_iload_n hx hb dX7_count_145 rfl (lv_at hl 1 rfl) ?_
            obtain ⟨q15, hq15, h⟩ := obd_e h
            refine kcV (rest := []) (w2 := ([cX7 a0 g0 o0, cX7_10 cI g0 o0, cX2 (g0 0) g1 o1, cX2_0 cI g1 o1, cX6 (g0 1) g2 o2, cX6_0 cI g2 o2, cX6_1 cI g2 o2, cX6_2 cI g2 o2, cX6_3 cI g2 o2, cX6_4 cI g2 o2, cX6_5 cI g2 o2, cX6_6 cI g2 o2, cX6_7 cI g2 o2, cX5 (g0 3) g3 o3, cX5_5 cI g3 o3, cX5_6 cI g3 o3, cX3 (g0 5) g4 o4, cX3 (g0 6) g5 o5, cX0 (g0 7) g6 o6, cX0_0 cI g6 o6, cX0_1 cI g6 o6])) hx hb hml hown hts hKK hP hD hS hA (c_X7_countNow l dC dI cB cI cZ cO a0 g0 o0 g2 o2 g3 o3 v1 hq15) [0, 1, 4, 5, 6, 7, 8, 9, 10, 11, 12, 13, 14, 15] (atAll_map ⟨rfl, rfl, rfl, rfl, rfl, rfl, rfl, rfl, rfl, rfl, rfl, rfl, rfl, rfl, trivial⟩) (by decide +kernel) (sameAd_map ⟨rfl, rfl, rfl, rfl, rfl, rfl, rfl, rfl, rfl, rfl, rfl, rfl, rfl, rfl, trivial⟩) (atAll_map ⟨rfl, rfl, rfl, rfl, rfl, rfl, rfl, rfl, rfl, rfl, rfl, rfl, rfl, rfl, trivial⟩) (agr_refl _ _ _) (cwV 1 hts gX7_count_X7_countNow rfl rfl rfl ⟨rfl, dsc_X7_countNow⟩ ⟨Nat.le_of_ble_eq_true rfl, Nat.le_of_ble_eq_true rfl⟩) (va_recv hKK.1 hP (ci := 7) (q0 := 0) rfl rfl) rfl hl.1 rfl (Nat.le_of_ble_eq_true rfl) dX7_count_146 ⟨Nat.zero_le _, Nat.zero_le _⟩ (fun H locs hP hD hS => ?_)
            have h := Option.some.inj h
            subst h
            subst hQ
            exact W.iret (v := q15) hx hb hr (fun t ht hW => ⟨⟨rfl, by rw [ht]; exact hP, hD⟩, hS.F ht⟩) hS.2.2 dX7_count_149
          · have h := ite_f k5 h
            by_cases k6 : v1 = (5 : Int32)
            · have h := ite_t k6 h
              refine lv_tableIn (off := 143) (tgt := 144) hx hb dX7_count_1 (by rw [k6]; decide) (by rw [k6]; decide) (by rw [k6]; rfl) (by decide) ?_
              refine lv_aload_n hx hb dX7_count_144 rfl (lv_at hl 0 rfl) ?_
              refine lv_iload_n hx hb dX7_count_145 rfl (lv_at hl 1 rfl) ?_
              obtain ⟨q15, hq15, h⟩ := obd_e h
              refine kcV (rest := []) (w2 := ([cX7 a0 g0 o0, cX7_10 cI g0 o0, cX2 (g0 0) g1 o1, cX2_0 cI g1 o1, cX6 (g0 1) g2 o2, cX6_0 cI g2 o2, cX6_1 cI g2 o2, cX6_2 cI g2 o2, cX6_3 cI g2 o2, cX6_4 cI g2 o2, cX6_5 cI g2 o2, cX6_6 cI g2 o2, cX6_7 cI g2 o2, cX5 (g0 3) g3 o3, cX5_5 cI g3 o3, cX5_6 cI g3 o3, cX3 (g0 5) g4 o4, cX3 (g0 6) g5 o5, cX0 (g0 7) g6 o6, cX0_0 cI g6 o6, cX0_1 cI g6 o6])) hx hb hml hown hts hKK hP hD hS hA (c_X7_countNow l dC dI cB cI cZ cO a0 g0 o0 g2 o2 g3 o3 v1 hq15) [0, 1, 4, 5, 6, 7, 8, 9, 10, 11, 12, 13, 14, 15] (atAll_map ⟨rfl, rfl, rfl, rfl, rfl, rfl, rfl, rfl, rfl, rfl, rfl, rfl, rfl, rfl, trivial⟩) (by decide +kernel) (sameAd_map ⟨rfl, rfl, rfl, rfl, rfl, rfl, rfl, rfl, rfl, rfl, rfl, rfl, rfl, rfl, trivial⟩) (atAll_map ⟨rfl, rfl, rfl, rfl, rfl, rfl, rfl, rfl, rfl, rfl, rfl, rfl, rfl, rfl, trivial⟩) (agr_refl _ _ _) (cwV 1 hts gX7_count_X7_countNow rfl rfl rfl ⟨rfl, dsc_X7_countNow⟩ ⟨Nat.le_of_ble_eq_true rfl, Nat.le_of_ble_eq_true rfl⟩) (va_recv hKK.1 hP (ci := 7) (q0 := 0) rfl rfl) rfl hl.1 rfl (Nat.le_of_ble_eq_true rfl) dX7_count_146 ⟨Nat.zero_le _, Nat.zero_le _⟩ (fun H locs hP hD hS => ?_)
              have h := Option.some.inj h
              subst h
              subst hQ
              exact W.iret (v := q15) hx hb hr (fun t ht hW => ⟨⟨rfl, by rw [ht]; exact hP, hD⟩, hS.F ht⟩) hS.2.2 dX7_count_149
            · have h := ite_f k6 h
              by_cases k7 : v1 = (6 : Int32)
              · have h := ite_t k7 h
                refine lv_tableIn (off := 143) (tgt := 144) hx hb dX7_count_1 (by rw [k7]; decide) (by rw [k7]; decide) (by rw [k7]; rfl) (by decide) ?_
                refine lv_aload_n hx hb dX7_count_144 rfl (lv_at hl 0 rfl) ?_
                refine lv_iload_n hx hb dX7_count_145 rfl (lv_at hl 1 rfl) ?_
                obtain ⟨q15, hq15, h⟩ := obd_e h
                refine kcV (rest := []) (w2 := ([cX7 a0 g0 o0, cX7_10 cI g0 o0, cX2 (g0 0) g1 o1, cX2_0 cI g1 o1, cX6 (g0 1) g2 o2, cX6_0 cI g2 o2, cX6_1 cI g2 o2, cX6_2 cI g2 o2, cX6_3 cI g2 o2, cX6_4 cI g2 o2, cX6_5 cI g2 o2, cX6_6 cI g2 o2, cX6_7 cI g2 o2, cX5 (g0 3) g3 o3, cX5_5 cI g3 o3, cX5_6 cI g3 o3, cX3 (g0 5) g4 o4, cX3 (g0 6) g5 o5, cX0 (g0 7) g6 o6, cX0_0 cI g6 o6, cX0_1 cI g6 o6])) hx hb hml hown hts hKK hP hD hS hA (c_X7_countNow l dC dI cB cI cZ cO a0 g0 o0 g2 o2 g3 o3 v1 hq15) [0, 1, 4, 5, 6, 7, 8, 9, 10, 11, 12, 13, 14, 15] (atAll_map ⟨rfl, rfl, rfl, rfl, rfl, rfl, rfl, rfl, rfl, rfl, rfl, rfl, rfl, rfl, trivial⟩) (by decide +kernel) (sameAd_map ⟨rfl, rfl, rfl, rfl, rfl, rfl, rfl, rfl, rfl, rfl, rfl, rfl, rfl, rfl, trivial⟩) (atAll_map ⟨rfl, rfl, rfl, rfl, rfl, rfl, rfl, rfl, rfl, rfl, rfl, rfl, rfl, rfl, trivial⟩) (agr_refl _ _ _) (cwV 1 hts gX7_count_X7_countNow rfl rfl rfl ⟨rfl, dsc_X7_countNow⟩ ⟨Nat.le_of_ble_eq_true rfl, Nat.le_of_ble_eq_true rfl⟩) (va_recv hKK.1 hP (ci := 7) (q0 := 0) rfl rfl) rfl hl.1 rfl (Nat.le_of_ble_eq_true rfl) dX7_count_146 ⟨Nat.zero_le _, Nat.zero_le _⟩ (fun H locs hP hD hS => ?_)
                have h := Option.some.inj h
                subst h
                subst hQ
                exact W.iret (v := q15) hx hb hr (fun t ht hW => ⟨⟨rfl, by rw [ht]; exact hP, hD⟩, hS.F ht⟩) hS.2.2 dX7_count_149
              · have h := ite_f k7 h
                by_cases k8 : v1 = (7 : Int32)
                · have h := ite_t k8 h
                  refine lv_tableIn (off := 143) (tgt := 144) hx hb dX7_count_1 (by rw [k8]; decide) (by rw [k8]; decide) (by rw [k8]; rfl) (by decide) ?_
                  refine lv_aload_n hx hb dX7_count_144 rfl (lv_at hl 0 rfl) ?_
                  refine lv_iload_n hx hb dX7_count_145 rfl (lv_at hl 1 rfl) ?_
                  obtain ⟨q15, hq15, h⟩ := obd_e h
                  refine kcV (rest := []) (w2 := ([cX7 a0 g0 o0, cX7_10 cI g0 o0, cX2 (g0 0) g1 o1, cX2_0 cI g1 o1, cX6 (g0 1) g2 o2, cX6_0 cI g2 o2, cX6_1 cI g2 o2, cX6_2 cI g2 o2, cX6_3 cI g2 o2, cX6_4 cI g2 o2, cX6_5 cI g2 o2, cX6_6 cI g2 o2, cX6_7 cI g2 o2, cX5 (g0 3) g3 o3, cX5_5 cI g3 o3, cX5_6 cI g3 o3, cX3 (g0 5) g4 o4, cX3 (g0 6) g5 o5, cX0 (g0 7) g6 o6, cX0_0 cI g6 o6, cX0_1 cI g6 o6])) hx hb hml hown hts hKK hP hD hS hA (c_X7_countNow l dC dI cB cI cZ cO a0 g0 o0 g2 o2 g3 o3 v1 hq15) [0, 1, 4, 5, 6, 7, 8, 9, 10, 11, 12, 13, 14, 15] (atAll_map ⟨rfl, rfl, rfl, rfl, rfl, rfl, rfl, rfl, rfl, rfl, rfl, rfl, rfl, rfl, trivial⟩) (by decide +kernel) (sameAd_map ⟨rfl, rfl, rfl, rfl, rfl, rfl, rfl, rfl, rfl, rfl, rfl, rfl, rfl, rfl, trivial⟩) (atAll_map ⟨rfl, rfl, rfl, rfl, rfl, rfl, rfl, rfl, rfl, rfl, rfl, rfl, rfl, rfl, trivial⟩) (agr_refl _ _ _) (cwV 1 hts gX7_count_X7_countNow rfl rfl rfl ⟨rfl, dsc_X7_countNow⟩ ⟨Nat.le_of_ble_eq_true rfl, Nat.le_of_ble_eq_true rfl⟩) (va_recv hKK.1 hP (ci := 7) (q0 := 0) rfl rfl) rfl hl.1 rfl (Nat.le_of_ble_eq_true rfl) dX7_count_146 ⟨Nat.zero_le _, Nat.zero_le _⟩ (fun H locs hP hD hS => ?_)
                  have h := Option.some.inj h
                  subst h
                  subst hQ
                  exact W.iret (v := q15) hx hb hr (fun t ht hW => ⟨⟨rfl, by rw [ht]; exact hP, hD⟩, hS.F ht⟩) hS.2.2 dX7_count_149
                · have h := ite_f k8 h
                  by_cases k9 : v1 = (8 : Int32)
                  · have h := ite_t k9 h
                    refine lv_tableIn (off := 143) (tgt := 144) hx hb dX7_count_1 (by rw [k9]; decide) (by rw [k9]; decide) (by rw [k9]; rfl) (by decide) ?_
                    refine lv_aload_n hx hb dX7_count_144 rfl (lv_at hl 0 rfl) ?_
                    refine lv_iload_n hx hb dX7_count_145 rfl (lv_at hl 1 rfl) ?_
                    obtain ⟨q15, hq15, h⟩ := obd_e h
                    refine kcV (rest := []) (w2 := ([cX7 a0 g0 o0, cX7_10 cI g0 o0, cX2 (g0 0) g1 o1, cX2_0 cI g1 o1, cX6 (g0 1) g2 o2, cX6_0 cI g2 o2, cX6_1 cI g2 o2, cX6_2 cI g2 o2, cX6_3 cI g2 o2, cX6_4 cI g2 o2, cX6_5 cI g2 o2, cX6_6 cI g2 o2, cX6_7 cI g2 o2, cX5 (g0 3) g3 o3, cX5_5 cI g3 o3, cX5_6 cI g3 o3, cX3 (g0 5) g4 o4, cX3 (g0 6) g5 o5, cX0 (g0 7) g6 o6, cX0_0 cI g6 o6, cX0_1 cI g6 o6])) hx hb hml hown hts hKK hP hD hS hA (c_X7_countNow l dC dI cB cI cZ cO a0 g0 o0 g2 o2 g3 o3 v1 hq15) [0, 1, 4, 5, 6, 7, 8, 9, 10, 11, 12, 13, 14, 15] (atAll_map ⟨rfl, rfl, rfl, rfl, rfl, rfl, rfl, rfl, rfl, rfl, rfl, rfl, rfl, rfl, trivial⟩) (by decide +kernel) (sameAd_map ⟨rfl, rfl, rfl, rfl, rfl, rfl, rfl, rfl, rfl, rfl, rfl, rfl, rfl, rfl, trivial⟩) (atAll_map ⟨rfl, rfl, rfl, rfl, rfl, rfl, rfl, rfl, rfl, rfl, rfl, rfl, rfl, rfl, trivial⟩) (agr_refl _ _ _) (cwV 1 hts gX7_count_X7_countNow rfl rfl rfl ⟨rfl, dsc_X7_countNow⟩ ⟨Nat.le_of_ble_eq_true rfl, Nat.le_of_ble_eq_true rfl⟩) (va_recv hKK.1 hP (ci := 7) (q0 := 0) rfl rfl) rfl hl.1 rfl (Nat.le_of_ble_eq_true rfl) dX7_count_146 ⟨Nat.zero_le _, Nat.zero_le _⟩ (fun H locs hP hD hS => ?_)
                    have h := Option.some.inj h
                    subst h
                    subst hQ
                    exact W.iret (v := q15) hx hb hr (fun t ht hW => ⟨⟨rfl, by rw [ht]; exact hP, hD⟩, hS.F ht⟩) hS.2.2 dX7_count_149
                  · have h := ite_f k9 h
                    by_cases k10 : v1 = (9 : Int32)
                    · have h := ite_t k10 h
                      refine lv_tableIn (off := 143) (tgt := 144) hx hb dX7_count_1 (by rw [k10]; decide) (by rw [k10]; decide) (by rw [k10]; rfl) (by decide) ?_
                      refine lv_aload_n hx hb dX7_count_144 rfl (lv_at hl 0 rfl) ?_
                      refine lv_iload_n hx hb dX7_count_145 rfl (lv_at hl 1 rfl) ?_
                      obtain ⟨q15, hq15, h⟩ := obd_e h
                      refine kcV (rest := []) (w2 := ([cX7 a0 g0 o0, cX7_10 cI g0 o0, cX2 (g0 0) g1 o1, cX2_0 cI g1 o1, cX6 (g0 1) g2 o2, cX6_0 cI g2 o2, cX6_1 cI g2 o2, cX6_2 cI g2 o2, cX6_3 cI g2 o2, cX6_4 cI g2 o2, cX6_5 cI g2 o2, cX6_6 cI g2 o2, cX6_7 cI g2 o2, cX5 (g0 3) g3 o3, cX5_5 cI g3 o3, cX5_6 cI g3 o3, cX3 (g0 5) g4 o4, cX3 (g0 6) g5 o5, cX0 (g0 7) g6 o6, cX0_0 cI g6 o6, cX0_1 cI g6 o6])) hx hb hml hown hts hKK hP hD hS hA (c_X7_countNow l dC dI cB cI cZ cO a0 g0 o0 g2 o2 g3 o3 v1 hq15) [0, 1, 4, 5, 6, 7, 8, 9, 10, 11, 12, 13, 14, 15] (atAll_map ⟨rfl, rfl, rfl, rfl, rfl, rfl, rfl, rfl, rfl, rfl, rfl, rfl, rfl, rfl, trivial⟩) (by decide +kernel) (sameAd_map ⟨rfl, rfl, rfl, rfl, rfl, rfl, rfl, rfl, rfl, rfl, rfl, rfl, rfl, rfl, trivial⟩) (atAll_map ⟨rfl, rfl, rfl, rfl, rfl, rfl, rfl, rfl, rfl, rfl, rfl, rfl, rfl, rfl, trivial⟩) (agr_refl _ _ _) (cwV 1 hts gX7_count_X7_countNow rfl rfl rfl ⟨rfl, dsc_X7_countNow⟩ ⟨Nat.le_of_ble_eq_true rfl, Nat.le_of_ble_eq_true rfl⟩) (va_recv hKK.1 hP (ci := 7) (q0 := 0) rfl rfl) rfl hl.1 rfl (Nat.le_of_ble_eq_true rfl) dX7_count_146 ⟨Nat.zero_le _, Nat.zero_le _⟩ (fun H locs hP hD hS => ?_)
                      have h := Option.some.inj h
                      subst h
                      subst hQ
                      exact W.iret (v := q15) hx hb hr (fun t ht hW => ⟨⟨rfl, by rw [ht]; exact hP, hD⟩, hS.F ht⟩) hS.2.2 dX7_count_149
                    · have h := ite_f k10 h
                      by_cases k11 : v1 = (10 : Int32)
                      · have h := ite_t k11 h
                        refine lv_tableIn (off := 111) (tgt := 112) hx hb dX7_count_1 (by rw [k11]; decide) (by rw [k11]; decide) (by rw [k11]; rfl) (by decide) ?_
                        refine lv_aload_n hx hb dX7_count_112 rfl (lv_at hl 0 rfl) ?_
                        refine va_get (D := (dC, dI)) (ci := 7) (v := .ref (g0 7)) (C := RX7) (T := TX7) (N := 11) hx hb hts hiX7 hown hKK.1 hP 0 rfl rfl 7 (by decide) (hts (.fieldLink RX7 51 "SlideLand" "asked" "LSlideLand$Asked;") (List.mem_of_getElem? (i := 5) rfl)) (fun _ h9 => h9) rfl dX7_count_113 ?_
                        refine va_get (D := (dC, dI)) (ci := 0) (v := .int (o6.1 2)) (C := RX0) (T := TX0) (N := 3) hx hb hts hiX0 hown hKK.1 hP 18 rfl rfl 2 (by decide) (hts (.fieldLink RX7 112 "SlideLand$Asked" "size" "I") (List.mem_of_getElem? (i := 6) rfl)) (fun _ h9 => h9) rfl dX7_count_116 ?_
                        have h := Option.some.inj h
                        subst h
                        subst hQ
                        exact W.iret (v := (o6.1 2)) hx hb hr (fun t ht hW => ⟨⟨rfl, by rw [ht]; exact hP, hD⟩, hS.F ht⟩) hS.2.2 dX7_count_119
                      · have h := ite_f k11 h
                        by_cases k12 : v1 = (11 : Int32)
                        · have h := ite_t k12 h
                          refine lv_tableIn (off := 119) (tgt := 120) hx hb dX7_count_1 (by rw [k12]; decide) (by rw [k12]; decide) (by rw [k12]; rfl) (by decide) ?_
                          refine lv_aload_n hx hb dX7_count_120 rfl (lv_at hl 0 rfl) ?_
                          refine va_get (D := (dC, dI)) (ci := 7) (v := .ref (g0 5)) (C := RX7) (T := TX7) (N := 11) hx hb hts hiX7 hown hKK.1 hP 0 rfl rfl 5 (by decide) (hts (.fieldLink RX7 41 "SlideLand" "past" "LSlideLand$Pile;") (List.mem_of_getElem? (i := 7) rfl)) (fun _ h9 => h9) rfl dX7_count_121 ?_
                          refine va_get (D := (dC, dI)) (ci := 3) (v := .int (o4.1 1)) (C := RX3) (T := TX3) (N := 2) hx hb hts hiX3 hown hKK.1 hP 16 rfl rfl 1 (by decide) (hts (.fieldLink RX7 111 "SlideLand$Pile" "size" "I") (List.mem_of_getElem? (i := 8) rfl)) (fun _ h9 => h9) rfl dX7_count_124 ?_
                          have h := Option.some.inj h
                          subst h
                          subst hQ
                          exact W.iret (v := (o4.1 1)) hx hb hr (fun t ht hW => ⟨⟨rfl, by rw [ht]; exact hP, hD⟩, hS.F ht⟩) hS.2.2 dX7_count_127
                        · have h := ite_f k12 h
                          by_cases k13 : v1 = (12 : Int32)
                          · have h := ite_t k13 h
                            refine lv_tableIn (off := 127) (tgt := 128) hx hb dX7_count_1 (by rw [k13]; decide) (by rw [k13]; decide) (by rw [k13]; rfl) (by decide) ?_
                            refine lv_aload_n hx hb dX7_count_128 rfl (lv_at hl 0 rfl) ?_
                            refine va_get (D := (dC, dI)) (ci := 7) (v := .ref (g0 6)) (C := RX7) (T := TX7) (N := 11) hx hb hts hiX7 hown hKK.1 hP 0 rfl rfl 6 (by decide) (hts (.fieldLink RX7 45 "SlideLand" "kept" "LSlideLand$Pile;") (List.mem_of_getElem? (i := 9) rfl)) (fun _ h9 => h9) rfl dX7_count_129 ?_
                            refine va_get (D := (dC, dI)) (ci := 3) (v := .int (o5.1 1)) (C := RX3) (T := TX3) (N := 2) hx hb hts hiX3 hown hKK.1 hP 17 rfl rfl 1 (by decide) (hts (.fieldLink RX7 111 "SlideLand$Pile" "size" "I") (List.mem_of_getElem? (i := 8) rfl)) (fun _ h9 => h9) rfl dX7_count_132 ?_
                            have h := Option.some.inj h
                            subst h
                            subst hQ
                            exact W.iret (v := (o5.1 1)) hx hb hr (fun t ht hW => ⟨⟨rfl, by rw [ht]; exact hP, hD⟩, hS.F ht⟩) hS.2.2 dX7_count_135
                          · have h := ite_f k13 h
                            by_cases k14 : v1 = (13 : Int32)
                            · have h := ite_t k14 h
                              refine lv_tableIn (off := 135) (tgt := 136) hx hb dX7_count_1 (by rw [k14]; decide) (by rw [k14]; decide) (by rw [k14]; rfl) (by decide) ?_
                              refine lv_aload_n hx hb dX7_count_136 rfl (lv_at hl 0 rfl) ?_
                              refine va_get (D := (dC, dI)) (ci := 7) (v := .ref (g0 0)) (C := RX7) (T := TX7) (N := 11) hx hb hts hiX7 hown hKK.1 hP 0 rfl rfl 0 (by decide) (hts (.fieldLink RX7 12 "SlideLand" "text" "LSlideLand$Letters;") (List.mem_of_getElem? (i := 10) rfl)) (fun _ h9 => h9) rfl dX7_count_137 ?_
                              refine va_get (D := (dC, dI)) (ci := 2) (v := .int (o1.1 1)) (C := RX2) (T := TX2) (N := 2) hx hb hts hiX2 hown hKK.1 hP 2 rfl rfl 1 (by decide) (hts (.fieldLink RX7 93 "SlideLand$Letters" "size" "I") (List.mem_of_getElem? (i := 11) rfl)) (fun _ h9 => h9) rfl dX7_count_140 ?_
                              have h := Option.some.inj h
                              subst h
                              subst hQ
                              exact W.iret (v := (o1.1 1)) hx hb hr (fun t ht hW => ⟨⟨rfl, by rw [ht]; exact hP, hD⟩, hS.F ht⟩) hS.2.2 dX7_count_143
                            · have h := ite_f k14 h
                              refine lv_tableOut (tgt := 144) hx hb dX7_count_1 (sw_out [0, 1, 2, 3, 4, 5, 6, 7, 8, 9, 10, 11, 12, 13] (by decide) (List.forall_mem_cons.mpr ⟨sw_ne k1 (by decide), (List.forall_mem_cons.mpr ⟨sw_ne k2 (by decide), (List.forall_mem_cons.mpr ⟨sw_ne k3 (by decide), (List.forall_mem_cons.mpr ⟨sw_ne k4 (by decide), (List.forall_mem_cons.mpr ⟨sw_ne k5 (by decide), (List.forall_mem_cons.mpr ⟨sw_ne k6 (by decide), (List.forall_mem_cons.mpr ⟨sw_ne k7 (by decide), (List.forall_mem_cons.mpr ⟨sw_ne k8 (by decide), (List.forall_mem_cons.mpr ⟨sw_ne k9 (by decide), (List.forall_mem_cons.mpr ⟨sw_ne k10 (by decide), (List.forall_mem_cons.mpr ⟨sw_ne k11 (by decide), (List.forall_mem_cons.mpr ⟨sw_ne k12 (by decide), (List.forall_mem_cons.mpr ⟨sw_ne k13 (by decide), (List.forall_mem_cons.mpr ⟨sw_ne k14 (by decide), (fun _ h => absurd h List.not_mem_nil)⟩)⟩)⟩)⟩)⟩)⟩)⟩)⟩)⟩)⟩)⟩)⟩)⟩)⟩)) (by decide) ?_
                              refine lv_aload_n hx hb dX7_count_144 rfl (lv_at hl 0 rfl) ?_
                              refine lv_iload_n hx hb dX7_count_145 rfl (lv_at hl 1 rfl) ?_
                              obtain ⟨q15, hq15, h⟩ := obd_e h
                              refine kcV (rest := []) (w2 := ([cX7 a0 g0 o0, cX7_10 cI g0 o0, cX2 (g0 0) g1 o1, cX2_0 cI g1 o1, cX6 (g0 1) g2 o2, cX6_0 cI g2 o2, cX6_1 cI g2 o2, cX6_2 cI g2 o2, cX6_3 cI g2 o2, cX6_4 cI g2 o2, cX6_5 cI g2 o2, cX6_6 cI g2 o2, cX6_7 cI g2 o2, cX5 (g0 3) g3 o3, cX5_5 cI g3 o3, cX5_6 cI g3 o3, cX3 (g0 5) g4 o4, cX3 (g0 6) g5 o5, cX0 (g0 7) g6 o6, cX0_0 cI g6 o6, cX0_1 cI g6 o6])) hx hb hml hown hts hKK hP hD hS hA (c_X7_countNow l dC dI cB cI cZ cO a0 g0 o0 g2 o2 g3 o3 v1 hq15) [0, 1, 4, 5, 6, 7, 8, 9, 10, 11, 12, 13, 14, 15] (atAll_map ⟨rfl, rfl, rfl, rfl, rfl, rfl, rfl, rfl, rfl, rfl, rfl, rfl, rfl, rfl, trivial⟩) (by decide +kernel) (sameAd_map ⟨rfl, rfl, rfl, rfl, rfl, rfl, rfl, rfl, rfl, rfl, rfl, rfl, rfl, rfl, trivial⟩) (atAll_map ⟨rfl, rfl, rfl, rfl, rfl, rfl, rfl, rfl, rfl, rfl, rfl, rfl, rfl, rfl, trivial⟩) (agr_refl _ _ _) (cwV 1 hts gX7_count_X7_countNow rfl rfl rfl ⟨rfl, dsc_X7_countNow⟩ ⟨Nat.le_of_ble_eq_true rfl, Nat.le_of_ble_eq_true rfl⟩) (va_recv hKK.1 hP (ci := 7) (q0 := 0) rfl rfl) rfl hl.1 rfl (Nat.le_of_ble_eq_true rfl) dX7_count_146 ⟨Nat.zero_le _, Nat.zero_le _⟩ (fun H locs hP hD hS => ?_)
                              have h := Option.some.inj h
                              subst h
                              subst hQ
                              exact W.iret (v := q15) hx hb hr (fun t ht hW => ⟨⟨rfl, by rw [ht]; exact hP, hD⟩, hS.F ht⟩) hS.2.2 dX7_count_149
