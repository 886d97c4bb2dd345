def f_X5_placeOf_23 (o0 : Ob) (o1 : Ob) (v2 : Int32) (y23_0 : Int32) : Option (Int32) := (f_X7_cell 7 (o1.2 3) v2).bind fun q2 : Int32 => (f_X6_dampInch o1 q2 (o0.1 3)).bind fun q3 : Int32 => some (q3 + y23_0)
def f_X5_placeOf (o0 : Ob) (o1 : Ob) (v2 : Int32) : Option (Int32) := (f_X7_cell 7 (o1.2 2) v2).bind fun q1 : Int32 => if q1 = (3 : Int32) then (f_X5_placeOf_23 o0 o1 v2 (o0.1 1)) else (f_X5_placeOf_23 o0 o1 v2 (o0.1 0))
abbrev rmX5_placeOf : Room := { frames := 2, cells := 0, slots := 0, locals := 44 }
theorem dsc_X5_placeOf : yX5_placeOf.cls ≠ "java/lang/invoke/MethodHandle" ∧ yX5_placeOf.cls ≠ "java/lang/invoke/VarHandle" ∧ (parseMethodDescriptor yX5_placeOf.desc).map (fun d => d.parameters.length) = some 2 := by decide +kernel
set_option maxHeartbeats 4000000 in
set_option maxRecDepth 100000 in
theorem c_X5_placeOf (l : Launch) (dC : Nat → ClassId) (dI : Nat → Nat → Nat) (cB cI cZ cO : ClassId) (a0 : Nat) (g0 : Nat → Nat) (o0 : Ob) (a1 : Nat) (g1 : Nat → Nat) (o1 : Ob) (v2 : Int32) {r : Int32} (h : f_X5_placeOf o0 o1 v2 = some r) : Ct dC dI cB cI cZ cO l yX5_placeOf wsX5_placeOf rmX5_placeOf [.ref a0, .ref a1, .int v2] ([cX5 a0 g0 o0, cX5_5 cI g0 o0, cX5_6 cI g0 o0, cX6 a1 g1 o1, cX6_0 cI g1 o1, cX6_1 cI g1 o1, cX6_2 cI g1 o1, cX6_3 cI g1 o1, cX6_4 cI g1 o1, cX6_5 cI g1 o1, cX6_6 cI g1 o1, cX6_7 cI g1 o1]) (some (.int r)) ([cX5 a0 g0 o0, cX5_5 cI g0 o0, cX5_6 cI g0 o0, cX6 a1 g1 o1, cX6_0 cI g1 o1, cX6_1 cI g1 o1, cX6_2 cI g1 o1, cX6_3 cI g1 o1, cX6_4 cI g1 o1, cX6_5 cI g1 o1, cX6_6 cI g1 o1, cX6_7 cI g1 o1]) := by
  intro sz
  refine Met.ofW (cc := cX5_placeOf) (maxL := 4) (ret := (some .int)) (by decide) rfl ?_
  intro p e s m args below meth c s₁ B hml hv
  obtain ⟨rfl, hsz, hP, hKK, hD0⟩ := hv
  have hx := B.exec
  have hb := B.bytes
  have hr := B.returns
  have hts := atoms_spec (ws := wsX5_placeOf) B.pre
  have hown : s.vm.findClass RX5 = some m.cls := findClass_of_methodNamed B.named
  have hlocks := B.notSynchronized
  have hiX6 : ∀ w ∈ u_ws RX6 TX6 11, w ∈ wsX5_placeOf := fun w h => List.mem_cons_of_mem _ (List.mem_append_left _ (List.mem_append_right _ h))
  have hiX5 : ∀ w ∈ u_ws RX5 TX5 7, w ∈ wsX5_placeOf := fun w h => List.mem_cons_of_mem _ (List.mem_append_right _ h)
  subst hsz
  have hD := hD0.self (sz := s.heap.size)
  generalize hAe : va_A ([cX5 a0 g0 o0, cX5_5 cI g0 o0, cX5_6 cI g0 o0, cX6 a1 g1 o1, cX6_0 cI g1 o1, cX6_1 cI g1 o1, cX6_2 cI g1 o1, cX6_3 cI g1 o1, cX6_4 cI g1 o1, cX6_5 cI g1 o1, cX6_6 cI g1 o1, cX6_7 cI g1 o1]) s.heap.size = A at hD ⊢
  have hA : ∀ q : Nat, s.heap.size ≤ q → A q := fun q h => by rw [← hAe]; exact Or.inr h
  have hS : va_S A s.heap s.heap [] := va_S.rf
  have hP : va_P (dC, dI) vwCl ([cX5 a0 g0 o0, cX5_5 cI g0 o0, cX5_6 cI g0 o0, cX6 a1 g1 o1, cX6_0 cI g1 o1, cX6_1 cI g1 o1, cX6_2 cI g1 o1, cX6_3 cI g1 o1, cX6_4 cI g1 o1, cX6_5 cI g1 o1, cX6_6 cI g1 o1, cX6_7 cI g1 o1]) s.heap := hP
  have hD : va_D A ([cX5 a0 g0 o0, cX5_5 cI g0 o0, cX5_6 cI g0 o0, cX6 a1 g1 o1, cX6_0 cI g1 o1, cX6_1 cI g1 o1, cX6_2 cI g1 o1, cX6_3 cI g1 o1, cX6_4 cI g1 o1, cX6_5 cI g1 o1, cX6_6 cI g1 o1, cX6_7 cI g1 o1]) := hD
  have hl := lv_entry ([.ref a0, .ref a1, .int v2]) (n := 4) (Nat.le_of_ble_eq_true rfl)
  rw [lg_entry_eq]
  generalize (lg_sl ([.ref a0, .ref a1, .int v2]) ++ List.replicate (4 - (lg_sl ([.ref a0, .ref a1, .int v2])).length) Slot.unset).toArray = ls at hl ⊢
  have hl : lv_has ls 4 [(0, .ref a0), (1, .ref a1), (2, .int v2)] := hl
  obtain ⟨Q, hQ⟩ : ∃ Q, Q = MQ below (Qq dC dI (some (.int r)) ([cX5 a0 g0 o0, cX5_5 cI g0 o0, cX5_6 cI g0 o0, cX6 a1 g1 o1, cX6_0 cI g1 o1, cX6_1 cI g1 o1, cX6_2 cI g1 o1, cX6_3 cI g1 o1, cX6_4 cI g1 o1, cX6_5 cI g1 o1, cX6_6 cI g1 o1, cX6_7 cI g1 o1]) A) ([.ref a0, .ref a1, .int v2] : List Value).toArray s 0 0 A := ⟨_, rfl⟩
  rw [← hQ]
  rw [f_X5_placeOf] at h
  clear hAe hD0
  refine lv_aload_n hx hb dX5_placeOf_0 rfl (lv_at hl 1 rfl) ?_
  refine va_get (D := (dC, dI)) (ci := 6) (v := .ref (g1 2)) (C := RX6) (T := TX6) (N := 11) hx hb hts hiX6 hown hKK.1 hP 3 rfl rfl 2 (by decide) (hts (.fieldLink RX5 47 "SlideLand$Told" "kind" "[I") (List.mem_of_getElem? (i := 1) rfl)) (fun _ h9 => h9) rfl dX5_placeOf_1 ?_
  refine lv_iload_n hx hb dX5_placeOf_4 rfl (lv_at hl 2 rfl) ?_
  obtain ⟨q1, hq1, h⟩ := obd_e h
  refine kcN (rest := []) (w2 := ([cX5 a0 g0 o0, cX5_5 cI g0 o0, cX5_6 cI g0 o0, cX6 a1 g1 o1, cX6_0 cI g1 o1, cX6_1 cI g1 o1, cX6_2 cI g1 o1, cX6_3 cI g1 o1, cX6_4 cI g1 o1, cX6_5 cI g1 o1, cX6_6 cI g1 o1, cX6_7 cI g1 o1])) hx hb hml hown hts hKK hP hD hS hA (c_X7_cell l dC dI cB cI cZ cO (g1 2) 7 (o1.2 2) v2 hq1) [6] (atAll_map ⟨rfl, trivial⟩) (by decide +kernel) (sameAd_map ⟨rfl, trivial⟩) (atAll_map ⟨rfl, trivial⟩) (agr_refl _ _ _) ⟨va_cnB 2 hts gX5_placeOf_X7_cell_n50 rfl rfl rfl (hKK.2 _ (nws_in 8 rfl)) (hts (.initialized RX7) (List.mem_of_getElem? (i := 7) rfl)) dsc_X7_cell ⟨Nat.le_of_ble_eq_true rfl, Nat.le_of_ble_eq_true rfl⟩, hts (.static yX7_cell) (List.mem_of_getElem? (i := 6) rfl), trivial⟩ rfl hl.1 rfl (Nat.le_of_ble_eq_true rfl) dX5_placeOf_5 ⟨Nat.zero_le _, Nat.zero_le _⟩ (fun H locs hP hD hS => ?_)
  refine lv_iconst (v := (3 : Int32)) hx hb dX5_placeOf_8 (by decide) ?_
  have jn23 : ∀ (y23_0 : Int32), f_X5_placeOf_23 o0 o1 v2 y23_0 = some r → ∀ (H : Heap) (locs : List Loc) (ls : Array Slot), va_P (dC, dI) vwCl ([cX5 a0 g0 o0, cX5_5 cI g0 o0, cX5_6 cI g0 o0, cX6 a1 g1 o1, cX6_0 cI g1 o1, cX6_1 cI g1 o1, cX6_2 cI g1 o1, cX6_3 cI g1 o1, cX6_4 cI g1 o1, cX6_5 cI g1 o1, cX6_6 cI g1 o1, cX6_7 cI g1 o1]) H → va_D A ([cX5 a0 g0 o0, cX5_5 cI g0 o0, cX5_6 cI g0 o0, cX6 a1 g1 o1, cX6_0 cI g1 o1, cX6_1 cI g1 o1, cX6_2 cI g1 o1, cX6_3 cI g1 o1, cX6_4 cI g1 o1, cX6_5 cI g1 o1, cX6_6 cI g1 o1, cX6_7 cI g1 o1]) → va_S A s.heap H locs → lv_has ls 4 [(0, .ref a0), (1, .ref a1), (2, .int v2)] → W p l e (headSpec wsX5_placeOf rmX5_placeOf).room s m ([.ref a0, .ref a1, .int v2] : List Value).toArray below meth c H locs 0 0 Q (F0 m 23 ls [.int y23_0]) := by
    intro y23_0 h H locs ls hP hD hS hl
    rw [f_X5_placeOf_23] at h
    refine lv_istore_n (lv' := [(3, .int y23_0), (0, .ref a0), (1, .ref a1), (2, .int v2)]) hx hb dX5_placeOf_23 rfl hl (by decide) rfl (fun ls hl => ?_)
    refine lv_aload_n hx hb dX5_placeOf_24 rfl (lv_at hl 2 rfl) ?_
    refine lv_aload_n hx hb dX5_placeOf_25 rfl (lv_at hl 2 rfl) ?_
    refine va_get (D := (dC, dI)) (ci := 6) (v := .ref (g1 3)) (C := RX6) (T := TX6) (N := 11) hx hb hts hiX6 hown hKK.1 hP 3 rfl rfl 3 (by decide) (hts (.fieldLink RX5 54 "SlideLand$Told" "stripInch" "[I") (List.mem_of_getElem? (i := 4) rfl)) (fun _ h9 => h9) rfl dX5_placeOf_26 ?_
    refine lv_iload_n hx hb dX5_placeOf_29 rfl (lv_at hl 3 rfl) ?_
    obtain ⟨q2, hq2, h⟩ := obd_e h
    refine kcN (rest := [.ref a1]) (w2 := ([cX5 a0 g0 o0, cX5_5 cI g0 o0, cX5_6 cI g0 o0, cX6 a1 g1 o1, cX6_0 cI g1 o1, cX6_1 cI g1 o1, cX6_2 cI g1 o1, cX6_3 cI g1 o1, cX6_4 cI g1 o1, cX6_5 cI g1 o1, cX6_6 cI g1 o1, cX6_7 cI g1 o1])) hx hb hml hown hts hKK hP hD hS hA (c_X7_cell l dC dI cB cI cZ cO (g1 3) 7 (o1.2 3) v2 hq2) [7] (atAll_map ⟨rfl, trivial⟩) (by decide +kernel) (sameAd_map ⟨rfl, trivial⟩) (atAll_map ⟨rfl, trivial⟩) (agr_refl _ _ _) ⟨va_cnB 2 hts gX5_placeOf_X7_cell_n50 rfl rfl rfl (hKK.2 _ (nws_in 8 rfl)) (hts (.initialized RX7) (List.mem_of_getElem? (i := 7) rfl)) dsc_X7_cell ⟨Nat.le_of_ble_eq_true rfl, Nat.le_of_ble_eq_true rfl⟩, hts (.static yX7_cell) (List.mem_of_getElem? (i := 6) rfl), trivial⟩ rfl hl.1 rfl (Nat.le_of_ble_eq_true rfl) dX5_placeOf_30 ⟨Nat.zero_le _, Nat.zero_le _⟩ (fun H locs hP hD hS => ?_)
    refine lv_aload_n hx hb dX5_placeOf_33 rfl (lv_at hl 1 rfl) ?_
    refine va_get (D := (dC, dI)) (ci := 5) (v := .int (o0.1 3)) (C := RX5) (T := TX5) (N := 7) hx hb hts hiX5 hown hKK.1 hP 0 rfl rfl 3 (by decide) (hts (.fieldLink RX5 28 "SlideLand$Stand" "year" "I") (List.mem_of_getElem? (i := 5) rfl)) (fun _ h9 => h9) rfl dX5_placeOf_34 ?_
    obtain ⟨q3, hq3, h⟩ := obd_e h
    refine kcV (rest := []) (w2 := ([cX5 a0 g0 o0, cX5_5 cI g0 o0, cX5_6 cI g0 o0, cX6 a1 g1 o1, cX6_0 cI g1 o1, cX6_1 cI g1 o1, cX6_2 cI g1 o1, cX6_3 cI g1 o1, cX6_4 cI g1 o1, cX6_5 cI g1 o1, cX6_6 cI g1 o1, cX6_7 cI g1 o1])) hx hb hml hown hts hKK hP hD hS hA (c_X6_dampInch l dC dI cB cI cZ cO a1 g1 o1 q2 (o0.1 3) hq3) [3, 4, 5, 6, 7, 8, 9, 10, 11] (atAll_map ⟨rfl, rfl, rfl, rfl, rfl, rfl, rfl, rfl, rfl, trivial⟩) (by decide +kernel) (sameAd_map ⟨rfl, rfl, rfl, rfl, rfl, rfl, rfl, rfl, rfl, trivial⟩) (atAll_map ⟨rfl, rfl, rfl, rfl, rfl, rfl, rfl, rfl, rfl, trivial⟩) (agr_refl _ _ _) (cwV 2 hts gX5_placeOf_X6_dampInch rfl rfl rfl ⟨rfl, dsc_X6_dampInch⟩ ⟨Nat.le_of_ble_eq_true rfl, Nat.le_of_ble_eq_true rfl⟩) (va_recv hKK.1 hP (ci := 6) (q0 := 3) rfl rfl) rfl hl.1 rfl (Nat.le_of_ble_eq_true rfl) dX5_placeOf_37 ⟨Nat.zero_le _, Nat.zero_le _⟩ (fun H locs hP hD hS => ?_)
    refine lv_iload_n hx hb dX5_placeOf_40 rfl (lv_at hl 0 rfl) ?_
    refine lv_iadd hx hb dX5_placeOf_41 ?_
    have h := Option.some.inj h
    subst h
    subst hQ
    exact W.iret (v := (q3 + y23_0)) hx hb hr (fun t ht hW => ⟨⟨rfl, by rw [ht]; exact hP, hD⟩, hS.F ht⟩) hS.2.2 dX5_placeOf_42
  refine lv_icmp_ne (tgt := 19) hx hb dX5_placeOf_9 (by decide) (fun k4 => ?_) (fun k4 => ?_)
  · have h := ite_f k4 h
    refine lv_aload_n hx hb dX5_placeOf_19 rfl (lv_at hl 0 rfl) ?_
    refine va_get (D := (dC, dI)) (ci := 5) (v := .int (o0.1 0)) (C := RX5) (T := TX5) (N := 7) hx hb hts hiX5 hown hKK.1 hP 0 rfl rfl 0 (by decide) (hts (.fieldLink RX5 18 "SlideLand$Stand" "shift" "I") (List.mem_of_getElem? (i := 3) rfl)) (fun _ h9 => h9) rfl dX5_placeOf_20 ?_
    exact jn23 (o0.1 0) h _ _ _ hP hD hS (lv_sub hl [0, 1, 2] rfl)
  · have h := ite_t k4 h
    refine lv_aload_n hx hb dX5_placeOf_12 rfl (lv_at hl 0 rfl) ?_
    refine va_get (D := (dC, dI)) (ci := 5) (v := .int (o0.1 1)) (C := RX5) (T := TX5) (N := 7) hx hb hts hiX5 hown hKK.1 hP 0 rfl rfl 1 (by decide) (hts (.fieldLink RX5 22 "SlideLand$Stand" "before" "I") (List.mem_of_getElem? (i := 2) rfl)) (fun _ h9 => h9) rfl dX5_placeOf_13 ?_
    refine lv_goto (tgt := 23) hx hb dX5_placeOf_16 (by decide) ?_
    exact jn23 (o0.1 1) h _ _ _ hP hD hS (lv_sub hl [0, 1, 2] rfl)
def f_X0_allSo_2 (o0 : Ob) (o1 : Ob) (o2 : Ob) : Nat → Int32 → Option (Bool)
  | 0, _ => none
  | nn2+1, x2_3 => if (o0.1 2) ≤ x2_3 then (some true) else ((f_X7_cell 6 (o0.2 0) x2_3).bind fun q2 : Int32 => (f_X7_cell 7 (o1.2 2) q2).bind fun q3 : Int32 => (f_X5_placeOf o2 o1 q2).bind fun q4 : Int32 => (f_X7_cell 6 (o0.2 1) x2_3).bind fun q5 : Int32 => (f_X7_cell 12 (o1.2 0) q5).bind fun q6 : Int32 => bnd (f_X7_meet q3 (q4 - q6)) fun q7 : Bool => if (b2i q7) = 0 then (some false) else (bnd (x2_3 + (1 : Int32)) fun x9 : Int32 => (f_X0_allSo_2 o0 o1 o2 nn2) x9))
def f_X0_allSo (o0 : Ob) (o1 : Ob) (o2 : Ob) : Option (Bool) := f_X0_allSo_2 o0 o1 o2 FU (0 : Int32)
abbrev rmX0_allSo : Room := { frames := 3, cells := 0, slots := 0, locals := 67 }
theorem dsc_X0_allSo : yX0_allSo.cls ≠ "java/lang/invoke/MethodHandle" ∧ yX0_allSo.cls ≠ "java/lang/invoke/VarHandle" ∧ (parseMethodDescriptor yX0_allSo.desc).map (fun d => d.parameters.length) = some 2 := by decide +kernel
set_option maxHeartbeats 4000000 in
set_option maxRecDepth 100000 in
theorem c_X0_allSo (l : Launch) (dC : Nat → ClassId) (dI : Nat → Nat → Nat) (cB cI cZ cO : ClassId) (a0 : Nat) (g0 : Nat → Nat) (o0 : Ob) (a1 : Nat) (g1 : Nat → Nat) (o1 : Ob) (a2 : Nat) (g2 : Nat → Nat) (o2 : Ob) {r : Bool} (h : f_X0_allSo o0 o1 o2 = some r) : Ct dC dI cB cI cZ cO l yX0_allSo wsX0_allSo rmX0_allSo [.ref a0, .ref a1, .ref a2] ([cX0 a0 g0 o0, cX0_0 cI g0 o0, cX0_1 cI g0 o0, cX6 a1 g1 o1, cX6_0 cI g1 o1, cX6_1 cI g1 o1, cX6_2 cI g1 o1, cX6_3 cI g1 o1, cX6_4 cI g1 o1, cX6_5 cI g1 o1, cX6_6 cI g1 o1, cX6_7 cI g1 o1, cX5 a2 g2 o2, cX5_5 cI g2 o2, cX5_6 cI g2 o2]) (some (.int (b2i r))) ([cX0 a0 g0 o0, cX0_0 cI g0 o0, cX0_1 cI g0 o0, cX6 a1 g1 o1, cX6_0 cI g1 o1, cX6_1 cI g1 o1, cX6_2 cI g1 o1, cX6_3 cI g1 o1, cX6_4 cI g1 o1, cX6_5 cI g1 o1, cX6_6 cI g1 o1, cX6_7 cI g1 o1, cX5 a2 g2 o2, cX5_5 cI g2 o2, cX5_6 cI g2 o2]) := by
  intro sz
  refine Met.ofW (cc := cX0_allSo) (maxL := 5) (ret := (some .boolean)) (by decide) rfl ?_
  intro p e s m args below meth c s₁ B hml hv
  obtain ⟨rfl, hsz, hP, hKK, hD0⟩ := hv
  have hx := B.exec
  have hb := B.bytes
  have hr := B.returns
  have hts := atoms_spec (ws := wsX0_allSo) B.pre
  have hown : s.vm.findClass RX0 = some m.cls := findClass_of_methodNamed B.named
  have hlocks := B.notSynchronized
  have hiX0 : ∀ w ∈ u_ws RX0 TX0 3, w ∈ wsX0_allSo := fun w h => List.mem_cons_of_mem _ (List.mem_append_left _ (List.mem_append_left _ (List.mem_append_right _ h)))
  have hiX6 : ∀ w ∈ u_ws RX6 TX6 11, w ∈ wsX0_allSo := fun w h => List.mem_cons_of_mem _ (List.mem_append_left _ (List.mem_append_right _ h))
  subst hsz
  have hD := hD0.self (sz := s.heap.size)
  generalize hAe : va_A ([cX0 a0 g0 o0, cX0_0 cI g0 o0, cX0_1 cI g0 o0, cX6 a1 g1 o1, cX6_0 cI g1 o1, cX6_1 cI g1 o1, cX6_2 cI g1 o1, cX6_3 cI g1 o1, cX6_4 cI g1 o1, cX6_5 cI g1 o1, cX6_6 cI g1 o1, cX6_7 cI g1 o1, cX5 a2 g2 o2, cX5_5 cI g2 o2, cX5_6 cI g2 o2]) s.heap.size = A at hD ⊢
  have hA : ∀ q : Nat, s.heap.size ≤ q → A q := fun q h => by rw [← hAe]; exact Or.inr h
  have hS : va_S A s.heap s.heap [] := va_S.rf
  have hP : va_P (dC, dI) vwCl ([cX0 a0 g0 o0, cX0_0 cI g0 o0, cX0_1 cI g0 o0, cX6 a1 g1 o1, cX6_0 cI g1 o1, cX6_1 cI g1 o1, cX6_2 cI g1 o1, cX6_3 cI g1 o1, cX6_4 cI g1 o1, cX6_5 cI g1 o1, cX6_6 cI g1 o1, cX6_7 cI g1 o1, cX5 a2 g2 o2, cX5_5 cI g2 o2, cX5_6 cI g2 o2]) s.heap := hP
  have hD : va_D A ([cX0 a0 g0 o0, cX0_0 cI g0 o0, cX0_1 cI g0 o0, cX6 a1 g1 o1, cX6_0 cI g1 o1, cX6_1 cI g1 o1, cX6_2 cI g1 o1, cX6_3 cI g1 o1, cX6_4 cI g1 o1, cX6_5 cI g1 o1, cX6_6 cI g1 o1, cX6_7 cI g1 o1, cX5 a2 g2 o2, cX5_5 cI g2 o2, cX5_6 cI g2 o2]) := hD
  have hl := lv_entry ([.ref a0, .ref a1, .ref a2]) (n := 5) (Nat.le_of_ble_eq_true rfl)
  rw [lg_entry_eq]
  generalize (lg_sl ([.ref a0, .ref a1, .ref a2]) ++ List.replicate (5 - (lg_sl ([.ref a0, .ref a1, .ref a2])).length) Slot.unset).toArray = ls at hl ⊢
  have hl : lv_has ls 5 [(0, .ref a0), (1, .ref a1), (2, .ref a2)] := hl
  obtain ⟨Q, hQ⟩ : ∃ Q, Q = MQ below (Qq dC dI (some (.int (b2i r))) ([cX0 a0 g0 o0, cX0_0 cI g0 o0, cX0_1 cI g0 o0, cX6 a1 g1 o1, cX6_0 cI g1 o1, cX6_1 cI g1 o1, cX6_2 cI g1 o1, cX6_3 cI g1 o1, cX6_4 cI g1 o1, cX6_5 cI g1 o1, cX6_6 cI g1 o1, cX6_7 cI g1 o1, cX5 a2 g2 o2, cX5_5 cI g2 o2, cX5_6 cI g2 o2]) A) ([.ref a0, .ref a1, .ref a2] : List Value).toArray s 0 0 A := ⟨_, rfl⟩
  rw [← hQ]
  rw [f_X0_allSo] at h
  clear hAe hD0
  refine lv_iconst (v := (0 : Int32)) hx hb dX0_allSo_0 (by decide) ?_
  refine lv_istore_n (lv' := [(3, .int (0 : Int32)), (0, .ref a0), (1, .ref a1), (2, .ref a2)]) hx hb dX0_allSo_1 rfl hl (by decide) rfl (fun ls hl => ?_)
  have lp2 : ∀ (nn2 : Nat) (x2_3 : Int32), f_X0_allSo_2 o0 o1 o2 nn2 x2_3 = some r → ∀ (H : Heap) (locs : List Loc) (ls : Array Slot), va_P (dC, dI) vwCl ([cX0 a0 g0 o0, cX0_0 cI g0 o0, cX0_1 cI g0 o0, cX6 a1 g1 o1, cX6_0 cI g1 o1, cX6_1 cI g1 o1, cX6_2 cI g1 o1, cX6_3 cI g1 o1, cX6_4 cI g1 o1, cX6_5 cI g1 o1, cX6_6 cI g1 o1, cX6_7 cI g1 o1, cX5 a2 g2 o2, cX5_5 cI g2 o2, cX5_6 cI g2 o2]) H → va_D A ([cX0 a0 g0 o0, cX0_0 cI g0 o0, cX0_1 cI g0 o0, cX6 a1 g1 o1, cX6_0 cI g1 o1, cX6_1 cI g1 o1, cX6_2 cI g1 o1, cX6_3 cI g1 o1, cX6_4 cI g1 o1, cX6_5 cI g1 o1, cX6_6 cI g1 o1, cX6_7 cI g1 o1, cX5 a2 g2 o2, cX5_5 cI g2 o2, cX5_6 cI g2 o2]) → va_S A s.heap H locs → lv_has ls 5 [(0, .ref a0), (1, .ref a1), (2, .ref a2), (3, .int x2_3)] → W p l e (headSpec wsX0_allSo rmX0_allSo).room s m ([.ref a0, .ref a1, .ref a2] : List Value).toArray below meth c H locs 0 0 Q (F0 m 2 ls []) := by
    intro nn2
    induction nn2 with
    | zero => intro x2_3 h; rw [f_X0_allSo_2] at h; cases h
    | succ nn2 ih2 =>
      intro x2_3 h H locs ls hP hD hS hl
      rw [f_X0_allSo_2] at h
      refine lv_iload_n hx hb dX0_allSo_2 rfl (lv_at hl 3 rfl) ?_
      refine lv_aload_n hx hb dX0_allSo_3 rfl (lv_at hl 0 rfl) ?_
      refine va_get (D := (dC, dI)) (ci := 0) (v := .int (o0.1 2)) (C := RX0) (T := TX0) (N := 3) hx hb hts hiX0 hown hKK.1 hP 0 rfl rfl 2 (by decide) (hts (.fieldLink RX0 18 "SlideLand$Asked" "size" "I") (List.mem_of_getElem? (i := 1) rfl)) (fun _ h9 => h9) rfl dX0_allSo_4 ?_
      refine lv_icmp_ge (tgt := 66) hx hb dX0_allSo_7 (by decide) (fun k1 => ?_) (fun k1 => ?_)
      · have h := ite_t k1 h
        refine lv_iconst (v := (1 : Int32)) hx hb dX0_allSo_66 (by decide) ?_
        have h := Option.some.inj h
        subst h
        subst hQ
        exact W.zret (v := (1 : Int32)) hx hb hr rfl (fun t ht hW => ⟨⟨rfl, by rw [ht]; exact hP, hD⟩, hS.F ht⟩) hS.2.2 dX0_allSo_67
      · have h := ite_f k1 h
        refine lv_aload_n hx hb dX0_allSo_10 rfl (lv_at hl 0 rfl) ?_
        refine va_get (D := (dC, dI)) (ci := 0) (v := .ref (g0 0)) (C := RX0) (T := TX0) (N := 3) hx hb hts hiX0 hown hKK.1 hP 0 rfl rfl 0 (by decide) (hts (.fieldLink RX0 9 "SlideLand$Asked" "strip" "[I") (List.mem_of_getElem? (i := 2) rfl)) (fun _ h9 => h9) rfl dX0_allSo_11 ?_
        refine lv_iload_n hx hb dX0_allSo_14 rfl (lv_at hl 3 rfl) ?_
        obtain ⟨q2, hq2, h⟩ := obd_e h
        refine kcN (rest := []) (w2 := ([cX0 a0 g0 o0, cX0_0 cI g0 o0, cX0_1 cI g0 o0, cX6 a1 g1 o1, cX6_0 cI g1 o1, cX6_1 cI g1 o1, cX6_2 cI g1 o1, cX6_3 cI g1 o1, cX6_4 cI g1 o1, cX6_5 cI g1 o1, cX6_6 cI g1 o1, cX6_7 cI g1 o1, cX5 a2 g2 o2, cX5_5 cI g2 o2, cX5_6 cI g2 o2])) hx hb hml hown hts hKK hP hD hS hA (c_X7_cell l dC dI cB cI cZ cO (g0 0) 6 (o0.2 0) x2_3 hq2) [1] (atAll_map ⟨rfl, trivial⟩) (by decide +kernel) (sameAd_map ⟨rfl, trivial⟩) (atAll_map ⟨rfl, trivial⟩) (agr_refl _ _ _) ⟨va_cnB 2 hts gX0_allSo_X7_cell_n26 rfl rfl rfl (hKK.2 _ (nws_in 14 rfl)) (hts (.initialized RX7) (List.mem_of_getElem? (i := 7) rfl)) dsc_X7_cell ⟨Nat.le_of_ble_eq_true rfl, Nat.le_of_ble_eq_true rfl⟩, hts (.static yX7_cell) (List.mem_of_getElem? (i := 6) rfl), trivial⟩ rfl hl.1 rfl (Nat.le_of_ble_eq_true rfl) dX0_allSo_15 ⟨Nat.zero_le _, Nat.zero_le _⟩ (fun H locs hP hD hS => ?_)
        refine lv_istore (lv' := [(4, .int q2), (0, .ref a0), (1, .ref a1), (2, .ref a2), (3, .int x2_3)]) hx hb dX0_allSo_18 hl (by decide) rfl (fun ls hl => ?_)
        refine lv_aload_n hx hb dX0_allSo_20 rfl (lv_at hl 2 rfl) ?_
        refine va_get (D := (dC, dI)) (ci := 6) (v := .ref (g1 2)) (C := RX6) (T := TX6) (N := 11) hx hb hts hiX6 hown hKK.1 hP 3 rfl rfl 2 (by decide) (hts (.fieldLink RX0 30 "SlideLand$Told" "kind" "[I") (List.mem_of_getElem? (i := 3) rfl)) (fun _ h9 => h9) rfl dX0_allSo_21 ?_
        refine lv_iload hx hb dX0_allSo_24 (lv_at hl 0 rfl) ?_
        obtain ⟨q3, hq3, h⟩ := obd_e h
        refine kcN (rest := []) (w2 := ([cX0 a0 g0 o0, cX0_0 cI g0 o0, cX0_1 cI g0 o0, cX6 a1 g1 o1, cX6_0 cI g1 o1, cX6_1 cI g1 o1, cX6_2 cI g1 o1, cX6_3 cI g1 o1, cX6_4 cI g1 o1, cX6_5 cI g1 o1, cX6_6 cI g1 o1, cX6_7 cI g1 o1, cX5 a2 g2 o2, cX5_5 cI g2 o2, cX5_6 cI g2 o2])) hx hb hml hown hts hKK hP hD hS hA (c_X7_cell l dC dI cB cI cZ cO (g1 2) 7 (o1.2 2) q2 hq3) [6] (atAll_map ⟨rfl, trivial⟩) (by decide +kernel) (sameAd_map ⟨rfl, trivial⟩) (atAll_map ⟨rfl, trivial⟩) (agr_refl _ _ _) ⟨va_cnB 2 hts gX0_allSo_X7_cell_n26 rfl rfl rfl (hKK.2 _ (nws_in 14 rfl)) (hts (.initialized RX7) (List.mem_of_getElem? (i := 7) rfl)) dsc_X7_cell ⟨Nat.le_of_ble_eq_true rfl, Nat.le_of_ble_eq_true rfl⟩, hts (.static yX7_cell) (List.mem_of_getElem? (i := 6) rfl), trivial⟩ rfl hl.1 rfl (Nat.le_of_ble_eq_true rfl) dX0_allSo_26 ⟨Nat.zero_le _, Nat.zero_le _⟩ (fun H locs hP hD hS => ?_)
        refine lv_aload_n hx hb dX0_allSo_29 rfl (lv_at hl 3 rfl) ?_
        refine lv_aload_n hx hb dX0_allSo_30 rfl (lv_at hl 2 rfl) ?_
        refine lv_iload hx hb dX0_allSo_31 (lv_at hl 0 rfl) ?_
        obtain ⟨q4, hq4, h⟩ := obd_e h
        refine kcV (rest := [.int q3]) (w2 := ([cX0 a0 g0 o0, cX0_0 cI g0 o0, cX0_1 cI g0 o0, cX6 a1 g1 o1, cX6_0 cI g1 o1, cX6_1 cI g1 o1, cX6_2 cI g1 o1, cX6_3 cI g1 o1, cX6_4 cI g1 o1, cX6_5 cI g1 o1, cX6_6 cI g1 o1, cX6_7 cI g1 o1, cX5 a2 g2 o2, cX5_5 cI g2 o2, cX5_6 cI g2 o2])) hx hb hml hown hts hKK hP hD hS hA (c_X5_placeOf l dC dI cB cI cZ cO a2 g2 o2 a1 g1 o1 q2 hq4) [12, 13, 14, 3, 4, 5, 6, 7, 8, 9, 10, 11] (atAll_map ⟨rfl, rfl, rfl, rfl, rfl, rfl, rfl, rfl, rfl, rfl, rfl, rfl, trivial⟩) (by decide +kernel) (sameAd_map ⟨rfl, rfl, rfl, rfl, rfl, rfl, rfl, rfl, rfl, rfl, rfl, rfl, trivial⟩) (atAll_map ⟨rfl, rfl, rfl, rfl, rfl, rfl, rfl, rfl, rfl, rfl, rfl, rfl, trivial⟩) (agr_refl _ _ _) (cwV 2 hts gX0_allSo_X5_placeOf rfl rfl rfl ⟨rfl, dsc_X5_placeOf⟩ ⟨Nat.le_of_ble_eq_true rfl, Nat.le_of_ble_eq_true rfl⟩) (va_recv hKK.1 hP (ci := 5) (q0 := 12) rfl rfl) rfl hl.1 rfl (Nat.le_of_ble_eq_true rfl) dX0_allSo_33 ⟨Nat.zero_le _, Nat.zero_le _⟩ (fun H locs hP hD hS => ?_)
        refine lv_aload_n hx hb dX0_allSo_36 rfl (lv_at hl 2 rfl) ?_
        refine va_get (D := (dC, dI)) (ci := 6) (v := .ref (g1 0)) (C := RX6) (T := TX6) (N := 11) hx hb hts hiX6 hown hKK.1 hP 3 rfl rfl 0 (by decide) (hts (.fieldLink RX0 41 "SlideLand$Told" "oneInch" "[I") (List.mem_of_getElem? (i := 4) rfl)) (fun _ h9 => h9) rfl dX0_allSo_37 ?_
        refine lv_aload_n hx hb dX0_allSo_40 rfl (lv_at hl 1 rfl) ?_
        refine va_get (D := (dC, dI)) (ci := 0) (v := .ref (g0 1)) (C := RX0) (T := TX0) (N := 3) hx hb hts hiX0 hown hKK.1 hP 0 rfl rfl 1 (by decide) (hts (.fieldLink RX0 15 "SlideLand$Asked" "one" "[I") (List.mem_of_getElem? (i := 5) rfl)) (fun _ h9 => h9) rfl dX0_allSo_41 ?_
        refine lv_iload_n hx hb dX0_allSo_44 rfl (lv_at hl 4 rfl) ?_
        obtain ⟨q5, hq5, h⟩ := obd_e h
        refine kcN (rest := [.ref (g1 0), .int q4, .int q3]) (w2 := ([cX0 a0 g0 o0, cX0_0 cI g0 o0, cX0_1 cI g0 o0, cX6 a1 g1 o1, cX6_0 cI g1 o1, cX6_1 cI g1 o1, cX6_2 cI g1 o1, cX6_3 cI g1 o1, cX6_4 cI g1 o1, cX6_5 cI g1 o1, cX6_6 cI g1 o1, cX6_7 cI g1 o1, cX5 a2 g2 o2, cX5_5 cI g2 o2, cX5_6 cI g2 o2])) hx hb hml hown hts hKK hP hD hS hA (c_X7_cell l dC dI cB cI cZ cO (g0 1) 6 (o0.2 1) x2_3 hq5) [2] (atAll_map ⟨rfl, trivial⟩) (by decide +kernel) (sameAd_map ⟨rfl, trivial⟩) (atAll_map ⟨rfl, trivial⟩) (agr_refl _ _ _) ⟨va_cnB 2 hts gX0_allSo_X7_cell_n26 rfl rfl rfl (hKK.2 _ (nws_in 14 rfl)) (hts (.initialized RX7) (List.mem_of_getElem? (i := 7) rfl)) dsc_X7_cell ⟨Nat.le_of_ble_eq_true rfl, Nat.le_of_ble_eq_true rfl⟩, hts (.static yX7_cell) (List.mem_of_getElem? (i := 6) rfl), trivial⟩ rfl hl.1 rfl (Nat.le_of_ble_eq_true rfl) dX0_allSo_45 ⟨Nat.zero_le _, Nat.zero_le _⟩ (fun H locs hP hD hS => ?_)
        obtain ⟨q6, hq6, h⟩ := obd_e h
        refine kcN (rest := [.int q4, .int q3]) (w2 := ([cX0 a0 g0 o0, cX0_0 cI g0 o0, cX0_1 cI g0 o0, cX6 a1 g1 o1, cX6_0 cI g1 o1, cX6_1 cI g1 o1, cX6_2 cI g1 o1, cX6_3 cI g1 o1, cX6_4 cI g1 o1, cX6_5 cI g1 o1, cX6_6 cI g1 o1, cX6_7 cI g1 o1, cX5 a2 g2 o2, cX5_5 cI g2 o2, cX5_6 cI g2 o2])) hx hb hml hown hts hKK hP hD hS hA (c_X7_cell l dC dI cB cI cZ cO (g1 0) 12 (o1.2 0) q5 hq6) [4] (atAll_map ⟨rfl, trivial⟩) (by decide +kernel) (sameAd_map ⟨rfl, trivial⟩) (atAll_map ⟨rfl, trivial⟩) (agr_refl _ _ _) ⟨va_cnB 2 hts gX0_allSo_X7_cell_n26 rfl rfl rfl (hKK.2 _ (nws_in 14 rfl)) (hts (.initialized RX7) (List.mem_of_getElem? (i := 7) rfl)) dsc_X7_cell ⟨Nat.le_of_ble_eq_true rfl, Nat.le_of_ble_eq_true rfl⟩, hts (.static yX7_cell) (List.mem_of_getElem? (i := 6) rfl), trivial⟩ rfl hl.1 rfl (Nat.le_of_ble_eq_true rfl) dX0_allSo_48 ⟨Nat.zero_le _, Nat.zero_le _⟩ (fun H locs hP hD hS => ?_)
        refine lv_isub hx hb dX0_allSo_51 ?_
        obtain ⟨q7, hq7, h⟩ := bnd_e h
        refine kcN (rest := []) (w2 := ([cX0 a0 g0 o0, cX0_0 cI g0 o0, cX0_1 cI g0 o0, cX6 a1 g1 o1, cX6_0 cI g1 o1, cX6_1 cI g1 o1, cX6_2 cI g1 o1, cX6_3 cI g1 o1, cX6_4 cI g1 o1, cX6_5 cI g1 o1, cX6_6 cI g1 o1, cX6_7 cI g1 o1, cX5 a2 g2 o2, cX5_5 cI g2 o2, cX5_6 cI g2 o2])) hx hb hml hown hts hKK hP hD hS hA (c_X7_meet l dC dI cB cI cZ cO q3 (q4 - q6) hq7) [] (atAll_map trivial) (by decide +kernel) (sameAd_map trivial) (atAll_map trivial) (agr_refl _ _ _) ⟨va_cnB 2 hts gX0_allSo_X7_meet_n44 rfl rfl rfl (hKK.2 _ (nws_in 15 rfl)) (hts (.initialized RX7) (List.mem_of_getElem? (i := 7) rfl)) dsc_X7_meet ⟨Nat.le_of_ble_eq_true rfl, Nat.le_of_ble_eq_true rfl⟩, hts (.static yX7_meet) (List.mem_of_getElem? (i := 30) rfl), trivial⟩ rfl hl.1 rfl (Nat.le_of_ble_eq_true rfl) dX0_allSo_52 ⟨Nat.zero_le _, Nat.zero_le _⟩ (fun H locs hP hD hS => ?_)
        refine lv_if_ne (tgt := 60) hx hb dX0_allSo_55 (by decide) (fun k8 => ?_) (fun k8 => ?_)
        · have h := ite_f k8 h
          obtain ⟨x9, hx9, h⟩ := bnd_e h
          refine lv_iinc (v := x9) (lv' := [(3, .int x9), (4, .int q2), (0, .ref a0), (1, .ref a1), (2, .ref a2)]) hx hb dX0_allSo_60 hl (k := 4) rfl (by rw [← hx9]; rfl) (by decide) rfl (fun ls hl => ?_)
          refine lv_goto (tgt := 2) hx hb dX0_allSo_63 (by decide) ?_
          exact ih2 x9 h _ _ _ hP hD hS (lv_sub hl [2, 3, 4, 0] rfl)
        · have h := ite_t k8 h
          refine lv_iconst (v := (0 : Int32)) hx hb dX0_allSo_58 (by decide) ?_
          have h := Option.some.inj h
          subst h
          subst hQ
          exact W.zret (v := (0 : Int32)) hx hb hr rfl (fun t ht hW => ⟨⟨rfl, by rw [ht]; exact hP, hD⟩, hS.F ht⟩) hS.2.2 dX0_allSo_59
  exact lp2 FU (0 : Int32) h _ _ _ hP hD hS (lv_sub hl [1, 2, 3, 0] rfl)
def f_X5_begin_38 : Nat → Int32 → Ob → Option (Ob)
  | 0, _, _ => none
  | nn38+1, x38_2, o38_0 => if (12 : Int32) ≤ x38_2 then (some o38_0) else ((f_X7_setCell 12 (o38_0.2 6) x38_2 (0 : Int32)).bind fun q3 : (Nat → Int32) => bnd (x38_2 + (1 : Int32)) fun x4 : Int32 => (f_X5_begin_38 nn38) x4 (stR o38_0 6 q3))
def f_X5_begin (o0 : Ob) (o1 : Ob) : Option (Ob) := (f_X7_copyCells 7 (o1.2 4) 7 (o0.2 5)).bind fun q1 : (Nat → Int32) => f_X5_begin_38 FU (0 : Int32) (stR (stF (stF (stF (stF (stF o0 0 (0 : Int32)) 1 (0 : Int32)) 2 (0 : Int32)) 3 (0 : Int32)) 4 (0 : Int32)) 5 q1)
abbrev rmX5_begin : Room := { frames := 1, cells := 0, slots := 0, locals := 22 }
theorem dsc_X5_begin : yX5_begin.cls ≠ "java/lang/invoke/MethodHandle" ∧ yX5_begin.cls ≠ "java/lang/invoke/VarHandle" ∧ (parseMethodDescriptor yX5_begin.desc).map (fun d => d.parameters.length) = some 1 := by decide +kernel
set_option maxHeartbeats 4000000 in
set_option maxRecDepth 100000 in
theorem c_X5_begin (l : Launch) (dC : Nat → ClassId) (dI : Nat → Nat → Nat) (cB cI cZ cO : ClassId) (a0 : Nat) (g0 : Nat → Nat) (o0 : Ob) (a1 : Nat) (g1 : Nat → Nat) (o1 : Ob) {r : Ob} (h : f_X5_begin o0 o1 = some r) : Ct dC dI cB cI cZ cO l yX5_begin wsX5_begin rmX5_begin [.ref a0, .ref a1] ([cX5 a0 g0 o0, cX5_5 cI g0 o0, cX5_6 cI g0 o0, cX6 a1 g1 o1, cX6_0 cI g1 o1, cX6_1 cI g1 o1, cX6_2 cI g1 o1, cX6_3 cI g1 o1, cX6_4 cI g1 o1, cX6_5 cI g1 o1, cX6_6 cI g1 o1, cX6_7 cI g1 o1]) none ([cX5 a0 g0 r, cX5_5 cI g0 r, cX5_6 cI g0 r, cX6 a1 g1 o1, cX6_0 cI g1 o1, cX6_1 cI g1 o1, cX6_2 cI g1 o1, cX6_3 cI g1 o1, cX6_4 cI g1 o1, cX6_5 cI g1 o1, cX6_6 cI g1 o1, cX6_7 cI g1 o1]) := by
  intro sz
  refine Met.ofW (cc := cX5_begin) (maxL := 3) (ret := none) (by decide) rfl ?_
  intro p e s m args below meth c s₁ B hml hv
  obtain ⟨rfl, hsz, hP, hKK, hD0⟩ := hv
  have hx := B.exec
  have hb := B.bytes
  have hr := B.returns
  have hts := atoms_spec (ws := wsX5_begin) B.pre
  have hown : s.vm.findClass RX5 = some m.cls := findClass_of_methodNamed B.named
  have hlocks := B.notSynchronized
  have hiX5 : ∀ w ∈ u_ws RX5 TX5 7, w ∈ wsX5_begin := fun w h => List.mem_cons_of_mem _ (List.mem_append_left _ (List.mem_append_right _ h))
  have hiX6 : ∀ w ∈ u_ws RX6 TX6 11, w ∈ wsX5_begin := fun w h => List.mem_cons_of_mem _ (List.mem_append_right _ h)
  subst hsz
  have hD := hD0.self (sz := s.heap.size)
  generalize hAe : va_A ([cX5 a0 g0 o0, cX5_5 cI g0 o0, cX5_6 cI g0 o0, cX6 a1 g1 o1, cX6_0 cI g1 o1, cX6_1 cI g1 o1, cX6_2 cI g1 o1, cX6_3 cI g1 o1, cX6_4 cI g1 o1, cX6_5 cI g1 o1, cX6_6 cI g1 o1, cX6_7 cI g1 o1]) s.heap.size = A at hD ⊢
  have hA : ∀ q : Nat, s.heap.size ≤ q → A q := fun q h => by rw [← hAe]; exact Or.inr h
  have hS : va_S A s.heap s.heap [] := va_S.rf
  have hP : va_P (dC, dI) vwCl ([cX5 a0 g0 o0, cX5_5 cI g0 o0, cX5_6 cI g0 o0, cX6 a1 g1 o1, cX6_0 cI g1 o1, cX6_1 cI g1 o1, cX6_2 cI g1 o1, cX6_3 cI g1 o1, cX6_4 cI g1 o1, cX6_5 cI g1 o1, cX6_6 cI g1 o1, cX6_7 cI g1 o1]) s.heap := hP
  have hD : va_D A ([cX5 a0 g0 o0, cX5_5 cI g0 o0, cX5_6 cI g0 o0, cX6 a1 g1 o1, cX6_0 cI g1 o1, cX6_1 cI g1 o1, cX6_2 cI g1 o1, cX6_3 cI g1 o1, cX6_4 cI g1 o1, cX6_5 cI g1 o1, cX6_6 cI g1 o1, cX6_7 cI g1 o1]) := hD
  have hl := lv_entry ([.ref a0, .ref a1]) (n := 3) (Nat.le_of_ble_eq_true rfl)
  rw [lg_entry_eq]
  generalize (lg_sl ([.ref a0, .ref a1]) ++ List.replicate (3 - (lg_sl ([.ref a0, .ref a1])).length) Slot.unset).toArray = ls at hl ⊢
  have hl : lv_has ls 3 [(0, .ref a0), (1, .ref a1)] := hl
  obtain ⟨Q, hQ⟩ : ∃ Q, Q = MQ below (Qq dC dI none ([cX5 a0 g0 r, cX5_5 cI g0 r, cX5_6 cI g0 r, cX6 a1 g1 o1, cX6_0 cI g1 o1, cX6_1 cI g1 o1, cX6_2 cI g1 o1, cX6_3 cI g1 o1, cX6_4 cI g1 o1, cX6_5 cI g1 o1, cX6_6 cI g1 o1, cX6_7 cI g1 o1]) A) ([.ref a0, .ref a1] : List Value).toArray s 0 0 A := ⟨_, rfl⟩
  rw [← hQ]
  rw [f_X5_begin] at h
  clear hAe hD0
  refine lv_aload_n hx hb dX5_begin_0 rfl (lv_at hl 0 rfl) ?_
  refine lv_iconst (v := (0 : Int32)) hx hb dX5_begin_1 (by decide) ?_
  refine va_put (D := (dC, dI)) (ci := 5) (v := .int (0 : Int32)) (ty := .int) (C := RX5) (T := TX5) (N := 7) hx hb hts hiX5 tyX5 tyX5_ok nmX5 hown hKK.1 hP hD hS 0 rfl rfl 0 (by decide) (hts (.fieldLink RX5 18 "SlideLand$Stand" "shift" "I") (List.mem_of_getElem? (i := 1) rfl)) (fun _ h9 => h9) rfl (by decide +kernel) rfl rfl (Nat.le_of_ble_eq_true rfl) dX5_begin_2 (fun H locs hP hD hS => ?_)
  have hP : va_P (dC, dI) vwCl ([cX5 a0 g0 (stF o0 0 (0 : Int32)), cX5_5 cI g0 (stF o0 0 (0 : Int32)), cX5_6 cI g0 (stF o0 0 (0 : Int32)), cX6 a1 g1 o1, cX6_0 cI g1 o1, cX6_1 cI g1 o1, cX6_2 cI g1 o1, cX6_3 cI g1 o1, cX6_4 cI g1 o1, cX6_5 cI g1 o1, cX6_6 cI g1 o1, cX6_7 cI g1 o1]) H := hP
  have hD : va_D A ([cX5 a0 g0 (stF o0 0 (0 : Int32)), cX5_5 cI g0 (stF o0 0 (0 : Int32)), cX5_6 cI g0 (stF o0 0 (0 : Int32)), cX6 a1 g1 o1, cX6_0 cI g1 o1, cX6_1 cI g1 o1, cX6_2 cI g1 o1, cX6_3 cI g1 o1, cX6_4 cI g1 o1, cX6_5 cI g1 o1, cX6_6 cI g1 o1, cX6_7 cI g1 o1]) := hD
  refine lv_aload_n hx hb dX5_begin_5 rfl (lv_at hl 0 rfl) ?_
  refine lv_iconst (v := (0 : Int32)) hx hb dX5_begin_6 (by decide) ?_
  refine va_put (D := (dC, dI)) (ci := 5) (v := .int (0 : Int32)) (ty := .int) (C := RX5) (T := TX5) (N := 7) hx hb hts hiX5 tyX5 tyX5_ok nmX5 hown hKK.1 hP hD hS 0 rfl rfl 1 (by decide) (hts (.fieldLink RX5 22 "SlideLand$Stand" "before" "I") (List.mem_of_getElem? (i := 2) rfl)) (fun _ h9 => h9) rfl (by decide +kernel) rfl rfl (Nat.le_of_ble_eq_true rfl) dX5_begin_7 (fun H locs hP hD hS => ?_)
  have hP : va_P (dC, dI) vwCl ([cX5 a0 g0 (stF (stF o0 0 (0 : Int32)) 1 (0 : Int32)), cX5_5 cI g0 (stF (stF o0 0 (0 : Int32)) 1 (0 : Int32)), cX5_6 cI g0 (stF (stF o0 0 (0 : Int32)) 1 (0 : Int32)), cX6 a1 g1 o1, cX6_0 cI g1 o1, cX6_1 cI g1 o1, cX6_2 cI g1 o1, cX6_3 cI g1 o1, cX6_4 cI g1 o1, cX6_5 cI g1 o1, cX6_6 cI g1 o1, cX6_7 cI g1 o1]) H := hP
  have hD : va_D A ([cX5 a0 g0 (stF (stF o0 0 (0 : Int32)) 1 (0 : Int32)), cX5_5 cI g0 (stF (stF o0 0 (0 : Int32)) 1 (0 : Int32)), cX5_6 cI g0 (stF (stF o0 0 (0 : Int32)) 1 (0 : Int32)), cX6 a1 g1 o1, cX6_0 cI g1 o1, cX6_1 cI g1 o1, cX6_2 cI g1 o1, cX6_3 cI g1 o1, cX6_4 cI g1 o1, cX6_5 cI g1 o1, cX6_6 cI g1 o1, cX6_7 cI g1 o1]) := hD
  refine lv_aload_n hx hb dX5_begin_10 rfl (lv_at hl 0 rfl) ?_
  refine lv_iconst (v := (0 : Int32)) hx hb dX5_begin_11 (by decide) ?_
  refine va_put (D := (dC, dI)) (ci := 5) (v := .int (0 : Int32)) (ty := .int) (C := RX5) (T := TX5) (N := 7) hx hb hts hiX5 tyX5 tyX5_ok nmX5 hown hKK.1 hP hD hS 0 rfl rfl 2 (by decide) (hts (.fieldLink RX5 25 "SlideLand$Stand" "chalk" "I") (List.mem_of_getElem? (i := 3) rfl)) (fun _ h9 => h9) rfl (by decide +kernel) rfl rfl (Nat.le_of_ble_eq_true rfl) dX5_begin_12 (fun H locs hP hD hS => ?_)
  have hP : va_P (dC, dI) vwCl ([cX5 a0 g0 (stF (stF (stF o0 0 (0 : Int32)) 1 (0 : Int32)) 2 (0 : Int32)), cX5_5 cI g0 (stF (stF (stF o0 0 (0 : Int32)) 1 (0 : Int32)) 2 (0 : Int32)), cX5_6 cI g0 (stF (stF (stF o0 0 (0 : Int32)) 1 (0 : Int32)) 2 (0 : Int32)), cX6 a1 g1 o1, cX6_0 cI g1 o1, cX6_1 cI g1 o1, cX6_2 cI g1 o1, cX6_3 cI g1 o1, cX6_4 cI g1 o1, cX6_5 cI g1 o1, cX6_6 cI g1 o1, cX6_7 cI g1 o1]) H := hP
  have hD : va_D A ([cX5 a0 g0 (stF (stF (stF o0 0 (0 : Int32)) 1 (0 : Int32)) 2 (0 : Int32)), cX5_5 cI g0 (stF (stF (stF o0 0 (0 : Int32)) 1 (0 : Int32)) 2 (0 : Int32)), cX5_6 cI g0 (stF (stF (stF o0 0 (0 : Int32)) 1 (0 : Int32)) 2 (0 : Int32)), cX6 a1 g1 o1, cX6_0 cI g1 o1, cX6_1 cI g1 o1, cX6_2 cI g1 o1, cX6_3 cI g1 o1, cX6_4 cI g1 o1, cX6_5 cI g1 o1, cX6_6 cI g1 o1, cX6_7 cI g1 o1]) := hD
  refine lv_aload_n hx hb dX5_begin_15 rfl (lv_at hl 0 rfl) ?_
  refine lv_iconst (v := (0 : Int32)) hx hb dX5_begin_16 (by decide) ?_
  refine va_put (D := (dC, dI)) (ci := 5) (v := .int (0 : Int32)) (ty := .int) (C := RX5) (T := TX5) (N := 7) hx hb hts hiX5 tyX5 tyX5_ok nmX5 hown hKK.1 hP hD hS 0 rfl rfl 3 (by decide) (hts (.fieldLink RX5 28 "SlideLand$Stand" "year" "I") (List.mem_of_getElem? (i := 4) rfl)) (fun _ h9 => h9) rfl (by decide +kernel) rfl rfl (Nat.le_of_ble_eq_true rfl) dX5_begin_17 (fun H locs hP hD hS => ?_)
  have hP : va_P (dC, dI) vwCl ([cX5 a0 g0 (stF (stF (stF (stF o0 0 (0 : Int32)) 1 (0 : Int32)) 2 (0 : Int32)) 3 (0 : Int32)), cX5_5 cI g0 (stF (stF (stF (stF o0 0 (0 : Int32)) 1 (0 : Int32)) 2 (0 : Int32)) 3 (0 : Int32)), cX5_6 cI g0 (stF (stF (stF (stF o0 0 (0 : Int32)) 1 (0 : Int32)) 2 (0 : Int32)) 3 (0 : Int32)), cX6 a1 g1 o1, cX6_0 cI g1 o1, cX6_1 cI g1 o1, cX6_2 cI g1 o1, cX6_3 cI g1 o1, cX6_4 cI g1 o1, cX6_5 cI g1 o1, cX6_6 cI g1 o1, cX6_7 cI g1 o1]) H := hP
  have hD : va_D A ([cX5 a0 g0 (stF (stF (stF (stF o0 0 (0 : Int32)) 1 (0 : Int32)) 2 (0 : Int32)) 3 (0 : Int32)), cX5_5 cI g0 (stF (stF (stF (stF o0 0 (0 : Int32)) 1 (0 : Int32)) 2 (0 : Int32)) 3 (0 : Int32)), cX5_6 cI g0 (stF (stF (stF (stF o0 0 (0 : Int32)) 1 (0 : Int32)) 2 (0 : Int32)) 3 (0 : Int32)), cX6 a1 g1 o1, cX6_0 cI g1 o1, cX6_1 cI g1 o1, cX6_2 cI g1 o1, cX6_3 cI g1 o1, cX6_4 cI g1 o1, cX6_5 cI g1 o1, cX6_6 cI g1 o1, cX6_7 cI g1 o1]) := hD
  refine lv_aload_n hx hb dX5_begin_20 rfl (lv_at hl 0 rfl) ?_
  refine lv_iconst (v := (0 : Int32)) hx hb dX5_begin_21 (by decide) ?_
  refine va_put (D := (dC, dI)) (ci := 5) (v := .int (0 : Int32)) (ty := .int) (C := RX5) (T := TX5) (N := 7) hx hb hts hiX5 tyX5 tyX5_ok nmX5 hown hKK.1 hP hD hS 0 rfl rfl 4 (by decide) (hts (.fieldLink RX5 31 "SlideLand$Stand" "wed" "I") (List.mem_of_getElem? (i := 5) rfl)) (fun _ h9 => h9) rfl (by decide +kernel) rfl rfl (Nat.le_of_ble_eq_true rfl) dX5_begin_22 (fun H locs hP hD hS => ?_)
  have hP : va_P (dC, dI) vwCl ([cX5 a0 g0 (stF (stF (stF (stF (stF o0 0 (0 : Int32)) 1 (0 : Int32)) 2 (0 : Int32)) 3 (0 : Int32)) 4 (0 : Int32)), cX5_5 cI g0 (stF (stF (stF (stF (stF o0 0 (0 : Int32)) 1 (0 : Int32)) 2 (0 : Int32)) 3 (0 : Int32)) 4 (0 : Int32)), cX5_6 cI g0 (stF (stF (stF (stF (stF o0 0 (0 : Int32)) 1 (0 : Int32)) 2 (0 : Int32)) 3 (0 : Int32)) 4 (0 : Int32)), cX6 a1 g1 o1, cX6_0 cI g1 o1, cX6_1 cI g1 o1, cX6_2 cI g1 o1, cX6_3 cI g1 o1, cX6_4 cI g1 o1, cX6_5 cI g1 o1, cX6_6 cI g1 o1, cX6_7 cI g1 o1]) H := hP
  have hD : va_D A ([cX5 a0 g0 (stF (stF (stF (stF (stF o0 0 (0 : Int32)) 1 (0 : Int32)) 2 (0 : Int32)) 3 (0 : Int32)) 4 (0 : Int32)), cX5_5 cI g0 (stF (stF (stF (stF (stF o0 0 (0 : Int32)) 1 (0 : Int32)) 2 (0 : Int32)) 3 (0 : Int32)) 4 (0 : Int32)), cX5_6 cI g0 (stF (stF (stF (stF (stF o0 0 (0 : Int32)) 1 (0 : Int32)) 2 (0 : Int32)) 3 (0 : Int32)) 4 (0 : Int32)), cX6 a1 g1 o1, cX6_0 cI g1 o1, cX6_1 cI g1 o1, cX6_2 cI g1 o1, cX6_3 cI g1 o1, cX6_4 cI g1 o1, cX6_5 cI g1 o1, cX6_6 cI g1 o1, cX6_7 cI g1 o1]) := hD
  refine lv_aload_n hx hb dX5_begin_25 rfl (lv_at hl 1 rfl) ?_
  refine va_get (D := (dC, dI)) (ci := 6) (v := .ref (g1 4)) (C := RX6) (T := TX6) (N := 11) hx hb hts hiX6 hown hKK.1 hP 3 rfl rfl 4 (by decide) (hts (.fieldLink RX5 34 "SlideLand$Told" "firstGoods" "[I") (List.mem_of_getElem? (i := 6) rfl)) (fun _ h9 => h9) rfl dX5_begin_26 ?_
  refine lv_aload_n hx hb dX5_begin_29 rfl (lv_at hl 0 rfl) ?_
  refine va_get (D := (dC, dI)) (ci := 5) (v := .ref (g0 5)) (C := RX5) (T := TX5) (N := 7) hx hb hts hiX5 hown hKK.1 hP 0 rfl rfl 5 (by decide) (hts (.fieldLink RX5 9 "SlideLand$Stand" "goods" "[I") (List.mem_of_getElem? (i := 7) rfl)) (fun _ h9 => h9) rfl dX5_begin_30 ?_
  obtain ⟨q1, hq1, h⟩ := obd_e h
  refine kcN (rest := []) (w2 := ([cX5 a0 g0 (stR (stF (stF (stF (stF (stF o0 0 (0 : Int32)) 1 (0 : Int32)) 2 (0 : Int32)) 3 (0 : Int32)) 4 (0 : Int32)) 5 q1), cX5_5 cI g0 (stR (stF (stF (stF (stF (stF o0 0 (0 : Int32)) 1 (0 : Int32)) 2 (0 : Int32)) 3 (0 : Int32)) 4 (0 : Int32)) 5 q1), cX5_6 cI g0 (stR (stF (stF (stF (stF (stF o0 0 (0 : Int32)) 1 (0 : Int32)) 2 (0 : Int32)) 3 (0 : Int32)) 4 (0 : Int32)) 5 q1), cX6 a1 g1 o1, cX6_0 cI g1 o1, cX6_1 cI g1 o1, cX6_2 cI g1 o1, cX6_3 cI g1 o1, cX6_4 cI g1 o1, cX6_5 cI g1 o1, cX6_6 cI g1 o1, cX6_7 cI g1 o1])) hx hb hml hown hts hKK hP hD hS hA (c_X7_copyCells l dC dI cB cI cZ cO (g1 4) 7 (o1.2 4) (g0 5) 7 (o0.2 5) hq1) [8, 1] (atAll_map ⟨rfl, rfl, trivial⟩) (by decide +kernel) (sameAd_map ⟨rfl, rfl, trivial⟩) (atAll_map ⟨rfl, rfl, trivial⟩) ⟨Or.inl rfl, Or.inr (by decide), Or.inl rfl, Or.inl rfl, Or.inl rfl, Or.inl rfl, Or.inl rfl, Or.inl rfl, Or.inl rfl, Or.inl rfl, Or.inl rfl, Or.inl rfl, trivial⟩ ⟨va_cnB 2 hts gX5_begin_X7_copyCells_n39 rfl rfl rfl (hKK.2 _ (nws_in 6 rfl)) (hts (.initialized RX7) (List.mem_of_getElem? (i := 10) rfl)) dsc_X7_copyCells ⟨Nat.le_of_ble_eq_true rfl, Nat.le_of_ble_eq_true rfl⟩, hts (.static yX7_copyCells) (List.mem_of_getElem? (i := 9) rfl), trivial⟩ rfl hl.1 rfl (Nat.le_of_ble_eq_true rfl) dX5_begin_33 ⟨Nat.zero_le _, Nat.zero_le _⟩ (fun H locs hP hD hS => ?_)
  refine lv_iconst (v := (0 : Int32)) hx hb dX5_begin_36 (by decide) ?_
  refine lv_istore_n (lv' := [(2, .int (0 : Int32)), (0, .ref a0), (1, .ref a1)]) hx hb dX5_begin_37 rfl hl (by decide) rfl (fun ls hl => ?_)
  have lp38 : ∀ (nn38 : Nat) (x38_2 : Int32) (o38_0 : Ob), f_X5_begin_38 nn38 x38_2 o38_0 = some r → ∀ (H : Heap) (locs : List Loc) (ls : Array Slot), va_P (dC, dI) vwCl ([cX5 a0 g0 o38_0, cX5_5 cI g0 o38_0, cX5_6 cI g0 o38_0, cX6 a1 g1 o1, cX6_0 cI g1 o1, cX6_1 cI g1 o1, cX6_2 cI g1 o1, cX6_3 cI g1 o1, cX6_4 cI g1 o1, cX6_5 cI g1 o1, cX6_6 cI g1 o1, cX6_7 cI g1 o1]) H → va_D A ([cX5 a0 g0 o38_0, cX5_5 cI g0 o38_0, cX5_6 cI g0 o38_0, cX6 a1 g1 o1, cX6_0 cI g1 o1, cX6_1 cI g1 o1, cX6_2 cI g1 o1, cX6_3 cI g1 o1, cX6_4 cI g1 o1, cX6_5 cI g1 o1, cX6_6 cI g1 o1, cX6_7 cI g1 o1]) → va_S A s.heap H locs → lv_has ls 3 [(0, .ref a0), (2, .int x38_2)] → W p l e (headSpec wsX5_begin rmX5_begin).room s m ([.ref a0, .ref a1] : List Value).toArray below meth c H locs 0 0 Q (F0 m 38 ls []) := by
    intro nn38
    induction nn38 with
    | zero => intro x38_2 o38_0 h; rw [f_X5_begin_38] at h; cases h
    | succ nn38 ih38 =>
      intro x38_2 o38_0 h H locs ls hP hD hS hl
      rw [f_X5_begin_38] at h
      refine lv_iload_n hx hb dX5_begin_38 rfl (lv_at hl 1 rfl) ?_
      refine lv_bipush (v := (12 : Int32)) hx hb dX5_begin_39 (by decide) ?_
      refine lv_icmp_ge (tgt := 59) hx hb dX5_begin_41 (by decide) (fun k2 => ?_) (fun k2 => ?_)
      · have h := ite_t k2 h
        have h := Option.some.inj h
        subst h
        subst hQ
        exact W.vret hx hb hr (fun t ht hW => ⟨⟨rfl, by rw [ht]; exact hP, hD⟩, hS.F ht⟩) hS.2.2 dX5_begin_59
      · have h := ite_f k2 h
        refine lv_aload_n hx hb dX5_begin_44 rfl (lv_at hl 0 rfl) ?_
        refine va_get (D := (dC, dI)) (ci := 5) (v := .ref (g0 6)) (C := RX5) (T := TX5) (N := 7) hx hb hts hiX5 hown hKK.1 hP 0 rfl rfl 6 (by decide) (hts (.fieldLink RX5 15 "SlideLand$Stand" "has" "[I") (List.mem_of_getElem? (i := 8) rfl)) (fun _ h9 => h9) rfl dX5_begin_45 ?_
        refine lv_iload_n hx hb dX5_begin_48 rfl (lv_at hl 1 rfl) ?_
        refine lv_iconst (v := (0 : Int32)) hx hb dX5_begin_49 (by decide) ?_
        obtain ⟨q3, hq3, h⟩ := obd_e h
        refine kcN (rest := []) (w2 := ([cX5 a0 g0 (stR o38_0 6 q3), cX5_5 cI g0 (stR o38_0 6 q3), cX5_6 cI g0 (stR o38_0 6 q3), cX6 a1 g1 o1, cX6_0 cI g1 o1, cX6_1 cI g1 o1, cX6_2 cI g1 o1, cX6_3 cI g1 o1, cX6_4 cI g1 o1, cX6_5 cI g1 o1, cX6_6 cI g1 o1, cX6_7 cI g1 o1])) hx hb hml hown hts hKK hP hD hS hA (c_X7_setCell l dC dI cB cI cZ cO (g0 6) 12 (o38_0.2 6) x38_2 (0 : Int32) hq3) [2] (atAll_map ⟨rfl, trivial⟩) (by decide +kernel) (sameAd_map ⟨rfl, trivial⟩) (atAll_map ⟨rfl, trivial⟩) ⟨Or.inl rfl, Or.inl rfl, Or.inr (by decide), Or.inl rfl, Or.inl rfl, Or.inl rfl, Or.inl rfl, Or.inl rfl, Or.inl rfl, Or.inl rfl, Or.inl rfl, Or.inl rfl, trivial⟩ ⟨va_cnB 3 hts gX5_begin_X7_setCell_n43 rfl rfl rfl (hKK.2 _ (nws_in 7 rfl)) (hts (.initialized RX7) (List.mem_of_getElem? (i := 10) rfl)) dsc_X7_setCell ⟨Nat.le_of_ble_eq_true rfl, Nat.le_of_ble_eq_true rfl⟩, hts (.static yX7_setCell) (List.mem_of_getElem? (i := 12) rfl), trivial⟩ rfl hl.1 rfl (Nat.le_of_ble_eq_true rfl) dX5_begin_50 ⟨Nat.zero_le _, Nat.zero_le _⟩ (fun H locs hP hD hS => ?_)
        obtain ⟨x4, hx4, h⟩ := bnd_e h
        refine lv_iinc (v := x4) (lv' := [(2, .int x4), (0, .ref a0)]) hx hb dX5_begin_53 hl (k := 1) rfl (by rw [← hx4]; rfl) (by decide) rfl (fun ls hl => ?_)
        refine lv_goto (tgt := 38) hx hb dX5_begin_56 (by decide) ?_
        exact ih38 x4 (stR o38_0 6 q3) h _ _ _ hP hD hS (lv_sub hl [1, 0] rfl)
  exact lp38 FU (0 : Int32) (stR (stF (stF (stF (stF (stF o0 0 (0 : Int32)) 1 (0 : Int32)) 2 (0 : Int32)) 3 (0 : Int32)) 4 (0 : Int32)) 5 q1) h _ _ _ hP hD hS (lv_sub hl [1, 0] rfl)
def f_X5_copy (o0 : Ob) (o1 : Ob) : Option (Ob) := bnd (o1.1 0) fun x1 : Int32 => bnd (o1.1 1) fun x2 : Int32 => bnd (o1.1 2) fun x3 : Int32 => bnd (o1.1 3) fun x4 : Int32 => bnd (o1.1 4) fun x5 : Int32 => (f_X7_copyCells 7 (o1.2 5) 7 (o0.2 5)).bind fun q6 : (Nat → Int32) => (f_X7_copyCells 12 (o1.2 6) 12 (o0.2 6)).bind fun q7 : (Nat → Int32) => some (stR (stR (stF (stF (stF (stF (stF o0 0 x1) 1 x2) 2 x3) 3 x4) 4 x5) 5 q6) 6 q7)
abbrev rmX5_copy : Room := { frames := 1, cells := 0, slots := 0, locals := 22 }
theorem dsc_X5_copy : yX5_copy.cls ≠ "java/lang/invoke/MethodHandle" ∧ yX5_copy.cls ≠ "java/lang/invoke/VarHandle" ∧ (parseMethodDescriptor yX5_copy.desc).map (fun d => d.parameters.length) = some 1 := by decide +kernel
set_option maxHeartbeats 4000000 in
set_option maxRecDepth 100000 in
theorem c_X5_copy (l : Launch) (dC : Nat → ClassId) (dI : Nat → Nat → Nat) (cB cI cZ cO : ClassId) (a0 : Nat) (g0 : Nat → Nat) (o0 : Ob) (a1 : Nat) (g1 : Nat → Nat) (o1 : Ob) {r : Ob} (h : f_X5_copy o0 o1 = some r) : Ct dC dI cB cI cZ cO l yX5_copy wsX5_copy rmX5_copy [.ref a0, .ref a1] ([cX5 a0 g0 o0, cX5_5 cI g0 o0, cX5_6 cI g0 o0, cX5 a1 g1 o1, cX5_5 cI g1 o1, cX5_6 cI g1 o1]) none ([cX5 a0 g0 r, cX5_5 cI g0 r, cX5_6 cI g0 r, cX5 a1 g1 o1, cX5_5 cI g1 o1, cX5_6 cI g1 o1]) := by
  intro sz
  refine Met.ofW (cc := cX5_copy) (maxL := 2) (ret := none) (by decide) rfl ?_
  intro p e s m args below meth c s₁ B hml hv
  obtain ⟨rfl, hsz, hP, hKK, hD0⟩ := hv
  have hx := B.exec
  have hb := B.bytes
  have hr := B.returns
  have hts := atoms_spec (ws := wsX5_copy) B.pre
  have hown : s.vm.findClass RX5 = some m.cls := findClass_of_methodNamed B.named
  have hlocks := B.notSynchronized
  have hiX5 : ∀ w ∈ u_ws RX5 TX5 7, w ∈ wsX5_copy := fun w h => List.mem_cons_of_mem _ (List.mem_append_right _ h)
  subst hsz
  have hD := hD0.self (sz := s.heap.size)
  generalize hAe : va_A ([cX5 a0 g0 o0, cX5_5 cI g0 o0, cX5_6 cI g0 o0, cX5 a1 g1 o1, cX5_5 cI g1 o1, cX5_6 cI g1 o1]) s.heap.size = A at hD ⊢
  have hA : ∀ q : Nat, s.heap.size ≤ q → A q := fun q h => by rw [← hAe]; exact Or.inr h
  have hS : va_S A s.heap s.heap [] := va_S.rf
  have hP : va_P (dC, dI) vwCl ([cX5 a0 g0 o0, cX5_5 cI g0 o0, cX5_6 cI g0 o0, cX5 a1 g1 o1, cX5_5 cI g1 o1, cX5_6 cI g1 o1]) s.heap := hP
  have hD : va_D A ([cX5 a0 g0 o0, cX5_5 cI g0 o0, cX5_6 cI g0 o0, cX5 a1 g1 o1, cX5_5 cI g1 o1, cX5_6 cI g1 o1]) := hD
  have hl := lv_entry ([.ref a0, .ref a1]) (n := 2) (Nat.le_of_ble_eq_true rfl)
  rw [lg_entry_eq]
  generalize (lg_sl ([.ref a0, .ref a1]) ++ List.replicate (2 - (lg_sl ([.ref a0, .ref a1])).length) Slot.unset).toArray = ls at hl ⊢
  have hl : lv_has ls 2 [(0, .ref a0), (1, .ref a1)] := hl
  obtain ⟨Q, hQ⟩ : ∃ Q, Q = MQ below (Qq dC dI none ([cX5 a0 g0 r, cX5_5 cI g0 r, cX5_6 cI g0 r, cX5 a1 g1 o1, cX5_5 cI g1 o1, cX5_6 cI g1 o1]) A) ([.ref a0, .ref a1] : List Value).toArray s 0 0 A := ⟨_, rfl⟩
  rw [← hQ]
  rw [f_X5_copy] at h
  clear hAe hD0
  refine lv_aload_n hx hb dX5_copy_0 rfl (lv_at hl 0 rfl) ?_
  refine lv_aload_n hx hb dX5_copy_1 rfl (lv_at hl 1 rfl) ?_
  refine va_get (D := (dC, dI)) (ci := 5) (v := .int (o1.1 0)) (C := RX5) (T := TX5) (N := 7) hx hb hts hiX5 hown hKK.1 hP 3 rfl rfl 0 (by decide) (hts (.fieldLink RX5 18 "SlideLand$Stand" "shift" "I") (List.mem_of_getElem? (i := 1) rfl)) (fun _ h9 => h9) rfl dX5_copy_2 ?_
  obtain ⟨x1, hx1, h⟩ := bnd_e h
  rw [hx1]
  refine va_put (D := (dC, dI)) (ci := 5) (v := .int x1) (ty := .int) (C := RX5) (T := TX5) (N := 7) hx hb hts hiX5 tyX5 tyX5_ok nmX5 hown hKK.1 hP hD hS 0 rfl rfl 0 (by decide) (hts (.fieldLink RX5 18 "SlideLand$Stand" "shift" "I") (List.mem_of_getElem? (i := 1) rfl)) (fun _ h9 => h9) rfl (by decide +kernel) rfl rfl (Nat.le_of_ble_eq_true rfl) dX5_copy_5 (fun H locs hP hD hS => ?_)
  have hP : va_P (dC, dI) vwCl ([cX5 a0 g0 (stF o0 0 x1), cX5_5 cI g0 (stF o0 0 x1), cX5_6 cI g0 (stF o0 0 x1), cX5 a1 g1 o1, cX5_5 cI g1 o1, cX5_6 cI g1 o1]) H := hP
  have hD : va_D A ([cX5 a0 g0 (stF o0 0 x1), cX5_5 cI g0 (stF o0 0 x1), cX5_6 cI g0 (stF o0 0 x1), cX5 a1 g1 o1, cX5_5 cI g1 o1, cX5_6 cI g1 o1]) := hD
  refine lv_aload_n hx hb dX5_copy_8 rfl (lv_at hl 0 rfl) ?_
  refine lv_aload_n hx hb dX5_copy_9 rfl (lv_at hl 1 rfl) ?_
  refine va_get (D := (dC, dI)) (ci := 5) (v := .int (o1.1 1)) (C := RX5) (T := TX5) (N := 7) hx hb hts hiX5 hown hKK.1 hP 3 rfl rfl 1 (by decide) (hts (.fieldLink RX5 22 "SlideLand$Stand" "before" "I") (List.mem_of_getElem? (i := 2) rfl)) (fun _ h9 => h9) rfl dX5_copy_10 ?_
  obtain ⟨x2, hx2, h⟩ := bnd_e h
  rw [hx2]
  refine va_put (D := (dC, dI)) (ci := 5) (v := .int x2) (ty := .int) (C := RX5) (T := TX5) (N := 7) hx hb hts hiX5 tyX5 tyX5_ok nmX5 hown hKK.1 hP hD hS 0 rfl rfl 1 (by decide) (hts (.fieldLink RX5 22 "SlideLand$Stand" "before" "I") (List.mem_of_getElem? (i := 2) rfl)) (fun _ h9 => h9) rfl (by decide +kernel) rfl rfl (Nat.le_of_ble_eq_true rfl) dX5_copy_13 (fun H locs hP hD hS => ?_)
  have hP : va_P (dC, dI) vwCl ([cX5 a0 g0 (stF (stF o0 0 x1) 1 x2), cX5_5 cI g0 (stF (stF o0 0 x1) 1 x2), cX5_6 cI g0 (stF (stF o0 0 x1) 1 x2), cX5 a1 g1 o1, cX5_5 cI g1 o1, cX5_6 cI g1 o1]) H := hP
  have hD : va_D A ([cX5 a0 g0 (stF (stF o0 0 x1) 1 x2), cX5_5 cI g0 (stF (stF o0 0 x1) 1 x2), cX5_6 cI g0 (stF (stF o0 0 x1) 1 x2), cX5 a1 g1 o1, cX5_5 cI g1 o1, cX5_6 cI g1 o1]) := hD
  refine lv_aload_n hx hb dX5_copy_16 rfl (lv_at hl 0 rfl) ?_
  refine lv_aload_n hx hb dX5_copy_17 rfl (lv_at hl 1 rfl) ?_
  refine va_get (D := (dC, dI)) (ci := 5) (v := .int (o1.1 2)) (C := RX5) (T := TX5) (N := 7) hx hb hts hiX5 hown hKK.1 hP 3 rfl rfl 2 (by decide) (hts (.fieldLink RX5 25 "SlideLand$Stand" "chalk" "I") (List.mem_of_getElem? (i := 3) rfl)) (fun _ h9 => h9) rfl dX5_copy_18 ?_
  obtain ⟨x3, hx3, h⟩ := bnd_e h
  rw [hx3]
  refine va_put (D := (dC, dI)) (ci := 5) (v := .int x3) (ty := .int) (C := RX5) (T := TX5) (N := 7) hx hb hts hiX5 tyX5 tyX5_ok nmX5 hown hKK.1 hP hD hS 0 rfl rfl 2 (by decide) (hts (.fieldLink RX5 25 "SlideLand$Stand" "chalk" "I") (List.mem_of_getElem? (i := 3) rfl)) (fun _ h9 => h9) rfl (by decide +kernel) rfl rfl (Nat.le_of_ble_eq_true rfl) dX5_copy_21 (fun H locs hP hD hS => ?_)
  have hP : va_P (dC, dI) vwCl ([cX5 a0 g0 (stF (stF (stF o0 0 x1) 1 x2) 2 x3), cX5_5 cI g0 (stF (stF (stF o0 0 x1) 1 x2) 2 x3), cX5_6 cI g0 (stF (stF (stF o0 0 x1) 1 x2) 2 x3), cX5 a1 g1 o1, cX5_5 cI g1 o1, cX5_6 cI g1 o1]) H := hP
  have hD : va_D A ([cX5 a0 g0 (stF (stF (stF o0 0 x1) 1 x2) 2 x3), cX5_5 cI g0 (stF (stF (stF o0 0 x1) 1 x2) 2 x3), cX5_6 cI g0 (stF (stF (stF o0 0 x1) 1 x2) 2 x3), cX5 a1 g1 o1, cX5_5 cI g1 o1, cX5_6 cI g1 o1]) := hD
  refine lv_aload_n hx hb dX5_copy_24 rfl (lv_at hl 0 rfl) ?_
  refine lv_aload_n hx hb dX5_copy_25 rfl (lv_at hl 1 rfl) ?_
  refine va_get (D := (dC, dI)) (ci := 5) (v := .int (o1.1 3)) (C := RX5) (T := TX5) (N := 7) hx hb hts hiX5 hown hKK.1 hP 3 rfl rfl 3 (by decide) (hts (.fieldLink RX5 28 "SlideLand$Stand" "year" "I") (List.mem_of_getElem? (i := 4) rfl)) (fun _ h9 => h9) rfl dX5_copy_26 ?_
  obtain ⟨x4, hx4, h⟩ := bnd_e h
  rw [hx4]
  refine va_put (D := (dC, dI)) (ci := 5) (v := .int x4) (ty := .int) (C := RX5) (T := TX5) (N := 7) hx hb hts hiX5 tyX5 tyX5_ok nmX5 hown hKK.1 hP hD hS 0 rfl rfl 3 (by decide) (hts (.fieldLink RX5 28 "SlideLand$Stand" "year" "I") (List.mem_of_getElem? (i := 4) rfl)) (fun _ h9 => h9) rfl (by decide +kernel) rfl rfl (Nat.le_of_ble_eq_true rfl) dX5_copy_29 (fun H locs hP hD hS => ?_)
  have hP : va_P (dC, dI) vwCl ([cX5 a0 g0 (stF (stF (stF (stF o0 0 x1) 1 x2) 2 x3) 3 x4), cX5_5 cI g0 (stF (stF (stF (stF o0 0 x1) 1 x2) 2 x3) 3 x4), cX5_6 cI g0 (stF (stF (stF (stF o0 0 x1) 1 x2) 2 x3) 3 x4), cX5 a1 g1 o1, cX5_5 cI g1 o1, cX5_6 cI g1 o1]) H := hP
  have hD : va_D A ([cX5 a0 g0 (stF (stF (stF (stF o0 0 x1) 1 x2) 2 x3) 3 x4), cX5_5 cI g0 (stF (stF (stF (stF o0 0 x1) 1 x2) 2 x3) 3 x4), cX5_6 cI g0 (stF (stF (stF (stF o0 0 x1) 1 x2) 2 x3) 3 x4), cX5 a1 g1 o1, cX5_5 cI g1 o1, cX5_6 cI g1 o1]) := hD
  refine lv_aload_n hx hb dX5_copy_32 rfl (lv_at hl 0 rfl) ?_
  refine lv_aload_n hx hb dX5_copy_33 rfl (lv_at hl 1 rfl) ?_
  refine va_get (D := (dC, dI)) (ci := 5) (v := .int (o1.1 4)) (C := RX5) (T := TX5) (N := 7) hx hb hts hiX5 hown hKK.1 hP 3 rfl rfl 4 (by decide) (hts (.fieldLink RX5 31 "SlideLand$Stand" "wed" "I") (List.mem_of_getElem? (i := 5) rfl)) (fun _ h9 => h9) rfl dX5_copy_34 ?_
  obtain ⟨x5, hx5, h⟩ := bnd_e h
  rw [hx5]
  refine va_put (D := (dC, dI)) (ci := 5) (v := .int x5) (ty := .int) (C := RX5) (T := TX5) (N := 7) hx hb hts hiX5 tyX5 tyX5_ok nmX5 hown hKK.1 hP hD hS 0 rfl rfl 4 (by decide) (hts (.fieldLink RX5 31 "SlideLand$Stand" "wed" "I") (List.mem_of_getElem? (i := 5) rfl)) (fun _ h9 => h9) rfl (by decide +kernel) rfl rfl (Nat.le_of_ble_eq_true rfl) dX5_copy_37 (fun H locs hP hD hS => ?_)
  have hP : va_P (dC, dI) vwCl ([cX5 a0 g0 (stF (stF (stF (stF (stF o0 0 x1) 1 x2) 2 x3) 3 x4) 4 x5), cX5_5 cI g0 (stF (stF (stF (stF (stF o0 0 x1) 1 x2) 2 x3) 3 x4) 4 x5), cX5_6 cI g0 (stF (stF (stF (stF (stF o0 0 x1) 1 x2) 2 x3) 3 x4) 4 x5), cX5 a1 g1 o1, cX5_5 cI g1 o1, cX5_6 cI g1 o1]) H := hP
  have hD : va_D A ([cX5 a0 g0 (stF (stF (stF (stF (stF o0 0 x1) 1 x2) 2 x3) 3 x4) 4 x5), cX5_5 cI g0 (stF (stF (stF (stF (stF o0 0 x1) 1 x2) 2 x3) 3 x4) 4 x5), cX5_6 cI g0 (stF (stF (stF (stF (stF o0 0 x1) 1 x2) 2 x3) 3 x4) 4 x5), cX5 a1 g1 o1, cX5_5 cI g1 o1, cX5_6 cI g1 o1]) := hD
  refine lv_aload_n hx hb dX5_copy_40 rfl (lv_at hl 1 rfl) ?_
  refine va_get (D := (dC, dI)) (ci := 5) (v := .ref (g1 5)) (C := RX5) (T := TX5) (N := 7) hx hb hts hiX5 hown hKK.1 hP 3 rfl rfl 5 (by decide) (hts (.fieldLink RX5 9 "SlideLand$Stand" "goods" "[I") (List.mem_of_getElem? (i := 6) rfl)) (fun _ h9 => h9) rfl dX5_copy_41 ?_
  refine lv_aload_n hx hb dX5_copy_44 rfl (lv_at hl 0 rfl) ?_
  refine va_get (D := (dC, dI)) (ci := 5) (v := .ref (g0 5)) (C := RX5) (T := TX5) (N := 7) hx hb hts hiX5 hown hKK.1 hP 0 rfl rfl 5 (by decide) (hts (.fieldLink RX5 9 "SlideLand$Stand" "goods" "[I") (List.mem_of_getElem? (i := 6) rfl)) (fun _ h9 => h9) rfl dX5_copy_45 ?_
  obtain ⟨q6, hq6, h⟩ := obd_e h
  refine kcN (rest := []) (w2 := ([cX5 a0 g0 (stR (stF (stF (stF (stF (stF o0 0 x1) 1 x2) 2 x3) 3 x4) 4 x5) 5 q6), cX5_5 cI g0 (stR (stF (stF (stF (stF (stF o0 0 x1) 1 x2) 2 x3) 3 x4) 4 x5) 5 q6), cX5_6 cI g0 (stR (stF (stF (stF (stF (stF o0 0 x1) 1 x2) 2 x3) 3 x4) 4 x5) 5 q6), cX5 a1 g1 o1, cX5_5 cI g1 o1, cX5_6 cI g1 o1])) hx hb hml hown hts hKK hP hD hS hA (c_X7_copyCells l dC dI cB cI cZ cO (g1 5) 7 (o1.2 5) (g0 5) 7 (o0.2 5) hq6) [4, 1] (atAll_map ⟨rfl, rfl, trivial⟩) (by decide +kernel) (sameAd_map ⟨rfl, rfl, trivial⟩) (atAll_map ⟨rfl, rfl, trivial⟩) ⟨Or.inl rfl, Or.inr (by decide), Or.inl rfl, Or.inl rfl, Or.inl rfl, Or.inl rfl, trivial⟩ ⟨va_cnB 2 hts gX5_copy_X7_copyCells_n39 rfl rfl rfl (hKK.2 _ (nws_in 6 rfl)) (hts (.initialized RX7) (List.mem_of_getElem? (i := 9) rfl)) dsc_X7_copyCells ⟨Nat.le_of_ble_eq_true rfl, Nat.le_of_ble_eq_true rfl⟩, hts (.static yX7_copyCells) (List.mem_of_getElem? (i := 8) rfl), trivial⟩ rfl hl.1 rfl (Nat.le_of_ble_eq_true rfl) dX5_copy_48 ⟨Nat.zero_le _, Nat.zero_le _⟩ (fun H locs hP hD hS => ?_)
  refine lv_aload_n hx hb dX5_copy_51 rfl (lv_at hl 1 rfl) ?_
  refine va_get (D := (dC, dI)) (ci := 5) (v := .ref (g1 6)) (C := RX5) (T := TX5) (N := 7) hx hb hts hiX5 hown hKK.1 hP 3 rfl rfl 6 (by decide) (hts (.fieldLink RX5 15 "SlideLand$Stand" "has" "[I") (List.mem_of_getElem? (i := 7) rfl)) (fun _ h9 => h9) rfl dX5_copy_52 ?_
  refine lv_aload_n hx hb dX5_copy_55 rfl (lv_at hl 0 rfl) ?_
  refine va_get (D := (dC, dI)) (ci := 5) (v := .ref (g0 6)) (C := RX5) (T := TX5) (N := 7) hx hb hts hiX5 hown hKK.1 hP 0 rfl rfl 6 (by decide) (hts (.fieldLink RX5 15 "SlideLand$Stand" "has" "[I") (List.mem_of_getElem? (i := 7) rfl)) (fun _ h9 => h9) rfl dX5_copy_56 ?_
  obtain ⟨q7, hq7, h⟩ := obd_e h
  refine kcN (rest := []) (w2 := ([cX5 a0 g0 (stR (stR (stF (stF (stF (stF (stF o0 0 x1) 1 x2) 2 x3) 3 x4) 4 x5) 5 q6) 6 q7), cX5_5 cI g0 (stR (stR (stF (stF (stF (stF (stF o0 0 x1) 1 x2) 2 x3) 3 x4) 4 x5) 5 q6) 6 q7), cX5_6 cI g0 (stR (stR (stF (stF (stF (stF (stF o0 0 x1) 1 x2) 2 x3) 3 x4) 4 x5) 5 q6) 6 q7), cX5 a1 g1 o1, cX5_5 cI g1 o1, cX5_6 cI g1 o1])) hx hb hml hown hts hKK hP hD hS hA (c_X7_copyCells l dC dI cB cI cZ cO (g1 6) 12 (o1.2 6) (g0 6) 12 (o0.2 6) hq7) [5, 2] (atAll_map ⟨rfl, rfl, trivial⟩) (by decide +kernel) (sameAd_map ⟨rfl, rfl, trivial⟩) (atAll_map ⟨rfl, rfl, trivial⟩) ⟨Or.inl rfl, Or.inl rfl, Or.inr (by decide), Or.inl rfl, Or.inl rfl, Or.inl rfl, trivial⟩ ⟨va_cnB 2 hts gX5_copy_X7_copyCells_n39 rfl rfl rfl (hKK.2 _ (nws_in 6 rfl)) (hts (.initialized RX7) (List.mem_of_getElem? (i := 9) rfl)) dsc_X7_copyCells ⟨Nat.le_of_ble_eq_true rfl, Nat.le_of_ble_eq_true rfl⟩, hts (.static yX7_copyCells) (List.mem_of_getElem? (i := 8) rfl), trivial⟩ rfl hl.1 rfl (Nat.le_of_ble_eq_true rfl) dX5_copy_59 ⟨Nat.zero_le _, Nat.zero_le _⟩ (fun H locs hP hD hS => ?_)
  have h := Option.some.inj h
  subst h
  subst hQ
  exact W.vret hx hb hr (fun t ht hW => ⟨⟨rfl, by rw [ht]; exact hP, hD⟩, hS.F ht⟩) hS.2.2 dX5_copy_62
def f_X5_againstBits_58 (x23_6 : Int32) (kL23 : (Int32 → Int32 → Option (Int32))) (x58_5 : Int32) : Option (Int32) := bnd (x23_6 + (1 : Int32)) fun x6 : Int32 => kL23 x58_5 x6
def f_X5_againstBits_23 (o1 : Ob) (q1 : Int32) (q2 : Int32) : Nat → Int32 → Int32 → Option (Int32)
  | 0, _, _ => none
  | nn23+1, x23_5, x23_6 => if (12 : Int32) ≤ x23_6 then (some x23_5) else ((f_X7_cell 12 (o1.2 0) x23_6).bind fun q4 : Int32 => bnd (f_X7_meet q1 (q2 - q4)) fun q5 : Bool => if (b2i q5) = 0 then (f_X5_againstBits_58 x23_6 (f_X5_againstBits_23 o1 q1 q2 nn23) x23_5) else (bnd (x23_5 ||| ((1 : Int32) <<< (x23_6 &&& 31))) fun x8 : Int32 => f_X5_againstBits_58 x23_6 (f_X5_againstBits_23 o1 q1 q2 nn23) x8))
def f_X5_againstBits (o0 : Ob) (o1 : Ob) (v2 : Int32) : Option (Int32) := (f_X7_cell 7 (o1.2 2) v2).bind fun q1 : Int32 => (f_X5_placeOf o0 o1 v2).bind fun q2 : Int32 => f_X5_againstBits_23 o1 q1 q2 FU (0 : Int32) (0 : Int32)
abbrev rmX5_againstBits : Room := { frames := 3, cells := 0, slots := 0, locals := 67 }
theorem dsc_X5_againstBits : yX5_againstBits.cls ≠ "java/lang/invoke/MethodHandle" ∧ yX5_againstBits.cls ≠ "java/lang/invoke/VarHandle" ∧ (parseMethodDescriptor yX5_againstBits.desc).map (fun d => d.parameters.length) = some 2 := by decide +kernel
set_option maxHeartbeats 4000000 in
set_option maxRecDepth 100000 in
theorem c_X5_againstBits (l : Launch) (dC : Nat → ClassId) (dI : Nat → Nat → Nat) (cB cI cZ cO : ClassId) (a0 : Nat) (g0 : Nat → Nat) (o0 : Ob) (a1 : Nat) (g1 : Nat → Nat) (o1 : Ob) (v2 : Int32) {r : Int32} (h : f_X5_againstBits o0 o1 v2 = some r) : Ct dC dI cB cI cZ cO l yX5_againstBits wsX5_againstBits rmX5_againstBits [.ref a0, .ref a1, .int v2] ([cX5 a0 g0 o0, cX5_5 cI g0 o0, cX5_6 cI g0 o0, cX6 a1 g1 o1, cX6_0 cI g1 o1, cX6_1 cI g1 o1, cX6_2 cI g1 o1, cX6_3 cI g1 o1, cX6_4 cI g1 o1, cX6_5 cI g1 o1, cX6_6 cI g1 o1, cX6_7 cI g1 o1]) (some (.int r)) ([cX5 a0 g0 o0, cX5_5 cI g0 o0, cX5_6 cI g0 o0, cX6 a1 g1 o1, cX6_0 cI g1 o1, cX6_1 cI g1 o1, cX6_2 cI g1 o1, cX6_3 cI g1 o1, cX6_4 cI g1 o1, cX6_5 cI g1 o1, cX6_6 cI g1 o1, cX6_7 cI g1 o1]) := by
  intro sz
  refine Met.ofW (cc := cX5_againstBits) (maxL := 7) (ret := (some .int)) (by decide) rfl ?_
  intro p e s m args below meth c s₁ B hml hv
  obtain ⟨rfl, hsz, hP, hKK, hD0⟩ := hv
  have hx := B.exec
  have hb := B.bytes
  have hr := B.returns
  have hts := atoms_spec (ws := wsX5_againstBits) B.pre
  have hown : s.vm.findClass RX5 = some m.cls := findClass_of_methodNamed B.named
  have hlocks := B.notSynchronized
  have hiX6 : ∀ w ∈ u_ws RX6 TX6 11, w ∈ wsX5_againstBits := fun w h => List.mem_cons_of_mem _ (List.mem_append_left _ (List.mem_append_right _ h))
  subst hsz
  have hD := hD0.self (sz := s.heap.size)
  generalize hAe : va_A ([cX5 a0 g0 o0, cX5_5 cI g0 o0, cX5_6 cI g0 o0, cX6 a1 g1 o1, cX6_0 cI g1 o1, cX6_1 cI g1 o1, cX6_2 cI g1 o1, cX6_3 cI g1 o1, cX6_4 cI g1 o1, cX6_5 cI g1 o1, cX6_6 cI g1 o1, cX6_7 cI g1 o1]) s.heap.size = A at hD ⊢
  have hA : ∀ q : Nat, s.heap.size ≤ q → A q := fun q h => by rw [← hAe]; exact Or.inr h
  have hS : va_S A s.heap s.heap [] := va_S.rf
  have hP : va_P (dC, dI) vwCl ([cX5 a0 g0 o0, cX5_5 cI g0 o0, cX5_6 cI g0 o0, cX6 a1 g1 o1, cX6_0 cI g1 o1, cX6_1 cI g1 o1, cX6_2 cI g1 o1, cX6_3 cI g1 o1, cX6_4 cI g1 o1, cX6_5 cI g1 o1, cX6_6 cI g1 o1, cX6_7 cI g1 o1]) s.heap := hP
  have hD : va_D A ([cX5 a0 g0 o0, cX5_5 cI g0 o0, cX5_6 cI g0 o0, cX6 a1 g1 o1, cX6_0 cI g1 o1, cX6_1 cI g1 o1, cX6_2 cI g1 o1, cX6_3 cI g1 o1, cX6_4 cI g1 o1, cX6_5 cI g1 o1, cX6_6 cI g1 o1, cX6_7 cI g1 o1]) := hD
  have hl := lv_entry ([.ref a0, .ref a1, .int v2]) (n := 7) (Nat.le_of_ble_eq_true rfl)
  rw [lg_entry_eq]
  generalize (lg_sl ([.ref a0, .ref a1, .int v2]) ++ List.replicate (7 - (lg_sl ([.ref a0, .ref a1, .int v2])).length) Slot.unset).toArray = ls at hl ⊢
  have hl : lv_has ls 7 [(0, .ref a0), (1, .ref a1), (2, .int v2)] := hl
  obtain ⟨Q, hQ⟩ : ∃ Q, Q = MQ below (Qq dC dI (some (.int r)) ([cX5 a0 g0 o0, cX5_5 cI g0 o0, cX5_6 cI g0 o0, cX6 a1 g1 o1, cX6_0 cI g1 o1, cX6_1 cI g1 o1, cX6_2 cI g1 o1, cX6_3 cI g1 o1, cX6_4 cI g1 o1, cX6_5 cI g1 o1, cX6_6 cI g1 o1, cX6_7 cI g1 o1]) A) ([.ref a0, .ref a1, .int v2] : List Value).toArray s 0 0 A := ⟨_, rfl⟩
  rw [← hQ]
  rw [f_X5_againstBits] at h
  clear hAe hD0
  refine lv_aload_n hx hb dX5_againstBits_0 rfl (lv_at hl 1 rfl) ?_
  refine va_get (D := (dC, dI)) (ci := 6) (v := .ref (g1 2)) (C := RX6) (T := TX6) (N := 11) hx hb hts hiX6 hown hKK.1 hP 3 rfl rfl 2 (by decide) (hts (.fieldLink RX5 47 "SlideLand$Told" "kind" "[I") (List.mem_of_getElem? (i := 1) rfl)) (fun _ h9 => h9) rfl dX5_againstBits_1 ?_
  refine lv_iload_n hx hb dX5_againstBits_4 rfl (lv_at hl 2 rfl) ?_
  obtain ⟨q1, hq1, h⟩ := obd_e h
  refine kcN (rest := []) (w2 := ([cX5 a0 g0 o0, cX5_5 cI g0 o0, cX5_6 cI g0 o0, cX6 a1 g1 o1, cX6_0 cI g1 o1, cX6_1 cI g1 o1, cX6_2 cI g1 o1, cX6_3 cI g1 o1, cX6_4 cI g1 o1, cX6_5 cI g1 o1, cX6_6 cI g1 o1, cX6_7 cI g1 o1])) hx hb hml hown hts hKK hP hD hS hA (c_X7_cell l dC dI cB cI cZ cO (g1 2) 7 (o1.2 2) v2 hq1) [6] (atAll_map ⟨rfl, trivial⟩) (by decide +kernel) (sameAd_map ⟨rfl, trivial⟩) (atAll_map ⟨rfl, trivial⟩) (agr_refl _ _ _) ⟨va_cnB 2 hts gX5_againstBits_X7_cell_n50 rfl rfl rfl (hKK.2 _ (nws_in 8 rfl)) (hts (.initialized RX7) (List.mem_of_getElem? (i := 4) rfl)) dsc_X7_cell ⟨Nat.le_of_ble_eq_true rfl, Nat.le_of_ble_eq_true rfl⟩, hts (.static yX7_cell) (List.mem_of_getElem? (i := 3) rfl), trivial⟩ rfl hl.1 rfl (Nat.le_of_ble_eq_true rfl) dX5_againstBits_5 ⟨Nat.zero_le _, Nat.zero_le _⟩ (fun H locs hP hD hS => ?_)
  refine lv_istore_n (lv' := [(3, .int q1), (0, .ref a0), (1, .ref a1), (2, .int v2)]) hx hb dX5_againstBits_8 rfl hl (by decide) rfl (fun ls hl => ?_)
  refine lv_aload_n hx hb dX5_againstBits_9 rfl (lv_at hl 1 rfl) ?_
  refine lv_aload_n hx hb dX5_againstBits_10 rfl (lv_at hl 2 rfl) ?_
  refine lv_iload_n hx hb dX5_againstBits_11 rfl (lv_at hl 3 rfl) ?_
  obtain ⟨q2, hq2, h⟩ := obd_e h
  refine kcV (rest := []) (w2 := ([cX5 a0 g0 o0, cX5_5 cI g0 o0, cX5_6 cI g0 o0, cX6 a1 g1 o1, cX6_0 cI g1 o1, cX6_1 cI g1 o1, cX6_2 cI g1 o1, cX6_3 cI g1 o1, cX6_4 cI g1 o1, cX6_5 cI g1 o1, cX6_6 cI g1 o1, cX6_7 cI g1 o1])) hx hb hml hown hts hKK hP hD hS hA (c_X5_placeOf l dC dI cB cI cZ cO a0 g0 o0 a1 g1 o1 v2 hq2) [0, 1, 2, 3, 4, 5, 6, 7, 8, 9, 10, 11] (atAll_map ⟨rfl, rfl, rfl, rfl, rfl, rfl, rfl, rfl, rfl, rfl, rfl, rfl, trivial⟩) (by decide +kernel) (sameAd_map ⟨rfl, rfl, rfl, rfl, rfl, rfl, rfl, rfl, rfl, rfl, rfl, rfl, trivial⟩) (atAll_map ⟨rfl, rfl, rfl, rfl, rfl, rfl, rfl, rfl, rfl, rfl, rfl, rfl, trivial⟩) (agr_refl _ _ _) (cwV 2 hts gX5_againstBits_X5_placeOf rfl rfl rfl ⟨rfl, dsc_X5_placeOf⟩ ⟨Nat.le_of_ble_eq_true rfl, Nat.le_of_ble_eq_true rfl⟩) (va_recv hKK.1 hP (ci := 5) (q0 := 0) rfl rfl) rfl hl.1 rfl (Nat.le_of_ble_eq_true rfl) dX5_againstBits_12 ⟨Nat.zero_le _, Nat.zero_le _⟩ (fun H locs hP hD hS => ?_)
  refine lv_istore (lv' := [(4, .int q2), (3, .int q1), (0, .ref a0), (1, .ref a1), (2, .int v2)]) hx hb dX5_againstBits_15 hl (by decide) rfl (fun ls hl => ?_)
  refine lv_iconst (v := (0 : Int32)) hx hb dX5_againstBits_17 (by decide) ?_
  refine lv_istore (lv' := [(5, .int (0 : Int32)), (4, .int q2), (3, .int q1), (0, .ref a0), (1, .ref a1), (2, .int v2)]) hx hb dX5_againstBits_18 hl (by decide) rfl (fun ls hl => ?_)
  refine lv_iconst (v := (0 : Int32)) hx hb dX5_againstBits_20 (by decide) ?_
  refine lv_istore (lv' := [(6, .int (0 : Int32)), (5, .int (0 : Int32)), (4, .int q2), (3, .int q1), (0, .ref a0), (1, .ref a1), (2, .int v2)]) hx hb dX5_againstBits_21 hl (by decide) rfl (fun ls hl => ?_)
  have lp23 : ∀ (nn23 : Nat) (x23_5 : Int32) (x23_6 : Int32), f_X5_againstBits_23 o1 q1 q2 nn23 x23_5 x23_6 = some r → ∀ (H : Heap) (locs : List Loc) (ls : Array Slot), va_P (dC, dI) vwCl ([cX5 a0 g0 o0, cX5_5 cI g0 o0, cX5_6 cI g0 o0, cX6 a1 g1 o1, cX6_0 cI g1 o1, cX6_1 cI g1 o1, cX6_2 cI g1 o1, cX6_3 cI g1 o1, cX6_4 cI g1 o1, cX6_5 cI g1 o1, cX6_6 cI g1 o1, cX6_7 cI g1 o1]) H → va_D A ([cX5 a0 g0 o0, cX5_5 cI g0 o0, cX5_6 cI g0 o0, cX6 a1 g1 o1, cX6_0 cI g1 o1, cX6_1 cI g1 o1, cX6_2 cI g1 o1, cX6_3 cI g1 o1, cX6_4 cI g1 o1, cX6_5 cI g1 o1, cX6_6 cI g1 o1, cX6_7 cI g1 o1]) → va_S A s.heap H locs → lv_has ls 7 [(1, .ref a1), (3, .int q1), (4, .int q2), (5, .int x23_5), (6, .int x23_6)] → W p l e (headSpec wsX5_againstBits rmX5_againstBits).room s m ([.ref a0, .ref a1, .int v2] : List Value).toArray below meth c H locs 0 0 Q (F0 m 23 ls []) := by
    intro nn23
    induction nn23 with
    | zero => intro x23_5 x23_6 h; rw [f_X5_againstBits_23] at h; cases h
    | succ nn23 ih23 =>
      intro x23_5 x23_6 h H locs ls hP hD hS hl
      rw [f_X5_againstBits_23] at h
      refine lv_iload hx hb dX5_againstBits_23 (lv_at hl 4 rfl) ?_
      refine lv_bipush (v := (12 : Int32)) hx hb dX5_againstBits_25 (by decide) ?_
      refine lv_icmp_ge (tgt := 64) hx hb dX5_againstBits_27 (by decide) (fun k3 => ?_) (fun k3 => ?_)
      · have h := ite_t k3 h
        refine lv_iload hx hb dX5_againstBits_64 (lv_at hl 3 rfl) ?_
        have h := Option.some.inj h
        subst h
        subst hQ
        exact W.iret (v := x23_5) hx hb hr (fun t ht hW => ⟨⟨rfl, by rw [ht]; exact hP, hD⟩, hS.F ht⟩) hS.2.2 dX5_againstBits_66
      · have h := ite_f k3 h
        refine lv_iload_n hx hb dX5_againstBits_30 rfl (lv_at hl 1 rfl) ?_
        refine lv_iload hx hb dX5_againstBits_31 (lv_at hl 2 rfl) ?_
        refine lv_aload_n hx hb dX5_againstBits_33 rfl (lv_at hl 0 rfl) ?_
        refine va_get (D := (dC, dI)) (ci := 6) (v := .ref (g1 0)) (C := RX6) (T := TX6) (N := 11) hx hb hts hiX6 hown hKK.1 hP 3 rfl rfl 0 (by decide) (hts (.fieldLink RX5 65 "SlideLand$Told" "oneInch" "[I") (List.mem_of_getElem? (i := 2) rfl)) (fun _ h9 => h9) rfl dX5_againstBits_34 ?_
        refine lv_iload hx hb dX5_againstBits_37 (lv_at hl 4 rfl) ?_
        obtain ⟨q4, hq4, h⟩ := obd_e h
        refine kcN (rest := [.int q2, .int q1]) (w2 := ([cX5 a0 g0 o0, cX5_5 cI g0 o0, cX5_6 cI g0 o0, cX6 a1 g1 o1, cX6_0 cI g1 o1, cX6_1 cI g1 o1, cX6_2 cI g1 o1, cX6_3 cI g1 o1, cX6_4 cI g1 o1, cX6_5 cI g1 o1, cX6_6 cI g1 o1, cX6_7 cI g1 o1])) hx hb hml hown hts hKK hP hD hS hA (c_X7_cell l dC dI cB cI cZ cO (g1 0) 12 (o1.2 0) x23_6 hq4) [4] (atAll_map ⟨rfl, trivial⟩) (by decide +kernel) (sameAd_map ⟨rfl, trivial⟩) (atAll_map ⟨rfl, trivial⟩) (agr_refl _ _ _) ⟨va_cnB 2 hts gX5_againstBits_X7_cell_n50 rfl rfl rfl (hKK.2 _ (nws_in 8 rfl)) (hts (.initialized RX7) (List.mem_of_getElem? (i := 4) rfl)) dsc_X7_cell ⟨Nat.le_of_ble_eq_true rfl, Nat.le_of_ble_eq_true rfl⟩, hts (.static yX7_cell) (List.mem_of_getElem? (i := 3) rfl), trivial⟩ rfl hl.1 rfl (Nat.le_of_ble_eq_true rfl) dX5_againstBits_39 ⟨Nat.zero_le _, Nat.zero_le _⟩ (fun H locs hP hD hS => ?_)
        refine lv_isub hx hb dX5_againstBits_42 ?_
        obtain ⟨q5, hq5, h⟩ := bnd_e h
        refine kcN (rest := []) (w2 := ([cX5 a0 g0 o0, cX5_5 cI g0 o0, cX5_6 cI g0 o0, cX6 a1 g1 o1, cX6_0 cI g1 o1, cX6_1 cI g1 o1, cX6_2 cI g1 o1, cX6_3 cI g1 o1, cX6_4 cI g1 o1, cX6_5 cI g1 o1, cX6_6 cI g1 o1, cX6_7 cI g1 o1])) hx hb hml hown hts hKK hP hD hS hA (c_X7_meet l dC dI cB cI cZ cO q1 (q2 - q4) hq5) [] (atAll_map trivial) (by decide +kernel) (sameAd_map trivial) (atAll_map trivial) (agr_refl _ _ _) ⟨va_cnB 2 hts gX5_againstBits_X7_meet_n68 rfl rfl rfl (hKK.2 _ (nws_in 9 rfl)) (hts (.initialized RX7) (List.mem_of_getElem? (i := 4) rfl)) dsc_X7_meet ⟨Nat.le_of_ble_eq_true rfl, Nat.le_of_ble_eq_true rfl⟩, hts (.static yX7_meet) (List.mem_of_getElem? (i := 26) rfl), trivial⟩ rfl hl.1 rfl (Nat.le_of_ble_eq_true rfl) dX5_againstBits_43 ⟨Nat.zero_le _, Nat.zero_le _⟩ (fun H locs hP hD hS => ?_)
        have jn58 : ∀ (x58_5 : Int32), f_X5_againstBits_58 x23_6 (f_X5_againstBits_23 o1 q1 q2 nn23) x58_5 = some r → ∀ (H : Heap) (locs : List Loc) (ls : Array Slot), va_P (dC, dI) vwCl ([cX5 a0 g0 o0, cX5_5 cI g0 o0, cX5_6 cI g0 o0, cX6 a1 g1 o1, cX6_0 cI g1 o1, cX6_1 cI g1 o1, cX6_2 cI g1 o1, cX6_3 cI g1 o1, cX6_4 cI g1 o1, cX6_5 cI g1 o1, cX6_6 cI g1 o1, cX6_7 cI g1 o1]) H → va_D A ([cX5 a0 g0 o0, cX5_5 cI g0 o0, cX5_6 cI g0 o0, cX6 a1 g1 o1, cX6_0 cI g1 o1, cX6_1 cI g1 o1, cX6_2 cI g1 o1, cX6_3 cI g1 o1, cX6_4 cI g1 o1, cX6_5 cI g1 o1, cX6_6 cI g1 o1, cX6_7 cI g1 o1]) → va_S A s.heap H locs → lv_has ls 7 [(1, .ref a1), (3, .int q1), (4, .int q2), (5, .int x58_5), (6, .int x23_6)] → W p l e (headSpec wsX5_againstBits rmX5_againstBits).room s m ([.ref a0, .ref a1, .int v2] : List Value).toArray below meth c H locs 0 0 Q (F0 m 58 ls []) := by
          intro x58_5 h H locs ls hP hD hS hl
          rw [f_X5_againstBits_58] at h
          obtain ⟨x6, hx6, h⟩ := bnd_e h
          refine lv_iinc (v := x6) (lv' := [(6, .int x6), (1, .ref a1), (3, .int q1), (4, .int q2), (5, .int x58_5)]) hx hb dX5_againstBits_58 hl (k := 4) rfl (by rw [← hx6]; rfl) (by decide) rfl (fun ls hl => ?_)
          refine lv_goto (tgt := 23) hx hb dX5_againstBits_61 (by decide) ?_
          exact ih23 x58_5 x6 h _ _ _ hP hD hS (lv_sub hl [1, 2, 3, 4, 0] rfl)
        refine lv_if_eq (tgt := 58) hx hb dX5_againstBits_46 (by decide) (fun k7 => ?_) (fun k7 => ?_)
        · have h := ite_t k7 h
          exact jn58 x23_5 h _ _ _ hP hD hS (lv_sub hl [0, 1, 2, 3, 4] rfl)
        · have h := ite_f k7 h
          refine lv_iload hx hb dX5_againstBits_49 (lv_at hl 3 rfl) ?_
          refine lv_iconst (v := (1 : Int32)) hx hb dX5_againstBits_51 (by decide) ?_
          refine lv_iload hx hb dX5_againstBits_52 (lv_at hl 4 rfl) ?_
          refine lv_ishl hx hb dX5_againstBits_54 ?_
          refine lv_ior hx hb dX5_againstBits_55 ?_
          obtain ⟨x8, hx8, h⟩ := bnd_e h
          refine lv_topE hx8 ?_
          refine lv_istore (lv' := [(5, .int x8), (1, .ref a1), (3, .int q1), (4, .int q2), (6, .int x23_6)]) hx hb dX5_againstBits_56 hl (by decide) rfl (fun ls hl => ?_)
          exact jn58 x8 h _ _ _ hP hD hS (lv_sub hl [1, 2, 3, 0, 4] rfl)
  exact lp23 FU (0 : Int32) (0 : Int32) h _ _ _ hP hD hS (lv_sub hl [5, 3, 2, 1, 0] rfl)
def f_X5_allPairs_4 (o0 : Ob) (o1 : Ob) : Nat → Int32 → Int32 → Option (Int32)
  | 0, _, _ => none
  | nn4+1, x4_2, x4_3 => if (o1.1 8) ≤ x4_3 then (some x4_2) else ((f_X5_againstBits o0 o1 x4_3).bind fun q2 : Int32 => bnd (f_J6_bitCount_0f7a4 q2) fun q3 : Int32 => bnd (x4_2 + q3) fun x4 : Int32 => bnd (x4_3 + (1 : Int32)) fun x5 : Int32 => (f_X5_allPairs_4 o0 o1 nn4) x4 x5)
def f_X5_allPairs (o0 : Ob) (o1 : Ob) : Option (Int32) := f_X5_allPairs_4 o0 o1 FU (0 : Int32) (0 : Int32)
abbrev rmX5_allPairs : Room := { frames := 4, cells := 0, slots := 0, locals := 93 }
theorem dsc_X5_allPairs : yX5_allPairs.cls ≠ "java/lang/invoke/MethodHandle" ∧ yX5_allPairs.cls ≠ "java/lang/invoke/VarHandle" ∧ (parseMethodDescriptor yX5_allPairs.desc).map (fun d => d.parameters.length) = some 1 := by decide +kernel
set_option maxHeartbeats 4000000 in
set_option maxRecDepth 100000 in
theorem c_X5_allPairs (l : Launch) (dC : Nat → ClassId) (dI : Nat → Nat → Nat) (cB cI cZ cO : ClassId) (a0 : Nat) (g0 : Nat → Nat) (o0 : Ob) (a1 : Nat) (g1 : Nat → Nat) (o1 : Ob) {r : Int32} (h : f_X5_allPairs o0 o1 = some r) : Ct dC dI cB cI cZ cO l yX5_allPairs wsX5_allPairs rmX5_allPairs [.ref a0, .ref a1] ([cX5 a0 g0 o0, cX5_5 cI g0 o0, cX5_6 cI g0 o0, cX6 a1 g1 o1, cX6_0 cI g1 o1, cX6_1 cI g1 o1, cX6_2 cI g1 o1, cX6_3 cI g1 o1, cX6_4 cI g1 o1, cX6_5 cI g1 o1, cX6_6 cI g1 o1, cX6_7 cI g1 o1]) (some (.int r)) ([cX5 a0 g0 o0, cX5_5 cI g0 o0, cX5_6 cI g0 o0, cX6 a1 g1 o1, cX6_0 cI g1 o1, cX6_1 cI g1 o1, cX6_2 cI g1 o1, cX6_3 cI g1 o1, cX6_4 cI g1 o1, cX6_5 cI g1 o1, cX6_6 cI g1 o1, cX6_7 cI g1 o1]) := by
  intro sz
  refine Met.ofW (cc := cX5_allPairs) (maxL := 4) (ret := (some .int)) (by decide) rfl ?_
  intro p e s m args below meth c s₁ B hml hv
  obtain ⟨rfl, hsz, hP, hKK, hD0⟩ := hv
  have hx := B.exec
  have hb := B.bytes
  have hr := B.returns
  have hts := atoms_spec (ws := wsX5_allPairs) B.pre
  have hown : s.vm.findClass RX5 = some m.cls := findClass_of_methodNamed B.named
  have hlocks := B.notSynchronized
  have hiX6 : ∀ w ∈ u_ws RX6 TX6 11, w ∈ wsX5_allPairs := fun w h => List.mem_cons_of_mem _ (List.mem_append_left _ (List.mem_append_right _ h))
  subst hsz
  have hD := hD0.self (sz := s.heap.size)
  generalize hAe : va_A ([cX5 a0 g0 o0, cX5_5 cI g0 o0, cX5_6 cI g0 o0, cX6 a1 g1 o1, cX6_0 cI g1 o1, cX6_1 cI g1 o1, cX6_2 cI g1 o1, cX6_3 cI g1 o1, cX6_4 cI g1 o1, cX6_5 cI g1 o1, cX6_6 cI g1 o1, cX6_7 cI g1 o1]) s.heap.size = A at hD ⊢
  have hA : ∀ q : Nat, s.heap.size ≤ q → A q := fun q h => by rw [← hAe]; exact Or.inr h
  have hS : va_S A s.heap s.heap [] := va_S.rf
  have hP : va_P (dC, dI) vwCl ([cX5 a0 g0 o0, cX5_5 cI g0 o0, cX5_6 cI g0 o0, cX6 a1 g1 o1, cX6_0 cI g1 o1, cX6_1 cI g1 o1, cX6_2 cI g1 o1, cX6_3 cI g1 o1, cX6_4 cI g1 o1, cX6_5 cI g1 o1, cX6_6 cI g1 o1, cX6_7 cI g1 o1]) s.heap := hP
  have hD : va_D A ([cX5 a0 g0 o0, cX5_5 cI g0 o0, cX5_6 cI g0 o0, cX6 a1 g1 o1, cX6_0 cI g1 o1, cX6_1 cI g1 o1, cX6_2 cI g1 o1, cX6_3 cI g1 o1, cX6_4 cI g1 o1, cX6_5 cI g1 o1, cX6_6 cI g1 o1, cX6_7 cI g1 o1]) := hD
  have hl := lv_entry ([.ref a0, .ref a1]) (n := 4) (Nat.le_of_ble_eq_true rfl)
  rw [lg_entry_eq]
  generalize (lg_sl ([.ref a0, .ref a1]) ++ List.replicate (4 - (lg_sl ([.ref a0, .ref a1])).length) Slot.unset).toArray = ls at hl ⊢
  have hl : lv_has ls 4 [(0, .ref a0), (1, .ref a1)] := hl
  obtain ⟨Q, hQ⟩ : ∃ Q, Q = MQ below (Qq dC dI (some (.int r)) ([cX5 a0 g0 o0, cX5_5 cI g0 o0, cX5_6 cI g0 o0, cX6 a1 g1 o1, cX6_0 cI g1 o1, cX6_1 cI g1 o1, cX6_2 cI g1 o1, cX6_3 cI g1 o1, cX6_4 cI g1 o1, cX6_5 cI g1 o1, cX6_6 cI g1 o1, cX6_7 cI g1 o1]) A) ([.ref a0, .ref a1] : List Value).toArray s 0 0 A := ⟨_, rfl⟩
  rw [← hQ]
  rw [f_X5_allPairs] at h
  clear hAe hD0
  refine lv_iconst (v := (0 : Int32)) hx hb dX5_allPairs_0 (by decide) ?_
  refine lv_istore_n (lv' := [(2, .int (0 : Int32)), (0, .ref a0), (1, .ref a1)]) hx hb dX5_allPairs_1 rfl hl (by decide) rfl (fun ls hl => ?_)
  refine lv_iconst (v := (0 : Int32)) hx hb dX5_allPairs_2 (by decide) ?_
  refine lv_istore_n (lv' := [(3, .int (0 : Int32)), (2, .int (0 : Int32)), (0, .ref a0), (1, .ref a1)]) hx hb dX5_allPairs_3 rfl hl (by decide) rfl (fun ls hl => ?_)
  have lp4 : ∀ (nn4 : Nat) (x4_2 : Int32) (x4_3 : Int32), f_X5_allPairs_4 o0 o1 nn4 x4_2 x4_3 = some r → ∀ (H : Heap) (locs : List Loc) (ls : Array Slot), va_P (dC, dI) vwCl ([cX5 a0 g0 o0, cX5_5 cI g0 o0, cX5_6 cI g0 o0, cX6 a1 g1 o1, cX6_0 cI g1 o1, cX6_1 cI g1 o1, cX6_2 cI g1 o1, cX6_3 cI g1 o1, cX6_4 cI g1 o1, cX6_5 cI g1 o1, cX6_6 cI g1 o1, cX6_7 cI g1 o1]) H → va_D A ([cX5 a0 g0 o0, cX5_5 cI g0 o0, cX5_6 cI g0 o0, cX6 a1 g1 o1, cX6_0 cI g1 o1, cX6_1 cI g1 o1, cX6_2 cI g1 o1, cX6_3 cI g1 o1, cX6_4 cI g1 o1, cX6_5 cI g1 o1, cX6_6 cI g1 o1, cX6_7 cI g1 o1]) → va_S A s.heap H locs → lv_has ls 4 [(0, .ref a0), (1, .ref a1), (2, .int x4_2), (3, .int x4_3)] → W p l e (headSpec wsX5_allPairs rmX5_allPairs).room s m ([.ref a0, .ref a1] : List Value).toArray below meth c H locs 0 0 Q (F0 m 4 ls []) := by
    intro nn4
    induction nn4 with
    | zero => intro x4_2 x4_3 h; rw [f_X5_allPairs_4] at h; cases h
    | succ nn4 ih4 =>
      intro x4_2 x4_3 h H locs ls hP hD hS hl
      rw [f_X5_allPairs_4] at h
      refine lv_iload_n hx hb dX5_allPairs_4 rfl (lv_at hl 3 rfl) ?_
      refine lv_aload_n hx hb dX5_allPairs_5 rfl (lv_at hl 1 rfl) ?_
      refine va_get (D := (dC, dI)) (ci := 6) (v := .int (o1.1 8)) (C := RX6) (T := TX6) (N := 11) hx hb hts hiX6 hown hKK.1 hP 3 rfl rfl 8 (by decide) (hts (.fieldLink RX5 72 "SlideLand$Told" "strips" "I") (List.mem_of_getElem? (i := 1) rfl)) (fun _ h9 => h9) rfl dX5_allPairs_6 ?_
      refine lv_icmp_ge (tgt := 30) hx hb dX5_allPairs_9 (by decide) (fun k1 => ?_) (fun k1 => ?_)
      · have h := ite_t k1 h
        refine lv_iload_n hx hb dX5_allPairs_30 rfl (lv_at hl 2 rfl) ?_
        have h := Option.some.inj h
        subst h
        subst hQ
        exact W.iret (v := x4_2) hx hb hr (fun t ht hW => ⟨⟨rfl, by rw [ht]; exact hP, hD⟩, hS.F ht⟩) hS.2.2 dX5_allPairs_31
      · have h := ite_f k1 h
        refine lv_iload_n hx hb dX5_allPairs_12 rfl (lv_at hl 2 rfl) ?_
        refine lv_aload_n hx hb dX5_allPairs_13 rfl (lv_at hl 0 rfl) ?_
        refine lv_aload_n hx hb dX5_allPairs_14 rfl (lv_at hl 1 rfl) ?_
        refine lv_iload_n hx hb dX5_allPairs_15 rfl (lv_at hl 3 rfl) ?_
        obtain ⟨q2, hq2, h⟩ := obd_e h
        refine kcV (rest := [.int x4_2]) (w2 := ([cX5 a0 g0 o0, cX5_5 cI g0 o0, cX5_6 cI g0 o0, cX6 a1 g1 o1, cX6_0 cI g1 o1, cX6_1 cI g1 o1, cX6_2 cI g1 o1, cX6_3 cI g1 o1, cX6_4 cI g1 o1, cX6_5 cI g1 o1, cX6_6 cI g1 o1, cX6_7 cI g1 o1])) hx hb hml hown hts hKK hP hD hS hA (c_X5_againstBits l dC dI cB cI cZ cO a0 g0 o0 a1 g1 o1 x4_3 hq2) [0, 1, 2, 3, 4, 5, 6, 7, 8, 9, 10, 11] (atAll_map ⟨rfl, rfl, rfl, rfl, rfl, rfl, rfl, rfl, rfl, rfl, rfl, rfl, trivial⟩) (by decide +kernel) (sameAd_map ⟨rfl, rfl, rfl, rfl, rfl, rfl, rfl, rfl, rfl, rfl, rfl, rfl, trivial⟩) (atAll_map ⟨rfl, rfl, rfl, rfl, rfl, rfl, rfl, rfl, rfl, rfl, rfl, rfl, trivial⟩) (agr_refl _ _ _) (cwV 2 hts gX5_allPairs_X5_againstBits rfl rfl rfl ⟨rfl, dsc_X5_againstBits⟩ ⟨Nat.le_of_ble_eq_true rfl, Nat.le_of_ble_eq_true rfl⟩) (va_recv hKK.1 hP (ci := 5) (q0 := 0) rfl rfl) rfl hl.1 rfl (Nat.le_of_ble_eq_true rfl) dX5_allPairs_16 ⟨Nat.zero_le _, Nat.zero_le _⟩ (fun H locs hP hD hS => ?_)
        obtain ⟨q3, hq3, h⟩ := bnd_e h
        refine kcS (rest := [.int x4_2]) (w2 := ([cX5 a0 g0 o0, cX5_5 cI g0 o0, cX5_6 cI g0 o0, cX6 a1 g1 o1, cX6_0 cI g1 o1, cX6_1 cI g1 o1, cX6_2 cI g1 o1, cX6_3 cI g1 o1, cX6_4 cI g1 o1, cX6_5 cI g1 o1, cX6_6 cI g1 o1, cX6_7 cI g1 o1])) hx hb hml hown hts hKK hP hD hS hA (c_J6_bitCount_0f7a4 l dC dI cB cI cZ cO q2 hq3) [] (atAll_map trivial) (by decide +kernel) (sameAd_map trivial) (atAll_map trivial) (agr_refl _ _ _) (va_cwS 1 hts gX5_allPairs_J6_bitCount_0f7a4 rfl rfl rfl dsc_J6_bitCount_0f7a4 ⟨Nat.le_of_ble_eq_true rfl, Nat.le_of_ble_eq_true rfl⟩) rfl hl.1 rfl (Nat.le_of_ble_eq_true rfl) dX5_allPairs_19 ⟨Nat.zero_le _, Nat.zero_le _⟩ (fun H locs hP hD hS => ?_)
        refine lv_iadd hx hb dX5_allPairs_22 ?_
        obtain ⟨x4, hx4, h⟩ := bnd_e h
        refine lv_topE hx4 ?_
        refine lv_istore_n (lv' := [(2, .int x4), (0, .ref a0), (1, .ref a1), (3, .int x4_3)]) hx hb dX5_allPairs_23 rfl hl (by decide) rfl (fun ls hl => ?_)
        obtain ⟨x5, hx5, h⟩ := bnd_e h
        refine lv_iinc (v := x5) (lv' := [(3, .int x5), (2, .int x4), (0, .ref a0), (1, .ref a1)]) hx hb dX5_allPairs_24 hl (k := 3) rfl (by rw [← hx5]; rfl) (by decide) rfl (fun ls hl => ?_)
        refine lv_goto (tgt := 4) hx hb dX5_allPairs_27 (by decide) ?_
        exact ih4 x4 x5 h _ _ _ hP hD hS (lv_sub hl [2, 3, 1, 0] rfl)
  exact lp4 FU (0 : Int32) (0 : Int32) h _ _ _ hP hD hS (lv_sub hl [2, 3, 1, 0] rfl)
def f_X5_allGoods_4 (o0 : Ob) (o1 : Ob) : Nat → Int32 → Int32 → Option (Int32)
  | 0, _, _ => none
  | nn4+1, x4_2, x4_3 => if (o1.1 8) ≤ x4_3 then (some x4_2) else ((f_X7_cell 7 (o0.2 5) x4_3).bind fun q2 : Int32 => bnd (x4_2 + q2) fun x3 : Int32 => bnd (x4_3 + (1 : Int32)) fun x4 : Int32 => (f_X5_allGoods_4 o0 o1 nn4) x3 x4)
def f_X5_allGoods (o0 : Ob) (o1 : Ob) : Option (Int32) := f_X5_allGoods_4 o0 o1 FU (0 : Int32) (0 : Int32)
abbrev rmX5_allGoods : Room := { frames := 1, cells := 0, slots := 0, locals := 21 }
theorem dsc_X5_allGoods : yX5_allGoods.cls ≠ "java/lang/invoke/MethodHandle" ∧ yX5_allGoods.cls ≠ "java/lang/invoke/VarHandle" ∧ (parseMethodDescriptor yX5_allGoods.desc).map (fun d => d.parameters.length) = some 1 := by decide +kernel
set_option maxHeartbeats 4000000 in
set_option maxRecDepth 100000 in
theorem c_X5_allGoods (l : Launch) (dC : Nat → ClassId) (dI : Nat → Nat → Nat) (cB cI cZ cO : ClassId) (a0 : Nat) (g0 : Nat → Nat) (o0 : Ob) (a1 : Nat) (g1 : Nat → Nat) (o1 : Ob) {r : Int32} (h : f_X5_allGoods o0 o1 = some r) : Ct dC dI cB cI cZ cO l yX5_allGoods wsX5_allGoods rmX5_allGoods [.ref a0, .ref a1] ([cX5 a0 g0 o0, cX5_5 cI g0 o0, cX5_6 cI g0 o0, cX6 a1 g1 o1, cX6_0 cI g1 o1, cX6_1 cI g1 o1, cX6_2 cI g1 o1, cX6_3 cI g1 o1, cX6_4 cI g1 o1, cX6_5 cI g1 o1, cX6_6 cI g1 o1, cX6_7 cI g1 o1]) (some (.int r)) ([cX5 a0 g0 o0, cX5_5 cI g0 o0, cX5_6 cI g0 o0, cX6 a1 g1 o1, cX6_0 cI g1 o1, cX6_1 cI g1 o1, cX6_2 cI g1 o1, cX6_3 cI g1 o1, cX6_4 cI g1 o1, cX6_5 cI g1 o1, cX6_6 cI g1 o1, cX6_7 cI g1 o1]) := by
  intro sz
  refine Met.ofW (cc := cX5_allGoods) (maxL := 4) (ret := (some .int)) (by decide) rfl ?_
  intro p e s m args below meth c s₁ B hml hv
  obtain ⟨rfl, hsz, hP, hKK, hD0⟩ := hv
  have hx := B.exec
  have hb := B.bytes
  have hr := B.returns
  have hts := atoms_spec (ws := wsX5_allGoods) B.pre
  have hown : s.vm.findClass RX5 = some m.cls := findClass_of_methodNamed B.named
  have hlocks := B.notSynchronized
  have hiX6 : ∀ w ∈ u_ws RX6 TX6 11, w ∈ wsX5_allGoods := fun w h => List.mem_cons_of_mem _ (List.mem_append_left _ (List.mem_append_right _ h))
  have hiX5 : ∀ w ∈ u_ws RX5 TX5 7, w ∈ wsX5_allGoods := fun w h => List.mem_cons_of_mem _ (List.mem_append_right _ h)
  subst hsz
  have hD := hD0.self (sz := s.heap.size)
  generalize hAe : va_A ([cX5 a0 g0 o0, cX5_5 cI g0 o0, cX5_6 cI g0 o0, cX6 a1 g1 o1, cX6_0 cI g1 o1, cX6_1 cI g1 o1, cX6_2 cI g1 o1, cX6_3 cI g1 o1, cX6_4 cI g1 o1, cX6_5 cI g1 o1, cX6_6 cI g1 o1, cX6_7 cI g1 o1]) s.heap.size = A at hD ⊢
  have hA : ∀ q : Nat, s.heap.size ≤ q → A q := fun q h => by rw [← hAe]; exact Or.inr h
  have hS : va_S A s.heap s.heap [] := va_S.rf
  have hP : va_P (dC, dI) vwCl ([cX5 a0 g0 o0, cX5_5 cI g0 o0, cX5_6 cI g0 o0, cX6 a1 g1 o1, cX6_0 cI g1 o1, cX6_1 cI g1 o1, cX6_2 cI g1 o1, cX6_3 cI g1 o1, cX6_4 cI g1 o1, cX6_5 cI g1 o1, cX6_6 cI g1 o1, cX6_7 cI g1 o1]) s.heap := hP
  have hD : va_D A ([cX5 a0 g0 o0, cX5_5 cI g0 o0, cX5_6 cI g0 o0, cX6 a1 g1 o1, cX6_0 cI g1 o1, cX6_1 cI g1 o1, cX6_2 cI g1 o1, cX6_3 cI g1 o1, cX6_4 cI g1 o1, cX6_5 cI g1 o1, cX6_6 cI g1 o1, cX6_7 cI g1 o1]) := hD
  have hl := lv_entry ([.ref a0, .ref a1]) (n := 4) (Nat.le_of_ble_eq_true rfl)
  rw [lg_entry_eq]
  generalize (lg_sl ([.ref a0, .ref a1]) ++ List.replicate (4 - (lg_sl ([.ref a0, .ref a1])).length) Slot.unset).toArray = ls at hl ⊢
  have hl : lv_has ls 4 [(0, .ref a0), (1, .ref a1)] := hl
  obtain ⟨Q, hQ⟩ : ∃ Q, Q = MQ below (Qq dC dI (some (.int r)) ([cX5 a0 g0 o0, cX5_5 cI g0 o0, cX5_6 cI g0 o0, cX6 a1 g1 o1, cX6_0 cI g1 o1, cX6_1 cI g1 o1, cX6_2 cI g1 o1, cX6_3 cI g1 o1, cX6_4 cI g1 o1, cX6_5 cI g1 o1, cX6_6 cI g1 o1, cX6_7 cI g1 o1]) A) ([.ref a0, .ref a1] : List Value).toArray s 0 0 A := ⟨_, rfl⟩
  rw [← hQ]
  rw [f_X5_allGoods] at h
  clear hAe hD0
  refine lv_iconst (v := (0 : Int32)) hx hb dX5_allGoods_0 (by decide) ?_
  refine lv_istore_n (lv' := [(2, .int (0 : Int32)), (0, .ref a0), (1, .ref a1)]) hx hb dX5_allGoods_1 rfl hl (by decide) rfl (fun ls hl => ?_)
  refine lv_iconst (v := (0 : Int32)) hx hb dX5_allGoods_2 (by decide) ?_
  refine lv_istore_n (lv' := [(3, .int (0 : Int32)), (2, .int (0 : Int32)), (0, .ref a0), (1, .ref a1)]) hx hb dX5_allGoods_3 rfl hl (by decide) rfl (fun ls hl => ?_)
  have lp4 : ∀ (nn4 : Nat) (x4_2 : Int32) (x4_3 : Int32), f_X5_allGoods_4 o0 o1 nn4 x4_2 x4_3 = some r → ∀ (H : Heap) (locs : List Loc) (ls : Array Slot), va_P (dC, dI) vwCl ([cX5 a0 g0 o0, cX5_5 cI g0 o0, cX5_6 cI g0 o0, cX6 a1 g1 o1, cX6_0 cI g1 o1, cX6_1 cI g1 o1, cX6_2 cI g1 o1, cX6_3 cI g1 o1, cX6_4 cI g1 o1, cX6_5 cI g1 o1, cX6_6 cI g1 o1, cX6_7 cI g1 o1]) H → va_D A ([cX5 a0 g0 o0, cX5_5 cI g0 o0, cX5_6 cI g0 o0, cX6 a1 g1 o1, cX6_0 cI g1 o1, cX6_1 cI g1 o1, cX6_2 cI g1 o1, cX6_3 cI g1 o1, cX6_4 cI g1 o1, cX6_5 cI g1 o1, cX6_6 cI g1 o1, cX6_7 cI g1 o1]) → va_S A s.heap H locs → lv_has ls 4 [(0, .ref a0), (1, .ref a1), (2, .int x4_2), (3, .int x4_3)] → W p l e (headSpec wsX5_allGoods rmX5_allGoods).room s m ([.ref a0, .ref a1] : List Value).toArray below meth c H locs 0 0 Q (F0 m 4 ls []) := by
    intro nn4
    induction nn4 with
    | zero => intro x4_2 x4_3 h; rw [f_X5_allGoods_4] at h; cases h
    | succ nn4 ih4 =>
      intro x4_2 x4_3 h H locs ls hP hD hS hl
      rw [f_X5_allGoods_4] at h
      refine lv_iload_n hx hb dX5_allGoods_4 rfl (lv_at hl 3 rfl) ?_
      refine lv_aload_n hx hb dX5_allGoods_5 rfl (lv_at hl 1 rfl) ?_
      refine va_get (D := (dC, dI)) (ci := 6) (v := .int (o1.1 8)) (C := RX6) (T := TX6) (N := 11) hx hb hts hiX6 hown hKK.1 hP 3 rfl rfl 8 (by decide) (hts (.fieldLink RX5 72 "SlideLand$Told" "strips" "I") (List.mem_of_getElem? (i := 1) rfl)) (fun _ h9 => h9) rfl dX5_allGoods_6 ?_
      refine lv_icmp_ge (tgt := 29) hx hb dX5_allGoods_9 (by decide) (fun k1 => ?_) (fun k1 => ?_)
      · have h := ite_t k1 h
        refine lv_iload_n hx hb dX5_allGoods_29 rfl (lv_at hl 2 rfl) ?_
        have h := Option.some.inj h
        subst h
        subst hQ
        exact W.iret (v := x4_2) hx hb hr (fun t ht hW => ⟨⟨rfl, by rw [ht]; exact hP, hD⟩, hS.F ht⟩) hS.2.2 dX5_allGoods_30
      · have h := ite_f k1 h
        refine lv_iload_n hx hb dX5_allGoods_12 rfl (lv_at hl 2 rfl) ?_
        refine lv_aload_n hx hb dX5_allGoods_13 rfl (lv_at hl 0 rfl) ?_
        refine va_get (D := (dC, dI)) (ci := 5) (v := .ref (g0 5)) (C := RX5) (T := TX5) (N := 7) hx hb hts hiX5 hown hKK.1 hP 0 rfl rfl 5 (by decide) (hts (.fieldLink RX5 9 "SlideLand$Stand" "goods" "[I") (List.mem_of_getElem? (i := 2) rfl)) (fun _ h9 => h9) rfl dX5_allGoods_14 ?_
        refine lv_iload_n hx hb dX5_allGoods_17 rfl (lv_at hl 3 rfl) ?_
        obtain ⟨q2, hq2, h⟩ := obd_e h
        refine kcN (rest := [.int x4_2]) (w2 := ([cX5 a0 g0 o0, cX5_5 cI g0 o0, cX5_6 cI g0 o0, cX6 a1 g1 o1, cX6_0 cI g1 o1, cX6_1 cI g1 o1, cX6_2 cI g1 o1, cX6_3 cI g1 o1, cX6_4 cI g1 o1, cX6_5 cI g1 o1, cX6_6 cI g1 o1, cX6_7 cI g1 o1])) hx hb hml hown hts hKK hP hD hS hA (c_X7_cell l dC dI cB cI cZ cO (g0 5) 7 (o0.2 5) x4_3 hq2) [1] (atAll_map ⟨rfl, trivial⟩) (by decide +kernel) (sameAd_map ⟨rfl, trivial⟩) (atAll_map ⟨rfl, trivial⟩) (agr_refl _ _ _) ⟨va_cnB 2 hts gX5_allGoods_X7_cell_n50 rfl rfl rfl (hKK.2 _ (nws_in 8 rfl)) (hts (.initialized RX7) (List.mem_of_getElem? (i := 4) rfl)) dsc_X7_cell ⟨Nat.le_of_ble_eq_true rfl, Nat.le_of_ble_eq_true rfl⟩, hts (.static yX7_cell) (List.mem_of_getElem? (i := 3) rfl), trivial⟩ rfl hl.1 rfl (Nat.le_of_ble_eq_true rfl) dX5_allGoods_18 ⟨Nat.zero_le _, Nat.zero_le _⟩ (fun H locs hP hD hS => ?_)
        refine lv_iadd hx hb dX5_allGoods_21 ?_
        obtain ⟨x3, hx3, h⟩ := bnd_e h
        refine lv_topE hx3 ?_
        refine lv_istore_n (lv' := [(2, .int x3), (0, .ref a0), (1, .ref a1), (3, .int x4_3)]) hx hb dX5_allGoods_22 rfl hl (by decide) rfl (fun ls hl => ?_)
        obtain ⟨x4, hx4, h⟩ := bnd_e h
        refine lv_iinc (v := x4) (lv' := [(3, .int x4), (2, .int x3), (0, .ref a0), (1, .ref a1)]) hx hb dX5_allGoods_23 hl (k := 3) rfl (by rw [← hx4]; rfl) (by decide) rfl (fun ls hl => ?_)
        refine lv_goto (tgt := 4) hx hb dX5_allGoods_26 (by decide) ?_
        exact ih4 x3 x4 h _ _ _ hP hD hS (lv_sub hl [2, 3, 1, 0] rfl)
  exact lp4 FU (0 : Int32) (0 : Int32) h _ _ _ hP hD hS (lv_sub hl [2, 3, 1, 0] rfl)
def f_X5_shove (o0 : Ob) (o1 : Ob) (v2 : Int32) (v3 : Int32) : Option (Ob) := bnd (o0.1 0) fun x1 : Int32 => (f_X7_cell 4 (o1.2 5) v2).bind fun q2 : Int32 => bnd (if (0 : Int32) < (q2 - (o0.1 2)) then (q2 - (o0.1 2)) else (0 : Int32)) fun q3 : Int32 => bnd (f_X7_shiftBehind (o0.1 0) q3 v3) fun q4 : Int32 => bnd (if (0 : Int32) < ((o0.1 2) - (1 : Int32)) then ((o0.1 2) - (1 : Int32)) else (0 : Int32)) fun q5 : Int32 => some (stF (stF (stF o0 0 q4) 1 x1) 2 q5)
abbrev rmX5_shove : Room := { frames := 2, cells := 0, slots := 0, locals := 44 }
theorem dsc_X5_shove : yX5_shove.cls ≠ "java/lang/invoke/MethodHandle" ∧ yX5_shove.cls ≠ "java/lang/invoke/VarHandle" ∧ (parseMethodDescriptor yX5_shove.desc).map (fun d => d.parameters.length) = some 3 := by decide +kernel
set_option maxHeartbeats 4000000 in
set_option maxRecDepth 100000 in
theorem c_X5_shove (l : Launch) (dC : Nat → ClassId) (dI : Nat → Nat → Nat) (cB cI cZ cO : ClassId) (a0 : Nat) (g0 : Nat → Nat) (o0 : Ob) (a1 : Nat) (g1 : Nat → Nat) (o1 : Ob) (v2 : Int32) (v3 : Int32) {r : Ob} (h : f_X5_shove o0 o1 v2 v3 = some r) : Ct dC dI cB cI cZ cO l yX5_shove wsX5_shove rmX5_shove [.ref a0, .ref a1, .int v2, .int v3] ([cX5 a0 g0 o0, cX5_5 cI g0 o0, cX5_6 cI g0 o0, cX6 a1 g1 o1, cX6_0 cI g1 o1, cX6_1 cI g1 o1, cX6_2 cI g1 o1, cX6_3 cI g1 o1, cX6_4 cI g1 o1, cX6_5 cI g1 o1, cX6_6 cI g1 o1, cX6_7 cI g1 o1]) none ([cX5 a0 g0 r, cX5_5 cI g0 r, cX5_6 cI g0 r, cX6 a1 g1 o1, cX6_0 cI g1 o1, cX6_1 cI g1 o1, cX6_2 cI g1 o1, cX6_3 cI g1 o1, cX6_4 cI g1 o1, cX6_5 cI g1 o1, cX6_6 cI g1 o1, cX6_7 cI g1 o1]) := by
  intro sz
  refine Met.ofW (cc := cX5_shove) (maxL := 4) (ret := none) (by decide) rfl ?_
  intro p e s m args below meth c s₁ B hml hv
  obtain ⟨rfl, hsz, hP, hKK, hD0⟩ := hv
  have hx := B.exec
  have hb := B.bytes
  have hr := B.returns
  have hts := atoms_spec (ws := wsX5_shove) B.pre
  have hown : s.vm.findClass RX5 = some m.cls := findClass_of_methodNamed B.named
  have hlocks := B.notSynchronized
  have hiX5 : ∀ w ∈ u_ws RX5 TX5 7, w ∈ wsX5_shove := fun w h => List.mem_cons_of_mem _ (List.mem_append_left _ (List.mem_append_right _ h))
  have hiX6 : ∀ w ∈ u_ws RX6 TX6 11, w ∈ wsX5_shove := fun w h => List.mem_cons_of_mem _ (List.mem_append_right _ h)
  subst hsz
  have hD := hD0.self (sz := s.heap.size)
  generalize hAe : va_A ([cX5 a0 g0 o0, cX5_5 cI g0 o0, cX5_6 cI g0 o0, cX6 a1 g1 o1, cX6_0 cI g1 o1, cX6_1 cI g1 o1, cX6_2 cI g1 o1, cX6_3 cI g1 o1, cX6_4 cI g1 o1, cX6_5 cI g1 o1, cX6_6 cI g1 o1, cX6_7 cI g1 o1]) s.heap.size = A at hD ⊢
  have hA : ∀ q : Nat, s.heap.size ≤ q → A q := fun q h => by rw [← hAe]; exact Or.inr h
  have hS : va_S A s.heap s.heap [] := va_S.rf
  have hP : va_P (dC, dI) vwCl ([cX5 a0 g0 o0, cX5_5 cI g0 o0, cX5_6 cI g0 o0, cX6 a1 g1 o1, cX6_0 cI g1 o1, cX6_1 cI g1 o1, cX6_2 cI g1 o1, cX6_3 cI g1 o1, cX6_4 cI g1 o1, cX6_5 cI g1 o1, cX6_6 cI g1 o1, cX6_7 cI g1 o1]) s.heap := hP
  have hD : va_D A ([cX5 a0 g0 o0, cX5_5 cI g0 o0, cX5_6 cI g0 o0, cX6 a1 g1 o1, cX6_0 cI g1 o1, cX6_1 cI g1 o1, cX6_2 cI g1 o1, cX6_3 cI g1 o1, cX6_4 cI g1 o1, cX6_5 cI g1 o1, cX6_6 cI g1 o1, cX6_7 cI g1 o1]) := hD
  have hl := lv_entry ([.ref a0, .ref a1, .int v2, .int v3]) (n := 4) (Nat.le_of_ble_eq_true rfl)
  rw [lg_entry_eq]
  generalize (lg_sl ([.ref a0, .ref a1, .int v2, .int v3]) ++ List.replicate (4 - (lg_sl ([.ref a0, .ref a1, .int v2, .int v3])).length) Slot.unset).toArray = ls at hl ⊢
  have hl : lv_has ls 4 [(0, .ref a0), (1, .ref a1), (2, .int v2), (3, .int v3)] := hl
  obtain ⟨Q, hQ⟩ : ∃ Q, Q = MQ below (Qq dC dI none ([cX5 a0 g0 r, cX5_5 cI g0 r, cX5_6 cI g0 r, cX6 a1 g1 o1, cX6_0 cI g1 o1, cX6_1 cI g1 o1, cX6_2 cI g1 o1, cX6_3 cI g1 o1, cX6_4 cI g1 o1, cX6_5 cI g1 o1, cX6_6 cI g1 o1, cX6_7 cI g1 o1]) A) ([.ref a0, .ref a1, .int v2, .int v3] : List Value).toArray s 0 0 A := ⟨_, rfl⟩
  rw [← hQ]
  rw [f_X5_shove] at h
  clear hAe hD0
  refine lv_aload_n hx hb dX5_shove_0 rfl (lv_at hl 0 rfl) ?_
  refine lv_aload_n hx hb dX5_shove_1 rfl (lv_at hl 0 rfl) ?_
  refine va_get (D := (dC, dI)) (ci := 5) (v := .int (o0.1 0)) (C := RX5) (T := TX5) (N := 7) hx hb hts hiX5 hown hKK.1 hP 0 rfl rfl 0 (by decide) (hts (.fieldLink RX5 18 "SlideLand$Stand" "shift" "I") (List.mem_of_getElem? (i := 1) rfl)) (fun _ h9 => h9) rfl dX5_shove_2 ?_
  obtain ⟨x1, hx1, h⟩ := bnd_e h
  rw [hx1]
  refine va_put (D := (dC, dI)) (ci := 5) (v := .int x1) (ty := .int) (C := RX5) (T := TX5) (N := 7) hx hb hts hiX5 tyX5 tyX5_ok nmX5 hown hKK.1 hP hD hS 0 rfl rfl 1 (by decide) (hts (.fieldLink RX5 22 "SlideLand$Stand" "before" "I") (List.mem_of_getElem? (i := 2) rfl)) (fun _ h9 => h9) rfl (by decide +kernel) rfl rfl (Nat.le_of_ble_eq_true rfl) dX5_shove_5 (fun H locs hP hD hS => ?_)
  have hP : va_P (dC, dI) vwCl ([cX5 a0 g0 (stF o0 1 x1), cX5_5 cI g0 (stF o0 1 x1), cX5_6 cI g0 (stF o0 1 x1), cX6 a1 g1 o1, cX6_0 cI g1 o1, cX6_1 cI g1 o1, cX6_2 cI g1 o1, cX6_3 cI g1 o1, cX6_4 cI g1 o1, cX6_5 cI g1 o1, cX6_6 cI g1 o1, cX6_7 cI g1 o1]) H := hP
  have hD : va_D A ([cX5 a0 g0 (stF o0 1 x1), cX5_5 cI g0 (stF o0 1 x1), cX5_6 cI g0 (stF o0 1 x1), cX6 a1 g1 o1, cX6_0 cI g1 o1, cX6_1 cI g1 o1, cX6_2 cI g1 o1, cX6_3 cI g1 o1, cX6_4 cI g1 o1, cX6_5 cI g1 o1, cX6_6 cI g1 o1, cX6_7 cI g1 o1]) := hD
  refine lv_aload_n hx hb dX5_shove_8 rfl (lv_at hl 0 rfl) ?_
  refine lv_aload_n hx hb dX5_shove_9 rfl (lv_at hl 0 rfl) ?_
  refine va_get (D := (dC, dI)) (ci := 5) (v := .int (o0.1 0)) (C := RX5) (T := TX5) (N := 7) hx hb hts hiX5 hown hKK.1 hP 0 rfl rfl 0 (by decide) (hts (.fieldLink RX5 18 "SlideLand$Stand" "shift" "I") (List.mem_of_getElem? (i := 1) rfl)) (fun _ h9 => h9) rfl dX5_shove_10 ?_
  refine lv_iconst (v := (0 : Int32)) hx hb dX5_shove_13 (by decide) ?_
  refine lv_aload_n hx hb dX5_shove_14 rfl (lv_at hl 1 rfl) ?_
  refine va_get (D := (dC, dI)) (ci := 6) (v := .ref (g1 5)) (C := RX6) (T := TX6) (N := 11) hx hb hts hiX6 hown hKK.1 hP 3 rfl rfl 5 (by decide) (hts (.fieldLink RX5 84 "SlideLand$Told" "pushed" "[I") (List.mem_of_getElem? (i := 3) rfl)) (fun _ h9 => h9) rfl dX5_shove_15 ?_
  refine lv_iload_n hx hb dX5_shove_18 rfl (lv_at hl 2 rfl) ?_
  obtain ⟨q2, hq2, h⟩ := obd_e h
  refine kcN (rest := [.int (0 : Int32), .int (o0.1 0), .ref a0]) (w2 := ([cX5 a0 g0 (stF o0 1 x1), cX5_5 cI g0 (stF o0 1 x1), cX5_6 cI g0 (stF o0 1 x1), cX6 a1 g1 o1, cX6_0 cI g1 o1, cX6_1 cI g1 o1, cX6_2 cI g1 o1, cX6_3 cI g1 o1, cX6_4 cI g1 o1, cX6_5 cI g1 o1, cX6_6 cI g1 o1, cX6_7 cI g1 o1])) hx hb hml hown hts hKK hP hD hS hA (c_X7_cell l dC dI cB cI cZ cO (g1 5) 4 (o1.2 5) v2 hq2) [9] (atAll_map ⟨rfl, trivial⟩) (by decide +kernel) (sameAd_map ⟨rfl, trivial⟩) (atAll_map ⟨rfl, trivial⟩) (agr_refl _ _ _) ⟨va_cnB 2 hts gX5_shove_X7_cell_n50 rfl rfl rfl (hKK.2 _ (nws_in 8 rfl)) (hts (.initialized RX7) (List.mem_of_getElem? (i := 10) rfl)) dsc_X7_cell ⟨Nat.le_of_ble_eq_true rfl, Nat.le_of_ble_eq_true rfl⟩, hts (.static yX7_cell) (List.mem_of_getElem? (i := 9) rfl), trivial⟩ rfl hl.1 rfl (Nat.le_of_ble_eq_true rfl) dX5_shove_19 ⟨Nat.zero_le _, Nat.zero_le _⟩ (fun H locs hP hD hS => ?_)
  refine lv_aload_n hx hb dX5_shove_22 rfl (lv_at hl 0 rfl) ?_
  refine va_get (D := (dC, dI)) (ci := 5) (v := .int (o0.1 2)) (C := RX5) (T := TX5) (N := 7) hx hb hts hiX5 hown hKK.1 hP 0 rfl rfl 2 (by decide) (hts (.fieldLink RX5 25 "SlideLand$Stand" "chalk" "I") (List.mem_of_getElem? (i := 4) rfl)) (fun _ h9 => h9) rfl dX5_shove_23 ?_
  refine lv_isub hx hb dX5_shove_26 ?_
  obtain ⟨q3, hq3, h⟩ := bnd_e h
  refine va_mmax hx hb (hml.trans hl.1.symm) hown (hts (.methodLink RX5 87 Lib.Math.max.name) (List.mem_of_getElem? (i := 5) rfl)) (hts (.static Lib.Math.max.name) (List.mem_of_getElem? (i := 6) rfl)) (hts (.initialized "java/lang/Math") (List.mem_of_getElem? (i := 7) rfl)) (hts (.code Lib.Math.max.name Lib.Math.max.code 2 (some .int)) (List.mem_of_getElem? (i := 8) rfl)) (Nat.le_of_ble_eq_true rfl) (Nat.le_of_ble_eq_true rfl) (Nat.zero_le _) (Nat.zero_le _) dX5_shove_27 ?_
  refine lv_topE hq3 ?_
  refine lv_iload_n hx hb dX5_shove_30 rfl (lv_at hl 3 rfl) ?_
  obtain ⟨q4, hq4, h⟩ := bnd_e h
  refine kcN (rest := [.ref a0]) (w2 := ([cX5 a0 g0 (stF o0 1 x1), cX5_5 cI g0 (stF o0 1 x1), cX5_6 cI g0 (stF o0 1 x1), cX6 a1 g1 o1, cX6_0 cI g1 o1, cX6_1 cI g1 o1, cX6_2 cI g1 o1, cX6_3 cI g1 o1, cX6_4 cI g1 o1, cX6_5 cI g1 o1, cX6_6 cI g1 o1, cX6_7 cI g1 o1])) hx hb hml hown hts hKK hP hD hS hA (c_X7_shiftBehind l dC dI cB cI cZ cO (o0.1 0) q3 v3 hq4) [] (atAll_map trivial) (by decide +kernel) (sameAd_map trivial) (atAll_map trivial) (agr_refl _ _ _) ⟨va_cnB 3 hts gX5_shove_X7_shiftBehind_n92 rfl rfl rfl (hKK.2 _ (nws_in 10 rfl)) (hts (.initialized RX7) (List.mem_of_getElem? (i := 10) rfl)) dsc_X7_shiftBehind ⟨Nat.le_of_ble_eq_true rfl, Nat.le_of_ble_eq_true rfl⟩, hts (.static yX7_shiftBehind) (List.mem_of_getElem? (i := 12) rfl), trivial⟩ rfl hl.1 rfl (Nat.le_of_ble_eq_true rfl) dX5_shove_31 ⟨Nat.zero_le _, Nat.zero_le _⟩ (fun H locs hP hD hS => ?_)
  refine va_put (D := (dC, dI)) (ci := 5) (v := .int q4) (ty := .int) (C := RX5) (T := TX5) (N := 7) hx hb hts hiX5 tyX5 tyX5_ok nmX5 hown hKK.1 hP hD hS 0 rfl rfl 0 (by decide) (hts (.fieldLink RX5 18 "SlideLand$Stand" "shift" "I") (List.mem_of_getElem? (i := 1) rfl)) (fun _ h9 => h9) rfl (by decide +kernel) rfl rfl (Nat.le_of_ble_eq_true rfl) dX5_shove_34 (fun H locs hP hD hS => ?_)
  have hP : va_P (dC, dI) vwCl ([cX5 a0 g0 (stF (stF o0 0 q4) 1 x1), cX5_5 cI g0 (stF (stF o0 0 q4) 1 x1), cX5_6 cI g0 (stF (stF o0 0 q4) 1 x1), cX6 a1 g1 o1, cX6_0 cI g1 o1, cX6_1 cI g1 o1, cX6_2 cI g1 o1, cX6_3 cI g1 o1, cX6_4 cI g1 o1, cX6_5 cI g1 o1, cX6_6 cI g1 o1, cX6_7 cI g1 o1]) H := hP
  have hD : va_D A ([cX5 a0 g0 (stF (stF o0 0 q4) 1 x1), cX5_5 cI g0 (stF (stF o0 0 q4) 1 x1), cX5_6 cI g0 (stF (stF o0 0 q4) 1 x1), cX6 a1 g1 o1, cX6_0 cI g1 o1, cX6_1 cI g1 o1, cX6_2 cI g1 o1, cX6_3 cI g1 o1, cX6_4 cI g1 o1, cX6_5 cI g1 o1, cX6_6 cI g1 o1, cX6_7 cI g1 o1]) := hD
  refine lv_aload_n hx hb dX5_shove_37 rfl (lv_at hl 0 rfl) ?_
  refine lv_iconst (v := (0 : Int32)) hx hb dX5_shove_38 (by decide) ?_
  refine lv_aload_n hx hb dX5_shove_39 rfl (lv_at hl 0 rfl) ?_
  refine va_get (D := (dC, dI)) (ci := 5) (v := .int (o0.1 2)) (C := RX5) (T := TX5) (N := 7) hx hb hts hiX5 hown hKK.1 hP 0 rfl rfl 2 (by decide) (hts (.fieldLink RX5 25 "SlideLand$Stand" "chalk" "I") (List.mem_of_getElem? (i := 4) rfl)) (fun _ h9 => h9) rfl dX5_shove_40 ?_
  refine lv_iconst (v := (1 : Int32)) hx hb dX5_shove_43 (by decide) ?_
  refine lv_isub hx hb dX5_shove_44 ?_
  obtain ⟨q5, hq5, h⟩ := bnd_e h
  refine va_mmax hx hb (hml.trans hl.1.symm) hown (hts (.methodLink RX5 87 Lib.Math.max.name) (List.mem_of_getElem? (i := 5) rfl)) (hts (.static Lib.Math.max.name) (List.mem_of_getElem? (i := 6) rfl)) (hts (.initialized "java/lang/Math") (List.mem_of_getElem? (i := 7) rfl)) (hts (.code Lib.Math.max.name Lib.Math.max.code 2 (some .int)) (List.mem_of_getElem? (i := 8) rfl)) (Nat.le_of_ble_eq_true rfl) (Nat.le_of_ble_eq_true rfl) (Nat.zero_le _) (Nat.zero_le _) dX5_shove_45 ?_
  refine lv_topE hq5 ?_
  refine va_put (D := (dC, dI)) (ci := 5) (v := .int q5) (ty := .int) (C := RX5) (T := TX5) (N := 7) hx hb hts hiX5 tyX5 tyX5_ok nmX5 hown hKK.1 hP hD hS 0 rfl rfl 2 (by decide) (hts (.fieldLink RX5 25 "SlideLand$Stand" "chalk" "I") (List.mem_of_getElem? (i := 4) rfl)) (fun _ h9 => h9) rfl (by decide +kernel) rfl rfl (Nat.le_of_ble_eq_true rfl) dX5_shove_48 (fun H locs hP hD hS => ?_)
  have hP : va_P (dC, dI) vwCl ([cX5 a0 g0 (stF (stF (stF o0 0 q4) 1 x1) 2 q5), cX5_5 cI g0 (stF (stF (stF o0 0 q4) 1 x1) 2 q5), cX5_6 cI g0 (stF (stF (stF o0 0 q4) 1 x1) 2 q5), cX6 a1 g1 o1, cX6_0 cI g1 o1, cX6_1 cI g1 o1, cX6_2 cI g1 o1, cX6_3 cI g1 o1, cX6_4 cI g1 o1, cX6_5 cI g1 o1, cX6_6 cI g1 o1, cX6_7 cI g1 o1]) H := hP
  have hD : va_D A ([cX5 a0 g0 (stF (stF (stF o0 0 q4) 1 x1) 2 q5), cX5_5 cI g0 (stF (stF (stF o0 0 q4) 1 x1) 2 q5), cX5_6 cI g0 (stF (stF (stF o0 0 q4) 1 x1) 2 q5), cX6 a1 g1 o1, cX6_0 cI g1 o1, cX6_1 cI g1 o1, cX6_2 cI g1 o1, cX6_3 cI g1 o1, cX6_4 cI g1 o1, cX6_5 cI g1 o1, cX6_6 cI g1 o1, cX6_7 cI g1 o1]) := hD
  have h := Option.some.inj h
  subst h
  subst hQ
  exact W.vret hx hb hr (fun t ht hW => ⟨⟨rfl, by rw [ht]; exact hP, hD⟩, hS.F ht⟩) hS.2.2 dX5_shove_51
def f_X5_tradeOf_86 (v1 : Int32) (o12_0 : Ob) (x86_3 : Int32) : Option (Ob) := (f_X7_setCell 7 (o12_0.2 5) v1 x86_3).bind fun q2 : (Nat → Int32) => some (stR o12_0 5 q2)
def f_X5_tradeOf_62 (v1 : Int32) (v2 : Int32) (x12_3 : Int32) (o12_0 : Ob) : Option (Ob) := if (v2 &&& (63 : Int32)) = 0 then (f_X5_tradeOf_86 v1 o12_0 x12_3) else (if (v2 &&& (4032 : Int32)) = 0 then (f_X5_tradeOf_86 v1 o12_0 x12_3) else (bnd (if (x12_3 + (3 : Int32)) < (99 : Int32) then (x12_3 + (3 : Int32)) else (99 : Int32)) fun q5 : Int32 => f_X5_tradeOf_86 v1 o12_0 q5))
def f_X5_tradeOf_56 (x12_4 : Int32) (kL12 : (Int32 → Int32 → Ob → Option (Ob))) (x56_3 : Int32) (o56_0 : Ob) : Option (Ob) := bnd (x12_4 + (1 : Int32)) fun x9 : Int32 => kL12 x56_3 x9 o56_0
def f_X5_tradeOf_12 (v1 : Int32) (v2 : Int32) : Nat → Int32 → Int32 → Ob → Option (Ob)
  | 0, _, _, _ => none
  | nn12+1, x12_3, x12_4, o12_0 => if (12 : Int32) ≤ x12_4 then (f_X5_tradeOf_62 v1 v2 x12_3 o12_0) else (if x12_3 ≤ 0 then (f_X5_tradeOf_62 v1 v2 x12_3 o12_0) else (bnd (f_X7_bitOf v2 x12_4) fun q8 : Int32 => if q8 = (1 : Int32) then (bnd (x12_3 + (-1 : Int32)) fun x11 : Int32 => (f_X7_cell 12 (o12_0.2 6) x12_4).bind fun q12 : Int32 => (f_X7_setCell 12 (o12_0.2 6) x12_4 (q12 + (1 : Int32))).bind fun q13 : (Nat → Int32) => f_X5_tradeOf_56 x12_4 (f_X5_tradeOf_12 v1 v2 nn12) x11 (stR o12_0 6 q13)) else (f_X5_tradeOf_56 x12_4 (f_X5_tradeOf_12 v1 v2 nn12) x12_3 o12_0)))
def f_X5_tradeOf (o0 : Ob) (v1 : Int32) (v2 : Int32) : Option (Ob) := (f_X7_cell 7 (o0.2 5) v1).bind fun q1 : Int32 => f_X5_tradeOf_12 v1 v2 FU q1 (0 : Int32) o0
abbrev rmX5_tradeOf : Room := { frames := 1, cells := 0, slots := 0, locals := 22 }
theorem dsc_X5_tradeOf : yX5_tradeOf.cls ≠ "java/lang/invoke/MethodHandle" ∧ yX5_tradeOf.cls ≠ "java/lang/invoke/VarHandle" ∧ (parseMethodDescriptor yX5_tradeOf.desc).map (fun d => d.parameters.length) = some 2 := by decide +kernel
set_option maxHeartbeats 4000000 in
set_option maxRecDepth 100000 in
theorem c_X5_tradeOf (l : Launch) (dC : Nat → ClassId) (dI : Nat → Nat → Nat) (cB cI cZ cO : ClassId) (a0 : Nat) (g0 : Nat → Nat) (o0 : Ob) (v1 : Int32) (v2 : Int32) {r : Ob} (h : f_X5_tradeOf o0 v1 v2 = some r) : Ct dC dI cB cI cZ cO l yX5_tradeOf wsX5_tradeOf rmX5_tradeOf [.ref a0, .int v1, .int v2] ([cX5 a0 g0 o0, cX5_5 cI g0 o0, cX5_6 cI g0 o0]) none ([cX5 a0 g0 r, cX5_5 cI g0 r, cX5_6 cI g0 r]) := by
  intro sz
  refine Met.ofW (cc := cX5_tradeOf) (maxL := 5) (ret := none) (by decide) rfl ?_
  intro p e s m args below meth c s₁ B hml hv
  obtain ⟨rfl, hsz, hP, hKK, hD0⟩ := hv
  have hx := B.exec
  have hb := B.bytes
  have hr := B.returns
  have hts := atoms_spec (ws := wsX5_tradeOf) B.pre
  have hown : s.vm.findClass RX5 = some m.cls := findClass_of_methodNamed B.named
  have hlocks := B.notSynchronized
  have hiX5 : ∀ w ∈ u_ws RX5 TX5 7, w ∈ wsX5_tradeOf := fun w h => List.mem_cons_of_mem _ (List.mem_append_right _ h)
  subst hsz
  have hD := hD0.self (sz := s.heap.size)
  generalize hAe : va_A ([cX5 a0 g0 o0, cX5_5 cI g0 o0, cX5_6 cI g0 o0]) s.heap.size = A at hD ⊢
  have hA : ∀ q : Nat, s.heap.size ≤ q → A q := fun q h => by rw [← hAe]; exact Or.inr h
  have hS : va_S A s.heap s.heap [] := va_S.rf
  have hP : va_P (dC, dI) vwCl ([cX5 a0 g0 o0, cX5_5 cI g0 o0, cX5_6 cI g0 o0]) s.heap := hP
  have hD : va_D A ([cX5 a0 g0 o0, cX5_5 cI g0 o0, cX5_6 cI g0 o0]) := hD
  have hl := lv_entry ([.ref a0, .int v1, .int v2]) (n := 5) (Nat.le_of_ble_eq_true rfl)
  rw [lg_entry_eq]
  generalize (lg_sl ([.ref a0, .int v1, .int v2]) ++ List.replicate (5 - (lg_sl ([.ref a0, .int v1, .int v2])).length) Slot.unset).toArray = ls at hl ⊢
  have hl : lv_has ls 5 [(0, .ref a0), (1, .int v1), (2, .int v2)] := hl
  obtain ⟨Q, hQ⟩ : ∃ Q, Q = MQ below (Qq dC dI none ([cX5 a0 g0 r, cX5_5 cI g0 r, cX5_6 cI g0 r]) A) ([.ref a0, .int v1, .int v2] : List Value).toArray s 0 0 A := ⟨_, rfl⟩
  rw [← hQ]
  rw [f_X5_tradeOf] at h
  clear hAe hD0
  refine lv_aload_n hx hb dX5_tradeOf_0 rfl (lv_at hl 0 rfl) ?_
  refine va_get (D := (dC, dI)) (ci := 5) (v := .ref (g0 5)) (C := RX5) (T := TX5) (N := 7) hx hb hts hiX5 hown hKK.1 hP 0 rfl rfl 5 (by decide) (hts (.fieldLink RX5 9 "SlideLand$Stand" "goods" "[I") (List.mem_of_getElem? (i := 1) rfl)) (fun _ h9 => h9) rfl dX5_tradeOf_1 ?_
  refine lv_iload_n hx hb dX5_tradeOf_4 rfl (lv_at hl 1 rfl) ?_
  obtain ⟨q1, hq1, h⟩ := obd_e h
  refine kcN (rest := []) (w2 := ([cX5 a0 g0 o0, cX5_5 cI g0 o0, cX5_6 cI g0 o0])) hx hb hml hown hts hKK hP hD hS hA (c_X7_cell l dC dI cB cI cZ cO (g0 5) 7 (o0.2 5) v1 hq1) [1] (atAll_map ⟨rfl, trivial⟩) (by decide +kernel) (sameAd_map ⟨rfl, trivial⟩) (atAll_map ⟨rfl, trivial⟩) (agr_refl _ _ _) ⟨va_cnB 2 hts gX5_tradeOf_X7_cell_n50 rfl rfl rfl (hKK.2 _ (nws_in 8 rfl)) (hts (.initialized RX7) (List.mem_of_getElem? (i := 8) rfl)) dsc_X7_cell ⟨Nat.le_of_ble_eq_true rfl, Nat.le_of_ble_eq_true rfl⟩, hts (.static yX7_cell) (List.mem_of_getElem? (i := 7) rfl), trivial⟩ rfl hl.1 rfl (Nat.le_of_ble_eq_true rfl) dX5_tradeOf_5 ⟨Nat.zero_le _, Nat.zero_le _⟩ (fun H locs hP hD hS => ?_)
  refine lv_istore_n (lv' := [(3, .int q1), (0, .ref a0), (1, .int v1), (2, .int v2)]) hx hb dX5_tradeOf_8 rfl hl (by decide) rfl (fun ls hl => ?_)
  refine lv_iconst (v := (0 : Int32)) hx hb dX5_tradeOf_9 (by decide) ?_
  refine lv_istore (lv' := [(4, .int (0 : Int32)), (3, .int q1), (0, .ref a0), (1, .int v1), (2, .int v2)]) hx hb dX5_tradeOf_10 hl (by decide) rfl (fun ls hl => ?_)
  have lp12 : ∀ (nn12 : Nat) (x12_3 : Int32) (x12_4 : Int32) (o12_0 : Ob), f_X5_tradeOf_12 v1 v2 nn12 x12_3 x12_4 o12_0 = some r → ∀ (H : Heap) (locs : List Loc) (ls : Array Slot), va_P (dC, dI) vwCl ([cX5 a0 g0 o12_0, cX5_5 cI g0 o12_0, cX5_6 cI g0 o12_0]) H → va_D A ([cX5 a0 g0 o12_0, cX5_5 cI g0 o12_0, cX5_6 cI g0 o12_0]) → va_S A s.heap H locs → lv_has ls 5 [(0, .ref a0), (1, .int v1), (2, .int v2), (3, .int x12_3), (4, .int x12_4)] → W p l e (headSpec wsX5_tradeOf rmX5_tradeOf).room s m ([.ref a0, .int v1, .int v2] : List Value).toArray below meth c H locs 0 0 Q (F0 m 12 ls []) := by
    intro nn12
    induction nn12 with
    | zero => intro x12_3 x12_4 o12_0 h; rw [f_X5_tradeOf_12] at h; cases h
    | succ nn12 ih12 =>
      intro x12_3 x12_4 o12_0 h H locs ls hP hD hS hl
      rw [f_X5_tradeOf_12] at h
      refine lv_iload hx hb dX5_tradeOf_12 (lv_at hl 4 rfl) ?_
      refine lv_bipush (v := (12 : Int32)) hx hb dX5_tradeOf_14 (by decide) ?_
      have jn62 : f_X5_tradeOf_62 v1 v2 x12_3 o12_0 = some r → ∀ (H : Heap) (locs : List Loc) (ls : Array Slot), va_P (dC, dI) vwCl ([cX5 a0 g0 o12_0, cX5_5 cI g0 o12_0, cX5_6 cI g0 o12_0]) H → va_D A ([cX5 a0 g0 o12_0, cX5_5 cI g0 o12_0, cX5_6 cI g0 o12_0]) → va_S A s.heap H locs → lv_has ls 5 [(0, .ref a0), (1, .int v1), (2, .int v2), (3, .int x12_3)] → W p l e (headSpec wsX5_tradeOf rmX5_tradeOf).room s m ([.ref a0, .int v1, .int v2] : List Value).toArray below meth c H locs 0 0 Q (F0 m 62 ls []) := by
        intro h H locs ls hP hD hS hl
        rw [f_X5_tradeOf_62] at h
        refine lv_iload_n hx hb dX5_tradeOf_62 rfl (lv_at hl 2 rfl) ?_
        refine lv_bipush (v := (63 : Int32)) hx hb dX5_tradeOf_63 (by decide) ?_
        refine lv_iand hx hb dX5_tradeOf_65 ?_
        have jn86 : ∀ (x86_3 : Int32), f_X5_tradeOf_86 v1 o12_0 x86_3 = some r → ∀ (H : Heap) (locs : List Loc) (ls : Array Slot), va_P (dC, dI) vwCl ([cX5 a0 g0 o12_0, cX5_5 cI g0 o12_0, cX5_6 cI g0 o12_0]) H → va_D A ([cX5 a0 g0 o12_0, cX5_5 cI g0 o12_0, cX5_6 cI g0 o12_0]) → va_S A s.heap H locs → lv_has ls 5 [(0, .ref a0), (1, .int v1), (3, .int x86_3)] → W p l e (headSpec wsX5_tradeOf rmX5_tradeOf).room s m ([.ref a0, .int v1, .int v2] : List Value).toArray below meth c H locs 0 0 Q (F0 m 86 ls []) := by
          intro x86_3 h H locs ls hP hD hS hl
          rw [f_X5_tradeOf_86] at h
          refine lv_aload_n hx hb dX5_tradeOf_86 rfl (lv_at hl 0 rfl) ?_
          refine va_get (D := (dC, dI)) (ci := 5) (v := .ref (g0 5)) (C := RX5) (T := TX5) (N := 7) hx hb hts hiX5 hown hKK.1 hP 0 rfl rfl 5 (by decide) (hts (.fieldLink RX5 9 "SlideLand$Stand" "goods" "[I") (List.mem_of_getElem? (i := 1) rfl)) (fun _ h9 => h9) rfl dX5_tradeOf_87 ?_
          refine lv_iload_n hx hb dX5_tradeOf_90 rfl (lv_at hl 1 rfl) ?_
          refine lv_iload_n hx hb dX5_tradeOf_91 rfl (lv_at hl 2 rfl) ?_
          obtain ⟨q2, hq2, h⟩ := obd_e h
          refine kcN (rest := []) (w2 := ([cX5 a0 g0 (stR o12_0 5 q2), cX5_5 cI g0 (stR o12_0 5 q2), cX5_6 cI g0 (stR o12_0 5 q2)])) hx hb hml hown hts hKK hP hD hS hA (c_X7_setCell l dC dI cB cI cZ cO (g0 5) 7 (o12_0.2 5) v1 x86_3 hq2) [1] (atAll_map ⟨rfl, trivial⟩) (by decide +kernel) (sameAd_map ⟨rfl, trivial⟩) (atAll_map ⟨rfl, trivial⟩) ⟨Or.inl rfl, Or.inr (by decide), Or.inl rfl, trivial⟩ ⟨va_cnB 3 hts gX5_tradeOf_X7_setCell_n43 rfl rfl rfl (hKK.2 _ (nws_in 7 rfl)) (hts (.initialized RX7) (List.mem_of_getElem? (i := 8) rfl)) dsc_X7_setCell ⟨Nat.le_of_ble_eq_true rfl, Nat.le_of_ble_eq_true rfl⟩, hts (.static yX7_setCell) (List.mem_of_getElem? (i := 12) rfl), trivial⟩ rfl hl.1 rfl (Nat.le_of_ble_eq_true rfl) dX5_tradeOf_92 ⟨Nat.zero_le _, Nat.zero_le _⟩ (fun H locs hP hD hS => ?_)
          have h := Option.some.inj h
          subst h
          subst hQ
          exact W.vret hx hb hr (fun t ht hW => ⟨⟨rfl, by rw [ht]; exact hP, hD⟩, hS.F ht⟩) hS.2.2 dX5_tradeOf_95
        refine lv_if_eq (tgt := 86) hx hb dX5_tradeOf_66 (by decide) (fun k3 => ?_) (fun k3 => ?_)
        · have h := ite_t k3 h
          exact jn86 x12_3 h _ _ _ hP hD hS (lv_sub hl [0, 1, 3] rfl)
        · have h := ite_f k3 h
          refine lv_iload_n hx hb dX5_tradeOf_69 rfl (lv_at hl 2 rfl) ?_
          refine lv_sipush (v := (4032 : Int32)) hx hb dX5_tradeOf_70 (by decide) ?_
          refine lv_iand hx hb dX5_tradeOf_73 ?_
          refine lv_if_eq (tgt := 86) hx hb dX5_tradeOf_74 (by decide) (fun k4 => ?_) (fun k4 => ?_)
          · have h := ite_t k4 h
            exact jn86 x12_3 h _ _ _ hP hD hS (lv_sub hl [0, 1, 3] rfl)
          · have h := ite_f k4 h
            refine lv_bipush (v := (99 : Int32)) hx hb dX5_tradeOf_77 (by decide) ?_
            refine lv_iload_n hx hb dX5_tradeOf_79 rfl (lv_at hl 3 rfl) ?_
            refine lv_iconst (v := (3 : Int32)) hx hb dX5_tradeOf_80 (by decide) ?_
            refine lv_iadd hx hb dX5_tradeOf_81 ?_
            obtain ⟨q5, hq5, h⟩ := bnd_e h
            refine va_mmin hx hb (hml.trans hl.1.symm) hown (hts (.methodLink RX5 103 Lib.Math.min.name) (List.mem_of_getElem? (i := 3) rfl)) (hts (.static Lib.Math.min.name) (List.mem_of_getElem? (i := 4) rfl)) (hts (.initialized "java/lang/Math") (List.mem_of_getElem? (i := 5) rfl)) (hts (.code Lib.Math.min.name Lib.Math.min.code 2 (some .int)) (List.mem_of_getElem? (i := 6) rfl)) (Nat.le_of_ble_eq_true rfl) (Nat.le_of_ble_eq_true rfl) (Nat.zero_le _) (Nat.zero_le _) dX5_tradeOf_82 ?_
            refine lv_topE hq5 ?_
            refine lv_istore_n (lv' := [(3, .int q5), (0, .ref a0), (1, .int v1), (2, .int v2)]) hx hb dX5_tradeOf_85 rfl hl (by decide) rfl (fun ls hl => ?_)
            exact jn86 q5 h _ _ _ hP hD hS (lv_sub hl [1, 2, 0] rfl)
      refine lv_icmp_ge (tgt := 62) hx hb dX5_tradeOf_16 (by decide) (fun k6 => ?_) (fun k6 => ?_)
      · have h := ite_t k6 h
        exact jn62 h _ _ _ hP hD hS (lv_sub hl [0, 1, 2, 3] rfl)
      · have h := ite_f k6 h
        refine lv_iload_n hx hb dX5_tradeOf_19 rfl (lv_at hl 3 rfl) ?_
        refine lv_if_le (tgt := 62) hx hb dX5_tradeOf_20 (by decide) (fun k7 => ?_) (fun k7 => ?_)
        · have h := ite_t k7 h
          exact jn62 h _ _ _ hP hD hS (lv_sub hl [0, 1, 2, 3] rfl)
        · have h := ite_f k7 h
          refine lv_iload_n hx hb dX5_tradeOf_23 rfl (lv_at hl 2 rfl) ?_
          refine lv_iload hx hb dX5_tradeOf_24 (lv_at hl 4 rfl) ?_
          obtain ⟨q8, hq8, h⟩ := bnd_e h
          refine kcN (rest := []) (w2 := ([cX5 a0 g0 o12_0, cX5_5 cI g0 o12_0, cX5_6 cI g0 o12_0])) hx hb hml hown hts hKK hP hD hS hA (c_X7_bitOf l dC dI cB cI cZ cO v2 x12_4 hq8) [] (atAll_map trivial) (by decide +kernel) (sameAd_map trivial) (atAll_map trivial) (agr_refl _ _ _) ⟨va_cnB 2 hts gX5_tradeOf_X7_bitOf_n100 rfl rfl rfl (hKK.2 _ (nws_in 11 rfl)) (hts (.initialized RX7) (List.mem_of_getElem? (i := 8) rfl)) dsc_X7_bitOf ⟨Nat.le_of_ble_eq_true rfl, Nat.le_of_ble_eq_true rfl⟩, hts (.static yX7_bitOf) (List.mem_of_getElem? (i := 10) rfl), trivial⟩ rfl hl.1 rfl (Nat.le_of_ble_eq_true rfl) dX5_tradeOf_26 ⟨Nat.zero_le _, Nat.zero_le _⟩ (fun H locs hP hD hS => ?_)
          refine lv_iconst (v := (1 : Int32)) hx hb dX5_tradeOf_29 (by decide) ?_
          have jn56 : ∀ (x56_3 : Int32) (o56_0 : Ob), f_X5_tradeOf_56 x12_4 (f_X5_tradeOf_12 v1 v2 nn12) x56_3 o56_0 = some r → ∀ (H : Heap) (locs : List Loc) (ls : Array Slot), va_P (dC, dI) vwCl ([cX5 a0 g0 o56_0, cX5_5 cI g0 o56_0, cX5_6 cI g0 o56_0]) H → va_D A ([cX5 a0 g0 o56_0, cX5_5 cI g0 o56_0, cX5_6 cI g0 o56_0]) → va_S A s.heap H locs → lv_has ls 5 [(0, .ref a0), (1, .int v1), (2, .int v2), (3, .int x56_3), (4, .int x12_4)] → W p l e (headSpec wsX5_tradeOf rmX5_tradeOf).room s m ([.ref a0, .int v1, .int v2] : List Value).toArray below meth c H locs 0 0 Q (F0 m 56 ls []) := by
            intro x56_3 o56_0 h H locs ls hP hD hS hl
            rw [f_X5_tradeOf_56] at h
            obtain ⟨x9, hx9, h⟩ := bnd_e h
            refine lv_iinc (v := x9) (lv' := [(4, .int x9), (0, .ref a0), (1, .int v1), (2, .int v2), (3, .int x56_3)]) hx hb dX5_tradeOf_56 hl (k := 4) rfl (by rw [← hx9]; rfl) (by decide) rfl (fun ls hl => ?_)
            refine lv_goto (tgt := 12) hx hb dX5_tradeOf_59 (by decide) ?_
            exact ih12 x56_3 x9 o56_0 h _ _ _ hP hD hS (lv_sub hl [1, 2, 3, 4, 0] rfl)
          refine lv_icmp_ne (tgt := 56) hx hb dX5_tradeOf_30 (by decide) (fun k10 => ?_) (fun k10 => ?_)
          · have h := ite_f k10 h
            exact jn56 x12_3 o12_0 h _ _ _ hP hD hS (lv_sub hl [0, 1, 2, 3, 4] rfl)
          · have h := ite_t k10 h
            obtain ⟨x11, hx11, h⟩ := bnd_e h
            refine lv_iinc (v := x11) (lv' := [(3, .int x11), (0, .ref a0), (1, .int v1), (2, .int v2), (4, .int x12_4)]) hx hb dX5_tradeOf_33 hl (k := 3) rfl (by rw [← hx11]; rfl) (by decide) rfl (fun ls hl => ?_)
            refine lv_aload_n hx hb dX5_tradeOf_36 rfl (lv_at hl 1 rfl) ?_
            refine va_get (D := (dC, dI)) (ci := 5) (v := .ref (g0 6)) (C := RX5) (T := TX5) (N := 7) hx hb hts hiX5 hown hKK.1 hP 0 rfl rfl 6 (by decide) (hts (.fieldLink RX5 15 "SlideLand$Stand" "has" "[I") (List.mem_of_getElem? (i := 2) rfl)) (fun _ h9 => h9) rfl dX5_tradeOf_37 ?_
            refine lv_iload hx hb dX5_tradeOf_40 (lv_at hl 4 rfl) ?_
            refine lv_aload_n hx hb dX5_tradeOf_42 rfl (lv_at hl 1 rfl) ?_
            refine va_get (D := (dC, dI)) (ci := 5) (v := .ref (g0 6)) (C := RX5) (T := TX5) (N := 7) hx hb hts hiX5 hown hKK.1 hP 0 rfl rfl 6 (by decide) (hts (.fieldLink RX5 15 "SlideLand$Stand" "has" "[I") (List.mem_of_getElem? (i := 2) rfl)) (fun _ h9 => h9) rfl dX5_tradeOf_43 ?_
            refine lv_iload hx hb dX5_tradeOf_46 (lv_at hl 4 rfl) ?_
            obtain ⟨q12, hq12, h⟩ := obd_e h
            refine kcN (rest := [.int x12_4, .ref (g0 6)]) (w2 := ([cX5 a0 g0 o12_0, cX5_5 cI g0 o12_0, cX5_6 cI g0 o12_0])) hx hb hml hown hts hKK hP hD hS hA (c_X7_cell l dC dI cB cI cZ cO (g0 6) 12 (o12_0.2 6) x12_4 hq12) [2] (atAll_map ⟨rfl, trivial⟩) (by decide +kernel) (sameAd_map ⟨rfl, trivial⟩) (atAll_map ⟨rfl, trivial⟩) (agr_refl _ _ _) ⟨va_cnB 2 hts gX5_tradeOf_X7_cell_n50 rfl rfl rfl (hKK.2 _ (nws_in 8 rfl)) (hts (.initialized RX7) (List.mem_of_getElem? (i := 8) rfl)) dsc_X7_cell ⟨Nat.le_of_ble_eq_true rfl, Nat.le_of_ble_eq_true rfl⟩, hts (.static yX7_cell) (List.mem_of_getElem? (i := 7) rfl), trivial⟩ rfl hl.1 rfl (Nat.le_of_ble_eq_true rfl) dX5_tradeOf_48 ⟨Nat.zero_le _, Nat.zero_le _⟩ (fun H locs hP hD hS => ?_)
            refine lv_iconst (v := (1 : Int32)) hx hb dX5_tradeOf_51 (by decide) ?_
            refine lv_iadd hx hb dX5_tradeOf_52 ?_
            obtain ⟨q13, hq13, h⟩ := obd_e h
            refine kcN (rest := []) (w2 := ([cX5 a0 g0 (stR o12_0 6 q13), cX5_5 cI g0 (stR o12_0 6 q13), cX5_6 cI g0 (stR o12_0 6 q13)])) hx hb hml hown hts hKK hP hD hS hA (c_X7_setCell l dC dI cB cI cZ cO (g0 6) 12 (o12_0.2 6) x12_4 (q12 + (1 : Int32)) hq13) [2] (atAll_map ⟨rfl, trivial⟩) (by decide +kernel) (sameAd_map ⟨rfl, trivial⟩) (atAll_map ⟨rfl, trivial⟩) ⟨Or.inl rfl, Or.inl rfl, Or.inr (by decide), trivial⟩ ⟨va_cnB 3 hts gX5_tradeOf_X7_setCell_n43 rfl rfl rfl (hKK.2 _ (nws_in 7 rfl)) (hts (.initialized RX7) (List.mem_of_getElem? (i := 8) rfl)) dsc_X7_setCell ⟨Nat.le_of_ble_eq_true rfl, Nat.le_of_ble_eq_true rfl⟩, hts (.static yX7_setCell) (List.mem_of_getElem? (i := 12) rfl), trivial⟩ rfl hl.1 rfl (Nat.le_of_ble_eq_true rfl) dX5_tradeOf_53 ⟨Nat.zero_le _, Nat.zero_le _⟩ (fun H locs hP hD hS => ?_)
            exact jn56 x11 (stR o12_0 6 q13) h _ _ _ hP hD hS (lv_sub hl [1, 2, 3, 0, 4] rfl)
  exact lp12 FU q1 (0 : Int32) o0 h _ _ _ hP hD hS (lv_sub hl [2, 3, 4, 1, 0] rfl)
def f_X5_trade_10 (o1 : Ob) (x2_3 : Int32) (kL2 : (Int32 → Ob → Option (Ob))) : Nat → Int32 → Ob → Option (Ob)
  | 0, _, _ => none
  | nn10+1, x10_4, o10_0 => if (o1.1 8) ≤ x10_4 then (bnd ((o10_0.1 3) + (1 : Int32)) fun x3 : Int32 => bnd (x2_3 + (1 : Int32)) fun x4 : Int32 => kL2 x4 (stF o10_0 3 x3)) else ((f_X5_againstBits o10_0 o1 x10_4).bind fun q5 : Int32 => (f_X5_tradeOf o10_0 x10_4 q5).bind fun q6 : Ob => bnd (x10_4 + (1 : Int32)) fun x7 : Int32 => (f_X5_trade_10 o1 x2_3 kL2 nn10) x7 q6)
def f_X5_trade_2 (o1 : Ob) (v2 : Int32) : Nat → Int32 → Ob → Option (Ob)
  | 0, _, _ => none
  | nn2+1, x2_3, o2_0 => if v2 ≤ x2_3 then (some o2_0) else (f_X5_trade_10 o1 x2_3 (f_X5_trade_2 o1 v2 nn2) FU (0 : Int32) o2_0)
def f_X5_trade (o0 : Ob) (o1 : Ob) (v2 : Int32) : Option (Ob) := f_X5_trade_2 o1 v2 FU (0 : Int32) o0
abbrev rmX5_trade : Room := { frames := 4, cells := 0, slots := 0, locals := 93 }
theorem dsc_X5_trade : yX5_trade.cls ≠ "java/lang/invoke/MethodHandle" ∧ yX5_trade.cls ≠ "java/lang/invoke/VarHandle" ∧ (parseMethodDescriptor yX5_trade.desc).map (fun d => d.parameters.length) = some 2 := by decide +kernel
set_option maxHeartbeats 4000000 in
set_option maxRecDepth 100000 in
theorem c_X5_trade (l : Launch) (dC : Nat → ClassId) (dI : Nat → Nat → Nat) (cB cI cZ cO : ClassId) (a0 : Nat) (g0 : Nat → Nat) (o0 : Ob) (a1 : Nat) (g1 : Nat → Nat) (o1 : Ob) (v2 : Int32) {r : Ob} (h : f_X5_trade o0 o1 v2 = some r) : Ct dC dI cB cI cZ cO l yX5_trade wsX5_trade rmX5_trade [.ref a0, .ref a1, .int v2] ([cX5 a0 g0 o0, cX5_5 cI g0 o0, cX5_6 cI g0 o0, cX6 a1 g1 o1, cX6_0 cI g1 o1, cX6_1 cI g1 o1, cX6_2 cI g1 o1, cX6_3 cI g1 o1, cX6_4 cI g1 o1, cX6_5 cI g1 o1, cX6_6 cI g1 o1, cX6_7 cI g1 o1]) none ([cX5 a0 g0 r, cX5_5 cI g0 r, cX5_6 cI g0 r, cX6 a1 g1 o1, cX6_0 cI g1 o1, cX6_1 cI g1 o1, cX6_2 cI g1 o1, cX6_3 cI g1 o1, cX6_4 cI g1 o1, cX6_5 cI g1 o1, cX6_6 cI g1 o1, cX6_7 cI g1 o1]) := by
  intro sz
  refine Met.ofW (cc := cX5_trade) (maxL := 5) (ret := none) (by decide) rfl ?_
  intro p e s m args below meth c s₁ B hml hv
  obtain ⟨rfl, hsz, hP, hKK, hD0⟩ := hv
  have hx := B.exec
  have hb := B.bytes
  have hr := B.returns
  have hts := atoms_spec (ws := wsX5_trade) B.pre
  have hown : s.vm.findClass RX5 = some m.cls := findClass_of_methodNamed B.named
  have hlocks := B.notSynchronized
  have hiX6 : ∀ w ∈ u_ws RX6 TX6 11, w ∈ wsX5_trade := fun w h => List.mem_cons_of_mem _ (List.mem_append_left _ (List.mem_append_right _ h))
  have hiX5 : ∀ w ∈ u_ws RX5 TX5 7, w ∈ wsX5_trade := fun w h => List.mem_cons_of_mem _ (List.mem_append_right _ h)
  subst hsz
  have hD := hD0.self (sz := s.heap.size)
  generalize hAe : va_A ([cX5 a0 g0 o0, cX5_5 cI g0 o0, cX5_6 cI g0 o0, cX6 a1 g1 o1, cX6_0 cI g1 o1, cX6_1 cI g1 o1, cX6_2 cI g1 o1, cX6_3 cI g1 o1, cX6_4 cI g1 o1, cX6_5 cI g1 o1, cX6_6 cI g1 o1, cX6_7 cI g1 o1]) s.heap.size = A at hD ⊢
  have hA : ∀ q : Nat, s.heap.size ≤ q → A q := fun q h => by rw [← hAe]; exact Or.inr h
  have hS : va_S A s.heap s.heap [] := va_S.rf
  have hP : va_P (dC, dI) vwCl ([cX5 a0 g0 o0, cX5_5 cI g0 o0, cX5_6 cI g0 o0, cX6 a1 g1 o1, cX6_0 cI g1 o1, cX6_1 cI g1 o1, cX6_2 cI g1 o1, cX6_3 cI g1 o1, cX6_4 cI g1 o1, cX6_5 cI g1 o1, cX6_6 cI g1 o1, cX6_7 cI g1 o1]) s.heap := hP
  have hD : va_D A ([cX5 a0 g0 o0, cX5_5 cI g0 o0, cX5_6 cI g0 o0, cX6 a1 g1 o1, cX6_0 cI g1 o1, cX6_1 cI g1 o1, cX6_2 cI g1 o1, cX6_3 cI g1 o1, cX6_4 cI g1 o1, cX6_5 cI g1 o1, cX6_6 cI g1 o1, cX6_7 cI g1 o1]) := hD
  have hl := lv_entry ([.ref a0, .ref a1, .int v2]) (n := 5) (Nat.le_of_ble_eq_true rfl)
  rw [lg_entry_eq]
  generalize (lg_sl ([.ref a0, .ref a1, .int v2]) ++ List.replicate (5 - (lg_sl ([.ref a0, .ref a1, .int v2])).length) Slot.unset).toArray = ls at hl ⊢
  have hl : lv_has ls 5 [(0, .ref a0), (1, .ref a1), (2, .int v2)] := hl
  obtain ⟨Q, hQ⟩ : ∃ Q, Q = MQ below (Qq dC dI none ([cX5 a0 g0 r, cX5_5 cI g0 r, cX5_6 cI g0 r, cX6 a1 g1 o1, cX6_0 cI g1 o1, cX6_1 cI g1 o1, cX6_2 cI g1 o1, cX6_3 cI g1 o1, cX6_4 cI g1 o1, cX6_5 cI g1 o1, cX6_6 cI g1 o1, cX6_7 cI g1 o1]) A) ([.ref a0, .ref a1, .int v2] : List Value).toArray s 0 0 A := ⟨_, rfl⟩
  rw [← hQ]
  rw [f_X5_trade] at h
  clear hAe hD0
  refine lv_iconst (v := (0 : Int32)) hx hb dX5_trade_0 (by decide) ?_
  refine lv_istore_n (lv' := [(3, .int (0 : Int32)), (0, .ref a0), (1, .ref a1), (2, .int v2)]) hx hb dX5_trade_1 rfl hl (by decide) rfl (fun ls hl => ?_)
  have lp2 : ∀ (nn2 : Nat) (x2_3 : Int32) (o2_0 : Ob), f_X5_trade_2 o1 v2 nn2 x2_3 o2_0 = some r → ∀ (H : Heap) (locs : List Loc) (ls : Array Slot), va_P (dC, dI) vwCl ([cX5 a0 g0 o2_0, cX5_5 cI g0 o2_0, cX5_6 cI g0 o2_0, cX6 a1 g1 o1, cX6_0 cI g1 o1, cX6_1 cI g1 o1, cX6_2 cI g1 o1, cX6_3 cI g1 o1, cX6_4 cI g1 o1, cX6_5 cI g1 o1, cX6_6 cI g1 o1, cX6_7 cI g1 o1]) H → va_D A ([cX5 a0 g0 o2_0, cX5_5 cI g0 o2_0, cX5_6 cI g0 o2_0, cX6 a1 g1 o1, cX6_0 cI g1 o1, cX6_1 cI g1 o1, cX6_2 cI g1 o1, cX6_3 cI g1 o1, cX6_4 cI g1 o1, cX6_5 cI g1 o1, cX6_6 cI g1 o1, cX6_7 cI g1 o1]) → va_S A s.heap H locs → lv_has ls 5 [(0, .ref a0), (1, .ref a1), (2, .int v2), (3, .int x2_3)] → W p l e (headSpec wsX5_trade rmX5_trade).room s m ([.ref a0, .ref a1, .int v2] : List Value).toArray below meth c H locs 0 0 Q (F0 m 2 ls []) := by
    intro nn2
    induction nn2 with
    | zero => intro x2_3 o2_0 h; rw [f_X5_trade_2] at h; cases h
    | succ nn2 ih2 =>
      intro x2_3 o2_0 h H locs ls hP hD hS hl
      rw [f_X5_trade_2] at h
      refine lv_iload_n hx hb dX5_trade_2 rfl (lv_at hl 3 rfl) ?_
      refine lv_iload_n hx hb dX5_trade_3 rfl (lv_at hl 2 rfl) ?_
      refine lv_icmp_ge (tgt := 54) hx hb dX5_trade_4 (by decide) (fun k1 => ?_) (fun k1 => ?_)
      · have h := ite_t k1 h
        have h := Option.some.inj h
        subst h
        subst hQ
        exact W.vret hx hb hr (fun t ht hW => ⟨⟨rfl, by rw [ht]; exact hP, hD⟩, hS.F ht⟩) hS.2.2 dX5_trade_54
      · have h := ite_f k1 h
        refine lv_iconst (v := (0 : Int32)) hx hb dX5_trade_7 (by decide) ?_
        refine lv_istore (lv' := [(4, .int (0 : Int32)), (0, .ref a0), (1, .ref a1), (2, .int v2), (3, .int x2_3)]) hx hb dX5_trade_8 hl (by decide) rfl (fun ls hl => ?_)
        have lp10 : ∀ (nn10 : Nat) (x10_4 : Int32) (o10_0 : Ob), f_X5_trade_10 o1 x2_3 (f_X5_trade_2 o1 v2 nn2) nn10 x10_4 o10_0 = some r → ∀ (H : Heap) (locs : List Loc) (ls : Array Slot), va_P (dC, dI) vwCl ([cX5 a0 g0 o10_0, cX5_5 cI g0 o10_0, cX5_6 cI g0 o10_0, cX6 a1 g1 o1, cX6_0 cI g1 o1, cX6_1 cI g1 o1, cX6_2 cI g1 o1, cX6_3 cI g1 o1, cX6_4 cI g1 o1, cX6_5 cI g1 o1, cX6_6 cI g1 o1, cX6_7 cI g1 o1]) H → va_D A ([cX5 a0 g0 o10_0, cX5_5 cI g0 o10_0, cX5_6 cI g0 o10_0, cX6 a1 g1 o1, cX6_0 cI g1 o1, cX6_1 cI g1 o1, cX6_2 cI g1 o1, cX6_3 cI g1 o1, cX6_4 cI g1 o1, cX6_5 cI g1 o1, cX6_6 cI g1 o1, cX6_7 cI g1 o1]) → va_S A s.heap H locs → lv_has ls 5 [(0, .ref a0), (1, .ref a1), (2, .int v2), (3, .int x2_3), (4, .int x10_4)] → W p l e (headSpec wsX5_trade rmX5_trade).room s m ([.ref a0, .ref a1, .int v2] : List Value).toArray below meth c H locs 0 0 Q (F0 m 10 ls []) := by
          intro nn10
          induction nn10 with
          | zero => intro x10_4 o10_0 h; rw [f_X5_trade_10] at h; cases h
          | succ nn10 ih10 =>
            intro x10_4 o10_0 h H locs ls hP hD hS hl
            rw [f_X5_trade_10] at h
            refine lv_iload hx hb dX5_trade_10 (lv_at hl 4 rfl) ?_
            refine lv_aload_n hx hb dX5_trade_12 rfl (lv_at hl 1 rfl) ?_
            refine va_get (D := (dC, dI)) (ci := 6) (v := .int (o1.1 8)) (C := RX6) (T := TX6) (N := 11) hx hb hts hiX6 hown hKK.1 hP 3 rfl rfl 8 (by decide) (hts (.fieldLink RX5 72 "SlideLand$Told" "strips" "I") (List.mem_of_getElem? (i := 1) rfl)) (fun _ h9 => h9) rfl dX5_trade_13 ?_
            refine lv_icmp_ge (tgt := 38) hx hb dX5_trade_16 (by decide) (fun k2 => ?_) (fun k2 => ?_)
            · have h := ite_t k2 h
              refine lv_aload_n hx hb dX5_trade_38 rfl (lv_at hl 0 rfl) ?_
              refine lv_dup hx hb dX5_trade_39 rfl ?_
              refine va_get (D := (dC, dI)) (ci := 5) (v := .int (o10_0.1 3)) (C := RX5) (T := TX5) (N := 7) hx hb hts hiX5 hown hKK.1 hP 0 rfl rfl 3 (by decide) (hts (.fieldLink RX5 28 "SlideLand$Stand" "year" "I") (List.mem_of_getElem? (i := 2) rfl)) (fun _ h9 => h9) rfl dX5_trade_40 ?_
              refine lv_iconst (v := (1 : Int32)) hx hb dX5_trade_43 (by decide) ?_
              refine lv_iadd hx hb dX5_trade_44 ?_
              obtain ⟨x3, hx3, h⟩ := bnd_e h
              rw [hx3]
              refine va_put (D := (dC, dI)) (ci := 5) (v := .int x3) (ty := .int) (C := RX5) (T := TX5) (N := 7) hx hb hts hiX5 tyX5 tyX5_ok nmX5 hown hKK.1 hP hD hS 0 rfl rfl 3 (by decide) (hts (.fieldLink RX5 28 "SlideLand$Stand" "year" "I") (List.mem_of_getElem? (i := 2) rfl)) (fun _ h9 => h9) rfl (by decide +kernel) rfl rfl (Nat.le_of_ble_eq_true rfl) dX5_trade_45 (fun H locs hP hD hS => ?_)
              have hP : va_P (dC, dI) vwCl ([cX5 a0 g0 (stF o10_0 3 x3), cX5_5 cI g0 (stF o10_0 3 x3), cX5_6 cI g0 (stF o10_0 3 x3), cX6 a1 g1 o1, cX6_0 cI g1 o1, cX6_1 cI g1 o1, cX6_2 cI g1 o1, cX6_3 cI g1 o1, cX6_4 cI g1 o1, cX6_5 cI g1 o1, cX6_6 cI g1 o1, cX6_7 cI g1 o1]) H := hP
              have hD : va_D A ([cX5 a0 g0 (stF o10_0 3 x3), cX5_5 cI g0 (stF o10_0 3 x3), cX5_6 cI g0 (stF o10_0 3 x3), cX6 a1 g1 o1, cX6_0 cI g1 o1, cX6_1 cI g1 o1, cX6_2 cI g1 o1, cX6_3 cI g1 o1, cX6_4 cI g1 o1, cX6_5 cI g1 o1, cX6_6 cI g1 o1, cX6_7 cI g1 o1]) := hD
              obtain ⟨x4, hx4, h⟩ := bnd_e h
              refine lv_iinc (v := x4) (lv' := [(3, .int x4), (0, .ref a0), (1, .ref a1), (2, .int v2), (4, .int x10_4)]) hx hb dX5_trade_48 hl (k := 3) rfl (by rw [← hx4]; rfl) (by decide) rfl (fun ls hl => ?_)
              refine lv_goto (tgt := 2) hx hb dX5_trade_51 (by decide) ?_
              exact ih2 x4 (stF o10_0 3 x3) h _ _ _ hP hD hS (lv_sub hl [1, 2, 3, 0] rfl)
            · have h := ite_f k2 h
              refine lv_aload_n hx hb dX5_trade_19 rfl (lv_at hl 0 rfl) ?_
              refine lv_iload hx hb dX5_trade_20 (lv_at hl 4 rfl) ?_
              refine lv_aload_n hx hb dX5_trade_22 rfl (lv_at hl 0 rfl) ?_
              refine lv_aload_n hx hb dX5_trade_23 rfl (lv_at hl 1 rfl) ?_
              refine lv_iload hx hb dX5_trade_24 (lv_at hl 4 rfl) ?_
              obtain ⟨q5, hq5, h⟩ := obd_e h
              refine kcV (rest := [.int x10_4, .ref a0]) (w2 := ([cX5 a0 g0 o10_0, cX5_5 cI g0 o10_0, cX5_6 cI g0 o10_0, cX6 a1 g1 o1, cX6_0 cI g1 o1, cX6_1 cI g1 o1, cX6_2 cI g1 o1, cX6_3 cI g1 o1, cX6_4 cI g1 o1, cX6_5 cI g1 o1, cX6_6 cI g1 o1, cX6_7 cI g1 o1])) hx hb hml hown hts hKK hP hD hS hA (c_X5_againstBits l dC dI cB cI cZ cO a0 g0 o10_0 a1 g1 o1 x10_4 hq5) [0, 1, 2, 3, 4, 5, 6, 7, 8, 9, 10, 11] (atAll_map ⟨rfl, rfl, rfl, rfl, rfl, rfl, rfl, rfl, rfl, rfl, rfl, rfl, trivial⟩) (by decide +kernel) (sameAd_map ⟨rfl, rfl, rfl, rfl, rfl, rfl, rfl, rfl, rfl, rfl, rfl, rfl, trivial⟩) (atAll_map ⟨rfl, rfl, rfl, rfl, rfl, rfl, rfl, rfl, rfl, rfl, rfl, rfl, trivial⟩) (agr_refl _ _ _) (cwV 2 hts gX5_trade_X5_againstBits rfl rfl rfl ⟨rfl, dsc_X5_againstBits⟩ ⟨Nat.le_of_ble_eq_true rfl, Nat.le_of_ble_eq_true rfl⟩) (va_recv hKK.1 hP (ci := 5) (q0 := 0) rfl rfl) rfl hl.1 rfl (Nat.le_of_ble_eq_true rfl) dX5_trade_26 ⟨Nat.zero_le _, Nat.zero_le _⟩ (fun H locs hP hD hS => ?_)
              obtain ⟨q6, hq6, h⟩ := obd_e h
              refine kcV (rest := []) (w2 := ([cX5 a0 g0 q6, cX5_5 cI g0 q6, cX5_6 cI g0 q6, cX6 a1 g1 o1, cX6_0 cI g1 o1, cX6_1 cI g1 o1, cX6_2 cI g1 o1, cX6_3 cI g1 o1, cX6_4 cI g1 o1, cX6_5 cI g1 o1, cX6_6 cI g1 o1, cX6_7 cI g1 o1])) hx hb hml hown hts hKK hP hD hS hA (c_X5_tradeOf l dC dI cB cI cZ cO a0 g0 o10_0 x10_4 q5 hq6) [0, 1, 2] (atAll_map ⟨rfl, rfl, rfl, trivial⟩) (by decide +kernel) (sameAd_map ⟨rfl, rfl, rfl, trivial⟩) (atAll_map ⟨rfl, rfl, rfl, trivial⟩) ⟨Or.inr (by decide), Or.inr (by decide), Or.inr (by decide), Or.inl rfl, Or.inl rfl, Or.inl rfl, Or.inl rfl, Or.inl rfl, Or.inl rfl, Or.inl rfl, Or.inl rfl, Or.inl rfl, trivial⟩ (cwV 2 hts gX5_trade_X5_tradeOf rfl rfl rfl ⟨rfl, dsc_X5_tradeOf⟩ ⟨Nat.le_of_ble_eq_true rfl, Nat.le_of_ble_eq_true rfl⟩) (va_recv hKK.1 hP (ci := 5) (q0 := 0) rfl rfl) rfl hl.1 rfl (Nat.le_of_ble_eq_true rfl) dX5_trade_29 ⟨Nat.zero_le _, Nat.zero_le _⟩ (fun H locs hP hD hS => ?_)
              obtain ⟨x7, hx7, h⟩ := bnd_e h
              refine lv_iinc (v := x7) (lv' := [(4, .int x7), (0, .ref a0), (1, .ref a1), (2, .int v2), (3, .int x2_3)]) hx hb dX5_trade_32 hl (k := 4) rfl (by rw [← hx7]; rfl) (by decide) rfl (fun ls hl => ?_)
              refine lv_goto (tgt := 10) hx hb dX5_trade_35 (by decide) ?_
              exact ih10 x7 q6 h _ _ _ hP hD hS (lv_sub hl [1, 2, 3, 4, 0] rfl)
        exact lp10 FU (0 : Int32) o2_0 h _ _ _ hP hD hS (lv_sub hl [1, 2, 3, 4, 0] rfl)
  exact lp2 FU (0 : Int32) o0 h _ _ _ hP hD hS (lv_sub hl [1, 2, 3, 0] rfl)
def f_X5_unwedOfLand_54 (x3_4 : Int32) (kL3 : (Int32 → Option (Int32))) : Option (Int32) := bnd (x3_4 + (1 : Int32)) fun x5 : Int32 => kL3 x5
def f_X5_unwedOfLand_3 (o0 : Ob) (o1 : Ob) (v2 : Int32) (v3 : Int32) : Nat → Int32 → Option (Int32)
  | 0, _ => none
  | nn3+1, x3_4 => (f_X7_cell 2 (o1.2 1) v2).bind fun q1 : Int32 => if q1 ≤ x3_4 then (some (0 : Int32)) else (bnd (f_X7_oneOf v2 x3_4) fun q3 : Int32 => (f_X7_cell 12 (o1.2 0) q3).bind fun q4 : Int32 => if q4 = v3 then (bnd (f_X7_bitOf (o0.1 4) q3) fun q7 : Int32 => if q7 = 0 then (some ((1 : Int32) <<< (q3 &&& 31))) else (f_X5_unwedOfLand_54 x3_4 (f_X5_unwedOfLand_3 o0 o1 v2 v3 nn3))) else (f_X5_unwedOfLand_54 x3_4 (f_X5_unwedOfLand_3 o0 o1 v2 v3 nn3)))
def f_X5_unwedOfLand (o0 : Ob) (o1 : Ob) (v2 : Int32) (v3 : Int32) : Option (Int32) := f_X5_unwedOfLand_3 o0 o1 v2 v3 FU (0 : Int32)
abbrev rmX5_unwedOfLand : Room := { frames := 1, cells := 0, slots := 0, locals := 21 }
theorem dsc_X5_unwedOfLand : yX5_unwedOfLand.cls ≠ "java/lang/invoke/MethodHandle" ∧ yX5_unwedOfLand.cls ≠ "java/lang/invoke/VarHandle" ∧ (parseMethodDescriptor yX5_unwedOfLand.desc).map (fun d => d.parameters.length) = some 3 := by decide +kernel
set_option maxHeartbeats 4000000 in
set_option maxRecDepth 100000 in
theorem c_X5_unwedOfLand (l : Launch) (dC : Nat → ClassId) (dI : Nat → Nat → Nat) (cB cI cZ cO : ClassId) (a0 : Nat) (g0 : Nat → Nat) (o0 : Ob) (a1 : Nat) (g1 : Nat → Nat) (o1 : Ob) (v2 : Int32) (v3 : Int32) {r : Int32} (h : f_X5_unwedOfLand o0 o1 v2 v3 = some r) : Ct dC dI cB cI cZ cO l yX5_unwedOfLand wsX5_unwedOfLand rmX5_unwedOfLand [.ref a0, .ref a1, .int v2, .int v3] ([cX5 a0 g0 o0, cX5_5 cI g0 o0, cX5_6 cI g0 o0, cX6 a1 g1 o1, cX6_0 cI g1 o1, cX6_1 cI g1 o1, cX6_2 cI g1 o1, cX6_3 cI g1 o1, cX6_4 cI g1 o1, cX6_5 cI g1 o1, cX6_6 cI g1 o1, cX6_7 cI g1 o1]) (some (.int r)) ([cX5 a0 g0 o0, cX5_5 cI g0 o0, cX5_6 cI g0 o0, cX6 a1 g1 o1, cX6_0 cI g1 o1, cX6_1 cI g1 o1, cX6_2 cI g1 o1, cX6_3 cI g1 o1, cX6_4 cI g1 o1, cX6_5 cI g1 o1, cX6_6 cI g1 o1, cX6_7 cI g1 o1]) := by
  intro sz
  refine Met.ofW (cc := cX5_unwedOfLand) (maxL := 6) (ret := (some .int)) (by decide) rfl ?_
  intro p e s m args below meth c s₁ B hml hv
  obtain ⟨rfl, hsz, hP, hKK, hD0⟩ := hv
  have hx := B.exec
  have hb := B.bytes
  have hr := B.returns
  have hts := atoms_spec (ws := wsX5_unwedOfLand) B.pre
  have hown : s.vm.findClass RX5 = some m.cls := findClass_of_methodNamed B.named
  have hlocks := B.notSynchronized
  have hiX6 : ∀ w ∈ u_ws RX6 TX6 11, w ∈ wsX5_unwedOfLand := fun w h => List.mem_cons_of_mem _ (List.mem_append_left _ (List.mem_append_right _ h))
  have hiX5 : ∀ w ∈ u_ws RX5 TX5 7, w ∈ wsX5_unwedOfLand := fun w h => List.mem_cons_of_mem _ (List.mem_append_right _ h)
  subst hsz
  have hD := hD0.self (sz := s.heap.size)
  generalize hAe : va_A ([cX5 a0 g0 o0, cX5_5 cI g0 o0, cX5_6 cI g0 o0, cX6 a1 g1 o1, cX6_0 cI g1 o1, cX6_1 cI g1 o1, cX6_2 cI g1 o1, cX6_3 cI g1 o1, cX6_4 cI g1 o1, cX6_5 cI g1 o1, cX6_6 cI g1 o1, cX6_7 cI g1 o1]) s.heap.size = A at hD ⊢
  have hA : ∀ q : Nat, s.heap.size ≤ q → A q := fun q h => by rw [← hAe]; exact Or.inr h
  have hS : va_S A s.heap s.heap [] := va_S.rf
  have hP : va_P (dC, dI) vwCl ([cX5 a0 g0 o0, cX5_5 cI g0 o0, cX5_6 cI g0 o0, cX6 a1 g1 o1, cX6_0 cI g1 o1, cX6_1 cI g1 o1, cX6_2 cI g1 o1, cX6_3 cI g1 o1, cX6_4 cI g1 o1, cX6_5 cI g1 o1, cX6_6 cI g1 o1, cX6_7 cI g1 o1]) s.heap := hP
  have hD : va_D A ([cX5 a0 g0 o0, cX5_5 cI g0 o0, cX5_6 cI g0 o0, cX6 a1 g1 o1, cX6_0 cI g1 o1, cX6_1 cI g1 o1, cX6_2 cI g1 o1, cX6_3 cI g1 o1, cX6_4 cI g1 o1, cX6_5 cI g1 o1, cX6_6 cI g1 o1, cX6_7 cI g1 o1]) := hD
  have hl := lv_entry ([.ref a0, .ref a1, .int v2, .int v3]) (n := 6) (Nat.le_of_ble_eq_true rfl)
  rw [lg_entry_eq]
  generalize (lg_sl ([.ref a0, .ref a1, .int v2, .int v3]) ++ List.replicate (6 - (lg_sl ([.ref a0, .ref a1, .int v2, .int v3])).length) Slot.unset).toArray = ls at hl ⊢
  have hl : lv_has ls 6 [(0, .ref a0), (1, .ref a1), (2, .int v2), (3, .int v3)] := hl
  obtain ⟨Q, hQ⟩ : ∃ Q, Q = MQ below (Qq dC dI (some (.int r)) ([cX5 a0 g0 o0, cX5_5 cI g0 o0, cX5_6 cI g0 o0, cX6 a1 g1 o1, cX6_0 cI g1 o1, cX6_1 cI g1 o1, cX6_2 cI g1 o1, cX6_3 cI g1 o1, cX6_4 cI g1 o1, cX6_5 cI g1 o1, cX6_6 cI g1 o1, cX6_7 cI g1 o1]) A) ([.ref a0, .ref a1, .int v2, .int v3] : List Value).toArray s 0 0 A := ⟨_, rfl⟩
  rw [← hQ]
  rw [f_X5_unwedOfLand] at h
  clear hAe hD0
  refine lv_iconst (v := (0 : Int32)) hx hb dX5_unwedOfLand_0 (by decide) ?_
  refine lv_istore (lv' := [(4, .int (0 : Int32)), (0, .ref a0), (1, .ref a1), (2, .int v2), (3, .int v3)]) hx hb dX5_unwedOfLand_1 hl (by decide) rfl (fun ls hl => ?_)
  have lp3 : ∀ (nn3 : Nat) (x3_4 : Int32), f_X5_unwedOfLand_3 o0 o1 v2 v3 nn3 x3_4 = some r → ∀ (H : Heap) (locs : List Loc) (ls : Array Slot), va_P (dC, dI) vwCl ([cX5 a0 g0 o0, cX5_5 cI g0 o0, cX5_6 cI g0 o0, cX6 a1 g1 o1, cX6_0 cI g1 o1, cX6_1 cI g1 o1, cX6_2 cI g1 o1, cX6_3 cI g1 o1, cX6_4 cI g1 o1, cX6_5 cI g1 o1, cX6_6 cI g1 o1, cX6_7 cI g1 o1]) H → va_D A ([cX5 a0 g0 o0, cX5_5 cI g0 o0, cX5_6 cI g0 o0, cX6 a1 g1 o1, cX6_0 cI g1 o1, cX6_1 cI g1 o1, cX6_2 cI g1 o1, cX6_3 cI g1 o1, cX6_4 cI g1 o1, cX6_5 cI g1 o1, cX6_6 cI g1 o1, cX6_7 cI g1 o1]) → va_S A s.heap H locs → lv_has ls 6 [(0, .ref a0), (1, .ref a1), (2, .int v2), (3, .int v3), (4, .int x3_4)] → W p l e (headSpec wsX5_unwedOfLand rmX5_unwedOfLand).room s m ([.ref a0, .ref a1, .int v2, .int v3] : List Value).toArray below meth c H locs 0 0 Q (F0 m 3 ls []) := by
    intro nn3
    induction nn3 with
    | zero => intro x3_4 h; rw [f_X5_unwedOfLand_3] at h; cases h
    | succ nn3 ih3 =>
      intro x3_4 h H locs ls hP hD hS hl
      rw [f_X5_unwedOfLand_3] at h
      refine lv_iload hx hb dX5_unwedOfLand_3 (lv_at hl 4 rfl) ?_
      refine lv_aload_n hx hb dX5_unwedOfLand_5 rfl (lv_at hl 1 rfl) ?_
      refine va_get (D := (dC, dI)) (ci := 6) (v := .ref (g1 1)) (C := RX6) (T := TX6) (N := 11) hx hb hts hiX6 hown hKK.1 hP 3 rfl rfl 1 (by decide) (hts (.fieldLink RX5 113 "SlideLand$Told" "ofLand" "[I") (List.mem_of_getElem? (i := 1) rfl)) (fun _ h9 => h9) rfl dX5_unwedOfLand_6 ?_
      refine lv_iload_n hx hb dX5_unwedOfLand_9 rfl (lv_at hl 2 rfl) ?_
      obtain ⟨q1, hq1, h⟩ := obd_e h
      refine kcN (rest := [.int x3_4]) (w2 := ([cX5 a0 g0 o0, cX5_5 cI g0 o0, cX5_6 cI g0 o0, cX6 a1 g1 o1, cX6_0 cI g1 o1, cX6_1 cI g1 o1, cX6_2 cI g1 o1, cX6_3 cI g1 o1, cX6_4 cI g1 o1, cX6_5 cI g1 o1, cX6_6 cI g1 o1, cX6_7 cI g1 o1])) hx hb hml hown hts hKK hP hD hS hA (c_X7_cell l dC dI cB cI cZ cO (g1 1) 2 (o1.2 1) v2 hq1) [5] (atAll_map ⟨rfl, trivial⟩) (by decide +kernel) (sameAd_map ⟨rfl, trivial⟩) (atAll_map ⟨rfl, trivial⟩) (agr_refl _ _ _) ⟨va_cnB 2 hts gX5_unwedOfLand_X7_cell_n50 rfl rfl rfl (hKK.2 _ (nws_in 8 rfl)) (hts (.initialized RX7) (List.mem_of_getElem? (i := 5) rfl)) dsc_X7_cell ⟨Nat.le_of_ble_eq_true rfl, Nat.le_of_ble_eq_true rfl⟩, hts (.static yX7_cell) (List.mem_of_getElem? (i := 4) rfl), trivial⟩ rfl hl.1 rfl (Nat.le_of_ble_eq_true rfl) dX5_unwedOfLand_10 ⟨Nat.zero_le _, Nat.zero_le _⟩ (fun H locs hP hD hS => ?_)
      refine lv_icmp_ge (tgt := 60) hx hb dX5_unwedOfLand_13 (by decide) (fun k2 => ?_) (fun k2 => ?_)
      · have h := ite_t k2 h
        refine lv_iconst (v := (0 : Int32)) hx hb dX5_unwedOfLand_60 (by decide) ?_
        have h := Option.some.inj h
        subst h
        subst hQ
        exact W.iret (v := (0 : Int32)) hx hb hr (fun t ht hW => ⟨⟨rfl, by rw [ht]; exact hP, hD⟩, hS.F ht⟩) hS.2.2 dX5_unwedOfLand_61
      · have h := ite_f k2 h
        refine lv_iload_n hx hb dX5_unwedOfLand_16 rfl (lv_at hl 2 rfl) ?_
        refine lv_iload hx hb dX5_unwedOfLand_17 (lv_at hl 4 rfl) ?_
        obtain ⟨q3, hq3, h⟩ := bnd_e h
        refine kcN (rest := []) (w2 := ([cX5 a0 g0 o0, cX5_5 cI g0 o0, cX5_6 cI g0 o0, cX6 a1 g1 o1, cX6_0 cI g1 o1, cX6_1 cI g1 o1, cX6_2 cI g1 o1, cX6_3 cI g1 o1, cX6_4 cI g1 o1, cX6_5 cI g1 o1, cX6_6 cI g1 o1, cX6_7 cI g1 o1])) hx hb hml hown hts hKK hP hD hS hA (c_X7_oneOf l dC dI cB cI cZ cO v2 x3_4 hq3) [] (atAll_map trivial) (by decide +kernel) (sameAd_map trivial) (atAll_map trivial) (agr_refl _ _ _) ⟨va_cnB 2 hts gX5_unwedOfLand_X7_oneOf_n116 rfl rfl rfl (hKK.2 _ (nws_in 12 rfl)) (hts (.initialized RX7) (List.mem_of_getElem? (i := 5) rfl)) dsc_X7_oneOf ⟨Nat.le_of_ble_eq_true rfl, Nat.le_of_ble_eq_true rfl⟩, hts (.static yX7_oneOf) (List.mem_of_getElem? (i := 7) rfl), trivial⟩ rfl hl.1 rfl (Nat.le_of_ble_eq_true rfl) dX5_unwedOfLand_19 ⟨Nat.zero_le _, Nat.zero_le _⟩ (fun H locs hP hD hS => ?_)
        refine lv_istore (lv' := [(5, .int q3), (0, .ref a0), (1, .ref a1), (2, .int v2), (3, .int v3), (4, .int x3_4)]) hx hb dX5_unwedOfLand_22 hl (by decide) rfl (fun ls hl => ?_)
        refine lv_aload_n hx hb dX5_unwedOfLand_24 rfl (lv_at hl 2 rfl) ?_
        refine va_get (D := (dC, dI)) (ci := 6) (v := .ref (g1 0)) (C := RX6) (T := TX6) (N := 11) hx hb hts hiX6 hown hKK.1 hP 3 rfl rfl 0 (by decide) (hts (.fieldLink RX5 65 "SlideLand$Told" "oneInch" "[I") (List.mem_of_getElem? (i := 2) rfl)) (fun _ h9 => h9) rfl dX5_unwedOfLand_25 ?_
        refine lv_iload hx hb dX5_unwedOfLand_28 (lv_at hl 0 rfl) ?_
        obtain ⟨q4, hq4, h⟩ := obd_e h
        refine kcN (rest := []) (w2 := ([cX5 a0 g0 o0, cX5_5 cI g0 o0, cX5_6 cI g0 o0, cX6 a1 g1 o1, cX6_0 cI g1 o1, cX6_1 cI g1 o1, cX6_2 cI g1 o1, cX6_3 cI g1 o1, cX6_4 cI g1 o1, cX6_5 cI g1 o1, cX6_6 cI g1 o1, cX6_7 cI g1 o1])) hx hb hml hown hts hKK hP hD hS hA (c_X7_cell l dC dI cB cI cZ cO (g1 0) 12 (o1.2 0) q3 hq4) [4] (atAll_map ⟨rfl, trivial⟩) (by decide +kernel) (sameAd_map ⟨rfl, trivial⟩) (atAll_map ⟨rfl, trivial⟩) (agr_refl _ _ _) ⟨va_cnB 2 hts gX5_unwedOfLand_X7_cell_n50 rfl rfl rfl (hKK.2 _ (nws_in 8 rfl)) (hts (.initialized RX7) (List.mem_of_getElem? (i := 5) rfl)) dsc_X7_cell ⟨Nat.le_of_ble_eq_true rfl, Nat.le_of_ble_eq_true rfl⟩, hts (.static yX7_cell) (List.mem_of_getElem? (i := 4) rfl), trivial⟩ rfl hl.1 rfl (Nat.le_of_ble_eq_true rfl) dX5_unwedOfLand_30 ⟨Nat.zero_le _, Nat.zero_le _⟩ (fun H locs hP hD hS => ?_)
        refine lv_iload_n hx hb dX5_unwedOfLand_33 rfl (lv_at hl 4 rfl) ?_
        have jn54 : f_X5_unwedOfLand_54 x3_4 (f_X5_unwedOfLand_3 o0 o1 v2 v3 nn3) = some r → ∀ (H : Heap) (locs : List Loc) (ls : Array Slot), va_P (dC, dI) vwCl ([cX5 a0 g0 o0, cX5_5 cI g0 o0, cX5_6 cI g0 o0, cX6 a1 g1 o1, cX6_0 cI g1 o1, cX6_1 cI g1 o1, cX6_2 cI g1 o1, cX6_3 cI g1 o1, cX6_4 cI g1 o1, cX6_5 cI g1 o1, cX6_6 cI g1 o1, cX6_7 cI g1 o1]) H → va_D A ([cX5 a0 g0 o0, cX5_5 cI g0 o0, cX5_6 cI g0 o0, cX6 a1 g1 o1, cX6_0 cI g1 o1, cX6_1 cI g1 o1, cX6_2 cI g1 o1, cX6_3 cI g1 o1, cX6_4 cI g1 o1, cX6_5 cI g1 o1, cX6_6 cI g1 o1, cX6_7 cI g1 o1]) → va_S A s.heap H locs → lv_has ls 6 [(0, .ref a0), (1, .ref a1), (2, .int v2), (3, .int v3), (4, .int x3_4)] → W p l e (headSpec wsX5_unwedOfLand rmX5_unwedOfLand).room s m ([.ref a0, .ref a1, .int v2, .int v3] : List Value).toArray below meth c H locs 0 0 Q (F0 m 54 ls []) := by
          intro h H locs ls hP hD hS hl
          rw [f_X5_unwedOfLand_54] at h
          obtain ⟨x5, hx5, h⟩ := bnd_e h
          refine lv_iinc (v := x5) (lv' := [(4, .int x5), (0, .ref a0), (1, .ref a1), (2, .int v2), (3, .int v3)]) hx hb dX5_unwedOfLand_54 hl (k := 4) rfl (by rw [← hx5]; rfl) (by decide) rfl (fun ls hl => ?_)
          refine lv_goto (tgt := 3) hx hb dX5_unwedOfLand_57 (by decide) ?_
          exact ih3 x5 h _ _ _ hP hD hS (lv_sub hl [1, 2, 3, 4, 0] rfl)
        refine lv_icmp_ne (tgt := 54) hx hb dX5_unwedOfLand_34 (by decide) (fun k6 => ?_) (fun k6 => ?_)
        · have h := ite_f k6 h
          exact jn54 h _ _ _ hP hD hS (lv_sub hl [1, 2, 3, 4, 5] rfl)
        · have h := ite_t k6 h
          refine lv_aload_n hx hb dX5_unwedOfLand_37 rfl (lv_at hl 1 rfl) ?_
          refine va_get (D := (dC, dI)) (ci := 5) (v := .int (o0.1 4)) (C := RX5) (T := TX5) (N := 7) hx hb hts hiX5 hown hKK.1 hP 0 rfl rfl 4 (by decide) (hts (.fieldLink RX5 31 "SlideLand$Stand" "wed" "I") (List.mem_of_getElem? (i := 3) rfl)) (fun _ h9 => h9) rfl dX5_unwedOfLand_38 ?_
          refine lv_iload hx hb dX5_unwedOfLand_41 (lv_at hl 0 rfl) ?_
          obtain ⟨q7, hq7, h⟩ := bnd_e h
          refine kcN (rest := []) (w2 := ([cX5 a0 g0 o0, cX5_5 cI g0 o0, cX5_6 cI g0 o0, cX6 a1 g1 o1, cX6_0 cI g1 o1, cX6_1 cI g1 o1, cX6_2 cI g1 o1, cX6_3 cI g1 o1, cX6_4 cI g1 o1, cX6_5 cI g1 o1, cX6_6 cI g1 o1, cX6_7 cI g1 o1])) hx hb hml hown hts hKK hP hD hS hA (c_X7_bitOf l dC dI cB cI cZ cO (o0.1 4) q3 hq7) [] (atAll_map trivial) (by decide +kernel) (sameAd_map trivial) (atAll_map trivial) (agr_refl _ _ _) ⟨va_cnB 2 hts gX5_unwedOfLand_X7_bitOf_n100 rfl rfl rfl (hKK.2 _ (nws_in 11 rfl)) (hts (.initialized RX7) (List.mem_of_getElem? (i := 5) rfl)) dsc_X7_bitOf ⟨Nat.le_of_ble_eq_true rfl, Nat.le_of_ble_eq_true rfl⟩, hts (.static yX7_bitOf) (List.mem_of_getElem? (i := 9) rfl), trivial⟩ rfl hl.1 rfl (Nat.le_of_ble_eq_true rfl) dX5_unwedOfLand_43 ⟨Nat.zero_le _, Nat.zero_le _⟩ (fun H locs hP hD hS => ?_)
          refine lv_if_ne (tgt := 54) hx hb dX5_unwedOfLand_46 (by decide) (fun k8 => ?_) (fun k8 => ?_)
          · have h := ite_f k8 h
            exact jn54 h _ _ _ hP hD hS (lv_sub hl [1, 2, 3, 4, 5] rfl)
          · have h := ite_t k8 h
            refine lv_iconst (v := (1 : Int32)) hx hb dX5_unwedOfLand_49 (by decide) ?_
            refine lv_iload hx hb dX5_unwedOfLand_50 (lv_at hl 0 rfl) ?_
            refine lv_ishl hx hb dX5_unwedOfLand_52 ?_
            have h := Option.some.inj h
            subst h
            subst hQ
            exact W.iret (v := ((1 : Int32) <<< (q3 &&& 31))) hx hb hr (fun t ht hW => ⟨⟨rfl, by rw [ht]; exact hP, hD⟩, hS.F ht⟩) hS.2.2 dX5_unwedOfLand_53
  exact lp3 FU (0 : Int32) h _ _ _ hP hD hS (lv_sub hl [1, 2, 3, 4, 0] rfl)
def f_X5_unwedOfStrip_41 (x2_3 : Int32) (kL2 : (Int32 → Option (Int32))) : Option (Int32) := bnd (x2_3 + (1 : Int32)) fun x3 : Int32 => kL2 x3
def f_X5_unwedOfStrip_2 (o0 : Ob) (o1 : Ob) (v2 : Int32) : Nat → Int32 → Option (Int32)
  | 0, _ => none
  | nn2+1, x2_3 => if (o1.1 8) ≤ x2_3 then (some (0 : Int32)) else (bnd (f_X7_bitOf (o0.1 4) ((12 : Int32) + x2_3)) fun q2 : Int32 => if q2 = 0 then ((f_X5_placeOf o0 o1 x2_3).bind fun q5 : Int32 => if q5 = v2 then (some ((1 : Int32) <<< (((12 : Int32) + x2_3) &&& 31))) else (f_X5_unwedOfStrip_41 x2_3 (f_X5_unwedOfStrip_2 o0 o1 v2 nn2))) else (f_X5_unwedOfStrip_41 x2_3 (f_X5_unwedOfStrip_2 o0 o1 v2 nn2)))
def f_X5_unwedOfStrip (o0 : Ob) (o1 : Ob) (v2 : Int32) : Option (Int32) := f_X5_unwedOfStrip_2 o0 o1 v2 FU (0 : Int32)
abbrev rmX5_unwedOfStrip : Room := { frames := 3, cells := 0, slots := 0, locals := 67 }
theorem dsc_X5_unwedOfStrip : yX5_unwedOfStrip.cls ≠ "java/lang/invoke/MethodHandle" ∧ yX5_unwedOfStrip.cls ≠ "java/lang/invoke/VarHandle" ∧ (parseMethodDescriptor yX5_unwedOfStrip.desc).map (fun d => d.parameters.length) = some 2 := by decide +kernel
set_option maxHeartbeats 4000000 in
set_option maxRecDepth 100000 in
theorem c_X5_unwedOfStrip (l : Launch) (dC : Nat → ClassId) (dI : Nat → Nat → Nat) (cB cI cZ cO : ClassId) (a0 : Nat) (g0 : Nat → Nat) (o0 : Ob) (a1 : Nat) (g1 : Nat → Nat) (o1 : Ob) (v2 : Int32) {r : Int32} (h : f_X5_unwedOfStrip o0 o1 v2 = some r) : Ct dC dI cB cI cZ cO l yX5_unwedOfStrip wsX5_unwedOfStrip rmX5_unwedOfStrip [.ref a0, .ref a1, .int v2] ([cX5 a0 g0 o0, cX5_5 cI g0 o0, cX5_6 cI g0 o0, cX6 a1 g1 o1, cX6_0 cI g1 o1, cX6_1 cI g1 o1, cX6_2 cI g1 o1, cX6_3 cI g1 o1, cX6_4 cI g1 o1, cX6_5 cI g1 o1, cX6_6 cI g1 o1, cX6_7 cI g1 o1]) (some (.int r)) ([cX5 a0 g0 o0, cX5_5 cI g0 o0, cX5_6 cI g0 o0, cX6 a1 g1 o1, cX6_0 cI g1 o1, cX6_1 cI g1 o1, cX6_2 cI g1 o1, cX6_3 cI g1 o1, cX6_4 cI g1 o1, cX6_5 cI g1 o1, cX6_6 cI g1 o1, cX6_7 cI g1 o1]) := by
  intro sz
  refine Met.ofW (cc := cX5_unwedOfStrip) (maxL := 4) (ret := (some .int)) (by decide) rfl ?_
  intro p e s m args below meth c s₁ B hml hv
  obtain ⟨rfl, hsz, hP, hKK, hD0⟩ := hv
  have hx := B.exec
  have hb := B.bytes
  have hr := B.returns
  have hts := atoms_spec (ws := wsX5_unwedOfStrip) B.pre
  have hown : s.vm.findClass RX5 = some m.cls := findClass_of_methodNamed B.named
  have hlocks := B.notSynchronized
  have hiX6 : ∀ w ∈ u_ws RX6 TX6 11, w ∈ wsX5_unwedOfStrip := fun w h => List.mem_cons_of_mem _ (List.mem_append_left _ (List.mem_append_right _ h))
  have hiX5 : ∀ w ∈ u_ws RX5 TX5 7, w ∈ wsX5_unwedOfStrip := fun w h => List.mem_cons_of_mem _ (List.mem_append_right _ h)
  subst hsz
  have hD := hD0.self (sz := s.heap.size)
  generalize hAe : va_A ([cX5 a0 g0 o0, cX5_5 cI g0 o0, cX5_6 cI g0 o0, cX6 a1 g1 o1, cX6_0 cI g1 o1, cX6_1 cI g1 o1, cX6_2 cI g1 o1, cX6_3 cI g1 o1, cX6_4 cI g1 o1, cX6_5 cI g1 o1, cX6_6 cI g1 o1, cX6_7 cI g1 o1]) s.heap.size = A at hD ⊢
  have hA : ∀ q : Nat, s.heap.size ≤ q → A q := fun q h => by rw [← hAe]; exact Or.inr h
  have hS : va_S A s.heap s.heap [] := va_S.rf
  have hP : va_P (dC, dI) vwCl ([cX5 a0 g0 o0, cX5_5 cI g0 o0, cX5_6 cI g0 o0, cX6 a1 g1 o1, cX6_0 cI g1 o1, cX6_1 cI g1 o1, cX6_2 cI g1 o1, cX6_3 cI g1 o1, cX6_4 cI g1 o1, cX6_5 cI g1 o1, cX6_6 cI g1 o1, cX6_7 cI g1 o1]) s.heap := hP
  have hD : va_D A ([cX5 a0 g0 o0, cX5_5 cI g0 o0, cX5_6 cI g0 o0, cX6 a1 g1 o1, cX6_0 cI g1 o1, cX6_1 cI g1 o1, cX6_2 cI g1 o1, cX6_3 cI g1 o1, cX6_4 cI g1 o1, cX6_5 cI g1 o1, cX6_6 cI g1 o1, cX6_7 cI g1 o1]) := hD
  have hl := lv_entry ([.ref a0, .ref a1, .int v2]) (n := 4) (Nat.le_of_ble_eq_true rfl)
  rw [lg_entry_eq]
  generalize (lg_sl ([.ref a0, .ref a1, .int v2]) ++ List.replicate (4 - (lg_sl ([.ref a0, .ref a1, .int v2])).length) Slot.unset).toArray = ls at hl ⊢
  have hl : lv_has ls 4 [(0, .ref a0), (1, .ref a1), (2, .int v2)] := hl
  obtain ⟨Q, hQ⟩ : ∃ Q, Q = MQ below (Qq dC dI (some (.int r)) ([cX5 a0 g0 o0, cX5_5 cI g0 o0, cX5_6 cI g0 o0, cX6 a1 g1 o1, cX6_0 cI g1 o1, cX6_1 cI g1 o1, cX6_2 cI g1 o1, cX6_3 cI g1 o1, cX6_4 cI g1 o1, cX6_5 cI g1 o1, cX6_6 cI g1 o1, cX6_7 cI g1 o1]) A) ([.ref a0, .ref a1, .int v2] : List Value).toArray s 0 0 A := ⟨_, rfl⟩
  rw [← hQ]
  rw [f_X5_unwedOfStrip] at h
  clear hAe hD0
  refine lv_iconst (v := (0 : Int32)) hx hb dX5_unwedOfStrip_0 (by decide) ?_
  refine lv_istore_n (lv' := [(3, .int (0 : Int32)), (0, .ref a0), (1, .ref a1), (2, .int v2)]) hx hb dX5_unwedOfStrip_1 rfl hl (by decide) rfl (fun ls hl => ?_)
  have lp2 : ∀ (nn2 : Nat) (x2_3 : Int32), f_X5_unwedOfStrip_2 o0 o1 v2 nn2 x2_3 = some r → ∀ (H : Heap) (locs : List Loc) (ls : Array Slot), va_P (dC, dI) vwCl ([cX5 a0 g0 o0, cX5_5 cI g0 o0, cX5_6 cI g0 o0, cX6 a1 g1 o1, cX6_0 cI g1 o1, cX6_1 cI g1 o1, cX6_2 cI g1 o1, cX6_3 cI g1 o1, cX6_4 cI g1 o1, cX6_5 cI g1 o1, cX6_6 cI g1 o1, cX6_7 cI g1 o1]) H → va_D A ([cX5 a0 g0 o0, cX5_5 cI g0 o0, cX5_6 cI g0 o0, cX6 a1 g1 o1, cX6_0 cI g1 o1, cX6_1 cI g1 o1, cX6_2 cI g1 o1, cX6_3 cI g1 o1, cX6_4 cI g1 o1, cX6_5 cI g1 o1, cX6_6 cI g1 o1, cX6_7 cI g1 o1]) → va_S A s.heap H locs → lv_has ls 4 [(0, .ref a0), (1, .ref a1), (2, .int v2), (3, .int x2_3)] → W p l e (headSpec wsX5_unwedOfStrip rmX5_unwedOfStrip).room s m ([.ref a0, .ref a1, .int v2] : List Value).toArray below meth c H locs 0 0 Q (F0 m 2 ls []) := by
    intro nn2
    induction nn2 with
    | zero => intro x2_3 h; rw [f_X5_unwedOfStrip_2] at h; cases h
    | succ nn2 ih2 =>
      intro x2_3 h H locs ls hP hD hS hl
      rw [f_X5_unwedOfStrip_2] at h
      refine lv_iload_n hx hb dX5_unwedOfStrip_2 rfl (lv_at hl 3 rfl) ?_
      refine lv_aload_n hx hb dX5_unwedOfStrip_3 rfl (lv_at hl 1 rfl) ?_
      refine va_get (D := (dC, dI)) (ci := 6) (v := .int (o1.1 8)) (C := RX6) (T := TX6) (N := 11) hx hb hts hiX6 hown hKK.1 hP 3 rfl rfl 8 (by decide) (hts (.fieldLink RX5 72 "SlideLand$Told" "strips" "I") (List.mem_of_getElem? (i := 1) rfl)) (fun _ h9 => h9) rfl dX5_unwedOfStrip_4 ?_
      refine lv_icmp_ge (tgt := 47) hx hb dX5_unwedOfStrip_7 (by decide) (fun k1 => ?_) (fun k1 => ?_)
      · have h := ite_t k1 h
        refine lv_iconst (v := (0 : Int32)) hx hb dX5_unwedOfStrip_47 (by decide) ?_
        have h := Option.some.inj h
        subst h
        subst hQ
        exact W.iret (v := (0 : Int32)) hx hb hr (fun t ht hW => ⟨⟨rfl, by rw [ht]; exact hP, hD⟩, hS.F ht⟩) hS.2.2 dX5_unwedOfStrip_48
      · have h := ite_f k1 h
        refine lv_aload_n hx hb dX5_unwedOfStrip_10 rfl (lv_at hl 0 rfl) ?_
        refine va_get (D := (dC, dI)) (ci := 5) (v := .int (o0.1 4)) (C := RX5) (T := TX5) (N := 7) hx hb hts hiX5 hown hKK.1 hP 0 rfl rfl 4 (by decide) (hts (.fieldLink RX5 31 "SlideLand$Stand" "wed" "I") (List.mem_of_getElem? (i := 2) rfl)) (fun _ h9 => h9) rfl dX5_unwedOfStrip_11 ?_
        refine lv_bipush (v := (12 : Int32)) hx hb dX5_unwedOfStrip_14 (by decide) ?_
        refine lv_iload_n hx hb dX5_unwedOfStrip_16 rfl (lv_at hl 3 rfl) ?_
        refine lv_iadd hx hb dX5_unwedOfStrip_17 ?_
        obtain ⟨q2, hq2, h⟩ := bnd_e h
        refine kcN (rest := []) (w2 := ([cX5 a0 g0 o0, cX5_5 cI g0 o0, cX5_6 cI g0 o0, cX6 a1 g1 o1, cX6_0 cI g1 o1, cX6_1 cI g1 o1, cX6_2 cI g1 o1, cX6_3 cI g1 o1, cX6_4 cI g1 o1, cX6_5 cI g1 o1, cX6_6 cI g1 o1, cX6_7 cI g1 o1])) hx hb hml hown hts hKK hP hD hS hA (c_X7_bitOf l dC dI cB cI cZ cO (o0.1 4) ((12 : Int32) + x2_3) hq2) [] (atAll_map trivial) (by decide +kernel) (sameAd_map trivial) (atAll_map trivial) (agr_refl _ _ _) ⟨va_cnB 2 hts gX5_unwedOfStrip_X7_bitOf_n100 rfl rfl rfl (hKK.2 _ (nws_in 11 rfl)) (hts (.initialized RX7) (List.mem_of_getElem? (i := 4) rfl)) dsc_X7_bitOf ⟨Nat.le_of_ble_eq_true rfl, Nat.le_of_ble_eq_true rfl⟩, hts (.static yX7_bitOf) (List.mem_of_getElem? (i := 3) rfl), trivial⟩ rfl hl.1 rfl (Nat.le_of_ble_eq_true rfl) dX5_unwedOfStrip_18 ⟨Nat.zero_le _, Nat.zero_le _⟩ (fun H locs hP hD hS => ?_)
        have jn41 : f_X5_unwedOfStrip_41 x2_3 (f_X5_unwedOfStrip_2 o0 o1 v2 nn2) = some r → ∀ (H : Heap) (locs : List Loc) (ls : Array Slot), va_P (dC, dI) vwCl ([cX5 a0 g0 o0, cX5_5 cI g0 o0, cX5_6 cI g0 o0, cX6 a1 g1 o1, cX6_0 cI g1 o1, cX6_1 cI g1 o1, cX6_2 cI g1 o1, cX6_3 cI g1 o1, cX6_4 cI g1 o1, cX6_5 cI g1 o1, cX6_6 cI g1 o1, cX6_7 cI g1 o1]) H → va_D A ([cX5 a0 g0 o0, cX5_5 cI g0 o0, cX5_6 cI g0 o0, cX6 a1 g1 o1, cX6_0 cI g1 o1, cX6_1 cI g1 o1, cX6_2 cI g1 o1, cX6_3 cI g1 o1, cX6_4 cI g1 o1, cX6_5 cI g1 o1, cX6_6 cI g1 o1, cX6_7 cI g1 o1]) → va_S A s.heap H locs → lv_has ls 4 [(0, .ref a0), (1, .ref a1), (2, .int v2), (3, .int x2_3)] → W p l e (headSpec wsX5_unwedOfStrip rmX5_unwedOfStrip).room s m ([.ref a0, .ref a1, .int v2] : List Value).toArray below meth c H locs 0 0 Q (F0 m 41 ls []) := by
          intro h H locs ls hP hD hS hl
          rw [f_X5_unwedOfStrip_41] at h
          obtain ⟨x3, hx3, h⟩ := bnd_e h
          refine lv_iinc (v := x3) (lv' := [(3, .int x3), (0, .ref a0), (1, .ref a1), (2, .int v2)]) hx hb dX5_unwedOfStrip_41 hl (k := 3) rfl (by rw [← hx3]; rfl) (by decide) rfl (fun ls hl => ?_)
          refine lv_goto (tgt := 2) hx hb dX5_unwedOfStrip_44 (by decide) ?_
          exact ih2 x3 h _ _ _ hP hD hS (lv_sub hl [1, 2, 3, 0] rfl)
        refine lv_if_ne (tgt := 41) hx hb dX5_unwedOfStrip_21 (by decide) (fun k4 => ?_) (fun k4 => ?_)
        · have h := ite_f k4 h
          exact jn41 h _ _ _ hP hD hS (lv_sub hl [0, 1, 2, 3] rfl)
        · have h := ite_t k4 h
          refine lv_aload_n hx hb dX5_unwedOfStrip_24 rfl (lv_at hl 0 rfl) ?_
          refine lv_aload_n hx hb dX5_unwedOfStrip_25 rfl (lv_at hl 1 rfl) ?_
          refine lv_iload_n hx hb dX5_unwedOfStrip_26 rfl (lv_at hl 3 rfl) ?_
          obtain ⟨q5, hq5, h⟩ := obd_e h
          refine kcV (rest := []) (w2 := ([cX5 a0 g0 o0, cX5_5 cI g0 o0, cX5_6 cI g0 o0, cX6 a1 g1 o1, cX6_0 cI g1 o1, cX6_1 cI g1 o1, cX6_2 cI g1 o1, cX6_3 cI g1 o1, cX6_4 cI g1 o1, cX6_5 cI g1 o1, cX6_6 cI g1 o1, cX6_7 cI g1 o1])) hx hb hml hown hts hKK hP hD hS hA (c_X5_placeOf l dC dI cB cI cZ cO a0 g0 o0 a1 g1 o1 x2_3 hq5) [0, 1, 2, 3, 4, 5, 6, 7, 8, 9, 10, 11] (atAll_map ⟨rfl, rfl, rfl, rfl, rfl, rfl, rfl, rfl, rfl, rfl, rfl, rfl, trivial⟩) (by decide +kernel) (sameAd_map ⟨rfl, rfl, rfl, rfl, rfl, rfl, rfl, rfl, rfl, rfl, rfl, rfl, trivial⟩) (atAll_map ⟨rfl, rfl, rfl, rfl, rfl, rfl, rfl, rfl, rfl, rfl, rfl, rfl, trivial⟩) (agr_refl _ _ _) (cwV 2 hts gX5_unwedOfStrip_X5_placeOf rfl rfl rfl ⟨rfl, dsc_X5_placeOf⟩ ⟨Nat.le_of_ble_eq_true rfl, Nat.le_of_ble_eq_true rfl⟩) (va_recv hKK.1 hP (ci := 5) (q0 := 0) rfl rfl) rfl hl.1 rfl (Nat.le_of_ble_eq_true rfl) dX5_unwedOfStrip_27 ⟨Nat.zero_le _, Nat.zero_le _⟩ (fun H locs hP hD hS => ?_)
          refine lv_iload_n hx hb dX5_unwedOfStrip_30 rfl (lv_at hl 2 rfl) ?_
          refine lv_icmp_ne (tgt := 41) hx hb dX5_unwedOfStrip_31 (by decide) (fun k6 => ?_) (fun k6 => ?_)
          · have h := ite_f k6 h
            exact jn41 h _ _ _ hP hD hS (lv_sub hl [0, 1, 2, 3] rfl)
          · have h := ite_t k6 h
            refine lv_iconst (v := (1 : Int32)) hx hb dX5_unwedOfStrip_34 (by decide) ?_
            refine lv_bipush (v := (12 : Int32)) hx hb dX5_unwedOfStrip_35 (by decide) ?_
            refine lv_iload_n hx hb dX5_unwedOfStrip_37 rfl (lv_at hl 3 rfl) ?_
            refine lv_iadd hx hb dX5_unwedOfStrip_38 ?_
            refine lv_ishl hx hb dX5_unwedOfStrip_39 ?_
            have h := Option.some.inj h
            subst h
            subst hQ
            exact W.iret (v := ((1 : Int32) <<< (((12 : Int32) + x2_3) &&& 31))) hx hb hr (fun t ht hW => ⟨⟨rfl, by rw [ht]; exact hP, hD⟩, hS.F ht⟩) hS.2.2 dX5_unwedOfStrip_40
  exact lp2 FU (0 : Int32) h _ _ _ hP hD hS (lv_sub hl [1, 2, 3, 0] rfl)
def f_X5_coupleAt_55 (q1 : Int32) (q2 : Int32) : Option (Int32) := if q1 = 0 then (some (0 : Int32)) else (if q2 = 0 then (some (0 : Int32)) else (some (q1 ||| q2)))
def f_X5_coupleAt_39 (q1 : Int32) (q2 : Int32) (q3 : Int32) : Option (Int32) := if q3 = 0 then (f_X5_coupleAt_55 q1 q2) else (if q2 = 0 then (f_X5_coupleAt_55 q1 q2) else (some (q3 ||| q2)))
def f_X5_coupleAt (o0 : Ob) (o1 : Ob) (v2 : Int32) : Option (Int32) := (f_X5_unwedOfLand o0 o1 (0 : Int32) v2).bind fun q1 : Int32 => (f_X5_unwedOfLand o0 o1 (1 : Int32) v2).bind fun q2 : Int32 => (f_X5_unwedOfStrip o0 o1 v2).bind fun q3 : Int32 => if q3 = 0 then (f_X5_coupleAt_39 q1 q2 q3) else (if q1 = 0 then (f_X5_coupleAt_39 q1 q2 q3) else (some (q1 ||| q3)))
abbrev rmX5_coupleAt : Room := { frames := 4, cells := 0, slots := 0, locals := 90 }
theorem dsc_X5_coupleAt : yX5_coupleAt.cls ≠ "java/lang/invoke/MethodHandle" ∧ yX5_coupleAt.cls ≠ "java/lang/invoke/VarHandle" ∧ (parseMethodDescriptor yX5_coupleAt.desc).map (fun d => d.parameters.length) = some 2 := by decide +kernel
set_option maxHeartbeats 4000000 in
set_option maxRecDepth 100000 in
theorem c_X5_coupleAt (l : Launch) (dC : Nat → ClassId) (dI : Nat → Nat → Nat) (cB cI cZ cO : ClassId) (a0 : Nat) (g0 : Nat → Nat) (o0 : Ob) (a1 : Nat) (g1 : Nat → Nat) (o1 : Ob) (v2 : Int32) {r : Int32} (h : f_X5_coupleAt o0 o1 v2 = some r) : Ct dC dI cB cI cZ cO l yX5_coupleAt wsX5_coupleAt rmX5_coupleAt [.ref a0, .ref a1, .int v2] ([cX5 a0 g0 o0, cX5_5 cI g0 o0, cX5_6 cI g0 o0, cX6 a1 g1 o1, cX6_0 cI g1 o1, cX6_1 cI g1 o1, cX6_2 cI g1 o1, cX6_3 cI g1 o1, cX6_4 cI g1 o1, cX6_5 cI g1 o1, cX6_6 cI g1 o1, cX6_7 cI g1 o1]) (some (.int r)) ([cX5 a0 g0 o0, cX5_5 cI g0 o0, cX5_6 cI g0 o0, cX6 a1 g1 o1, cX6_0 cI g1 o1, cX6_1 cI g1 o1, cX6_2 cI g1 o1, cX6_3 cI g1 o1, cX6_4 cI g1 o1, cX6_5 cI g1 o1, cX6_6 cI g1 o1, cX6_7 cI g1 o1]) := by
  intro sz
  refine Met.ofW (cc := cX5_coupleAt) (maxL := 6) (ret := (some .int)) (by decide) rfl ?_
  intro p e s m args below meth c s₁ B hml hv
  obtain ⟨rfl, hsz, hP, hKK, hD0⟩ := hv
  have hx := B.exec
  have hb := B.bytes
  have hr := B.returns
  have hts := atoms_spec (ws := wsX5_coupleAt) B.pre
  have hown : s.vm.findClass RX5 = some m.cls := findClass_of_methodNamed B.named
  have hlocks := B.notSynchronized
  subst hsz
  have hD := hD0.self (sz := s.heap.size)
  generalize hAe : va_A ([cX5 a0 g0 o0, cX5_5 cI g0 o0, cX5_6 cI g0 o0, cX6 a1 g1 o1, cX6_0 cI g1 o1, cX6_1 cI g1 o1, cX6_2 cI g1 o1, cX6_3 cI g1 o1, cX6_4 cI g1 o1, cX6_5 cI g1 o1, cX6_6 cI g1 o1, cX6_7 cI g1 o1]) s.heap.size = A at hD ⊢
  have hA : ∀ q : Nat, s.heap.size ≤ q → A q := fun q h => by rw [← hAe]; exact Or.inr h
  have hS : va_S A s.heap s.heap [] := va_S.rf
  have hP : va_P (dC, dI) vwCl ([cX5 a0 g0 o0, cX5_5 cI g0 o0, cX5_6 cI g0 o0, cX6 a1 g1 o1, cX6_0 cI g1 o1, cX6_1 cI g1 o1, cX6_2 cI g1 o1, cX6_3 cI g1 o1, cX6_4 cI g1 o1, cX6_5 cI g1 o1, cX6_6 cI g1 o1, cX6_7 cI g1 o1]) s.heap := hP
  have hD : va_D A ([cX5 a0 g0 o0, cX5_5 cI g0 o0, cX5_6 cI g0 o0, cX6 a1 g1 o1, cX6_0 cI g1 o1, cX6_1 cI g1 o1, cX6_2 cI g1 o1, cX6_3 cI g1 o1, cX6_4 cI g1 o1, cX6_5 cI g1 o1, cX6_6 cI g1 o1, cX6_7 cI g1 o1]) := hD
  have hl := lv_entry ([.ref a0, .ref a1, .int v2]) (n := 6) (Nat.le_of_ble_eq_true rfl)
  rw [lg_entry_eq]
  generalize (lg_sl ([.ref a0, .ref a1, .int v2]) ++ List.replicate (6 - (lg_sl ([.ref a0, .ref a1, .int v2])).length) Slot.unset).toArray = ls at hl ⊢
  have hl : lv_has ls 6 [(0, .ref a0), (1, .ref a1), (2, .int v2)] := hl
  obtain ⟨Q, hQ⟩ : ∃ Q, Q = MQ below (Qq dC dI (some (.int r)) ([cX5 a0 g0 o0, cX5_5 cI g0 o0, cX5_6 cI g0 o0, cX6 a1 g1 o1, cX6_0 cI g1 o1, cX6_1 cI g1 o1, cX6_2 cI g1 o1, cX6_3 cI g1 o1, cX6_4 cI g1 o1, cX6_5 cI g1 o1, cX6_6 cI g1 o1, cX6_7 cI g1 o1]) A) ([.ref a0, .ref a1, .int v2] : List Value).toArray s 0 0 A := ⟨_, rfl⟩
  rw [← hQ]
  rw [f_X5_coupleAt] at h
  clear hAe hD0
  refine lv_aload_n hx hb dX5_coupleAt_0 rfl (lv_at hl 0 rfl) ?_
  refine lv_aload_n hx hb dX5_coupleAt_1 rfl (lv_at hl 1 rfl) ?_
  refine lv_iconst (v := (0 : Int32)) hx hb dX5_coupleAt_2 (by decide) ?_
  refine lv_iload_n hx hb dX5_coupleAt_3 rfl (lv_at hl 2 rfl) ?_
  obtain ⟨q1, hq1, h⟩ := obd_e h
  refine kcV (rest := []) (w2 := ([cX5 a0 g0 o0, cX5_5 cI g0 o0, cX5_6 cI g0 o0, cX6 a1 g1 o1, cX6_0 cI g1 o1, cX6_1 cI g1 o1, cX6_2 cI g1 o1, cX6_3 cI g1 o1, cX6_4 cI g1 o1, cX6_5 cI g1 o1, cX6_6 cI g1 o1, cX6_7 cI g1 o1])) hx hb hml hown hts hKK hP hD hS hA (c_X5_unwedOfLand l dC dI cB cI cZ cO a0 g0 o0 a1 g1 o1 (0 : Int32) v2 hq1) [0, 1, 2, 3, 4, 5, 6, 7, 8, 9, 10, 11] (atAll_map ⟨rfl, rfl, rfl, rfl, rfl, rfl, rfl, rfl, rfl, rfl, rfl, rfl, trivial⟩) (by decide +kernel) (sameAd_map ⟨rfl, rfl, rfl, rfl, rfl, rfl, rfl, rfl, rfl, rfl, rfl, rfl, trivial⟩) (atAll_map ⟨rfl, rfl, rfl, rfl, rfl, rfl, rfl, rfl, rfl, rfl, rfl, rfl, trivial⟩) (agr_refl _ _ _) (cwV 3 hts gX5_coupleAt_X5_unwedOfLand rfl rfl rfl ⟨rfl, dsc_X5_unwedOfLand⟩ ⟨Nat.le_of_ble_eq_true rfl, Nat.le_of_ble_eq_true rfl⟩) (va_recv hKK.1 hP (ci := 5) (q0 := 0) rfl rfl) rfl hl.1 rfl (Nat.le_of_ble_eq_true rfl) dX5_coupleAt_4 ⟨Nat.zero_le _, Nat.zero_le _⟩ (fun H locs hP hD hS => ?_)
  refine lv_istore_n (lv' := [(3, .int q1), (0, .ref a0), (1, .ref a1), (2, .int v2)]) hx hb dX5_coupleAt_7 rfl hl (by decide) rfl (fun ls hl => ?_)
  refine lv_aload_n hx hb dX5_coupleAt_8 rfl (lv_at hl 1 rfl) ?_
  refine lv_aload_n hx hb dX5_coupleAt_9 rfl (lv_at hl 2 rfl) ?_
  refine lv_iconst (v := (1 : Int32)) hx hb dX5_coupleAt_10 (by decide) ?_
  refine lv_iload_n hx hb dX5_coupleAt_11 rfl (lv_at hl 3 rfl) ?_
  obtain ⟨q2, hq2, h⟩ := obd_e h
  refine kcV (rest := []) (w2 := ([cX5 a0 g0 o0, cX5_5 cI g0 o0, cX5_6 cI g0 o0, cX6 a1 g1 o1, cX6_0 cI g1 o1, cX6_1 cI g1 o1, cX6_2 cI g1 o1, cX6_3 cI g1 o1, cX6_4 cI g1 o1, cX6_5 cI g1 o1, cX6_6 cI g1 o1, cX6_7 cI g1 o1])) hx hb hml hown hts hKK hP hD hS hA (c_X5_unwedOfLand l dC dI cB cI cZ cO a0 g0 o0 a1 g1 o1 (1 : Int32) v2 hq2) [0, 1, 2, 3, 4, 5, 6, 7, 8, 9, 10, 11] (atAll_map ⟨rfl, rfl, rfl, rfl, rfl, rfl, rfl, rfl, rfl, rfl, rfl, rfl, trivial⟩) (by decide +kernel) (sameAd_map ⟨rfl, rfl, rfl, rfl, rfl, rfl, rfl, rfl, rfl, rfl, rfl, rfl, trivial⟩) (atAll_map ⟨rfl, rfl, rfl, rfl, rfl, rfl, rfl, rfl, rfl, rfl, rfl, rfl, trivial⟩) (agr_refl _ _ _) (cwV 3 hts gX5_coupleAt_X5_unwedOfLand rfl rfl rfl ⟨rfl, dsc_X5_unwedOfLand⟩ ⟨Nat.le_of_ble_eq_true rfl, Nat.le_of_ble_eq_true rfl⟩) (va_recv hKK.1 hP (ci := 5) (q0 := 0) rfl rfl) rfl hl.1 rfl (Nat.le_of_ble_eq_true rfl) dX5_coupleAt_12 ⟨Nat.zero_le _, Nat.zero_le _⟩ (fun H locs hP hD hS => ?_)
  refine lv_istore (lv' := [(4, .int q2), (3, .int q1), (0, .ref a0), (1, .ref a1), (2, .int v2)]) hx hb dX5_coupleAt_15 hl (by decide) rfl (fun ls hl => ?_)
  refine lv_aload_n hx hb dX5_coupleAt_17 rfl (lv_at hl 2 rfl) ?_
  refine lv_aload_n hx hb dX5_coupleAt_18 rfl (lv_at hl 3 rfl) ?_
  refine lv_iload_n hx hb dX5_coupleAt_19 rfl (lv_at hl 4 rfl) ?_
  obtain ⟨q3, hq3, h⟩ := obd_e h
  refine kcV (rest := []) (w2 := ([cX5 a0 g0 o0, cX5_5 cI g0 o0, cX5_6 cI g0 o0, cX6 a1 g1 o1, cX6_0 cI g1 o1, cX6_1 cI g1 o1, cX6_2 cI g1 o1, cX6_3 cI g1 o1, cX6_4 cI g1 o1, cX6_5 cI g1 o1, cX6_6 cI g1 o1, cX6_7 cI g1 o1])) hx hb hml hown hts hKK hP hD hS hA (c_X5_unwedOfStrip l dC dI cB cI cZ cO a0 g0 o0 a1 g1 o1 v2 hq3) [0, 1, 2, 3, 4, 5, 6, 7, 8, 9, 10, 11] (atAll_map ⟨rfl, rfl, rfl, rfl, rfl, rfl, rfl, rfl, rfl, rfl, rfl, rfl, trivial⟩) (by decide +kernel) (sameAd_map ⟨rfl, rfl, rfl, rfl, rfl, rfl, rfl, rfl, rfl, rfl, rfl, rfl, trivial⟩) (atAll_map ⟨rfl, rfl, rfl, rfl, rfl, rfl, rfl, rfl, rfl, rfl, rfl, rfl, trivial⟩) (agr_refl _ _ _) (cwV 2 hts gX5_coupleAt_X5_unwedOfStrip rfl rfl rfl ⟨rfl, dsc_X5_unwedOfStrip⟩ ⟨Nat.le_of_ble_eq_true rfl, Nat.le_of_ble_eq_true rfl⟩) (va_recv hKK.1 hP (ci := 5) (q0 := 0) rfl rfl) rfl hl.1 rfl (Nat.le_of_ble_eq_true rfl) dX5_coupleAt_20 ⟨Nat.zero_le _, Nat.zero_le _⟩ (fun H locs hP hD hS => ?_)
  refine lv_istore (lv' := [(5, .int q3), (4, .int q2), (3, .int q1), (0, .ref a0), (1, .ref a1), (2, .int v2)]) hx hb dX5_coupleAt_23 hl (by decide) rfl (fun ls hl => ?_)
  refine lv_iload hx hb dX5_coupleAt_25 (lv_at hl 0 rfl) ?_
  have jn39 : f_X5_coupleAt_39 q1 q2 q3 = some r → ∀ (H : Heap) (locs : List Loc) (ls : Array Slot), va_P (dC, dI) vwCl ([cX5 a0 g0 o0, cX5_5 cI g0 o0, cX5_6 cI g0 o0, cX6 a1 g1 o1, cX6_0 cI g1 o1, cX6_1 cI g1 o1, cX6_2 cI g1 o1, cX6_3 cI g1 o1, cX6_4 cI g1 o1, cX6_5 cI g1 o1, cX6_6 cI g1 o1, cX6_7 cI g1 o1]) H → va_D A ([cX5 a0 g0 o0, cX5_5 cI g0 o0, cX5_6 cI g0 o0, cX6 a1 g1 o1, cX6_0 cI g1 o1, cX6_1 cI g1 o1, cX6_2 cI g1 o1, cX6_3 cI g1 o1, cX6_4 cI g1 o1, cX6_5 cI g1 o1, cX6_6 cI g1 o1, cX6_7 cI g1 o1]) → va_S A s.heap H locs → lv_has ls 6 [(3, .int q1), (4, .int q2), (5, .int q3)] → W p l e (headSpec wsX5_coupleAt rmX5_coupleAt).room s m ([.ref a0, .ref a1, .int v2] : List Value).toArray below meth c H locs 0 0 Q (F0 m 39 ls []) := by
    intro h H locs ls hP hD hS hl
    rw [f_X5_coupleAt_39] at h
    refine lv_iload hx hb dX5_coupleAt_39 (lv_at hl 2 rfl) ?_
    have jn55 : f_X5_coupleAt_55 q1 q2 = some r → ∀ (H : Heap) (locs : List Loc) (ls : Array Slot), va_P (dC, dI) vwCl ([cX5 a0 g0 o0, cX5_5 cI g0 o0, cX5_6 cI g0 o0, cX6 a1 g1 o1, cX6_0 cI g1 o1, cX6_1 cI g1 o1, cX6_2 cI g1 o1, cX6_3 cI g1 o1, cX6_4 cI g1 o1, cX6_5 cI g1 o1, cX6_6 cI g1 o1, cX6_7 cI g1 o1]) H → va_D A ([cX5 a0 g0 o0, cX5_5 cI g0 o0, cX5_6 cI g0 o0, cX6 a1 g1 o1, cX6_0 cI g1 o1, cX6_1 cI g1 o1, cX6_2 cI g1 o1, cX6_3 cI g1 o1, cX6_4 cI g1 o1, cX6_5 cI g1 o1, cX6_6 cI g1 o1, cX6_7 cI g1 o1]) → va_S A s.heap H locs → lv_has ls 6 [(3, .int q1), (4, .int q2)] → W p l e (headSpec wsX5_coupleAt rmX5_coupleAt).room s m ([.ref a0, .ref a1, .int v2] : List Value).toArray below meth c H locs 0 0 Q (F0 m 55 ls []) := by
      intro h H locs ls hP hD hS hl
      rw [f_X5_coupleAt_55] at h
      refine lv_iload_n hx hb dX5_coupleAt_55 rfl (lv_at hl 0 rfl) ?_
      refine lv_if_eq (tgt := 71) hx hb dX5_coupleAt_56 (by decide) (fun k4 => ?_) (fun k4 => ?_)
      · have h := ite_t k4 h
        refine lv_iconst (v := (0 : Int32)) hx hb dX5_coupleAt_71 (by decide) ?_
        have h := Option.some.inj h
        subst h
        subst hQ
        exact W.iret (v := (0 : Int32)) hx hb hr (fun t ht hW => ⟨⟨rfl, by rw [ht]; exact hP, hD⟩, hS.F ht⟩) hS.2.2 dX5_coupleAt_72
      · have h := ite_f k4 h
        refine lv_iload hx hb dX5_coupleAt_59 (lv_at hl 1 rfl) ?_
        refine lv_if_eq (tgt := 71) hx hb dX5_coupleAt_61 (by decide) (fun k5 => ?_) (fun k5 => ?_)
        · have h := ite_t k5 h
          refine lv_iconst (v := (0 : Int32)) hx hb dX5_coupleAt_71 (by decide) ?_
          have h := Option.some.inj h
          subst h
          subst hQ
          exact W.iret (v := (0 : Int32)) hx hb hr (fun t ht hW => ⟨⟨rfl, by rw [ht]; exact hP, hD⟩, hS.F ht⟩) hS.2.2 dX5_coupleAt_72
        · have h := ite_f k5 h
          refine lv_iload_n hx hb dX5_coupleAt_64 rfl (lv_at hl 0 rfl) ?_
          refine lv_iload hx hb dX5_coupleAt_65 (lv_at hl 1 rfl) ?_
          refine lv_ior hx hb dX5_coupleAt_67 ?_
          refine lv_goto (tgt := 72) hx hb dX5_coupleAt_68 (by decide) ?_
          have h := Option.some.inj h
          subst h
          subst hQ
          exact W.iret (v := (q1 ||| q2)) hx hb hr (fun t ht hW => ⟨⟨rfl, by rw [ht]; exact hP, hD⟩, hS.F ht⟩) hS.2.2 dX5_coupleAt_72
    refine lv_if_eq (tgt := 55) hx hb dX5_coupleAt_41 (by decide) (fun k6 => ?_) (fun k6 => ?_)
    · have h := ite_t k6 h
      exact jn55 h _ _ _ hP hD hS (lv_sub hl [0, 1] rfl)
    · have h := ite_f k6 h
      refine lv_iload hx hb dX5_coupleAt_44 (lv_at hl 1 rfl) ?_
      refine lv_if_eq (tgt := 55) hx hb dX5_coupleAt_46 (by decide) (fun k7 => ?_) (fun k7 => ?_)
      · have h := ite_t k7 h
        exact jn55 h _ _ _ hP hD hS (lv_sub hl [0, 1] rfl)
      · have h := ite_f k7 h
        refine lv_iload hx hb dX5_coupleAt_49 (lv_at hl 2 rfl) ?_
        refine lv_iload hx hb dX5_coupleAt_51 (lv_at hl 1 rfl) ?_
        refine lv_ior hx hb dX5_coupleAt_53 ?_
        have h := Option.some.inj h
        subst h
        subst hQ
        exact W.iret (v := (q3 ||| q2)) hx hb hr (fun t ht hW => ⟨⟨rfl, by rw [ht]; exact hP, hD⟩, hS.F ht⟩) hS.2.2 dX5_coupleAt_54
  refine lv_if_eq (tgt := 39) hx hb dX5_coupleAt_27 (by decide) (fun k8 => ?_) (fun k8 => ?_)
  · have h := ite_t k8 h
    exact jn39 h _ _ _ hP hD hS (lv_sub hl [2, 1, 0] rfl)
  · have h := ite_f k8 h
    refine lv_iload_n hx hb dX5_coupleAt_30 rfl (lv_at hl 2 rfl) ?_
    refine lv_if_eq (tgt := 39) hx hb dX5_coupleAt_31 (by decide) (fun k9 => ?_) (fun k9 => ?_)
    · have h := ite_t k9 h
      exact jn39 h _ _ _ hP hD hS (lv_sub hl [2, 1, 0] rfl)
    · have h := ite_f k9 h
      refine lv_iload_n hx hb dX5_coupleAt_34 rfl (lv_at hl 2 rfl) ?_
      refine lv_iload hx hb dX5_coupleAt_35 (lv_at hl 0 rfl) ?_
      refine lv_ior hx hb dX5_coupleAt_37 ?_
      have h := Option.some.inj h
      subst h
      subst hQ
      exact W.iret (v := (q1 ||| q3)) hx hb hr (fun t ht hW => ⟨⟨rfl, by rw [ht]; exact hP, hD⟩, hS.F ht⟩) hS.2.2 dX5_coupleAt_38
