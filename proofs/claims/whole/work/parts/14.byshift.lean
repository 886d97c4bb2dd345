def f_X1_allSoAt_3 (o1 : Ob) (o2 : Ob) (v1 : Int32) (v3 : Int32) : Nat → Int32 → Option (Bool)
  | 0, _ => none
  | nn3+1, x3_5 => if (o2.1 2) ≤ x3_5 then (some true) else ((f_X7_cell 6 (o2.2 0) x3_5).bind fun q2 : Int32 => (f_X7_cell 7 (o1.2 2) q2).bind fun q3 : Int32 => (f_X7_cell 6 (o2.2 1) x3_5).bind fun q4 : Int32 => (f_X6_gapUnshifted o1 q2 q4 v3).bind fun q5 : Int32 => bnd (f_X7_meet q3 (q5 + v1)) fun q6 : Bool => if (b2i q6) = 0 then (some false) else (bnd (x3_5 + (1 : Int32)) fun x8 : Int32 => (f_X1_allSoAt_3 o1 o2 v1 v3 nn3) x8))
def f_X1_allSoAt (o0 : Ob) (o1 : Ob) (o2 : Ob) (v1 : Int32) (v3 : Int32) : Option (Bool) := f_X1_allSoAt_3 o1 o2 v1 v3 FU (0 : Int32)
abbrev rmX1_allSoAt : Room := { frames := 3, cells := 0, slots := 0, locals := 67 }
theorem dsc_X1_allSoAt : yX1_allSoAt.cls ≠ "java/lang/invoke/MethodHandle" ∧ yX1_allSoAt.cls ≠ "java/lang/invoke/VarHandle" ∧ (parseMethodDescriptor yX1_allSoAt.desc).map (fun d => d.parameters.length) = some 4 := by decide +kernel
set_option maxHeartbeats 4000000 in
set_option maxRecDepth 100000 in
theorem c_X1_allSoAt (l : Launch) (dC : Nat → ClassId) (dI : Nat → Nat → Nat) (cB cI cZ cO : ClassId) (a0 : Nat) (g0 : Nat → Nat) (o0 : Ob) (a1 : Nat) (g1 : Nat → Nat) (o1 : Ob) (a2 : Nat) (g2 : Nat → Nat) (o2 : Ob) (v1 : Int32) (v3 : Int32) {r : Bool} (h : f_X1_allSoAt o0 o1 o2 v1 v3 = some r) : Ct dC dI cB cI cZ cO l yX1_allSoAt wsX1_allSoAt rmX1_allSoAt [.ref a0, .int v1, .ref a1, .int v3, .ref a2] ([cX1 a0 g0 o0, cX1_0 cZ g0 o0, cX1_3 cI g0 o0, cX6 a1 g1 o1, cX6_0 cI g1 o1, cX6_1 cI g1 o1, cX6_2 cI g1 o1, cX6_3 cI g1 o1, cX6_4 cI g1 o1, cX6_5 cI g1 o1, cX6_6 cI g1 o1, cX6_7 cI g1 o1, cX0 a2 g2 o2, cX0_0 cI g2 o2, cX0_1 cI g2 o2]) (some (.int (b2i r))) ([cX1 a0 g0 o0, cX1_0 cZ g0 o0, cX1_3 cI g0 o0, cX6 a1 g1 o1, cX6_0 cI g1 o1, cX6_1 cI g1 o1, cX6_2 cI g1 o1, cX6_3 cI g1 o1, cX6_4 cI g1 o1, cX6_5 cI g1 o1, cX6_6 cI g1 o1, cX6_7 cI g1 o1, cX0 a2 g2 o2, cX0_0 cI g2 o2, cX0_1 cI g2 o2]) := by
  intro sz
  refine Met.ofW (cc := cX1_allSoAt) (maxL := 7) (ret := (some .boolean)) (by decide) rfl ?_
  intro p e s m args below meth c s₁ B hml hv
  obtain ⟨rfl, hsz, hP, hKK, hD0⟩ := hv
  have hx := B.exec
  have hb := B.bytes
  have hr := B.returns
  have hts := atoms_spec (ws := wsX1_allSoAt) B.pre
  have hown : s.vm.findClass RX1 = some m.cls := findClass_of_methodNamed B.named
  have hlocks := B.notSynchronized
  have hiX0 : ∀ w ∈ u_ws RX0 TX0 3, w ∈ wsX1_allSoAt := fun w h => List.mem_cons_of_mem _ (List.mem_append_left _ (List.mem_append_right _ h))
  have hiX6 : ∀ w ∈ u_ws RX6 TX6 11, w ∈ wsX1_allSoAt := fun w h => List.mem_cons_of_mem _ (List.mem_append_right _ h)
  subst hsz
  have hD := hD0.self (sz := s.heap.size)
  generalize hAe : va_A ([cX1 a0 g0 o0, cX1_0 cZ g0 o0, cX1_3 cI g0 o0, cX6 a1 g1 o1, cX6_0 cI g1 o1, cX6_1 cI g1 o1, cX6_2 cI g1 o1, cX6_3 cI g1 o1, cX6_4 cI g1 o1, cX6_5 cI g1 o1, cX6_6 cI g1 o1, cX6_7 cI g1 o1, cX0 a2 g2 o2, cX0_0 cI g2 o2, cX0_1 cI g2 o2]) s.heap.size = A at hD ⊢
  have hA : ∀ q : Nat, s.heap.size ≤ q → A q := fun q h => by rw [← hAe]; exact Or.inr h
  have hS : va_S A s.heap s.heap [] := va_S.rf
  have hP : va_P (dC, dI) vwCl ([cX1 a0 g0 o0, cX1_0 cZ g0 o0, cX1_3 cI g0 o0, cX6 a1 g1 o1, cX6_0 cI g1 o1, cX6_1 cI g1 o1, cX6_2 cI g1 o1, cX6_3 cI g1 o1, cX6_4 cI g1 o1, cX6_5 cI g1 o1, cX6_6 cI g1 o1, cX6_7 cI g1 o1, cX0 a2 g2 o2, cX0_0 cI g2 o2, cX0_1 cI g2 o2]) s.heap := hP
  have hD : va_D A ([cX1 a0 g0 o0, cX1_0 cZ g0 o0, cX1_3 cI g0 o0, cX6 a1 g1 o1, cX6_0 cI g1 o1, cX6_1 cI g1 o1, cX6_2 cI g1 o1, cX6_3 cI g1 o1, cX6_4 cI g1 o1, cX6_5 cI g1 o1, cX6_6 cI g1 o1, cX6_7 cI g1 o1, cX0 a2 g2 o2, cX0_0 cI g2 o2, cX0_1 cI g2 o2]) := hD
  have hl := lv_entry ([.ref a0, .int v1, .ref a1, .int v3, .ref a2]) (n := 7) (Nat.le_of_ble_eq_true rfl)
  rw [lg_entry_eq]
  generalize (lg_sl ([.ref a0, .int v1, .ref a1, .int v3, .ref a2]) ++ List.replicate (7 - (lg_sl ([.ref a0, .int v1, .ref a1, .int v3, .ref a2])).length) Slot.unset).toArray = ls at hl ⊢
  have hl : lv_has ls 7 [(0, .ref a0), (1, .int v1), (2, .ref a1), (3, .int v3), (4, .ref a2)] := hl
  obtain ⟨Q, hQ⟩ : ∃ Q, Q = MQ below (Qq dC dI (some (.int (b2i r))) ([cX1 a0 g0 o0, cX1_0 cZ g0 o0, cX1_3 cI g0 o0, cX6 a1 g1 o1, cX6_0 cI g1 o1, cX6_1 cI g1 o1, cX6_2 cI g1 o1, cX6_3 cI g1 o1, cX6_4 cI g1 o1, cX6_5 cI g1 o1, cX6_6 cI g1 o1, cX6_7 cI g1 o1, cX0 a2 g2 o2, cX0_0 cI g2 o2, cX0_1 cI g2 o2]) A) ([.ref a0, .int v1, .ref a1, .int v3, .ref a2] : List Value).toArray s 0 0 A := ⟨_, rfl⟩
  rw [← hQ]
  rw [f_X1_allSoAt] at h
  clear hAe hD0
  refine lv_iconst (v := (0 : Int32)) hx hb dX1_allSoAt_0 (by decide) ?_
  refine lv_istore (lv' := [(5, .int (0 : Int32)), (0, .ref a0), (1, .int v1), (2, .ref a1), (3, .int v3), (4, .ref a2)]) hx hb dX1_allSoAt_1 hl (by decide) rfl (fun ls hl => ?_)
  have lp3 : ∀ (nn3 : Nat) (x3_5 : Int32), f_X1_allSoAt_3 o1 o2 v1 v3 nn3 x3_5 = some r → ∀ (H : Heap) (locs : List Loc) (ls : Array Slot), va_P (dC, dI) vwCl ([cX1 a0 g0 o0, cX1_0 cZ g0 o0, cX1_3 cI g0 o0, cX6 a1 g1 o1, cX6_0 cI g1 o1, cX6_1 cI g1 o1, cX6_2 cI g1 o1, cX6_3 cI g1 o1, cX6_4 cI g1 o1, cX6_5 cI g1 o1, cX6_6 cI g1 o1, cX6_7 cI g1 o1, cX0 a2 g2 o2, cX0_0 cI g2 o2, cX0_1 cI g2 o2]) H → va_D A ([cX1 a0 g0 o0, cX1_0 cZ g0 o0, cX1_3 cI g0 o0, cX6 a1 g1 o1, cX6_0 cI g1 o1, cX6_1 cI g1 o1, cX6_2 cI g1 o1, cX6_3 cI g1 o1, cX6_4 cI g1 o1, cX6_5 cI g1 o1, cX6_6 cI g1 o1, cX6_7 cI g1 o1, cX0 a2 g2 o2, cX0_0 cI g2 o2, cX0_1 cI g2 o2]) → va_S A s.heap H locs → lv_has ls 7 [(1, .int v1), (2, .ref a1), (3, .int v3), (4, .ref a2), (5, .int x3_5)] → W p l e (headSpec wsX1_allSoAt rmX1_allSoAt).room s m ([.ref a0, .int v1, .ref a1, .int v3, .ref a2] : List Value).toArray below meth c H locs 0 0 Q (F0 m 3 ls []) := by
    intro nn3
    induction nn3 with
    | zero => intro x3_5 h; rw [f_X1_allSoAt_3] at h; cases h
    | succ nn3 ih3 =>
      intro x3_5 h H locs ls hP hD hS hl
      rw [f_X1_allSoAt_3] at h
      refine lv_iload hx hb dX1_allSoAt_3 (lv_at hl 4 rfl) ?_
      refine lv_aload hx hb dX1_allSoAt_5 (lv_at hl 3 rfl) ?_
      refine va_get (D := (dC, dI)) (ci := 0) (v := .int (o2.1 2)) (C := RX0) (T := TX0) (N := 3) hx hb hts hiX0 hown hKK.1 hP 12 rfl rfl 2 (by decide) (hts (.fieldLink RX1 30 "SlideLand$Asked" "size" "I") (List.mem_of_getElem? (i := 1) rfl)) (fun _ h9 => h9) rfl dX1_allSoAt_7 ?_
      refine lv_icmp_ge (tgt := 67) hx hb dX1_allSoAt_10 (by decide) (fun k1 => ?_) (fun k1 => ?_)
      · have h := ite_t k1 h
        refine lv_iconst (v := (1 : Int32)) hx hb dX1_allSoAt_67 (by decide) ?_
        have h := Option.some.inj h
        subst h
        subst hQ
        exact W.zret (v := (1 : Int32)) hx hb hr rfl (fun t ht hW => ⟨⟨rfl, by rw [ht]; exact hP, hD⟩, hS.F ht⟩) hS.2.2 dX1_allSoAt_68
      · have h := ite_f k1 h
        refine lv_aload hx hb dX1_allSoAt_13 (lv_at hl 3 rfl) ?_
        refine va_get (D := (dC, dI)) (ci := 0) (v := .ref (g2 0)) (C := RX0) (T := TX0) (N := 3) hx hb hts hiX0 hown hKK.1 hP 12 rfl rfl 0 (by decide) (hts (.fieldLink RX1 35 "SlideLand$Asked" "strip" "[I") (List.mem_of_getElem? (i := 2) rfl)) (fun _ h9 => h9) rfl dX1_allSoAt_15 ?_
        refine lv_iload hx hb dX1_allSoAt_18 (lv_at hl 4 rfl) ?_
        obtain ⟨q2, hq2, h⟩ := obd_e h
        refine kcN (rest := []) (w2 := ([cX1 a0 g0 o0, cX1_0 cZ g0 o0, cX1_3 cI g0 o0, cX6 a1 g1 o1, cX6_0 cI g1 o1, cX6_1 cI g1 o1, cX6_2 cI g1 o1, cX6_3 cI g1 o1, cX6_4 cI g1 o1, cX6_5 cI g1 o1, cX6_6 cI g1 o1, cX6_7 cI g1 o1, cX0 a2 g2 o2, cX0_0 cI g2 o2, cX0_1 cI g2 o2])) hx hb hml hown hts hKK hP hD hS hA (c_X7_cell l dC dI cB cI cZ cO (g2 0) 6 (o2.2 0) x3_5 hq2) [13] (atAll_map ⟨rfl, trivial⟩) (by decide +kernel) (sameAd_map ⟨rfl, trivial⟩) (atAll_map ⟨rfl, trivial⟩) (agr_refl _ _ _) ⟨va_cnB 2 hts gX1_allSoAt_X7_cell_n38 rfl rfl rfl (hKK.2 _ (nws_in 19 rfl)) (hts (.initialized RX7) (List.mem_of_getElem? (i := 6) rfl)) dsc_X7_cell ⟨Nat.le_of_ble_eq_true rfl, Nat.le_of_ble_eq_true rfl⟩, hts (.static yX7_cell) (List.mem_of_getElem? (i := 5) rfl), trivial⟩ rfl hl.1 rfl (Nat.le_of_ble_eq_true rfl) dX1_allSoAt_20 ⟨Nat.zero_le _, Nat.zero_le _⟩ (fun H locs hP hD hS => ?_)
        refine lv_istore (lv' := [(6, .int q2), (1, .int v1), (2, .ref a1), (3, .int v3), (4, .ref a2), (5, .int x3_5)]) hx hb dX1_allSoAt_23 hl (by decide) rfl (fun ls hl => ?_)
        refine lv_aload_n hx hb dX1_allSoAt_25 rfl (lv_at hl 2 rfl) ?_
        refine va_get (D := (dC, dI)) (ci := 6) (v := .ref (g1 2)) (C := RX6) (T := TX6) (N := 11) hx hb hts hiX6 hown hKK.1 hP 3 rfl rfl 2 (by decide) (hts (.fieldLink RX1 42 "SlideLand$Told" "kind" "[I") (List.mem_of_getElem? (i := 3) rfl)) (fun _ h9 => h9) rfl dX1_allSoAt_26 ?_
        refine lv_iload hx hb dX1_allSoAt_29 (lv_at hl 0 rfl) ?_
        obtain ⟨q3, hq3, h⟩ := obd_e h
        refine kcN (rest := []) (w2 := ([cX1 a0 g0 o0, cX1_0 cZ g0 o0, cX1_3 cI g0 o0, cX6 a1 g1 o1, cX6_0 cI g1 o1, cX6_1 cI g1 o1, cX6_2 cI g1 o1, cX6_3 cI g1 o1, cX6_4 cI g1 o1, cX6_5 cI g1 o1, cX6_6 cI g1 o1, cX6_7 cI g1 o1, cX0 a2 g2 o2, cX0_0 cI g2 o2, cX0_1 cI g2 o2])) hx hb hml hown hts hKK hP hD hS hA (c_X7_cell l dC dI cB cI cZ cO (g1 2) 7 (o1.2 2) q2 hq3) [6] (atAll_map ⟨rfl, trivial⟩) (by decide +kernel) (sameAd_map ⟨rfl, trivial⟩) (atAll_map ⟨rfl, trivial⟩) (agr_refl _ _ _) ⟨va_cnB 2 hts gX1_allSoAt_X7_cell_n38 rfl rfl rfl (hKK.2 _ (nws_in 19 rfl)) (hts (.initialized RX7) (List.mem_of_getElem? (i := 6) rfl)) dsc_X7_cell ⟨Nat.le_of_ble_eq_true rfl, Nat.le_of_ble_eq_true rfl⟩, hts (.static yX7_cell) (List.mem_of_getElem? (i := 5) rfl), trivial⟩ rfl hl.1 rfl (Nat.le_of_ble_eq_true rfl) dX1_allSoAt_31 ⟨Nat.zero_le _, Nat.zero_le _⟩ (fun H locs hP hD hS => ?_)
        refine lv_aload_n hx hb dX1_allSoAt_34 rfl (lv_at hl 2 rfl) ?_
        refine lv_iload hx hb dX1_allSoAt_35 (lv_at hl 0 rfl) ?_
        refine lv_aload hx hb dX1_allSoAt_37 (lv_at hl 4 rfl) ?_
        refine va_get (D := (dC, dI)) (ci := 0) (v := .ref (g2 1)) (C := RX0) (T := TX0) (N := 3) hx hb hts hiX0 hown hKK.1 hP 12 rfl rfl 1 (by decide) (hts (.fieldLink RX1 47 "SlideLand$Asked" "one" "[I") (List.mem_of_getElem? (i := 4) rfl)) (fun _ h9 => h9) rfl dX1_allSoAt_39 ?_
        refine lv_iload hx hb dX1_allSoAt_42 (lv_at hl 5 rfl) ?_
        obtain ⟨q4, hq4, h⟩ := obd_e h
        refine kcN (rest := [.int q2, .ref a1, .int q3]) (w2 := ([cX1 a0 g0 o0, cX1_0 cZ g0 o0, cX1_3 cI g0 o0, cX6 a1 g1 o1, cX6_0 cI g1 o1, cX6_1 cI g1 o1, cX6_2 cI g1 o1, cX6_3 cI g1 o1, cX6_4 cI g1 o1, cX6_5 cI g1 o1, cX6_6 cI g1 o1, cX6_7 cI g1 o1, cX0 a2 g2 o2, cX0_0 cI g2 o2, cX0_1 cI g2 o2])) hx hb hml hown hts hKK hP hD hS hA (c_X7_cell l dC dI cB cI cZ cO (g2 1) 6 (o2.2 1) x3_5 hq4) [14] (atAll_map ⟨rfl, trivial⟩) (by decide +kernel) (sameAd_map ⟨rfl, trivial⟩) (atAll_map ⟨rfl, trivial⟩) (agr_refl _ _ _) ⟨va_cnB 2 hts gX1_allSoAt_X7_cell_n38 rfl rfl rfl (hKK.2 _ (nws_in 19 rfl)) (hts (.initialized RX7) (List.mem_of_getElem? (i := 6) rfl)) dsc_X7_cell ⟨Nat.le_of_ble_eq_true rfl, Nat.le_of_ble_eq_true rfl⟩, hts (.static yX7_cell) (List.mem_of_getElem? (i := 5) rfl), trivial⟩ rfl hl.1 rfl (Nat.le_of_ble_eq_true rfl) dX1_allSoAt_44 ⟨Nat.zero_le _, Nat.zero_le _⟩ (fun H locs hP hD hS => ?_)
        refine lv_iload_n hx hb dX1_allSoAt_47 rfl (lv_at hl 3 rfl) ?_
        obtain ⟨q5, hq5, h⟩ := obd_e h
        refine kcV (rest := [.int q3]) (w2 := ([cX1 a0 g0 o0, cX1_0 cZ g0 o0, cX1_3 cI g0 o0, cX6 a1 g1 o1, cX6_0 cI g1 o1, cX6_1 cI g1 o1, cX6_2 cI g1 o1, cX6_3 cI g1 o1, cX6_4 cI g1 o1, cX6_5 cI g1 o1, cX6_6 cI g1 o1, cX6_7 cI g1 o1, cX0 a2 g2 o2, cX0_0 cI g2 o2, cX0_1 cI g2 o2])) hx hb hml hown hts hKK hP hD hS hA (c_X6_gapUnshifted l dC dI cB cI cZ cO a1 g1 o1 q2 q4 v3 hq5) [3, 4, 5, 6, 7, 8, 9, 10, 11] (atAll_map ⟨rfl, rfl, rfl, rfl, rfl, rfl, rfl, rfl, rfl, trivial⟩) (by decide +kernel) (sameAd_map ⟨rfl, rfl, rfl, rfl, rfl, rfl, rfl, rfl, rfl, trivial⟩) (atAll_map ⟨rfl, rfl, rfl, rfl, rfl, rfl, rfl, rfl, rfl, trivial⟩) (agr_refl _ _ _) (cwV 3 hts gX1_allSoAt_X6_gapUnshifted rfl rfl rfl ⟨rfl, dsc_X6_gapUnshifted⟩ ⟨Nat.le_of_ble_eq_true rfl, Nat.le_of_ble_eq_true rfl⟩) (va_recv hKK.1 hP (ci := 6) (q0 := 3) rfl rfl) rfl hl.1 rfl (Nat.le_of_ble_eq_true rfl) dX1_allSoAt_48 ⟨Nat.zero_le _, Nat.zero_le _⟩ (fun H locs hP hD hS => ?_)
        refine lv_iload_n hx hb dX1_allSoAt_51 rfl (lv_at hl 1 rfl) ?_
        refine lv_iadd hx hb dX1_allSoAt_52 ?_
        obtain ⟨q6, hq6, h⟩ := bnd_e h
        refine kcN (rest := []) (w2 := ([cX1 a0 g0 o0, cX1_0 cZ g0 o0, cX1_3 cI g0 o0, cX6 a1 g1 o1, cX6_0 cI g1 o1, cX6_1 cI g1 o1, cX6_2 cI g1 o1, cX6_3 cI g1 o1, cX6_4 cI g1 o1, cX6_5 cI g1 o1, cX6_6 cI g1 o1, cX6_7 cI g1 o1, cX0 a2 g2 o2, cX0_0 cI g2 o2, cX0_1 cI g2 o2])) hx hb hml hown hts hKK hP hD hS hA (c_X7_meet l dC dI cB cI cZ cO q3 (q5 + v1) hq6) [] (atAll_map trivial) (by decide +kernel) (sameAd_map trivial) (atAll_map trivial) (agr_refl _ _ _) ⟨va_cnB 2 hts gX1_allSoAt_X7_meet_n54 rfl rfl rfl (hKK.2 _ (nws_in 20 rfl)) (hts (.initialized RX7) (List.mem_of_getElem? (i := 6) rfl)) dsc_X7_meet ⟨Nat.le_of_ble_eq_true rfl, Nat.le_of_ble_eq_true rfl⟩, hts (.static yX7_meet) (List.mem_of_getElem? (i := 25) rfl), trivial⟩ rfl hl.1 rfl (Nat.le_of_ble_eq_true rfl) dX1_allSoAt_53 ⟨Nat.zero_le _, Nat.zero_le _⟩ (fun H locs hP hD hS => ?_)
        refine lv_if_ne (tgt := 61) hx hb dX1_allSoAt_56 (by decide) (fun k7 => ?_) (fun k7 => ?_)
        · have h := ite_f k7 h
          obtain ⟨x8, hx8, h⟩ := bnd_e h
          refine lv_iinc (v := x8) (lv' := [(5, .int x8), (6, .int q2), (1, .int v1), (2, .ref a1), (3, .int v3), (4, .ref a2)]) hx hb dX1_allSoAt_61 hl (k := 5) rfl (by rw [← hx8]; rfl) (by decide) rfl (fun ls hl => ?_)
          refine lv_goto (tgt := 3) hx hb dX1_allSoAt_64 (by decide) ?_
          exact ih3 x8 h _ _ _ hP hD hS (lv_sub hl [2, 3, 4, 5, 0] rfl)
        · have h := ite_t k7 h
          refine lv_iconst (v := (0 : Int32)) hx hb dX1_allSoAt_59 (by decide) ?_
          have h := Option.some.inj h
          subst h
          subst hQ
          exact W.zret (v := (0 : Int32)) hx hb hr rfl (fun t ht hW => ⟨⟨rfl, by rw [ht]; exact hP, hD⟩, hS.F ht⟩) hS.2.2 dX1_allSoAt_60
  exact lp3 FU (0 : Int32) h _ _ _ hP hD hS (lv_sub hl [2, 3, 4, 5, 0] rfl)
def f_X1_findSo_68 (x9_4 : Int32) (kL9 : (Int32 → Ob → Option (Ob))) (o68_0 : Ob) : Option (Ob) := bnd (x9_4 + (-1 : Int32)) fun x3 : Int32 => kL9 x3 o68_0
def f_X1_findSo_47 (x9_4 : Int32) (kL9 : (Int32 → Ob → Option (Ob))) (q2 : Bool) (o47_0 : Ob) : Option (Ob) := if (b2i q2) = 0 then (f_X1_findSo_68 x9_4 kL9 o47_0) else (bnd ((o47_0.1 1) + (1 : Int32)) fun x5 : Int32 => f_X1_findSo_68 x9_4 kL9 (stF (stF o47_0 1 x5) 2 x9_4))
def f_X1_findSo_9 (o1 : Ob) (o2 : Ob) (v2 : Int32) : Nat → Int32 → Ob → Option (Ob)
  | 0, _, _ => none
  | nn9+1, x9_4, o9_0 => if x9_4 < 0 then (some o9_0) else ((f_X1_allSoAt o9_0 o1 o2 (x9_4 - (40 : Int32)) v2).bind fun q2 : Bool => if (81 : Int32) ≤ x9_4 then (f_X1_findSo_47 x9_4 (f_X1_findSo_9 o1 o2 v2 nn9) q2 o9_0) else (if x9_4 < 0 ∨ 81 ≤ x9_4.toNatClampNeg then none else bnd (upd (o9_0.2 0) x9_4.toNatClampNeg (vp_nar .boolean (b2i q2))) fun u8 : Nat → Int32 => f_X1_findSo_47 x9_4 (f_X1_findSo_9 o1 o2 v2 nn9) q2 (stR o9_0 0 u8)))
def f_X1_findSo (o0 : Ob) (o1 : Ob) (o2 : Ob) (v2 : Int32) : Option (Ob) := f_X1_findSo_9 o1 o2 v2 FU (80 : Int32) (stF o0 1 (0 : Int32))
abbrev rmX1_findSo : Room := { frames := 4, cells := 0, slots := 0, locals := 93 }
theorem dsc_X1_findSo : yX1_findSo.cls ≠ "java/lang/invoke/MethodHandle" ∧ yX1_findSo.cls ≠ "java/lang/invoke/VarHandle" ∧ (parseMethodDescriptor yX1_findSo.desc).map (fun d => d.parameters.length) = some 3 := by decide +kernel
set_option maxHeartbeats 4000000 in
set_option maxRecDepth 100000 in
theorem c_X1_findSo (l : Launch) (dC : Nat → ClassId) (dI : Nat → Nat → Nat) (cB cI cZ cO : ClassId) (a0 : Nat) (g0 : Nat → Nat) (o0 : Ob) (a1 : Nat) (g1 : Nat → Nat) (o1 : Ob) (a2 : Nat) (g2 : Nat → Nat) (o2 : Ob) (v2 : Int32) {r : Ob} (h : f_X1_findSo o0 o1 o2 v2 = some r) : Ct dC dI cB cI cZ cO l yX1_findSo wsX1_findSo rmX1_findSo [.ref a0, .ref a1, .int v2, .ref a2] ([cX1 a0 g0 o0, cX1_0 cZ g0 o0, cX1_3 cI g0 o0, cX6 a1 g1 o1, cX6_0 cI g1 o1, cX6_1 cI g1 o1, cX6_2 cI g1 o1, cX6_3 cI g1 o1, cX6_4 cI g1 o1, cX6_5 cI g1 o1, cX6_6 cI g1 o1, cX6_7 cI g1 o1, cX0 a2 g2 o2, cX0_0 cI g2 o2, cX0_1 cI g2 o2]) none ([cX1 a0 g0 r, cX1_0 cZ g0 r, cX1_3 cI g0 r, cX6 a1 g1 o1, cX6_0 cI g1 o1, cX6_1 cI g1 o1, cX6_2 cI g1 o1, cX6_3 cI g1 o1, cX6_4 cI g1 o1, cX6_5 cI g1 o1, cX6_6 cI g1 o1, cX6_7 cI g1 o1, cX0 a2 g2 o2, cX0_0 cI g2 o2, cX0_1 cI g2 o2]) := by
  intro sz
  refine Met.ofW (cc := cX1_findSo) (maxL := 6) (ret := none) (by decide) rfl ?_
  intro p e s m args below meth c s₁ B hml hv
  obtain ⟨rfl, hsz, hP, hKK, hD0⟩ := hv
  have hx := B.exec
  have hb := B.bytes
  have hr := B.returns
  have hts := atoms_spec (ws := wsX1_findSo) B.pre
  have hown : s.vm.findClass RX1 = some m.cls := findClass_of_methodNamed B.named
  have hlocks := B.notSynchronized
  have hiX1 : ∀ w ∈ u_ws RX1 TX1 4, w ∈ wsX1_findSo := fun w h => List.mem_cons_of_mem _ (List.mem_append_left _ (List.mem_append_left _ (List.mem_append_right _ h)))
  subst hsz
  have hD := hD0.self (sz := s.heap.size)
  generalize hAe : va_A ([cX1 a0 g0 o0, cX1_0 cZ g0 o0, cX1_3 cI g0 o0, cX6 a1 g1 o1, cX6_0 cI g1 o1, cX6_1 cI g1 o1, cX6_2 cI g1 o1, cX6_3 cI g1 o1, cX6_4 cI g1 o1, cX6_5 cI g1 o1, cX6_6 cI g1 o1, cX6_7 cI g1 o1, cX0 a2 g2 o2, cX0_0 cI g2 o2, cX0_1 cI g2 o2]) s.heap.size = A at hD ⊢
  have hA : ∀ q : Nat, s.heap.size ≤ q → A q := fun q h => by rw [← hAe]; exact Or.inr h
  have hS : va_S A s.heap s.heap [] := va_S.rf
  have hP : va_P (dC, dI) vwCl ([cX1 a0 g0 o0, cX1_0 cZ g0 o0, cX1_3 cI g0 o0, cX6 a1 g1 o1, cX6_0 cI g1 o1, cX6_1 cI g1 o1, cX6_2 cI g1 o1, cX6_3 cI g1 o1, cX6_4 cI g1 o1, cX6_5 cI g1 o1, cX6_6 cI g1 o1, cX6_7 cI g1 o1, cX0 a2 g2 o2, cX0_0 cI g2 o2, cX0_1 cI g2 o2]) s.heap := hP
  have hD : va_D A ([cX1 a0 g0 o0, cX1_0 cZ g0 o0, cX1_3 cI g0 o0, cX6 a1 g1 o1, cX6_0 cI g1 o1, cX6_1 cI g1 o1, cX6_2 cI g1 o1, cX6_3 cI g1 o1, cX6_4 cI g1 o1, cX6_5 cI g1 o1, cX6_6 cI g1 o1, cX6_7 cI g1 o1, cX0 a2 g2 o2, cX0_0 cI g2 o2, cX0_1 cI g2 o2]) := hD
  have hl := lv_entry ([.ref a0, .ref a1, .int v2, .ref a2]) (n := 6) (Nat.le_of_ble_eq_true rfl)
  rw [lg_entry_eq]
  generalize (lg_sl ([.ref a0, .ref a1, .int v2, .ref a2]) ++ List.replicate (6 - (lg_sl ([.ref a0, .ref a1, .int v2, .ref a2])).length) Slot.unset).toArray = ls at hl ⊢
  have hl : lv_has ls 6 [(0, .ref a0), (1, .ref a1), (2, .int v2), (3, .ref a2)] := hl
  obtain ⟨Q, hQ⟩ : ∃ Q, Q = MQ below (Qq dC dI none ([cX1 a0 g0 r, cX1_0 cZ g0 r, cX1_3 cI g0 r, cX6 a1 g1 o1, cX6_0 cI g1 o1, cX6_1 cI g1 o1, cX6_2 cI g1 o1, cX6_3 cI g1 o1, cX6_4 cI g1 o1, cX6_5 cI g1 o1, cX6_6 cI g1 o1, cX6_7 cI g1 o1, cX0 a2 g2 o2, cX0_0 cI g2 o2, cX0_1 cI g2 o2]) A) ([.ref a0, .ref a1, .int v2, .ref a2] : List Value).toArray s 0 0 A := ⟨_, rfl⟩
  rw [← hQ]
  rw [f_X1_findSo] at h
  clear hAe hD0
  refine lv_aload_n hx hb dX1_findSo_0 rfl (lv_at hl 0 rfl) ?_
  refine lv_iconst (v := (0 : Int32)) hx hb dX1_findSo_1 (by decide) ?_
  refine va_put (D := (dC, dI)) (ci := 1) (v := .int (0 : Int32)) (ty := .int) (C := RX1) (T := TX1) (N := 4) hx hb hts hiX1 tyX1 tyX1_ok nmX1 hown hKK.1 hP hD hS 0 rfl rfl 1 (by decide) (hts (.fieldLink RX1 19 "SlideLand$ByShift" "howManySo" "I") (List.mem_of_getElem? (i := 1) rfl)) (fun _ h9 => h9) rfl (by decide +kernel) rfl rfl (Nat.le_of_ble_eq_true rfl) dX1_findSo_2 (fun H locs hP hD hS => ?_)
  have hP : va_P (dC, dI) vwCl ([cX1 a0 g0 (stF o0 1 (0 : Int32)), cX1_0 cZ g0 (stF o0 1 (0 : Int32)), cX1_3 cI g0 (stF o0 1 (0 : Int32)), cX6 a1 g1 o1, cX6_0 cI g1 o1, cX6_1 cI g1 o1, cX6_2 cI g1 o1, cX6_3 cI g1 o1, cX6_4 cI g1 o1, cX6_5 cI g1 o1, cX6_6 cI g1 o1, cX6_7 cI g1 o1, cX0 a2 g2 o2, cX0_0 cI g2 o2, cX0_1 cI g2 o2]) H := hP
  have hD : va_D A ([cX1 a0 g0 (stF o0 1 (0 : Int32)), cX1_0 cZ g0 (stF o0 1 (0 : Int32)), cX1_3 cI g0 (stF o0 1 (0 : Int32)), cX6 a1 g1 o1, cX6_0 cI g1 o1, cX6_1 cI g1 o1, cX6_2 cI g1 o1, cX6_3 cI g1 o1, cX6_4 cI g1 o1, cX6_5 cI g1 o1, cX6_6 cI g1 o1, cX6_7 cI g1 o1, cX0 a2 g2 o2, cX0_0 cI g2 o2, cX0_1 cI g2 o2]) := hD
  refine lv_bipush (v := (80 : Int32)) hx hb dX1_findSo_5 (by decide) ?_
  refine lv_istore (lv' := [(4, .int (80 : Int32)), (0, .ref a0), (1, .ref a1), (2, .int v2), (3, .ref a2)]) hx hb dX1_findSo_7 hl (by decide) rfl (fun ls hl => ?_)
  have lp9 : ∀ (nn9 : Nat) (x9_4 : Int32) (o9_0 : Ob), f_X1_findSo_9 o1 o2 v2 nn9 x9_4 o9_0 = some r → ∀ (H : Heap) (locs : List Loc) (ls : Array Slot), va_P (dC, dI) vwCl ([cX1 a0 g0 o9_0, cX1_0 cZ g0 o9_0, cX1_3 cI g0 o9_0, cX6 a1 g1 o1, cX6_0 cI g1 o1, cX6_1 cI g1 o1, cX6_2 cI g1 o1, cX6_3 cI g1 o1, cX6_4 cI g1 o1, cX6_5 cI g1 o1, cX6_6 cI g1 o1, cX6_7 cI g1 o1, cX0 a2 g2 o2, cX0_0 cI g2 o2, cX0_1 cI g2 o2]) H → va_D A ([cX1 a0 g0 o9_0, cX1_0 cZ g0 o9_0, cX1_3 cI g0 o9_0, cX6 a1 g1 o1, cX6_0 cI g1 o1, cX6_1 cI g1 o1, cX6_2 cI g1 o1, cX6_3 cI g1 o1, cX6_4 cI g1 o1, cX6_5 cI g1 o1, cX6_6 cI g1 o1, cX6_7 cI g1 o1, cX0 a2 g2 o2, cX0_0 cI g2 o2, cX0_1 cI g2 o2]) → va_S A s.heap H locs → lv_has ls 6 [(0, .ref a0), (1, .ref a1), (2, .int v2), (3, .ref a2), (4, .int x9_4)] → W p l e (headSpec wsX1_findSo rmX1_findSo).room s m ([.ref a0, .ref a1, .int v2, .ref a2] : List Value).toArray below meth c H locs 0 0 Q (F0 m 9 ls []) := by
    intro nn9
    induction nn9 with
    | zero => intro x9_4 o9_0 h; rw [f_X1_findSo_9] at h; cases h
    | succ nn9 ih9 =>
      intro x9_4 o9_0 h H locs ls hP hD hS hl
      rw [f_X1_findSo_9] at h
      refine lv_iload hx hb dX1_findSo_9 (lv_at hl 4 rfl) ?_
      refine lv_if_lt (tgt := 74) hx hb dX1_findSo_11 (by decide) (fun k1 => ?_) (fun k1 => ?_)
      · have h := ite_t k1 h
        have h := Option.some.inj h
        subst h
        subst hQ
        exact W.vret hx hb hr (fun t ht hW => ⟨⟨rfl, by rw [ht]; exact hP, hD⟩, hS.F ht⟩) hS.2.2 dX1_findSo_74
      · have h := ite_f k1 h
        refine lv_aload_n hx hb dX1_findSo_14 rfl (lv_at hl 0 rfl) ?_
        refine lv_iload hx hb dX1_findSo_15 (lv_at hl 4 rfl) ?_
        refine lv_bipush (v := (40 : Int32)) hx hb dX1_findSo_17 (by decide) ?_
        refine lv_isub hx hb dX1_findSo_19 ?_
        refine lv_aload_n hx hb dX1_findSo_20 rfl (lv_at hl 1 rfl) ?_
        refine lv_iload_n hx hb dX1_findSo_21 rfl (lv_at hl 2 rfl) ?_
        refine lv_aload_n hx hb dX1_findSo_22 rfl (lv_at hl 3 rfl) ?_
        obtain ⟨q2, hq2, h⟩ := obd_e h
        refine kcV (rest := []) (w2 := ([cX1 a0 g0 o9_0, cX1_0 cZ g0 o9_0, cX1_3 cI g0 o9_0, cX6 a1 g1 o1, cX6_0 cI g1 o1, cX6_1 cI g1 o1, cX6_2 cI g1 o1, cX6_3 cI g1 o1, cX6_4 cI g1 o1, cX6_5 cI g1 o1, cX6_6 cI g1 o1, cX6_7 cI g1 o1, cX0 a2 g2 o2, cX0_0 cI g2 o2, cX0_1 cI g2 o2])) hx hb hml hown hts hKK hP hD hS hA (c_X1_allSoAt l dC dI cB cI cZ cO a0 g0 o9_0 a1 g1 o1 a2 g2 o2 (x9_4 - (40 : Int32)) v2 hq2) [0, 1, 2, 3, 4, 5, 6, 7, 8, 9, 10, 11, 12, 13, 14] (atAll_map ⟨rfl, rfl, rfl, rfl, rfl, rfl, rfl, rfl, rfl, rfl, rfl, rfl, rfl, rfl, rfl, trivial⟩) (by decide +kernel) (sameAd_map ⟨rfl, rfl, rfl, rfl, rfl, rfl, rfl, rfl, rfl, rfl, rfl, rfl, rfl, rfl, rfl, trivial⟩) (atAll_map ⟨rfl, rfl, rfl, rfl, rfl, rfl, rfl, rfl, rfl, rfl, rfl, rfl, rfl, rfl, rfl, trivial⟩) (agr_refl _ _ _) (cwV 4 hts gX1_findSo_X1_allSoAt rfl rfl rfl ⟨rfl, dsc_X1_allSoAt⟩ ⟨Nat.le_of_ble_eq_true rfl, Nat.le_of_ble_eq_true rfl⟩) (va_recv hKK.1 hP (ci := 1) (q0 := 0) rfl rfl) rfl hl.1 rfl (Nat.le_of_ble_eq_true rfl) dX1_findSo_23 ⟨Nat.zero_le _, Nat.zero_le _⟩ (fun H locs hP hD hS => ?_)
        refine lv_istore (lv' := [(5, .int (b2i q2)), (0, .ref a0), (1, .ref a1), (2, .int v2), (3, .ref a2), (4, .int x9_4)]) hx hb dX1_findSo_26 hl (by decide) rfl (fun ls hl => ?_)
        refine lv_iload hx hb dX1_findSo_28 (lv_at hl 5 rfl) ?_
        refine lv_aload_n hx hb dX1_findSo_30 rfl (lv_at hl 1 rfl) ?_
        refine va_get (D := (dC, dI)) (ci := 1) (v := .ref (g0 0)) (C := RX1) (T := TX1) (N := 4) hx hb hts hiX1 hown hKK.1 hP 0 rfl rfl 0 (by decide) (hts (.fieldLink RX1 9 "SlideLand$ByShift" "so" "[Z") (List.mem_of_getElem? (i := 2) rfl)) (fun _ h9 => h9) rfl dX1_findSo_31 ?_
        refine va_alen (v := (81 : Int32)) hx hb hKK.1 hP 1 2 rfl (ty := .boolean) rfl (show Int32.ofNat 81 = (81 : Int32) from by decide) dX1_findSo_34 ?_
        have jn47 : ∀ (o47_0 : Ob), f_X1_findSo_47 x9_4 (f_X1_findSo_9 o1 o2 v2 nn9) q2 o47_0 = some r → ∀ (H : Heap) (locs : List Loc) (ls : Array Slot), va_P (dC, dI) vwCl ([cX1 a0 g0 o47_0, cX1_0 cZ g0 o47_0, cX1_3 cI g0 o47_0, cX6 a1 g1 o1, cX6_0 cI g1 o1, cX6_1 cI g1 o1, cX6_2 cI g1 o1, cX6_3 cI g1 o1, cX6_4 cI g1 o1, cX6_5 cI g1 o1, cX6_6 cI g1 o1, cX6_7 cI g1 o1, cX0 a2 g2 o2, cX0_0 cI g2 o2, cX0_1 cI g2 o2]) H → va_D A ([cX1 a0 g0 o47_0, cX1_0 cZ g0 o47_0, cX1_3 cI g0 o47_0, cX6 a1 g1 o1, cX6_0 cI g1 o1, cX6_1 cI g1 o1, cX6_2 cI g1 o1, cX6_3 cI g1 o1, cX6_4 cI g1 o1, cX6_5 cI g1 o1, cX6_6 cI g1 o1, cX6_7 cI g1 o1, cX0 a2 g2 o2, cX0_0 cI g2 o2, cX0_1 cI g2 o2]) → va_S A s.heap H locs → lv_has ls 6 [(0, .ref a0), (1, .ref a1), (2, .int v2), (3, .ref a2), (4, .int x9_4), (5, .int (b2i q2))] → W p l e (headSpec wsX1_findSo rmX1_findSo).room s m ([.ref a0, .ref a1, .int v2, .ref a2] : List Value).toArray below meth c H locs 0 0 Q (F0 m 47 ls []) := by
          intro o47_0 h H locs ls hP hD hS hl
          rw [f_X1_findSo_47] at h
          refine lv_iload hx hb dX1_findSo_47 (lv_at hl 5 rfl) ?_
          have jn68 : ∀ (o68_0 : Ob), f_X1_findSo_68 x9_4 (f_X1_findSo_9 o1 o2 v2 nn9) o68_0 = some r → ∀ (H : Heap) (locs : List Loc) (ls : Array Slot), va_P (dC, dI) vwCl ([cX1 a0 g0 o68_0, cX1_0 cZ g0 o68_0, cX1_3 cI g0 o68_0, cX6 a1 g1 o1, cX6_0 cI g1 o1, cX6_1 cI g1 o1, cX6_2 cI g1 o1, cX6_3 cI g1 o1, cX6_4 cI g1 o1, cX6_5 cI g1 o1, cX6_6 cI g1 o1, cX6_7 cI g1 o1, cX0 a2 g2 o2, cX0_0 cI g2 o2, cX0_1 cI g2 o2]) H → va_D A ([cX1 a0 g0 o68_0, cX1_0 cZ g0 o68_0, cX1_3 cI g0 o68_0, cX6 a1 g1 o1, cX6_0 cI g1 o1, cX6_1 cI g1 o1, cX6_2 cI g1 o1, cX6_3 cI g1 o1, cX6_4 cI g1 o1, cX6_5 cI g1 o1, cX6_6 cI g1 o1, cX6_7 cI g1 o1, cX0 a2 g2 o2, cX0_0 cI g2 o2, cX0_1 cI g2 o2]) → va_S A s.heap H locs → lv_has ls 6 [(0, .ref a0), (1, .ref a1), (2, .int v2), (3, .ref a2), (4, .int x9_4)] → W p l e (headSpec wsX1_findSo rmX1_findSo).room s m ([.ref a0, .ref a1, .int v2, .ref a2] : List Value).toArray below meth c H locs 0 0 Q (F0 m 68 ls []) := by
            intro o68_0 h H locs ls hP hD hS hl
            rw [f_X1_findSo_68] at h
            obtain ⟨x3, hx3, h⟩ := bnd_e h
            refine lv_iinc (v := x3) (lv' := [(4, .int x3), (0, .ref a0), (1, .ref a1), (2, .int v2), (3, .ref a2)]) hx hb dX1_findSo_68 hl (k := 4) rfl (by rw [← hx3]; rfl) (by decide) rfl (fun ls hl => ?_)
            refine lv_goto (tgt := 9) hx hb dX1_findSo_71 (by decide) ?_
            exact ih9 x3 o68_0 h _ _ _ hP hD hS (lv_sub hl [1, 2, 3, 4, 0] rfl)
          refine lv_if_eq (tgt := 68) hx hb dX1_findSo_49 (by decide) (fun k4 => ?_) (fun k4 => ?_)
          · have h := ite_t k4 h
            exact jn68 o47_0 h _ _ _ hP hD hS (lv_sub hl [0, 1, 2, 3, 4] rfl)
          · have h := ite_f k4 h
            refine lv_aload_n hx hb dX1_findSo_52 rfl (lv_at hl 0 rfl) ?_
            refine lv_dup hx hb dX1_findSo_53 rfl ?_
            refine va_get (D := (dC, dI)) (ci := 1) (v := .int (o47_0.1 1)) (C := RX1) (T := TX1) (N := 4) hx hb hts hiX1 hown hKK.1 hP 0 rfl rfl 1 (by decide) (hts (.fieldLink RX1 19 "SlideLand$ByShift" "howManySo" "I") (List.mem_of_getElem? (i := 1) rfl)) (fun _ h9 => h9) rfl dX1_findSo_54 ?_
            refine lv_iconst (v := (1 : Int32)) hx hb dX1_findSo_57 (by decide) ?_
            refine lv_iadd hx hb dX1_findSo_58 ?_
            obtain ⟨x5, hx5, h⟩ := bnd_e h
            rw [hx5]
            refine va_put (D := (dC, dI)) (ci := 1) (v := .int x5) (ty := .int) (C := RX1) (T := TX1) (N := 4) hx hb hts hiX1 tyX1 tyX1_ok nmX1 hown hKK.1 hP hD hS 0 rfl rfl 1 (by decide) (hts (.fieldLink RX1 19 "SlideLand$ByShift" "howManySo" "I") (List.mem_of_getElem? (i := 1) rfl)) (fun _ h9 => h9) rfl (by decide +kernel) rfl rfl (Nat.le_of_ble_eq_true rfl) dX1_findSo_59 (fun H locs hP hD hS => ?_)
            have hP : va_P (dC, dI) vwCl ([cX1 a0 g0 (stF o47_0 1 x5), cX1_0 cZ g0 (stF o47_0 1 x5), cX1_3 cI g0 (stF o47_0 1 x5), cX6 a1 g1 o1, cX6_0 cI g1 o1, cX6_1 cI g1 o1, cX6_2 cI g1 o1, cX6_3 cI g1 o1, cX6_4 cI g1 o1, cX6_5 cI g1 o1, cX6_6 cI g1 o1, cX6_7 cI g1 o1, cX0 a2 g2 o2, cX0_0 cI g2 o2, cX0_1 cI g2 o2]) H := hP
            have hD : va_D A ([cX1 a0 g0 (stF o47_0 1 x5), cX1_0 cZ g0 (stF o47_0 1 x5), cX1_3 cI g0 (stF o47_0 1 x5), cX6 a1 g1 o1, cX6_0 cI g1 o1, cX6_1 cI g1 o1, cX6_2 cI g1 o1, cX6_3 cI g1 o1, cX6_4 cI g1 o1, cX6_5 cI g1 o1, cX6_6 cI g1 o1, cX6_7 cI g1 o1, cX0 a2 g2 o2, cX0_0 cI g2 o2, cX0_1 cI g2 o2]) := hD
            refine lv_aload_n hx hb dX1_findSo_62 rfl (lv_at hl 0 rfl) ?_
            refine lv_iload hx hb dX1_findSo_63 (lv_at hl 4 rfl) ?_
            refine va_put (D := (dC, dI)) (ci := 1) (v := .int x9_4) (ty := .int) (C := RX1) (T := TX1) (N := 4) hx hb hts hiX1 tyX1 tyX1_ok nmX1 hown hKK.1 hP hD hS 0 rfl rfl 2 (by decide) (hts (.fieldLink RX1 27 "SlideLand$ByShift" "lowestSo" "I") (List.mem_of_getElem? (i := 3) rfl)) (fun _ h9 => h9) rfl (by decide +kernel) rfl rfl (Nat.le_of_ble_eq_true rfl) dX1_findSo_65 (fun H locs hP hD hS => ?_)
            have hP : va_P (dC, dI) vwCl ([cX1 a0 g0 (stF (stF o47_0 1 x5) 2 x9_4), cX1_0 cZ g0 (stF (stF o47_0 1 x5) 2 x9_4), cX1_3 cI g0 (stF (stF o47_0 1 x5) 2 x9_4), cX6 a1 g1 o1, cX6_0 cI g1 o1, cX6_1 cI g1 o1, cX6_2 cI g1 o1, cX6_3 cI g1 o1, cX6_4 cI g1 o1, cX6_5 cI g1 o1, cX6_6 cI g1 o1, cX6_7 cI g1 o1, cX0 a2 g2 o2, cX0_0 cI g2 o2, cX0_1 cI g2 o2]) H := hP
            have hD : va_D A ([cX1 a0 g0 (stF (stF o47_0 1 x5) 2 x9_4), cX1_0 cZ g0 (stF (stF o47_0 1 x5) 2 x9_4), cX1_3 cI g0 (stF (stF o47_0 1 x5) 2 x9_4), cX6 a1 g1 o1, cX6_0 cI g1 o1, cX6_1 cI g1 o1, cX6_2 cI g1 o1, cX6_3 cI g1 o1, cX6_4 cI g1 o1, cX6_5 cI g1 o1, cX6_6 cI g1 o1, cX6_7 cI g1 o1, cX0 a2 g2 o2, cX0_0 cI g2 o2, cX0_1 cI g2 o2]) := hD
            exact jn68 (stF (stF o47_0 1 x5) 2 x9_4) h _ _ _ hP hD hS (lv_sub hl [0, 1, 2, 3, 4] rfl)
        refine lv_icmp_ge (tgt := 47) hx hb dX1_findSo_35 (by decide) (fun k6 => ?_) (fun k6 => ?_)
        · have h := ite_t k6 h
          exact jn47 o9_0 h _ _ _ hP hD hS (lv_sub hl [1, 2, 3, 4, 5, 0] rfl)
        · have h := ite_f k6 h
          refine lv_aload_n hx hb dX1_findSo_38 rfl (lv_at hl 1 rfl) ?_
          refine va_get (D := (dC, dI)) (ci := 1) (v := .ref (g0 0)) (C := RX1) (T := TX1) (N := 4) hx hb hts hiX1 hown hKK.1 hP 0 rfl rfl 0 (by decide) (hts (.fieldLink RX1 9 "SlideLand$ByShift" "so" "[Z") (List.mem_of_getElem? (i := 2) rfl)) (fun _ h9 => h9) rfl dX1_findSo_39 ?_
          refine lv_iload hx hb dX1_findSo_42 (lv_at hl 5 rfl) ?_
          refine lv_iload hx hb dX1_findSo_44 (lv_at hl 0 rfl) ?_
          obtain ⟨k7, h⟩ := ite_n h
          obtain ⟨u8, hu8, h⟩ := bnd_e h
          refine k_zast (f := (o9_0.2 0)) hx hb hKK.1 hP hD hS 1 2 hu8 rfl rfl k7 dX1_findSo_46 (fun H locs hP hD hS => ?_)
          have hP : va_P (dC, dI) vwCl ([cX1 a0 g0 (stR o9_0 0 u8), cX1_0 cZ g0 (stR o9_0 0 u8), cX1_3 cI g0 (stR o9_0 0 u8), cX6 a1 g1 o1, cX6_0 cI g1 o1, cX6_1 cI g1 o1, cX6_2 cI g1 o1, cX6_3 cI g1 o1, cX6_4 cI g1 o1, cX6_5 cI g1 o1, cX6_6 cI g1 o1, cX6_7 cI g1 o1, cX0 a2 g2 o2, cX0_0 cI g2 o2, cX0_1 cI g2 o2]) H := hP
          have hD : va_D A ([cX1 a0 g0 (stR o9_0 0 u8), cX1_0 cZ g0 (stR o9_0 0 u8), cX1_3 cI g0 (stR o9_0 0 u8), cX6 a1 g1 o1, cX6_0 cI g1 o1, cX6_1 cI g1 o1, cX6_2 cI g1 o1, cX6_3 cI g1 o1, cX6_4 cI g1 o1, cX6_5 cI g1 o1, cX6_6 cI g1 o1, cX6_7 cI g1 o1, cX0 a2 g2 o2, cX0_0 cI g2 o2, cX0_1 cI g2 o2]) := hD
          exact jn47 (stR o9_0 0 u8) h _ _ _ hP hD hS (lv_sub hl [1, 2, 3, 4, 5, 0] rfl)
  exact lp9 FU (80 : Int32) (stF o0 1 (0 : Int32)) h _ _ _ hP hD hS (lv_sub hl [1, 2, 3, 4, 0] rfl)
def f_X1_findPairs_112 (x66_7 : Int32) (kL66 : (Int32 → Ob → Option (Ob))) (o112_0 : Ob) : Option (Ob) := bnd (x66_7 + (1 : Int32)) fun x10 : Int32 => kL66 x10 o112_0
def f_X1_findPairs_66 (q3 : Int32) (x46_5 : Int32) (kL46 : (Int32 → Ob → Option (Ob))) (q6 : Int32) : Nat → Int32 → Ob → Option (Ob)
  | 0, _, _ => none
  | nn66+1, x66_7, o66_0 => if (2 : Int32) < x66_7 then (bnd (x46_5 + (1 : Int32)) fun x8 : Int32 => kL46 x8 o66_0) else (bnd (f_X7_meet q3 x66_7) fun q9 : Bool => if (b2i q9) = 0 then (f_X1_findPairs_112 x66_7 (f_X1_findPairs_66 q3 x46_5 kL46 q6 nn66) o66_0) else (bnd ((x66_7 - q6) + (40 : Int32)) fun x12 : Int32 => (f_X7_cell 81 (o66_0.2 3) x12).bind fun q13 : Int32 => (f_X7_setCell 81 (o66_0.2 3) x12 (q13 + (1 : Int32))).bind fun q14 : (Nat → Int32) => f_X1_findPairs_112 x66_7 (f_X1_findPairs_66 q3 x46_5 kL46 q6 nn66) (stR o66_0 3 q14)))
def f_X1_findPairs_46 (o1 : Ob) (v2 : Int32) (x25_3 : Int32) (kL25 : (Int32 → Ob → Option (Ob))) (q3 : Int32) : Nat → Int32 → Ob → Option (Ob)
  | 0, _, _ => none
  | nn46+1, x46_5, o46_0 => if (12 : Int32) ≤ x46_5 then (bnd (x25_3 + (1 : Int32)) fun x5 : Int32 => kL25 x5 o46_0) else ((f_X6_gapUnshifted o1 x25_3 x46_5 v2).bind fun q6 : Int32 => f_X1_findPairs_66 q3 x46_5 (f_X1_findPairs_46 o1 v2 x25_3 kL25 q3 nn46) q6 FU (-1 : Int32) o46_0)
def f_X1_findPairs_25 (o1 : Ob) (v2 : Int32) : Nat → Int32 → Ob → Option (Ob)
  | 0, _, _ => none
  | nn25+1, x25_3, o25_0 => if (o1.1 8) ≤ x25_3 then (some o25_0) else ((f_X7_cell 7 (o1.2 2) x25_3).bind fun q3 : Int32 => f_X1_findPairs_46 o1 v2 x25_3 (f_X1_findPairs_25 o1 v2 nn25) q3 FU (0 : Int32) o25_0)
def f_X1_findPairs_2 (o1 : Ob) (v2 : Int32) : Nat → Int32 → Ob → Option (Ob)
  | 0, _, _ => none
  | nn2+1, x2_3, o2_0 => if (81 : Int32) ≤ x2_3 then (f_X1_findPairs_25 o1 v2 FU (0 : Int32) o2_0) else ((f_X7_setCell 81 (o2_0.2 3) x2_3 (0 : Int32)).bind fun q15 : (Nat → Int32) => bnd (x2_3 + (1 : Int32)) fun x16 : Int32 => (f_X1_findPairs_2 o1 v2 nn2) x16 (stR o2_0 3 q15))
def f_X1_findPairs (o0 : Ob) (o1 : Ob) (v2 : Int32) : Option (Ob) := f_X1_findPairs_2 o1 v2 FU (0 : Int32) o0
abbrev rmX1_findPairs : Room := { frames := 3, cells := 0, slots := 0, locals := 67 }
theorem dsc_X1_findPairs : yX1_findPairs.cls ≠ "java/lang/invoke/MethodHandle" ∧ yX1_findPairs.cls ≠ "java/lang/invoke/VarHandle" ∧ (parseMethodDescriptor yX1_findPairs.desc).map (fun d => d.parameters.length) = some 2 := by decide +kernel
set_option maxHeartbeats 4000000 in
set_option maxRecDepth 100000 in
theorem c_X1_findPairs (l : Launch) (dC : Nat → ClassId) (dI : Nat → Nat → Nat) (cB cI cZ cO : ClassId) (a0 : Nat) (g0 : Nat → Nat) (o0 : Ob) (a1 : Nat) (g1 : Nat → Nat) (o1 : Ob) (v2 : Int32) {r : Ob} (h : f_X1_findPairs o0 o1 v2 = some r) : Ct dC dI cB cI cZ cO l yX1_findPairs wsX1_findPairs rmX1_findPairs [.ref a0, .ref a1, .int v2] ([cX1 a0 g0 o0, cX1_0 cZ g0 o0, cX1_3 cI g0 o0, cX6 a1 g1 o1, cX6_0 cI g1 o1, cX6_1 cI g1 o1, cX6_2 cI g1 o1, cX6_3 cI g1 o1, cX6_4 cI g1 o1, cX6_5 cI g1 o1, cX6_6 cI g1 o1, cX6_7 cI g1 o1]) none ([cX1 a0 g0 r, cX1_0 cZ g0 r, cX1_3 cI g0 r, cX6 a1 g1 o1, cX6_0 cI g1 o1, cX6_1 cI g1 o1, cX6_2 cI g1 o1, cX6_3 cI g1 o1, cX6_4 cI g1 o1, cX6_5 cI g1 o1, cX6_6 cI g1 o1, cX6_7 cI g1 o1]) := by
  intro sz
  refine Met.ofW (cc := cX1_findPairs) (maxL := 9) (ret := none) (by decide) rfl ?_
  intro p e s m args below meth c s₁ B hml hv
  obtain ⟨rfl, hsz, hP, hKK, hD0⟩ := hv
  have hx := B.exec
  have hb := B.bytes
  have hr := B.returns
  have hts := atoms_spec (ws := wsX1_findPairs) B.pre
  have hown : s.vm.findClass RX1 = some m.cls := findClass_of_methodNamed B.named
  have hlocks := B.notSynchronized
  have hiX1 : ∀ w ∈ u_ws RX1 TX1 4, w ∈ wsX1_findPairs := fun w h => List.mem_cons_of_mem _ (List.mem_append_left _ (List.mem_append_right _ h))
  have hiX6 : ∀ w ∈ u_ws RX6 TX6 11, w ∈ wsX1_findPairs := fun w h => List.mem_cons_of_mem _ (List.mem_append_right _ h)
  subst hsz
  have hD := hD0.self (sz := s.heap.size)
  generalize hAe : va_A ([cX1 a0 g0 o0, cX1_0 cZ g0 o0, cX1_3 cI g0 o0, cX6 a1 g1 o1, cX6_0 cI g1 o1, cX6_1 cI g1 o1, cX6_2 cI g1 o1, cX6_3 cI g1 o1, cX6_4 cI g1 o1, cX6_5 cI g1 o1, cX6_6 cI g1 o1, cX6_7 cI g1 o1]) s.heap.size = A at hD ⊢
  have hA : ∀ q : Nat, s.heap.size ≤ q → A q := fun q h => by rw [← hAe]; exact Or.inr h
  have hS : va_S A s.heap s.heap [] := va_S.rf
  have hP : va_P (dC, dI) vwCl ([cX1 a0 g0 o0, cX1_0 cZ g0 o0, cX1_3 cI g0 o0, cX6 a1 g1 o1, cX6_0 cI g1 o1, cX6_1 cI g1 o1, cX6_2 cI g1 o1, cX6_3 cI g1 o1, cX6_4 cI g1 o1, cX6_5 cI g1 o1, cX6_6 cI g1 o1, cX6_7 cI g1 o1]) s.heap := hP
  have hD : va_D A ([cX1 a0 g0 o0, cX1_0 cZ g0 o0, cX1_3 cI g0 o0, cX6 a1 g1 o1, cX6_0 cI g1 o1, cX6_1 cI g1 o1, cX6_2 cI g1 o1, cX6_3 cI g1 o1, cX6_4 cI g1 o1, cX6_5 cI g1 o1, cX6_6 cI g1 o1, cX6_7 cI g1 o1]) := hD
  have hl := lv_entry ([.ref a0, .ref a1, .int v2]) (n := 9) (Nat.le_of_ble_eq_true rfl)
  rw [lg_entry_eq]
  generalize (lg_sl ([.ref a0, .ref a1, .int v2]) ++ List.replicate (9 - (lg_sl ([.ref a0, .ref a1, .int v2])).length) Slot.unset).toArray = ls at hl ⊢
  have hl : lv_has ls 9 [(0, .ref a0), (1, .ref a1), (2, .int v2)] := hl
  obtain ⟨Q, hQ⟩ : ∃ Q, Q = MQ below (Qq dC dI none ([cX1 a0 g0 r, cX1_0 cZ g0 r, cX1_3 cI g0 r, cX6 a1 g1 o1, cX6_0 cI g1 o1, cX6_1 cI g1 o1, cX6_2 cI g1 o1, cX6_3 cI g1 o1, cX6_4 cI g1 o1, cX6_5 cI g1 o1, cX6_6 cI g1 o1, cX6_7 cI g1 o1]) A) ([.ref a0, .ref a1, .int v2] : List Value).toArray s 0 0 A := ⟨_, rfl⟩
  rw [← hQ]
  rw [f_X1_findPairs] at h
  clear hAe hD0
  refine lv_iconst (v := (0 : Int32)) hx hb dX1_findPairs_0 (by decide) ?_
  refine lv_istore_n (lv' := [(3, .int (0 : Int32)), (0, .ref a0), (1, .ref a1), (2, .int v2)]) hx hb dX1_findPairs_1 rfl hl (by decide) rfl (fun ls hl => ?_)
  have lp2 : ∀ (nn2 : Nat) (x2_3 : Int32) (o2_0 : Ob), f_X1_findPairs_2 o1 v2 nn2 x2_3 o2_0 = some r → ∀ (H : Heap) (locs : List Loc) (ls : Array Slot), va_P (dC, dI) vwCl ([cX1 a0 g0 o2_0, cX1_0 cZ g0 o2_0, cX1_3 cI g0 o2_0, cX6 a1 g1 o1, cX6_0 cI g1 o1, cX6_1 cI g1 o1, cX6_2 cI g1 o1, cX6_3 cI g1 o1, cX6_4 cI g1 o1, cX6_5 cI g1 o1, cX6_6 cI g1 o1, cX6_7 cI g1 o1]) H → va_D A ([cX1 a0 g0 o2_0, cX1_0 cZ g0 o2_0, cX1_3 cI g0 o2_0, cX6 a1 g1 o1, cX6_0 cI g1 o1, cX6_1 cI g1 o1, cX6_2 cI g1 o1, cX6_3 cI g1 o1, cX6_4 cI g1 o1, cX6_5 cI g1 o1, cX6_6 cI g1 o1, cX6_7 cI g1 o1]) → va_S A s.heap H locs → lv_has ls 9 [(0, .ref a0), (1, .ref a1), (2, .int v2), (3, .int x2_3)] → W p l e (headSpec wsX1_findPairs rmX1_findPairs).room s m ([.ref a0, .ref a1, .int v2] : List Value).toArray below meth c H locs 0 0 Q (F0 m 2 ls []) := by
    intro nn2
    induction nn2 with
    | zero => intro x2_3 o2_0 h; rw [f_X1_findPairs_2] at h; cases h
    | succ nn2 ih2 =>
      intro x2_3 o2_0 h H locs ls hP hD hS hl
      rw [f_X1_findPairs_2] at h
      refine lv_iload_n hx hb dX1_findPairs_2 rfl (lv_at hl 3 rfl) ?_
      refine lv_bipush (v := (81 : Int32)) hx hb dX1_findPairs_3 (by decide) ?_
      refine lv_icmp_ge (tgt := 23) hx hb dX1_findPairs_5 (by decide) (fun k1 => ?_) (fun k1 => ?_)
      · have h := ite_t k1 h
        refine lv_iconst (v := (0 : Int32)) hx hb dX1_findPairs_23 (by decide) ?_
        refine lv_istore_n (lv' := [(3, .int (0 : Int32)), (0, .ref a0), (1, .ref a1), (2, .int v2)]) hx hb dX1_findPairs_24 rfl hl (by decide) rfl (fun ls hl => ?_)
        have lp25 : ∀ (nn25 : Nat) (x25_3 : Int32) (o25_0 : Ob), f_X1_findPairs_25 o1 v2 nn25 x25_3 o25_0 = some r → ∀ (H : Heap) (locs : List Loc) (ls : Array Slot), va_P (dC, dI) vwCl ([cX1 a0 g0 o25_0, cX1_0 cZ g0 o25_0, cX1_3 cI g0 o25_0, cX6 a1 g1 o1, cX6_0 cI g1 o1, cX6_1 cI g1 o1, cX6_2 cI g1 o1, cX6_3 cI g1 o1, cX6_4 cI g1 o1, cX6_5 cI g1 o1, cX6_6 cI g1 o1, cX6_7 cI g1 o1]) H → va_D A ([cX1 a0 g0 o25_0, cX1_0 cZ g0 o25_0, cX1_3 cI g0 o25_0, cX6 a1 g1 o1, cX6_0 cI g1 o1, cX6_1 cI g1 o1, cX6_2 cI g1 o1, cX6_3 cI g1 o1, cX6_4 cI g1 o1, cX6_5 cI g1 o1, cX6_6 cI g1 o1, cX6_7 cI g1 o1]) → va_S A s.heap H locs → lv_has ls 9 [(0, .ref a0), (1, .ref a1), (2, .int v2), (3, .int x25_3)] → W p l e (headSpec wsX1_findPairs rmX1_findPairs).room s m ([.ref a0, .ref a1, .int v2] : List Value).toArray below meth c H locs 0 0 Q (F0 m 25 ls []) := by
          intro nn25
          induction nn25 with
          | zero => intro x25_3 o25_0 h; rw [f_X1_findPairs_25] at h; cases h
          | succ nn25 ih25 =>
            intro x25_3 o25_0 h H locs ls hP hD hS hl
            rw [f_X1_findPairs_25] at h
            refine lv_iload_n hx hb dX1_findPairs_25 rfl (lv_at hl 3 rfl) ?_
            refine lv_aload_n hx hb dX1_findPairs_26 rfl (lv_at hl 1 rfl) ?_
            refine va_get (D := (dC, dI)) (ci := 6) (v := .int (o1.1 8)) (C := RX6) (T := TX6) (N := 11) hx hb hts hiX6 hown hKK.1 hP 3 rfl rfl 8 (by decide) (hts (.fieldLink RX1 62 "SlideLand$Told" "strips" "I") (List.mem_of_getElem? (i := 2) rfl)) (fun _ h9 => h9) rfl dX1_findPairs_27 ?_
            refine lv_icmp_ge (tgt := 130) hx hb dX1_findPairs_30 (by decide) (fun k2 => ?_) (fun k2 => ?_)
            · have h := ite_t k2 h
              have h := Option.some.inj h
              subst h
              subst hQ
              exact W.vret hx hb hr (fun t ht hW => ⟨⟨rfl, by rw [ht]; exact hP, hD⟩, hS.F ht⟩) hS.2.2 dX1_findPairs_130
            · have h := ite_f k2 h
              refine lv_aload_n hx hb dX1_findPairs_33 rfl (lv_at hl 1 rfl) ?_
              refine va_get (D := (dC, dI)) (ci := 6) (v := .ref (g1 2)) (C := RX6) (T := TX6) (N := 11) hx hb hts hiX6 hown hKK.1 hP 3 rfl rfl 2 (by decide) (hts (.fieldLink RX1 42 "SlideLand$Told" "kind" "[I") (List.mem_of_getElem? (i := 3) rfl)) (fun _ h9 => h9) rfl dX1_findPairs_34 ?_
              refine lv_iload_n hx hb dX1_findPairs_37 rfl (lv_at hl 3 rfl) ?_
              obtain ⟨q3, hq3, h⟩ := obd_e h
              refine kcN (rest := []) (w2 := ([cX1 a0 g0 o25_0, cX1_0 cZ g0 o25_0, cX1_3 cI g0 o25_0, cX6 a1 g1 o1, cX6_0 cI g1 o1, cX6_1 cI g1 o1, cX6_2 cI g1 o1, cX6_3 cI g1 o1, cX6_4 cI g1 o1, cX6_5 cI g1 o1, cX6_6 cI g1 o1, cX6_7 cI g1 o1])) hx hb hml hown hts hKK hP hD hS hA (c_X7_cell l dC dI cB cI cZ cO (g1 2) 7 (o1.2 2) x25_3 hq3) [6] (atAll_map ⟨rfl, trivial⟩) (by decide +kernel) (sameAd_map ⟨rfl, trivial⟩) (atAll_map ⟨rfl, trivial⟩) (agr_refl _ _ _) ⟨va_cnB 2 hts gX1_findPairs_X7_cell_n38 rfl rfl rfl (hKK.2 _ (nws_in 19 rfl)) (hts (.initialized RX7) (List.mem_of_getElem? (i := 5) rfl)) dsc_X7_cell ⟨Nat.le_of_ble_eq_true rfl, Nat.le_of_ble_eq_true rfl⟩, hts (.static yX7_cell) (List.mem_of_getElem? (i := 7) rfl), trivial⟩ rfl hl.1 rfl (Nat.le_of_ble_eq_true rfl) dX1_findPairs_38 ⟨Nat.zero_le _, Nat.zero_le _⟩ (fun H locs hP hD hS => ?_)
              refine lv_istore (lv' := [(4, .int q3), (0, .ref a0), (1, .ref a1), (2, .int v2), (3, .int x25_3)]) hx hb dX1_findPairs_41 hl (by decide) rfl (fun ls hl => ?_)
              refine lv_iconst (v := (0 : Int32)) hx hb dX1_findPairs_43 (by decide) ?_
              refine lv_istore (lv' := [(5, .int (0 : Int32)), (4, .int q3), (0, .ref a0), (1, .ref a1), (2, .int v2), (3, .int x25_3)]) hx hb dX1_findPairs_44 hl (by decide) rfl (fun ls hl => ?_)
              have lp46 : ∀ (nn46 : Nat) (x46_5 : Int32) (o46_0 : Ob), f_X1_findPairs_46 o1 v2 x25_3 (f_X1_findPairs_25 o1 v2 nn25) q3 nn46 x46_5 o46_0 = some r → ∀ (H : Heap) (locs : List Loc) (ls : Array Slot), va_P (dC, dI) vwCl ([cX1 a0 g0 o46_0, cX1_0 cZ g0 o46_0, cX1_3 cI g0 o46_0, cX6 a1 g1 o1, cX6_0 cI g1 o1, cX6_1 cI g1 o1, cX6_2 cI g1 o1, cX6_3 cI g1 o1, cX6_4 cI g1 o1, cX6_5 cI g1 o1, cX6_6 cI g1 o1, cX6_7 cI g1 o1]) H → va_D A ([cX1 a0 g0 o46_0, cX1_0 cZ g0 o46_0, cX1_3 cI g0 o46_0, cX6 a1 g1 o1, cX6_0 cI g1 o1, cX6_1 cI g1 o1, cX6_2 cI g1 o1, cX6_3 cI g1 o1, cX6_4 cI g1 o1, cX6_5 cI g1 o1, cX6_6 cI g1 o1, cX6_7 cI g1 o1]) → va_S A s.heap H locs → lv_has ls 9 [(0, .ref a0), (1, .ref a1), (2, .int v2), (3, .int x25_3), (4, .int q3), (5, .int x46_5)] → W p l e (headSpec wsX1_findPairs rmX1_findPairs).room s m ([.ref a0, .ref a1, .int v2] : List Value).toArray below meth c H locs 0 0 Q (F0 m 46 ls []) := by
                intro nn46
                induction nn46 with
                | zero => intro x46_5 o46_0 h; rw [f_X1_findPairs_46] at h; cases h
                | succ nn46 ih46 =>
                  intro x46_5 o46_0 h H locs ls hP hD hS hl
                  rw [f_X1_findPairs_46] at h
                  refine lv_iload hx hb dX1_findPairs_46 (lv_at hl 5 rfl) ?_
                  refine lv_bipush (v := (12 : Int32)) hx hb dX1_findPairs_48 (by decide) ?_
                  refine lv_icmp_ge (tgt := 124) hx hb dX1_findPairs_50 (by decide) (fun k4 => ?_) (fun k4 => ?_)
                  · have h := ite_t k4 h
                    obtain ⟨x5, hx5, h⟩ := bnd_e h
                    refine lv_iinc (v := x5) (lv' := [(3, .int x5), (0, .ref a0), (1, .ref a1), (2, .int v2), (4, .int q3), (5, .int x46_5)]) hx hb dX1_findPairs_124 hl (k := 3) rfl (by rw [← hx5]; rfl) (by decide) rfl (fun ls hl => ?_)
                    refine lv_goto (tgt := 25) hx hb dX1_findPairs_127 (by decide) ?_
                    exact ih25 x5 o46_0 h _ _ _ hP hD hS (lv_sub hl [1, 2, 3, 0] rfl)
                  · have h := ite_f k4 h
                    refine lv_aload_n hx hb dX1_findPairs_53 rfl (lv_at hl 1 rfl) ?_
                    refine lv_iload_n hx hb dX1_findPairs_54 rfl (lv_at hl 3 rfl) ?_
                    refine lv_iload hx hb dX1_findPairs_55 (lv_at hl 5 rfl) ?_
                    refine lv_iload_n hx hb dX1_findPairs_57 rfl (lv_at hl 2 rfl) ?_
                    obtain ⟨q6, hq6, h⟩ := obd_e h
                    refine kcV (rest := []) (w2 := ([cX1 a0 g0 o46_0, cX1_0 cZ g0 o46_0, cX1_3 cI g0 o46_0, cX6 a1 g1 o1, cX6_0 cI g1 o1, cX6_1 cI g1 o1, cX6_2 cI g1 o1, cX6_3 cI g1 o1, cX6_4 cI g1 o1, cX6_5 cI g1 o1, cX6_6 cI g1 o1, cX6_7 cI g1 o1])) hx hb hml hown hts hKK hP hD hS hA (c_X6_gapUnshifted l dC dI cB cI cZ cO a1 g1 o1 x25_3 x46_5 v2 hq6) [3, 4, 5, 6, 7, 8, 9, 10, 11] (atAll_map ⟨rfl, rfl, rfl, rfl, rfl, rfl, rfl, rfl, rfl, trivial⟩) (by decide +kernel) (sameAd_map ⟨rfl, rfl, rfl, rfl, rfl, rfl, rfl, rfl, rfl, trivial⟩) (atAll_map ⟨rfl, rfl, rfl, rfl, rfl, rfl, rfl, rfl, rfl, trivial⟩) (agr_refl _ _ _) (cwV 3 hts gX1_findPairs_X6_gapUnshifted rfl rfl rfl ⟨rfl, dsc_X6_gapUnshifted⟩ ⟨Nat.le_of_ble_eq_true rfl, Nat.le_of_ble_eq_true rfl⟩) (va_recv hKK.1 hP (ci := 6) (q0 := 3) rfl rfl) rfl hl.1 rfl (Nat.le_of_ble_eq_true rfl) dX1_findPairs_58 ⟨Nat.zero_le _, Nat.zero_le _⟩ (fun H locs hP hD hS => ?_)
                    refine lv_istore (lv' := [(6, .int q6), (0, .ref a0), (1, .ref a1), (2, .int v2), (3, .int x25_3), (4, .int q3), (5, .int x46_5)]) hx hb dX1_findPairs_61 hl (by decide) rfl (fun ls hl => ?_)
                    refine lv_iconst (v := (-1 : Int32)) hx hb dX1_findPairs_63 (by decide) ?_
                    refine lv_istore (lv' := [(7, .int (-1 : Int32)), (6, .int q6), (0, .ref a0), (1, .ref a1), (2, .int v2), (3, .int x25_3), (4, .int q3), (5, .int x46_5)]) hx hb dX1_findPairs_64 hl (by decide) rfl (fun ls hl => ?_)
                    have lp66 : ∀ (nn66 : Nat) (x66_7 : Int32) (o66_0 : Ob), f_X1_findPairs_66 q3 x46_5 (f_X1_findPairs_46 o1 v2 x25_3 (f_X1_findPairs_25 o1 v2 nn25) q3 nn46) q6 nn66 x66_7 o66_0 = some r → ∀ (H : Heap) (locs : List Loc) (ls : Array Slot), va_P (dC, dI) vwCl ([cX1 a0 g0 o66_0, cX1_0 cZ g0 o66_0, cX1_3 cI g0 o66_0, cX6 a1 g1 o1, cX6_0 cI g1 o1, cX6_1 cI g1 o1, cX6_2 cI g1 o1, cX6_3 cI g1 o1, cX6_4 cI g1 o1, cX6_5 cI g1 o1, cX6_6 cI g1 o1, cX6_7 cI g1 o1]) H → va_D A ([cX1 a0 g0 o66_0, cX1_0 cZ g0 o66_0, cX1_3 cI g0 o66_0, cX6 a1 g1 o1, cX6_0 cI g1 o1, cX6_1 cI g1 o1, cX6_2 cI g1 o1, cX6_3 cI g1 o1, cX6_4 cI g1 o1, cX6_5 cI g1 o1, cX6_6 cI g1 o1, cX6_7 cI g1 o1]) → va_S A s.heap H locs → lv_has ls 9 [(0, .ref a0), (1, .ref a1), (2, .int v2), (3, .int x25_3), (4, .int q3), (5, .int x46_5), (6, .int q6), (7, .int x66_7)] → W p l e (headSpec wsX1_findPairs rmX1_findPairs).room s m ([.ref a0, .ref a1, .int v2] : List Value).toArray below meth c H locs 0 0 Q (F0 m 66 ls []) := by
                      intro nn66
                      induction nn66 with
                      | zero => intro x66_7 o66_0 h; rw [f_X1_findPairs_66] at h; cases h
                      | succ nn66 ih66 =>
                        intro x66_7 o66_0 h H locs ls hP hD hS hl
                        rw [f_X1_findPairs_66] at h
                        refine lv_iload hx hb dX1_findPairs_66 (lv_at hl 7 rfl) ?_
                        refine lv_iconst (v := (2 : Int32)) hx hb dX1_findPairs_68 (by decide) ?_
                        refine lv_icmp_gt (tgt := 118) hx hb dX1_findPairs_69 (by decide) (fun k7 => ?_) (fun k7 => ?_)
                        · have h := ite_t k7 h
                          obtain ⟨x8, hx8, h⟩ := bnd_e h
                          refine lv_iinc (v := x8) (lv' := [(5, .int x8), (0, .ref a0), (1, .ref a1), (2, .int v2), (3, .int x25_3), (4, .int q3), (6, .int q6), (7, .int x66_7)]) hx hb dX1_findPairs_118 hl (k := 5) rfl (by rw [← hx8]; rfl) (by decide) rfl (fun ls hl => ?_)
                          refine lv_goto (tgt := 46) hx hb dX1_findPairs_121 (by decide) ?_
                          exact ih46 x8 o66_0 h _ _ _ hP hD hS (lv_sub hl [1, 2, 3, 4, 5, 0] rfl)
                        · have h := ite_f k7 h
                          refine lv_iload hx hb dX1_findPairs_72 (lv_at hl 4 rfl) ?_
                          refine lv_iload hx hb dX1_findPairs_74 (lv_at hl 7 rfl) ?_
                          obtain ⟨q9, hq9, h⟩ := bnd_e h
                          refine kcN (rest := []) (w2 := ([cX1 a0 g0 o66_0, cX1_0 cZ g0 o66_0, cX1_3 cI g0 o66_0, cX6 a1 g1 o1, cX6_0 cI g1 o1, cX6_1 cI g1 o1, cX6_2 cI g1 o1, cX6_3 cI g1 o1, cX6_4 cI g1 o1, cX6_5 cI g1 o1, cX6_6 cI g1 o1, cX6_7 cI g1 o1])) hx hb hml hown hts hKK hP hD hS hA (c_X7_meet l dC dI cB cI cZ cO q3 x66_7 hq9) [] (atAll_map trivial) (by decide +kernel) (sameAd_map trivial) (atAll_map trivial) (agr_refl _ _ _) ⟨va_cnB 2 hts gX1_findPairs_X7_meet_n54 rfl rfl rfl (hKK.2 _ (nws_in 20 rfl)) (hts (.initialized RX7) (List.mem_of_getElem? (i := 5) rfl)) dsc_X7_meet ⟨Nat.le_of_ble_eq_true rfl, Nat.le_of_ble_eq_true rfl⟩, hts (.static yX7_meet) (List.mem_of_getElem? (i := 26) rfl), trivial⟩ rfl hl.1 rfl (Nat.le_of_ble_eq_true rfl) dX1_findPairs_76 ⟨Nat.zero_le _, Nat.zero_le _⟩ (fun H locs hP hD hS => ?_)
                          have jn112 : ∀ (o112_0 : Ob), f_X1_findPairs_112 x66_7 (f_X1_findPairs_66 q3 x46_5 (f_X1_findPairs_46 o1 v2 x25_3 (f_X1_findPairs_25 o1 v2 nn25) q3 nn46) q6 nn66) o112_0 = some r → ∀ (H : Heap) (locs : List Loc) (ls : Array Slot), va_P (dC, dI) vwCl ([cX1 a0 g0 o112_0, cX1_0 cZ g0 o112_0, cX1_3 cI g0 o112_0, cX6 a1 g1 o1, cX6_0 cI g1 o1, cX6_1 cI g1 o1, cX6_2 cI g1 o1, cX6_3 cI g1 o1, cX6_4 cI g1 o1, cX6_5 cI g1 o1, cX6_6 cI g1 o1, cX6_7 cI g1 o1]) H → va_D A ([cX1 a0 g0 o112_0, cX1_0 cZ g0 o112_0, cX1_3 cI g0 o112_0, cX6 a1 g1 o1, cX6_0 cI g1 o1, cX6_1 cI g1 o1, cX6_2 cI g1 o1, cX6_3 cI g1 o1, cX6_4 cI g1 o1, cX6_5 cI g1 o1, cX6_6 cI g1 o1, cX6_7 cI g1 o1]) → va_S A s.heap H locs → lv_has ls 9 [(0, .ref a0), (1, .ref a1), (2, .int v2), (3, .int x25_3), (4, .int q3), (5, .int x46_5), (6, .int q6), (7, .int x66_7)] → W p l e (headSpec wsX1_findPairs rmX1_findPairs).room s m ([.ref a0, .ref a1, .int v2] : List Value).toArray below meth c H locs 0 0 Q (F0 m 112 ls []) := by
                            intro o112_0 h H locs ls hP hD hS hl
                            rw [f_X1_findPairs_112] at h
                            obtain ⟨x10, hx10, h⟩ := bnd_e h
                            refine lv_iinc (v := x10) (lv' := [(7, .int x10), (0, .ref a0), (1, .ref a1), (2, .int v2), (3, .int x25_3), (4, .int q3), (5, .int x46_5), (6, .int q6)]) hx hb dX1_findPairs_112 hl (k := 7) rfl (by rw [← hx10]; rfl) (by decide) rfl (fun ls hl => ?_)
                            refine lv_goto (tgt := 66) hx hb dX1_findPairs_115 (by decide) ?_
                            exact ih66 x10 o112_0 h _ _ _ hP hD hS (lv_sub hl [1, 2, 3, 4, 5, 6, 7, 0] rfl)
                          refine lv_if_eq (tgt := 112) hx hb dX1_findPairs_79 (by decide) (fun k11 => ?_) (fun k11 => ?_)
                          · have h := ite_t k11 h
                            exact jn112 o66_0 h _ _ _ hP hD hS (lv_sub hl [0, 1, 2, 3, 4, 5, 6, 7] rfl)
                          · have h := ite_f k11 h
                            refine lv_iload hx hb dX1_findPairs_82 (lv_at hl 7 rfl) ?_
                            refine lv_iload hx hb dX1_findPairs_84 (lv_at hl 6 rfl) ?_
                            refine lv_isub hx hb dX1_findPairs_86 ?_
                            refine lv_bipush (v := (40 : Int32)) hx hb dX1_findPairs_87 (by decide) ?_
                            refine lv_iadd hx hb dX1_findPairs_89 ?_
                            obtain ⟨x12, hx12, h⟩ := bnd_e h
                            refine lv_topE hx12 ?_
                            refine lv_istore (lv' := [(8, .int x12), (0, .ref a0), (1, .ref a1), (2, .int v2), (3, .int x25_3), (4, .int q3), (5, .int x46_5), (6, .int q6), (7, .int x66_7)]) hx hb dX1_findPairs_90 hl (by decide) rfl (fun ls hl => ?_)
                            refine lv_aload_n hx hb dX1_findPairs_92 rfl (lv_at hl 1 rfl) ?_
                            refine va_get (D := (dC, dI)) (ci := 1) (v := .ref (g0 3)) (C := RX1) (T := TX1) (N := 4) hx hb hts hiX1 hown hKK.1 hP 0 rfl rfl 3 (by decide) (hts (.fieldLink RX1 15 "SlideLand$ByShift" "pairs" "[I") (List.mem_of_getElem? (i := 1) rfl)) (fun _ h9 => h9) rfl dX1_findPairs_93 ?_
                            refine lv_iload hx hb dX1_findPairs_96 (lv_at hl 0 rfl) ?_
                            refine lv_aload_n hx hb dX1_findPairs_98 rfl (lv_at hl 1 rfl) ?_
                            refine va_get (D := (dC, dI)) (ci := 1) (v := .ref (g0 3)) (C := RX1) (T := TX1) (N := 4) hx hb hts hiX1 hown hKK.1 hP 0 rfl rfl 3 (by decide) (hts (.fieldLink RX1 15 "SlideLand$ByShift" "pairs" "[I") (List.mem_of_getElem? (i := 1) rfl)) (fun _ h9 => h9) rfl dX1_findPairs_99 ?_
                            refine lv_iload hx hb dX1_findPairs_102 (lv_at hl 0 rfl) ?_
                            obtain ⟨q13, hq13, h⟩ := obd_e h
                            refine kcN (rest := [.int x12, .ref (g0 3)]) (w2 := ([cX1 a0 g0 o66_0, cX1_0 cZ g0 o66_0, cX1_3 cI g0 o66_0, cX6 a1 g1 o1, cX6_0 cI g1 o1, cX6_1 cI g1 o1, cX6_2 cI g1 o1, cX6_3 cI g1 o1, cX6_4 cI g1 o1, cX6_5 cI g1 o1, cX6_6 cI g1 o1, cX6_7 cI g1 o1])) hx hb hml hown hts hKK hP hD hS hA (c_X7_cell l dC dI cB cI cZ cO (g0 3) 81 (o66_0.2 3) x12 hq13) [2] (atAll_map ⟨rfl, trivial⟩) (by decide +kernel) (sameAd_map ⟨rfl, trivial⟩) (atAll_map ⟨rfl, trivial⟩) (agr_refl _ _ _) ⟨va_cnB 2 hts gX1_findPairs_X7_cell_n38 rfl rfl rfl (hKK.2 _ (nws_in 19 rfl)) (hts (.initialized RX7) (List.mem_of_getElem? (i := 5) rfl)) dsc_X7_cell ⟨Nat.le_of_ble_eq_true rfl, Nat.le_of_ble_eq_true rfl⟩, hts (.static yX7_cell) (List.mem_of_getElem? (i := 7) rfl), trivial⟩ rfl hl.1 rfl (Nat.le_of_ble_eq_true rfl) dX1_findPairs_104 ⟨Nat.zero_le _, Nat.zero_le _⟩ (fun H locs hP hD hS => ?_)
                            refine lv_iconst (v := (1 : Int32)) hx hb dX1_findPairs_107 (by decide) ?_
                            refine lv_iadd hx hb dX1_findPairs_108 ?_
                            obtain ⟨q14, hq14, h⟩ := obd_e h
                            refine kcN (rest := []) (w2 := ([cX1 a0 g0 (stR o66_0 3 q14), cX1_0 cZ g0 (stR o66_0 3 q14), cX1_3 cI g0 (stR o66_0 3 q14), cX6 a1 g1 o1, cX6_0 cI g1 o1, cX6_1 cI g1 o1, cX6_2 cI g1 o1, cX6_3 cI g1 o1, cX6_4 cI g1 o1, cX6_5 cI g1 o1, cX6_6 cI g1 o1, cX6_7 cI g1 o1])) hx hb hml hown hts hKK hP hD hS hA (c_X7_setCell l dC dI cB cI cZ cO (g0 3) 81 (o66_0.2 3) x12 (q13 + (1 : Int32)) hq14) [2] (atAll_map ⟨rfl, trivial⟩) (by decide +kernel) (sameAd_map ⟨rfl, trivial⟩) (atAll_map ⟨rfl, trivial⟩) ⟨Or.inl rfl, Or.inl rfl, Or.inr (by decide), Or.inl rfl, Or.inl rfl, Or.inl rfl, Or.inl rfl, Or.inl rfl, Or.inl rfl, Or.inl rfl, Or.inl rfl, Or.inl rfl, trivial⟩ ⟨va_cnB 3 hts gX1_findPairs_X7_setCell_n58 rfl rfl rfl (hKK.2 _ (nws_in 21 rfl)) (hts (.initialized RX7) (List.mem_of_getElem? (i := 5) rfl)) dsc_X7_setCell ⟨Nat.le_of_ble_eq_true rfl, Nat.le_of_ble_eq_true rfl⟩, hts (.static yX7_setCell) (List.mem_of_getElem? (i := 4) rfl), trivial⟩ rfl hl.1 rfl (Nat.le_of_ble_eq_true rfl) dX1_findPairs_109 ⟨Nat.zero_le _, Nat.zero_le _⟩ (fun H locs hP hD hS => ?_)
                            exact jn112 (stR o66_0 3 q14) h _ _ _ hP hD hS (lv_sub hl [1, 2, 3, 4, 5, 6, 7, 8] rfl)
                    exact lp66 FU (-1 : Int32) o46_0 h _ _ _ hP hD hS (lv_sub hl [2, 3, 4, 5, 6, 7, 1, 0] rfl)
              exact lp46 FU (0 : Int32) o25_0 h _ _ _ hP hD hS (lv_sub hl [2, 3, 4, 5, 1, 0] rfl)
        exact lp25 FU (0 : Int32) o2_0 h _ _ _ hP hD hS (lv_sub hl [1, 2, 3, 0] rfl)
      · have h := ite_f k1 h
        refine lv_aload_n hx hb dX1_findPairs_8 rfl (lv_at hl 0 rfl) ?_
        refine va_get (D := (dC, dI)) (ci := 1) (v := .ref (g0 3)) (C := RX1) (T := TX1) (N := 4) hx hb hts hiX1 hown hKK.1 hP 0 rfl rfl 3 (by decide) (hts (.fieldLink RX1 15 "SlideLand$ByShift" "pairs" "[I") (List.mem_of_getElem? (i := 1) rfl)) (fun _ h9 => h9) rfl dX1_findPairs_9 ?_
        refine lv_iload_n hx hb dX1_findPairs_12 rfl (lv_at hl 3 rfl) ?_
        refine lv_iconst (v := (0 : Int32)) hx hb dX1_findPairs_13 (by decide) ?_
        obtain ⟨q15, hq15, h⟩ := obd_e h
        refine kcN (rest := []) (w2 := ([cX1 a0 g0 (stR o2_0 3 q15), cX1_0 cZ g0 (stR o2_0 3 q15), cX1_3 cI g0 (stR o2_0 3 q15), cX6 a1 g1 o1, cX6_0 cI g1 o1, cX6_1 cI g1 o1, cX6_2 cI g1 o1, cX6_3 cI g1 o1, cX6_4 cI g1 o1, cX6_5 cI g1 o1, cX6_6 cI g1 o1, cX6_7 cI g1 o1])) hx hb hml hown hts hKK hP hD hS hA (c_X7_setCell l dC dI cB cI cZ cO (g0 3) 81 (o2_0.2 3) x2_3 (0 : Int32) hq15) [2] (atAll_map ⟨rfl, trivial⟩) (by decide +kernel) (sameAd_map ⟨rfl, trivial⟩) (atAll_map ⟨rfl, trivial⟩) ⟨Or.inl rfl, Or.inl rfl, Or.inr (by decide), Or.inl rfl, Or.inl rfl, Or.inl rfl, Or.inl rfl, Or.inl rfl, Or.inl rfl, Or.inl rfl, Or.inl rfl, Or.inl rfl, trivial⟩ ⟨va_cnB 3 hts gX1_findPairs_X7_setCell_n58 rfl rfl rfl (hKK.2 _ (nws_in 21 rfl)) (hts (.initialized RX7) (List.mem_of_getElem? (i := 5) rfl)) dsc_X7_setCell ⟨Nat.le_of_ble_eq_true rfl, Nat.le_of_ble_eq_true rfl⟩, hts (.static yX7_setCell) (List.mem_of_getElem? (i := 4) rfl), trivial⟩ rfl hl.1 rfl (Nat.le_of_ble_eq_true rfl) dX1_findPairs_14 ⟨Nat.zero_le _, Nat.zero_le _⟩ (fun H locs hP hD hS => ?_)
        obtain ⟨x16, hx16, h⟩ := bnd_e h
        refine lv_iinc (v := x16) (lv' := [(3, .int x16), (0, .ref a0), (1, .ref a1), (2, .int v2)]) hx hb dX1_findPairs_17 hl (k := 3) rfl (by rw [← hx16]; rfl) (by decide) rfl (fun ls hl => ?_)
        refine lv_goto (tgt := 2) hx hb dX1_findPairs_20 (by decide) ?_
        exact ih2 x16 (stR o2_0 3 q15) h _ _ _ hP hD hS (lv_sub hl [1, 2, 3, 0] rfl)
  exact lp2 FU (0 : Int32) o0 h _ _ _ hP hD hS (lv_sub hl [1, 2, 3, 0] rfl)
def f_X1_lowestOfMostPairs_31 (x4_2 : Int32) (kL4 : (Int32 → Int32 → Option (Int32))) (x31_1 : Int32) : Option (Int32) := bnd (x4_2 + (1 : Int32)) fun x4 : Int32 => kL4 x31_1 x4
def f_X1_lowestOfMostPairs_4 (o0 : Ob) : Nat → Int32 → Int32 → Option (Int32)
  | 0, _, _ => none
  | nn4+1, x4_1, x4_2 => if (81 : Int32) ≤ x4_2 then (some x4_1) else ((f_X7_cell 81 (o0.2 3) x4_2).bind fun q2 : Int32 => (f_X7_cell 81 (o0.2 3) x4_1).bind fun q3 : Int32 => if q2 ≤ q3 then (f_X1_lowestOfMostPairs_31 x4_2 (f_X1_lowestOfMostPairs_4 o0 nn4) x4_1) else (f_X1_lowestOfMostPairs_31 x4_2 (f_X1_lowestOfMostPairs_4 o0 nn4) x4_2))
def f_X1_lowestOfMostPairs (o0 : Ob) : Option (Int32) := f_X1_lowestOfMostPairs_4 o0 FU (0 : Int32) (1 : Int32)
abbrev rmX1_lowestOfMostPairs : Room := { frames := 1, cells := 0, slots := 0, locals := 21 }
theorem dsc_X1_lowestOfMostPairs : yX1_lowestOfMostPairs.cls ≠ "java/lang/invoke/MethodHandle" ∧ yX1_lowestOfMostPairs.cls ≠ "java/lang/invoke/VarHandle" ∧ (parseMethodDescriptor yX1_lowestOfMostPairs.desc).map (fun d => d.parameters.length) = some 0 := by decide +kernel
set_option maxHeartbeats 4000000 in
set_option maxRecDepth 100000 in
theorem c_X1_lowestOfMostPairs (l : Launch) (dC : Nat → ClassId) (dI : Nat → Nat → Nat) (cB cI cZ cO : ClassId) (a0 : Nat) (g0 : Nat → Nat) (o0 : Ob) {r : Int32} (h : f_X1_lowestOfMostPairs o0 = some r) : Ct dC dI cB cI cZ cO l yX1_lowestOfMostPairs wsX1_lowestOfMostPairs rmX1_lowestOfMostPairs [.ref a0] ([cX1 a0 g0 o0, cX1_0 cZ g0 o0, cX1_3 cI g0 o0]) (some (.int r)) ([cX1 a0 g0 o0, cX1_0 cZ g0 o0, cX1_3 cI g0 o0]) := by
  intro sz
  refine Met.ofW (cc := cX1_lowestOfMostPairs) (maxL := 3) (ret := (some .int)) (by decide) rfl ?_
  intro p e s m args below meth c s₁ B hml hv
  obtain ⟨rfl, hsz, hP, hKK, hD0⟩ := hv
  have hx := B.exec
  have hb := B.bytes
  have hr := B.returns
  have hts := atoms_spec (ws := wsX1_lowestOfMostPairs) B.pre
  have hown : s.vm.findClass RX1 = some m.cls := findClass_of_methodNamed B.named
  have hlocks := B.notSynchronized
  have hiX1 : ∀ w ∈ u_ws RX1 TX1 4, w ∈ wsX1_lowestOfMostPairs := fun w h => List.mem_cons_of_mem _ (List.mem_append_right _ h)
  subst hsz
  have hD := hD0.self (sz := s.heap.size)
  generalize hAe : va_A ([cX1 a0 g0 o0, cX1_0 cZ g0 o0, cX1_3 cI g0 o0]) s.heap.size = A at hD ⊢
  have hA : ∀ q : Nat, s.heap.size ≤ q → A q := fun q h => by rw [← hAe]; exact Or.inr h
  have hS : va_S A s.heap s.heap [] := va_S.rf
  have hP : va_P (dC, dI) vwCl ([cX1 a0 g0 o0, cX1_0 cZ g0 o0, cX1_3 cI g0 o0]) s.heap := hP
  have hD : va_D A ([cX1 a0 g0 o0, cX1_0 cZ g0 o0, cX1_3 cI g0 o0]) := hD
  have hl := lv_entry ([.ref a0]) (n := 3) (Nat.le_of_ble_eq_true rfl)
  rw [lg_entry_eq]
  generalize (lg_sl ([.ref a0]) ++ List.replicate (3 - (lg_sl ([.ref a0])).length) Slot.unset).toArray = ls at hl ⊢
  have hl : lv_has ls 3 [(0, .ref a0)] := hl
  obtain ⟨Q, hQ⟩ : ∃ Q, Q = MQ below (Qq dC dI (some (.int r)) ([cX1 a0 g0 o0, cX1_0 cZ g0 o0, cX1_3 cI g0 o0]) A) ([.ref a0] : List Value).toArray s 0 0 A := ⟨_, rfl⟩
  rw [← hQ]
  rw [f_X1_lowestOfMostPairs] at h
  clear hAe hD0
  refine lv_iconst (v := (0 : Int32)) hx hb dX1_lowestOfMostPairs_0 (by decide) ?_
  refine lv_istore_n (lv' := [(1, .int (0 : Int32)), (0, .ref a0)]) hx hb dX1_lowestOfMostPairs_1 rfl hl (by decide) rfl (fun ls hl => ?_)
  refine lv_iconst (v := (1 : Int32)) hx hb dX1_lowestOfMostPairs_2 (by decide) ?_
  refine lv_istore_n (lv' := [(2, .int (1 : Int32)), (1, .int (0 : Int32)), (0, .ref a0)]) hx hb dX1_lowestOfMostPairs_3 rfl hl (by decide) rfl (fun ls hl => ?_)
  have lp4 : ∀ (nn4 : Nat) (x4_1 : Int32) (x4_2 : Int32), f_X1_lowestOfMostPairs_4 o0 nn4 x4_1 x4_2 = some r → ∀ (H : Heap) (locs : List Loc) (ls : Array Slot), va_P (dC, dI) vwCl ([cX1 a0 g0 o0, cX1_0 cZ g0 o0, cX1_3 cI g0 o0]) H → va_D A ([cX1 a0 g0 o0, cX1_0 cZ g0 o0, cX1_3 cI g0 o0]) → va_S A s.heap H locs → lv_has ls 3 [(0, .ref a0), (1, .int x4_1), (2, .int x4_2)] → W p l e (headSpec wsX1_lowestOfMostPairs rmX1_lowestOfMostPairs).room s m ([.ref a0] : List Value).toArray below meth c H locs 0 0 Q (F0 m 4 ls []) := by
    intro nn4
    induction nn4 with
    | zero => intro x4_1 x4_2 h; rw [f_X1_lowestOfMostPairs_4] at h; cases h
    | succ nn4 ih4 =>
      intro x4_1 x4_2 h H locs ls hP hD hS hl
      rw [f_X1_lowestOfMostPairs_4] at h
      refine lv_iload_n hx hb dX1_lowestOfMostPairs_4 rfl (lv_at hl 2 rfl) ?_
      refine lv_bipush (v := (81 : Int32)) hx hb dX1_lowestOfMostPairs_5 (by decide) ?_
      refine lv_icmp_ge (tgt := 37) hx hb dX1_lowestOfMostPairs_7 (by decide) (fun k1 => ?_) (fun k1 => ?_)
      · have h := ite_t k1 h
        refine lv_iload_n hx hb dX1_lowestOfMostPairs_37 rfl (lv_at hl 1 rfl) ?_
        have h := Option.some.inj h
        subst h
        subst hQ
        exact W.iret (v := x4_1) hx hb hr (fun t ht hW => ⟨⟨rfl, by rw [ht]; exact hP, hD⟩, hS.F ht⟩) hS.2.2 dX1_lowestOfMostPairs_38
      · have h := ite_f k1 h
        refine lv_aload_n hx hb dX1_lowestOfMostPairs_10 rfl (lv_at hl 0 rfl) ?_
        refine va_get (D := (dC, dI)) (ci := 1) (v := .ref (g0 3)) (C := RX1) (T := TX1) (N := 4) hx hb hts hiX1 hown hKK.1 hP 0 rfl rfl 3 (by decide) (hts (.fieldLink RX1 15 "SlideLand$ByShift" "pairs" "[I") (List.mem_of_getElem? (i := 1) rfl)) (fun _ h9 => h9) rfl dX1_lowestOfMostPairs_11 ?_
        refine lv_iload_n hx hb dX1_lowestOfMostPairs_14 rfl (lv_at hl 2 rfl) ?_
        obtain ⟨q2, hq2, h⟩ := obd_e h
        refine kcN (rest := []) (w2 := ([cX1 a0 g0 o0, cX1_0 cZ g0 o0, cX1_3 cI g0 o0])) hx hb hml hown hts hKK hP hD hS hA (c_X7_cell l dC dI cB cI cZ cO (g0 3) 81 (o0.2 3) x4_2 hq2) [2] (atAll_map ⟨rfl, trivial⟩) (by decide +kernel) (sameAd_map ⟨rfl, trivial⟩) (atAll_map ⟨rfl, trivial⟩) (agr_refl _ _ _) ⟨va_cnB 2 hts gX1_lowestOfMostPairs_X7_cell_n38 rfl rfl rfl (hKK.2 _ (nws_in 19 rfl)) (hts (.initialized RX7) (List.mem_of_getElem? (i := 3) rfl)) dsc_X7_cell ⟨Nat.le_of_ble_eq_true rfl, Nat.le_of_ble_eq_true rfl⟩, hts (.static yX7_cell) (List.mem_of_getElem? (i := 2) rfl), trivial⟩ rfl hl.1 rfl (Nat.le_of_ble_eq_true rfl) dX1_lowestOfMostPairs_15 ⟨Nat.zero_le _, Nat.zero_le _⟩ (fun H locs hP hD hS => ?_)
        refine lv_aload_n hx hb dX1_lowestOfMostPairs_18 rfl (lv_at hl 0 rfl) ?_
        refine va_get (D := (dC, dI)) (ci := 1) (v := .ref (g0 3)) (C := RX1) (T := TX1) (N := 4) hx hb hts hiX1 hown hKK.1 hP 0 rfl rfl 3 (by decide) (hts (.fieldLink RX1 15 "SlideLand$ByShift" "pairs" "[I") (List.mem_of_getElem? (i := 1) rfl)) (fun _ h9 => h9) rfl dX1_lowestOfMostPairs_19 ?_
        refine lv_iload_n hx hb dX1_lowestOfMostPairs_22 rfl (lv_at hl 1 rfl) ?_
        obtain ⟨q3, hq3, h⟩ := obd_e h
        refine kcN (rest := [.int q2]) (w2 := ([cX1 a0 g0 o0, cX1_0 cZ g0 o0, cX1_3 cI g0 o0])) hx hb hml hown hts hKK hP hD hS hA (c_X7_cell l dC dI cB cI cZ cO (g0 3) 81 (o0.2 3) x4_1 hq3) [2] (atAll_map ⟨rfl, trivial⟩) (by decide +kernel) (sameAd_map ⟨rfl, trivial⟩) (atAll_map ⟨rfl, trivial⟩) (agr_refl _ _ _) ⟨va_cnB 2 hts gX1_lowestOfMostPairs_X7_cell_n38 rfl rfl rfl (hKK.2 _ (nws_in 19 rfl)) (hts (.initialized RX7) (List.mem_of_getElem? (i := 3) rfl)) dsc_X7_cell ⟨Nat.le_of_ble_eq_true rfl, Nat.le_of_ble_eq_true rfl⟩, hts (.static yX7_cell) (List.mem_of_getElem? (i := 2) rfl), trivial⟩ rfl hl.1 rfl (Nat.le_of_ble_eq_true rfl) dX1_lowestOfMostPairs_23 ⟨Nat.zero_le _, Nat.zero_le _⟩ (fun H locs hP hD hS => ?_)
        have jn31 : ∀ (x31_1 : Int32), f_X1_lowestOfMostPairs_31 x4_2 (f_X1_lowestOfMostPairs_4 o0 nn4) x31_1 = some r → ∀ (H : Heap) (locs : List Loc) (ls : Array Slot), va_P (dC, dI) vwCl ([cX1 a0 g0 o0, cX1_0 cZ g0 o0, cX1_3 cI g0 o0]) H → va_D A ([cX1 a0 g0 o0, cX1_0 cZ g0 o0, cX1_3 cI g0 o0]) → va_S A s.heap H locs → lv_has ls 3 [(0, .ref a0), (1, .int x31_1), (2, .int x4_2)] → W p l e (headSpec wsX1_lowestOfMostPairs rmX1_lowestOfMostPairs).room s m ([.ref a0] : List Value).toArray below meth c H locs 0 0 Q (F0 m 31 ls []) := by
          intro x31_1 h H locs ls hP hD hS hl
          rw [f_X1_lowestOfMostPairs_31] at h
          obtain ⟨x4, hx4, h⟩ := bnd_e h
          refine lv_iinc (v := x4) (lv' := [(2, .int x4), (0, .ref a0), (1, .int x31_1)]) hx hb dX1_lowestOfMostPairs_31 hl (k := 2) rfl (by rw [← hx4]; rfl) (by decide) rfl (fun ls hl => ?_)
          refine lv_goto (tgt := 4) hx hb dX1_lowestOfMostPairs_34 (by decide) ?_
          exact ih4 x31_1 x4 h _ _ _ hP hD hS (lv_sub hl [1, 2, 0] rfl)
        refine lv_icmp_le (tgt := 31) hx hb dX1_lowestOfMostPairs_26 (by decide) (fun k5 => ?_) (fun k5 => ?_)
        · have h := ite_t k5 h
          exact jn31 x4_1 h _ _ _ hP hD hS (lv_sub hl [0, 1, 2] rfl)
        · have h := ite_f k5 h
          refine lv_iload_n hx hb dX1_lowestOfMostPairs_29 rfl (lv_at hl 2 rfl) ?_
          refine lv_istore_n (lv' := [(1, .int x4_2), (0, .ref a0), (2, .int x4_2)]) hx hb dX1_lowestOfMostPairs_30 rfl hl (by decide) rfl (fun ls hl => ?_)
          exact jn31 x4_2 h _ _ _ hP hD hS (lv_sub hl [1, 0, 2] rfl)
  exact lp4 FU (0 : Int32) (1 : Int32) h _ _ _ hP hD hS (lv_sub hl [2, 1, 0] rfl)
def f_X1_greaterPart_80 (x26_8 : Int32) (kL26 : (Int32 → Int32 → Option (Int32))) (x80_7 : Int32) : Option (Int32) := bnd (x26_8 + (1 : Int32)) fun x7 : Int32 => kL26 x80_7 x7
def f_X1_greaterPart_26 (o0 : Ob) (q1 : Int32) (q2 : Int32) : Nat → Int32 → Int32 → Option (Int32)
  | 0, _, _ => none
  | nn26+1, x26_7, x26_8 => if (2 : Int32) < x26_8 then (bnd (if x26_7 < ((o0.1 1) - x26_7) then ((o0.1 1) - x26_7) else x26_7) fun q4 : Int32 => some q4) else (bnd ((x26_8 - q2) + (40 : Int32)) fun x5 : Int32 => bnd (f_X7_meet q1 x26_8) fun q6 : Bool => if (b2i q6) = 0 then (f_X1_greaterPart_80 x26_8 (f_X1_greaterPart_26 o0 q1 q2 nn26) x26_7) else (if x5 < 0 then (f_X1_greaterPart_80 x26_8 (f_X1_greaterPart_26 o0 q1 q2 nn26) x26_7) else (if (81 : Int32) ≤ x5 then (f_X1_greaterPart_80 x26_8 (f_X1_greaterPart_26 o0 q1 q2 nn26) x26_7) else (if x5 < 0 ∨ 81 ≤ x5.toNatClampNeg then none else if ((o0.2 0) x5.toNatClampNeg) = 0 then (f_X1_greaterPart_80 x26_8 (f_X1_greaterPart_26 o0 q1 q2 nn26) x26_7) else (bnd (x26_7 + (1 : Int32)) fun x13 : Int32 => f_X1_greaterPart_80 x26_8 (f_X1_greaterPart_26 o0 q1 q2 nn26) x13)))))
def f_X1_greaterPart (o0 : Ob) (o1 : Ob) (v2 : Int32) (v3 : Int32) (v4 : Int32) : Option (Int32) := (f_X7_cell 7 (o1.2 2) v3).bind fun q1 : Int32 => (f_X6_gapUnshifted o1 v3 v4 v2).bind fun q2 : Int32 => f_X1_greaterPart_26 o0 q1 q2 FU (0 : Int32) (-1 : Int32)
abbrev rmX1_greaterPart : Room := { frames := 3, cells := 0, slots := 0, locals := 67 }
theorem dsc_X1_greaterPart : yX1_greaterPart.cls ≠ "java/lang/invoke/MethodHandle" ∧ yX1_greaterPart.cls ≠ "java/lang/invoke/VarHandle" ∧ (parseMethodDescriptor yX1_greaterPart.desc).map (fun d => d.parameters.length) = some 4 := by decide +kernel
set_option maxHeartbeats 4000000 in
set_option maxRecDepth 100000 in
theorem c_X1_greaterPart (l : Launch) (dC : Nat → ClassId) (dI : Nat → Nat → Nat) (cB cI cZ cO : ClassId) (a0 : Nat) (g0 : Nat → Nat) (o0 : Ob) (a1 : Nat) (g1 : Nat → Nat) (o1 : Ob) (v2 : Int32) (v3 : Int32) (v4 : Int32) {r : Int32} (h : f_X1_greaterPart o0 o1 v2 v3 v4 = some r) : Ct dC dI cB cI cZ cO l yX1_greaterPart wsX1_greaterPart rmX1_greaterPart [.ref a0, .ref a1, .int v2, .int v3, .int v4] ([cX1 a0 g0 o0, cX1_0 cZ g0 o0, cX1_3 cI g0 o0, cX6 a1 g1 o1, cX6_0 cI g1 o1, cX6_1 cI g1 o1, cX6_2 cI g1 o1, cX6_3 cI g1 o1, cX6_4 cI g1 o1, cX6_5 cI g1 o1, cX6_6 cI g1 o1, cX6_7 cI g1 o1]) (some (.int r)) ([cX1 a0 g0 o0, cX1_0 cZ g0 o0, cX1_3 cI g0 o0, cX6 a1 g1 o1, cX6_0 cI g1 o1, cX6_1 cI g1 o1, cX6_2 cI g1 o1, cX6_3 cI g1 o1, cX6_4 cI g1 o1, cX6_5 cI g1 o1, cX6_6 cI g1 o1, cX6_7 cI g1 o1]) := by
  intro sz
  refine Met.ofW (cc := cX1_greaterPart) (maxL := 10) (ret := (some .int)) (by decide) rfl ?_
  intro p e s m args below meth c s₁ B hml hv
  obtain ⟨rfl, hsz, hP, hKK, hD0⟩ := hv
  have hx := B.exec
  have hb := B.bytes
  have hr := B.returns
  have hts := atoms_spec (ws := wsX1_greaterPart) B.pre
  have hown : s.vm.findClass RX1 = some m.cls := findClass_of_methodNamed B.named
  have hlocks := B.notSynchronized
  have hiX6 : ∀ w ∈ u_ws RX6 TX6 11, w ∈ wsX1_greaterPart := fun w h => List.mem_cons_of_mem _ (List.mem_append_left _ (List.mem_append_right _ h))
  have hiX1 : ∀ w ∈ u_ws RX1 TX1 4, w ∈ wsX1_greaterPart := fun w h => List.mem_cons_of_mem _ (List.mem_append_right _ h)
  subst hsz
  have hD := hD0.self (sz := s.heap.size)
  generalize hAe : va_A ([cX1 a0 g0 o0, cX1_0 cZ g0 o0, cX1_3 cI g0 o0, cX6 a1 g1 o1, cX6_0 cI g1 o1, cX6_1 cI g1 o1, cX6_2 cI g1 o1, cX6_3 cI g1 o1, cX6_4 cI g1 o1, cX6_5 cI g1 o1, cX6_6 cI g1 o1, cX6_7 cI g1 o1]) s.heap.size = A at hD ⊢
  have hA : ∀ q : Nat, s.heap.size ≤ q → A q := fun q h => by rw [← hAe]; exact Or.inr h
  have hS : va_S A s.heap s.heap [] := va_S.rf
  have hP : va_P (dC, dI) vwCl ([cX1 a0 g0 o0, cX1_0 cZ g0 o0, cX1_3 cI g0 o0, cX6 a1 g1 o1, cX6_0 cI g1 o1, cX6_1 cI g1 o1, cX6_2 cI g1 o1, cX6_3 cI g1 o1, cX6_4 cI g1 o1, cX6_5 cI g1 o1, cX6_6 cI g1 o1, cX6_7 cI g1 o1]) s.heap := hP
  have hD : va_D A ([cX1 a0 g0 o0, cX1_0 cZ g0 o0, cX1_3 cI g0 o0, cX6 a1 g1 o1, cX6_0 cI g1 o1, cX6_1 cI g1 o1, cX6_2 cI g1 o1, cX6_3 cI g1 o1, cX6_4 cI g1 o1, cX6_5 cI g1 o1, cX6_6 cI g1 o1, cX6_7 cI g1 o1]) := hD
  have hl := lv_entry ([.ref a0, .ref a1, .int v2, .int v3, .int v4]) (n := 10) (Nat.le_of_ble_eq_true rfl)
  rw [lg_entry_eq]
  generalize (lg_sl ([.ref a0, .ref a1, .int v2, .int v3, .int v4]) ++ List.replicate (10 - (lg_sl ([.ref a0, .ref a1, .int v2, .int v3, .int v4])).length) Slot.unset).toArray = ls at hl ⊢
  have hl : lv_has ls 10 [(0, .ref a0), (1, .ref a1), (2, .int v2), (3, .int v3), (4, .int v4)] := hl
  obtain ⟨Q, hQ⟩ : ∃ Q, Q = MQ below (Qq dC dI (some (.int r)) ([cX1 a0 g0 o0, cX1_0 cZ g0 o0, cX1_3 cI g0 o0, cX6 a1 g1 o1, cX6_0 cI g1 o1, cX6_1 cI g1 o1, cX6_2 cI g1 o1, cX6_3 cI g1 o1, cX6_4 cI g1 o1, cX6_5 cI g1 o1, cX6_6 cI g1 o1, cX6_7 cI g1 o1]) A) ([.ref a0, .ref a1, .int v2, .int v3, .int v4] : List Value).toArray s 0 0 A := ⟨_, rfl⟩
  rw [← hQ]
  rw [f_X1_greaterPart] at h
  clear hAe hD0
  refine lv_aload_n hx hb dX1_greaterPart_0 rfl (lv_at hl 1 rfl) ?_
  refine va_get (D := (dC, dI)) (ci := 6) (v := .ref (g1 2)) (C := RX6) (T := TX6) (N := 11) hx hb hts hiX6 hown hKK.1 hP 3 rfl rfl 2 (by decide) (hts (.fieldLink RX1 42 "SlideLand$Told" "kind" "[I") (List.mem_of_getElem? (i := 1) rfl)) (fun _ h9 => h9) rfl dX1_greaterPart_1 ?_
  refine lv_iload_n hx hb dX1_greaterPart_4 rfl (lv_at hl 3 rfl) ?_
  obtain ⟨q1, hq1, h⟩ := obd_e h
  refine kcN (rest := []) (w2 := ([cX1 a0 g0 o0, cX1_0 cZ g0 o0, cX1_3 cI g0 o0, cX6 a1 g1 o1, cX6_0 cI g1 o1, cX6_1 cI g1 o1, cX6_2 cI g1 o1, cX6_3 cI g1 o1, cX6_4 cI g1 o1, cX6_5 cI g1 o1, cX6_6 cI g1 o1, cX6_7 cI g1 o1])) hx hb hml hown hts hKK hP hD hS hA (c_X7_cell l dC dI cB cI cZ cO (g1 2) 7 (o1.2 2) v3 hq1) [6] (atAll_map ⟨rfl, trivial⟩) (by decide +kernel) (sameAd_map ⟨rfl, trivial⟩) (atAll_map ⟨rfl, trivial⟩) (agr_refl _ _ _) ⟨va_cnB 2 hts gX1_greaterPart_X7_cell_n38 rfl rfl rfl (hKK.2 _ (nws_in 19 rfl)) (hts (.initialized RX7) (List.mem_of_getElem? (i := 9) rfl)) dsc_X7_cell ⟨Nat.le_of_ble_eq_true rfl, Nat.le_of_ble_eq_true rfl⟩, hts (.static yX7_cell) (List.mem_of_getElem? (i := 8) rfl), trivial⟩ rfl hl.1 rfl (Nat.le_of_ble_eq_true rfl) dX1_greaterPart_5 ⟨Nat.zero_le _, Nat.zero_le _⟩ (fun H locs hP hD hS => ?_)
  refine lv_istore (lv' := [(5, .int q1), (0, .ref a0), (1, .ref a1), (2, .int v2), (3, .int v3), (4, .int v4)]) hx hb dX1_greaterPart_8 hl (by decide) rfl (fun ls hl => ?_)
  refine lv_aload_n hx hb dX1_greaterPart_10 rfl (lv_at hl 2 rfl) ?_
  refine lv_iload_n hx hb dX1_greaterPart_11 rfl (lv_at hl 4 rfl) ?_
  refine lv_iload hx hb dX1_greaterPart_12 (lv_at hl 5 rfl) ?_
  refine lv_iload_n hx hb dX1_greaterPart_14 rfl (lv_at hl 3 rfl) ?_
  obtain ⟨q2, hq2, h⟩ := obd_e h
  refine kcV (rest := []) (w2 := ([cX1 a0 g0 o0, cX1_0 cZ g0 o0, cX1_3 cI g0 o0, cX6 a1 g1 o1, cX6_0 cI g1 o1, cX6_1 cI g1 o1, cX6_2 cI g1 o1, cX6_3 cI g1 o1, cX6_4 cI g1 o1, cX6_5 cI g1 o1, cX6_6 cI g1 o1, cX6_7 cI g1 o1])) hx hb hml hown hts hKK hP hD hS hA (c_X6_gapUnshifted l dC dI cB cI cZ cO a1 g1 o1 v3 v4 v2 hq2) [3, 4, 5, 6, 7, 8, 9, 10, 11] (atAll_map ⟨rfl, rfl, rfl, rfl, rfl, rfl, rfl, rfl, rfl, trivial⟩) (by decide +kernel) (sameAd_map ⟨rfl, rfl, rfl, rfl, rfl, rfl, rfl, rfl, rfl, trivial⟩) (atAll_map ⟨rfl, rfl, rfl, rfl, rfl, rfl, rfl, rfl, rfl, trivial⟩) (agr_refl _ _ _) (cwV 3 hts gX1_greaterPart_X6_gapUnshifted rfl rfl rfl ⟨rfl, dsc_X6_gapUnshifted⟩ ⟨Nat.le_of_ble_eq_true rfl, Nat.le_of_ble_eq_true rfl⟩) (va_recv hKK.1 hP (ci := 6) (q0 := 3) rfl rfl) rfl hl.1 rfl (Nat.le_of_ble_eq_true rfl) dX1_greaterPart_15 ⟨Nat.zero_le _, Nat.zero_le _⟩ (fun H locs hP hD hS => ?_)
  refine lv_istore (lv' := [(6, .int q2), (5, .int q1), (0, .ref a0), (1, .ref a1), (2, .int v2), (3, .int v3), (4, .int v4)]) hx hb dX1_greaterPart_18 hl (by decide) rfl (fun ls hl => ?_)
  refine lv_iconst (v := (0 : Int32)) hx hb dX1_greaterPart_20 (by decide) ?_
  refine lv_istore (lv' := [(7, .int (0 : Int32)), (6, .int q2), (5, .int q1), (0, .ref a0), (1, .ref a1), (2, .int v2), (3, .int v3), (4, .int v4)]) hx hb dX1_greaterPart_21 hl (by decide) rfl (fun ls hl => ?_)
  refine lv_iconst (v := (-1 : Int32)) hx hb dX1_greaterPart_23 (by decide) ?_
  refine lv_istore (lv' := [(8, .int (-1 : Int32)), (7, .int (0 : Int32)), (6, .int q2), (5, .int q1), (0, .ref a0), (1, .ref a1), (2, .int v2), (3, .int v3), (4, .int v4)]) hx hb dX1_greaterPart_24 hl (by decide) rfl (fun ls hl => ?_)
  have lp26 : ∀ (nn26 : Nat) (x26_7 : Int32) (x26_8 : Int32), f_X1_greaterPart_26 o0 q1 q2 nn26 x26_7 x26_8 = some r → ∀ (H : Heap) (locs : List Loc) (ls : Array Slot), va_P (dC, dI) vwCl ([cX1 a0 g0 o0, cX1_0 cZ g0 o0, cX1_3 cI g0 o0, cX6 a1 g1 o1, cX6_0 cI g1 o1, cX6_1 cI g1 o1, cX6_2 cI g1 o1, cX6_3 cI g1 o1, cX6_4 cI g1 o1, cX6_5 cI g1 o1, cX6_6 cI g1 o1, cX6_7 cI g1 o1]) H → va_D A ([cX1 a0 g0 o0, cX1_0 cZ g0 o0, cX1_3 cI g0 o0, cX6 a1 g1 o1, cX6_0 cI g1 o1, cX6_1 cI g1 o1, cX6_2 cI g1 o1, cX6_3 cI g1 o1, cX6_4 cI g1 o1, cX6_5 cI g1 o1, cX6_6 cI g1 o1, cX6_7 cI g1 o1]) → va_S A s.heap H locs → lv_has ls 10 [(0, .ref a0), (5, .int q1), (6, .int q2), (7, .int x26_7), (8, .int x26_8)] → W p l e (headSpec wsX1_greaterPart rmX1_greaterPart).room s m ([.ref a0, .ref a1, .int v2, .int v3, .int v4] : List Value).toArray below meth c H locs 0 0 Q (F0 m 26 ls []) := by
    intro nn26
    induction nn26 with
    | zero => intro x26_7 x26_8 h; rw [f_X1_greaterPart_26] at h; cases h
    | succ nn26 ih26 =>
      intro x26_7 x26_8 h H locs ls hP hD hS hl
      rw [f_X1_greaterPart_26] at h
      refine lv_iload hx hb dX1_greaterPart_26 (lv_at hl 4 rfl) ?_
      refine lv_iconst (v := (2 : Int32)) hx hb dX1_greaterPart_28 (by decide) ?_
      refine lv_icmp_gt (tgt := 86) hx hb dX1_greaterPart_29 (by decide) (fun k3 => ?_) (fun k3 => ?_)
      · have h := ite_t k3 h
        refine lv_iload hx hb dX1_greaterPart_86 (lv_at hl 3 rfl) ?_
        refine lv_aload_n hx hb dX1_greaterPart_88 rfl (lv_at hl 0 rfl) ?_
        refine va_get (D := (dC, dI)) (ci := 1) (v := .int (o0.1 1)) (C := RX1) (T := TX1) (N := 4) hx hb hts hiX1 hown hKK.1 hP 0 rfl rfl 1 (by decide) (hts (.fieldLink RX1 19 "SlideLand$ByShift" "howManySo" "I") (List.mem_of_getElem? (i := 3) rfl)) (fun _ h9 => h9) rfl dX1_greaterPart_89 ?_
        refine lv_iload hx hb dX1_greaterPart_92 (lv_at hl 3 rfl) ?_
        refine lv_isub hx hb dX1_greaterPart_94 ?_
        obtain ⟨q4, hq4, h⟩ := bnd_e h
        refine va_mmax hx hb (hml.trans hl.1.symm) hown (hts (.methodLink RX1 65 Lib.Math.max.name) (List.mem_of_getElem? (i := 4) rfl)) (hts (.static Lib.Math.max.name) (List.mem_of_getElem? (i := 5) rfl)) (hts (.initialized "java/lang/Math") (List.mem_of_getElem? (i := 6) rfl)) (hts (.code Lib.Math.max.name Lib.Math.max.code 2 (some .int)) (List.mem_of_getElem? (i := 7) rfl)) (Nat.le_of_ble_eq_true rfl) (Nat.le_of_ble_eq_true rfl) (Nat.zero_le _) (Nat.zero_le _) dX1_greaterPart_95 ?_
        refine lv_topE hq4 ?_
        have h := Option.some.inj h
        subst h
        subst hQ
        exact W.iret (v := q4) hx hb hr (fun t ht hW => ⟨⟨rfl, by rw [ht]; exact hP, hD⟩, hS.F ht⟩) hS.2.2 dX1_greaterPart_98
      · have h := ite_f k3 h
        refine lv_iload hx hb dX1_greaterPart_32 (lv_at hl 4 rfl) ?_
        refine lv_iload hx hb dX1_greaterPart_34 (lv_at hl 2 rfl) ?_
        refine lv_isub hx hb dX1_greaterPart_36 ?_
        refine lv_bipush (v := (40 : Int32)) hx hb dX1_greaterPart_37 (by decide) ?_
        refine lv_iadd hx hb dX1_greaterPart_39 ?_
        obtain ⟨x5, hx5, h⟩ := bnd_e h
        refine lv_topE hx5 ?_
        refine lv_istore (lv' := [(9, .int x5), (0, .ref a0), (5, .int q1), (6, .int q2), (7, .int x26_7), (8, .int x26_8)]) hx hb dX1_greaterPart_40 hl (by decide) rfl (fun ls hl => ?_)
        refine lv_iload hx hb dX1_greaterPart_42 (lv_at hl 2 rfl) ?_
        refine lv_iload hx hb dX1_greaterPart_44 (lv_at hl 5 rfl) ?_
        obtain ⟨q6, hq6, h⟩ := bnd_e h
        refine kcN (rest := []) (w2 := ([cX1 a0 g0 o0, cX1_0 cZ g0 o0, cX1_3 cI g0 o0, cX6 a1 g1 o1, cX6_0 cI g1 o1, cX6_1 cI g1 o1, cX6_2 cI g1 o1, cX6_3 cI g1 o1, cX6_4 cI g1 o1, cX6_5 cI g1 o1, cX6_6 cI g1 o1, cX6_7 cI g1 o1])) hx hb hml hown hts hKK hP hD hS hA (c_X7_meet l dC dI cB cI cZ cO q1 x26_8 hq6) [] (atAll_map trivial) (by decide +kernel) (sameAd_map trivial) (atAll_map trivial) (agr_refl _ _ _) ⟨va_cnB 2 hts gX1_greaterPart_X7_meet_n54 rfl rfl rfl (hKK.2 _ (nws_in 20 rfl)) (hts (.initialized RX7) (List.mem_of_getElem? (i := 9) rfl)) dsc_X7_meet ⟨Nat.le_of_ble_eq_true rfl, Nat.le_of_ble_eq_true rfl⟩, hts (.static yX7_meet) (List.mem_of_getElem? (i := 28) rfl), trivial⟩ rfl hl.1 rfl (Nat.le_of_ble_eq_true rfl) dX1_greaterPart_46 ⟨Nat.zero_le _, Nat.zero_le _⟩ (fun H locs hP hD hS => ?_)
        have jn80 : ∀ (x80_7 : Int32), f_X1_greaterPart_80 x26_8 (f_X1_greaterPart_26 o0 q1 q2 nn26) x80_7 = some r → ∀ (H : Heap) (locs : List Loc) (ls : Array Slot), va_P (dC, dI) vwCl ([cX1 a0 g0 o0, cX1_0 cZ g0 o0, cX1_3 cI g0 o0, cX6 a1 g1 o1, cX6_0 cI g1 o1, cX6_1 cI g1 o1, cX6_2 cI g1 o1, cX6_3 cI g1 o1, cX6_4 cI g1 o1, cX6_5 cI g1 o1, cX6_6 cI g1 o1, cX6_7 cI g1 o1]) H → va_D A ([cX1 a0 g0 o0, cX1_0 cZ g0 o0, cX1_3 cI g0 o0, cX6 a1 g1 o1, cX6_0 cI g1 o1, cX6_1 cI g1 o1, cX6_2 cI g1 o1, cX6_3 cI g1 o1, cX6_4 cI g1 o1, cX6_5 cI g1 o1, cX6_6 cI g1 o1, cX6_7 cI g1 o1]) → va_S A s.heap H locs → lv_has ls 10 [(0, .ref a0), (5, .int q1), (6, .int q2), (7, .int x80_7), (8, .int x26_8)] → W p l e (headSpec wsX1_greaterPart rmX1_greaterPart).room s m ([.ref a0, .ref a1, .int v2, .int v3, .int v4] : List Value).toArray below meth c H locs 0 0 Q (F0 m 80 ls []) := by
          intro x80_7 h H locs ls hP hD hS hl
          rw [f_X1_greaterPart_80] at h
          obtain ⟨x7, hx7, h⟩ := bnd_e h
          refine lv_iinc (v := x7) (lv' := [(8, .int x7), (0, .ref a0), (5, .int q1), (6, .int q2), (7, .int x80_7)]) hx hb dX1_greaterPart_80 hl (k := 4) rfl (by rw [← hx7]; rfl) (by decide) rfl (fun ls hl => ?_)
          refine lv_goto (tgt := 26) hx hb dX1_greaterPart_83 (by decide) ?_
          exact ih26 x80_7 x7 h _ _ _ hP hD hS (lv_sub hl [1, 2, 3, 4, 0] rfl)
        refine lv_if_eq (tgt := 80) hx hb dX1_greaterPart_49 (by decide) (fun k8 => ?_) (fun k8 => ?_)
        · have h := ite_t k8 h
          exact jn80 x26_7 h _ _ _ hP hD hS (lv_sub hl [1, 2, 3, 4, 5] rfl)
        · have h := ite_f k8 h
          refine lv_iload hx hb dX1_greaterPart_52 (lv_at hl 0 rfl) ?_
          refine lv_if_lt (tgt := 80) hx hb dX1_greaterPart_54 (by decide) (fun k9 => ?_) (fun k9 => ?_)
          · have h := ite_t k9 h
            exact jn80 x26_7 h _ _ _ hP hD hS (lv_sub hl [1, 2, 3, 4, 5] rfl)
          · have h := ite_f k9 h
            refine lv_iload hx hb dX1_greaterPart_57 (lv_at hl 0 rfl) ?_
            refine lv_aload_n hx hb dX1_greaterPart_59 rfl (lv_at hl 1 rfl) ?_
            refine va_get (D := (dC, dI)) (ci := 1) (v := .ref (g0 0)) (C := RX1) (T := TX1) (N := 4) hx hb hts hiX1 hown hKK.1 hP 0 rfl rfl 0 (by decide) (hts (.fieldLink RX1 9 "SlideLand$ByShift" "so" "[Z") (List.mem_of_getElem? (i := 2) rfl)) (fun _ h9 => h9) rfl dX1_greaterPart_60 ?_
            refine va_alen (v := (81 : Int32)) hx hb hKK.1 hP 1 2 rfl (ty := .boolean) rfl (show Int32.ofNat 81 = (81 : Int32) from by decide) dX1_greaterPart_63 ?_
            refine lv_icmp_ge (tgt := 80) hx hb dX1_greaterPart_64 (by decide) (fun k10 => ?_) (fun k10 => ?_)
            · have h := ite_t k10 h
              exact jn80 x26_7 h _ _ _ hP hD hS (lv_sub hl [1, 2, 3, 4, 5] rfl)
            · have h := ite_f k10 h
              refine lv_aload_n hx hb dX1_greaterPart_67 rfl (lv_at hl 1 rfl) ?_
              refine va_get (D := (dC, dI)) (ci := 1) (v := .ref (g0 0)) (C := RX1) (T := TX1) (N := 4) hx hb hts hiX1 hown hKK.1 hP 0 rfl rfl 0 (by decide) (hts (.fieldLink RX1 9 "SlideLand$ByShift" "so" "[Z") (List.mem_of_getElem? (i := 2) rfl)) (fun _ h9 => h9) rfl dX1_greaterPart_68 ?_
              refine lv_iload hx hb dX1_greaterPart_71 (lv_at hl 0 rfl) ?_
              obtain ⟨k11, h⟩ := ite_n h
              refine va_zald hx hb hKK.1 hP 1 2 rfl rfl k11 dX1_greaterPart_73 ?_
              refine lv_if_eq (tgt := 80) hx hb dX1_greaterPart_74 (by decide) (fun k12 => ?_) (fun k12 => ?_)
              · have h := ite_t k12 h
                exact jn80 x26_7 h _ _ _ hP hD hS (lv_sub hl [1, 2, 3, 4, 5] rfl)
              · have h := ite_f k12 h
                obtain ⟨x13, hx13, h⟩ := bnd_e h
                refine lv_iinc (v := x13) (lv' := [(7, .int x13), (9, .int x5), (0, .ref a0), (5, .int q1), (6, .int q2), (8, .int x26_8)]) hx hb dX1_greaterPart_77 hl (k := 4) rfl (by rw [← hx13]; rfl) (by decide) rfl (fun ls hl => ?_)
                exact jn80 x13 h _ _ _ hP hD hS (lv_sub hl [2, 3, 4, 0, 5] rfl)
  exact lp26 FU (0 : Int32) (-1 : Int32) h _ _ _ hP hD hS (lv_sub hl [4, 3, 2, 1, 0] rfl)
