def f_X6_clear_2 : Nat → Int32 → Ob → Option (Ob)
  | 0, _, _ => none
  | nn2+1, x2_1, o2_0 => if (12 : Int32) ≤ x2_1 then ((f_X7_setCell 2 (o2_0.2 1) (0 : Int32) (0 : Int32)).bind fun q2 : (Nat → Int32) => (f_X7_setCell 2 q2 (1 : Int32) (0 : Int32)).bind fun q3 : (Nat → Int32) => some (stR (stF (stF (stF o2_0 8 (0 : Int32)) 9 (0 : Int32)) 10 (0 : Int32)) 1 q3)) else ((f_X7_setCell 12 (o2_0.2 0) x2_1 (-1000 : Int32)).bind fun q4 : (Nat → Int32) => bnd (x2_1 + (1 : Int32)) fun x5 : Int32 => (f_X6_clear_2 nn2) x5 (stR o2_0 0 q4))
def f_X6_clear (o0 : Ob) : Option (Ob) := f_X6_clear_2 FU (0 : Int32) o0
abbrev rmX6_clear : Room := { frames := 1, cells := 0, slots := 0, locals := 22 }
theorem dsc_X6_clear : yX6_clear.cls ≠ "java/lang/invoke/MethodHandle" ∧ yX6_clear.cls ≠ "java/lang/invoke/VarHandle" ∧ (parseMethodDescriptor yX6_clear.desc).map (fun d => d.parameters.length) = some 0 := by decide +kernel
set_option maxHeartbeats 4000000 in
set_option maxRecDepth 100000 in
theorem c_X6_clear (l : Launch) (dC : Nat → ClassId) (dI : Nat → Nat → Nat) (cB cI cZ cO : ClassId) (a0 : Nat) (g0 : Nat → Nat) (o0 : Ob) {r : Ob} (h : f_X6_clear o0 = some r) : Ct dC dI cB cI cZ cO l yX6_clear wsX6_clear rmX6_clear [.ref a0] ([cX6 a0 g0 o0, cX6_0 cI g0 o0, cX6_1 cI g0 o0, cX6_2 cI g0 o0, cX6_3 cI g0 o0, cX6_4 cI g0 o0, cX6_5 cI g0 o0, cX6_6 cI g0 o0, cX6_7 cI g0 o0]) none ([cX6 a0 g0 r, cX6_0 cI g0 r, cX6_1 cI g0 r, cX6_2 cI g0 r, cX6_3 cI g0 r, cX6_4 cI g0 r, cX6_5 cI g0 r, cX6_6 cI g0 r, cX6_7 cI g0 r]) := by
  intro sz
  refine Met.ofW (cc := cX6_clear) (maxL := 2) (ret := none) (by decide) rfl ?_
  intro p e s m args below meth c s₁ B hml hv
  obtain ⟨rfl, hsz, hP, hKK, hD0⟩ := hv
  have hx := B.exec
  have hb := B.bytes
  have hr := B.returns
  have hts := atoms_spec (ws := wsX6_clear) B.pre
  have hown : s.vm.findClass RX6 = some m.cls := findClass_of_methodNamed B.named
  have hlocks := B.notSynchronized
  have hiX6 : ∀ w ∈ u_ws RX6 TX6 11, w ∈ wsX6_clear := fun w h => List.mem_cons_of_mem _ (List.mem_append_right _ h)
  subst hsz
  have hD := hD0.self (sz := s.heap.size)
  generalize hAe : va_A ([cX6 a0 g0 o0, cX6_0 cI g0 o0, cX6_1 cI g0 o0, cX6_2 cI g0 o0, cX6_3 cI g0 o0, cX6_4 cI g0 o0, cX6_5 cI g0 o0, cX6_6 cI g0 o0, cX6_7 cI g0 o0]) s.heap.size = A at hD ⊢
  have hA : ∀ q : Nat, s.heap.size ≤ q → A q := fun q h => by rw [← hAe]; exact Or.inr h
  have hS : va_S A s.heap s.heap [] := va_S.rf
  have hP : va_P (dC, dI) vwCl ([cX6 a0 g0 o0, cX6_0 cI g0 o0, cX6_1 cI g0 o0, cX6_2 cI g0 o0, cX6_3 cI g0 o0, cX6_4 cI g0 o0, cX6_5 cI g0 o0, cX6_6 cI g0 o0, cX6_7 cI g0 o0]) s.heap := hP
  have hD : va_D A ([cX6 a0 g0 o0, cX6_0 cI g0 o0, cX6_1 cI g0 o0, cX6_2 cI g0 o0, cX6_3 cI g0 o0, cX6_4 cI g0 o0, cX6_5 cI g0 o0, cX6_6 cI g0 o0, cX6_7 cI g0 o0]) := hD
  have hl := lv_entry ([.ref a0]) (n := 2) (Nat.le_of_ble_eq_true rfl)
  rw [lg_entry_eq]
  generalize (lg_sl ([.ref a0]) ++ List.replicate (2 - (lg_sl ([.ref a0])).length) Slot.unset).toArray = ls at hl ⊢
  have hl : lv_has ls 2 [(0, .ref a0)] := hl
  obtain ⟨Q, hQ⟩ : ∃ Q, Q = MQ below (Qq dC dI none ([cX6 a0 g0 r, cX6_0 cI g0 r, cX6_1 cI g0 r, cX6_2 cI g0 r, cX6_3 cI g0 r, cX6_4 cI g0 r, cX6_5 cI g0 r, cX6_6 cI g0 r, cX6_7 cI g0 r]) A) ([.ref a0] : List Value).toArray s 0 0 A := ⟨_, rfl⟩
  rw [← hQ]
  rw [f_X6_clear] at h
  clear hAe hD0
  refine lv_iconst (v := (0 : Int32)) hx hb dX6_clear_0 (by decide) ?_
  refine lv_istore_n (lv' := [(1, .int (0 : Int32)), (0, .ref a0)]) hx hb dX6_clear_1 rfl hl (by decide) rfl (fun ls hl => ?_)
  have lp2 : ∀ (nn2 : Nat) (x2_1 : Int32) (o2_0 : Ob), f_X6_clear_2 nn2 x2_1 o2_0 = some r → ∀ (H : Heap) (locs : List Loc) (ls : Array Slot), va_P (dC, dI) vwCl ([cX6 a0 g0 o2_0, cX6_0 cI g0 o2_0, cX6_1 cI g0 o2_0, cX6_2 cI g0 o2_0, cX6_3 cI g0 o2_0, cX6_4 cI g0 o2_0, cX6_5 cI g0 o2_0, cX6_6 cI g0 o2_0, cX6_7 cI g0 o2_0]) H → va_D A ([cX6 a0 g0 o2_0, cX6_0 cI g0 o2_0, cX6_1 cI g0 o2_0, cX6_2 cI g0 o2_0, cX6_3 cI g0 o2_0, cX6_4 cI g0 o2_0, cX6_5 cI g0 o2_0, cX6_6 cI g0 o2_0, cX6_7 cI g0 o2_0]) → va_S A s.heap H locs → lv_has ls 2 [(0, .ref a0), (1, .int x2_1)] → W p l e (headSpec wsX6_clear rmX6_clear).room s m ([.ref a0] : List Value).toArray below meth c H locs 0 0 Q (F0 m 2 ls []) := by
    intro nn2
    induction nn2 with
    | zero => intro x2_1 o2_0 h; rw [f_X6_clear_2] at h; cases h
    | succ nn2 ih2 =>
      intro x2_1 o2_0 h H locs ls hP hD hS hl
      rw [f_X6_clear_2] at h
      refine lv_iload_n hx hb dX6_clear_2 rfl (lv_at hl 1 rfl) ?_
      refine lv_bipush (v := (12 : Int32)) hx hb dX6_clear_3 (by decide) ?_
      refine lv_icmp_ge (tgt := 25) hx hb dX6_clear_5 (by decide) (fun k1 => ?_) (fun k1 => ?_)
      · have h := ite_t k1 h
        refine lv_aload_n hx hb dX6_clear_25 rfl (lv_at hl 0 rfl) ?_
        refine va_get (D := (dC, dI)) (ci := 6) (v := .ref (g0 1)) (C := RX6) (T := TX6) (N := 11) hx hb hts hiX6 hown hKK.1 hP 0 rfl rfl 1 (by decide) (hts (.fieldLink RX6 15 "SlideLand$Told" "ofLand" "[I") (List.mem_of_getElem? (i := 2) rfl)) (fun _ h9 => h9) rfl dX6_clear_26 ?_
        refine lv_iconst (v := (0 : Int32)) hx hb dX6_clear_29 (by decide) ?_
        refine lv_iconst (v := (0 : Int32)) hx hb dX6_clear_30 (by decide) ?_
        obtain ⟨q2, hq2, h⟩ := obd_e h
        refine kcN (rest := []) (w2 := ([cX6 a0 g0 (stR o2_0 1 q2), cX6_0 cI g0 (stR o2_0 1 q2), cX6_1 cI g0 (stR o2_0 1 q2), cX6_2 cI g0 (stR o2_0 1 q2), cX6_3 cI g0 (stR o2_0 1 q2), cX6_4 cI g0 (stR o2_0 1 q2), cX6_5 cI g0 (stR o2_0 1 q2), cX6_6 cI g0 (stR o2_0 1 q2), cX6_7 cI g0 (stR o2_0 1 q2)])) hx hb hml hown hts hKK hP hD hS hA (c_X7_setCell l dC dI cB cI cZ cO (g0 1) 2 (o2_0.2 1) (0 : Int32) (0 : Int32) hq2) [2] (atAll_map ⟨rfl, trivial⟩) (by decide +kernel) (sameAd_map ⟨rfl, trivial⟩) (atAll_map ⟨rfl, trivial⟩) ⟨Or.inl rfl, Or.inl rfl, Or.inr (by decide), Or.inl rfl, Or.inl rfl, Or.inl rfl, Or.inl rfl, Or.inl rfl, Or.inl rfl, trivial⟩ ⟨va_cnB 3 hts gX6_clear_X7_setCell_n57 rfl rfl rfl (hKK.2 _ (nws_in 1 rfl)) (hts (.initialized RX7) (List.mem_of_getElem? (i := 7) rfl)) dsc_X7_setCell ⟨Nat.le_of_ble_eq_true rfl, Nat.le_of_ble_eq_true rfl⟩, hts (.static yX7_setCell) (List.mem_of_getElem? (i := 6) rfl), trivial⟩ rfl hl.1 rfl (Nat.le_of_ble_eq_true rfl) dX6_clear_31 ⟨Nat.zero_le _, Nat.zero_le _⟩ (fun H locs hP hD hS => ?_)
        refine lv_aload_n hx hb dX6_clear_34 rfl (lv_at hl 0 rfl) ?_
        refine va_get (D := (dC, dI)) (ci := 6) (v := .ref (g0 1)) (C := RX6) (T := TX6) (N := 11) hx hb hts hiX6 hown hKK.1 hP 0 rfl rfl 1 (by decide) (hts (.fieldLink RX6 15 "SlideLand$Told" "ofLand" "[I") (List.mem_of_getElem? (i := 2) rfl)) (fun _ h9 => h9) rfl dX6_clear_35 ?_
        refine lv_iconst (v := (1 : Int32)) hx hb dX6_clear_38 (by decide) ?_
        refine lv_iconst (v := (0 : Int32)) hx hb dX6_clear_39 (by decide) ?_
        obtain ⟨q3, hq3, h⟩ := obd_e h
        refine kcN (rest := []) (w2 := ([cX6 a0 g0 (stR o2_0 1 q3), cX6_0 cI g0 (stR o2_0 1 q3), cX6_1 cI g0 (stR o2_0 1 q3), cX6_2 cI g0 (stR o2_0 1 q3), cX6_3 cI g0 (stR o2_0 1 q3), cX6_4 cI g0 (stR o2_0 1 q3), cX6_5 cI g0 (stR o2_0 1 q3), cX6_6 cI g0 (stR o2_0 1 q3), cX6_7 cI g0 (stR o2_0 1 q3)])) hx hb hml hown hts hKK hP hD hS hA (c_X7_setCell l dC dI cB cI cZ cO (g0 1) 2 q2 (1 : Int32) (0 : Int32) hq3) [2] (atAll_map ⟨rfl, trivial⟩) (by decide +kernel) (sameAd_map ⟨rfl, trivial⟩) (atAll_map ⟨rfl, trivial⟩) ⟨Or.inl rfl, Or.inl rfl, Or.inr (by decide), Or.inl rfl, Or.inl rfl, Or.inl rfl, Or.inl rfl, Or.inl rfl, Or.inl rfl, trivial⟩ ⟨va_cnB 3 hts gX6_clear_X7_setCell_n57 rfl rfl rfl (hKK.2 _ (nws_in 1 rfl)) (hts (.initialized RX7) (List.mem_of_getElem? (i := 7) rfl)) dsc_X7_setCell ⟨Nat.le_of_ble_eq_true rfl, Nat.le_of_ble_eq_true rfl⟩, hts (.static yX7_setCell) (List.mem_of_getElem? (i := 6) rfl), trivial⟩ rfl hl.1 rfl (Nat.le_of_ble_eq_true rfl) dX6_clear_40 ⟨Nat.zero_le _, Nat.zero_le _⟩ (fun H locs hP hD hS => ?_)
        refine lv_aload_n hx hb dX6_clear_43 rfl (lv_at hl 0 rfl) ?_
        refine lv_iconst (v := (0 : Int32)) hx hb dX6_clear_44 (by decide) ?_
        refine va_put (D := (dC, dI)) (ci := 6) (v := .int (0 : Int32)) (ty := .int) (C := RX6) (T := TX6) (N := 11) hx hb hts hiX6 tyX6 tyX6_ok nmX6 hown hKK.1 hP hD hS 0 rfl rfl 8 (by decide) (hts (.fieldLink RX6 61 "SlideLand$Told" "strips" "I") (List.mem_of_getElem? (i := 3) rfl)) (fun _ h9 => h9) rfl (by decide +kernel) rfl rfl (Nat.le_of_ble_eq_true rfl) dX6_clear_45 (fun H locs hP hD hS => ?_)
        have hP : va_P (dC, dI) vwCl ([cX6 a0 g0 (stR (stF o2_0 8 (0 : Int32)) 1 q3), cX6_0 cI g0 (stR (stF o2_0 8 (0 : Int32)) 1 q3), cX6_1 cI g0 (stR (stF o2_0 8 (0 : Int32)) 1 q3), cX6_2 cI g0 (stR (stF o2_0 8 (0 : Int32)) 1 q3), cX6_3 cI g0 (stR (stF o2_0 8 (0 : Int32)) 1 q3), cX6_4 cI g0 (stR (stF o2_0 8 (0 : Int32)) 1 q3), cX6_5 cI g0 (stR (stF o2_0 8 (0 : Int32)) 1 q3), cX6_6 cI g0 (stR (stF o2_0 8 (0 : Int32)) 1 q3), cX6_7 cI g0 (stR (stF o2_0 8 (0 : Int32)) 1 q3)]) H := hP
        have hD : va_D A ([cX6 a0 g0 (stR (stF o2_0 8 (0 : Int32)) 1 q3), cX6_0 cI g0 (stR (stF o2_0 8 (0 : Int32)) 1 q3), cX6_1 cI g0 (stR (stF o2_0 8 (0 : Int32)) 1 q3), cX6_2 cI g0 (stR (stF o2_0 8 (0 : Int32)) 1 q3), cX6_3 cI g0 (stR (stF o2_0 8 (0 : Int32)) 1 q3), cX6_4 cI g0 (stR (stF o2_0 8 (0 : Int32)) 1 q3), cX6_5 cI g0 (stR (stF o2_0 8 (0 : Int32)) 1 q3), cX6_6 cI g0 (stR (stF o2_0 8 (0 : Int32)) 1 q3), cX6_7 cI g0 (stR (stF o2_0 8 (0 : Int32)) 1 q3)]) := hD
        refine lv_aload_n hx hb dX6_clear_48 rfl (lv_at hl 0 rfl) ?_
        refine lv_iconst (v := (0 : Int32)) hx hb dX6_clear_49 (by decide) ?_
        refine va_put (D := (dC, dI)) (ci := 6) (v := .int (0 : Int32)) (ty := .int) (C := RX6) (T := TX6) (N := 11) hx hb hts hiX6 tyX6 tyX6_ok nmX6 hown hKK.1 hP hD hS 0 rfl rfl 9 (by decide) (hts (.fieldLink RX6 64 "SlideLand$Told" "pushes" "I") (List.mem_of_getElem? (i := 4) rfl)) (fun _ h9 => h9) rfl (by decide +kernel) rfl rfl (Nat.le_of_ble_eq_true rfl) dX6_clear_50 (fun H locs hP hD hS => ?_)
        have hP : va_P (dC, dI) vwCl ([cX6 a0 g0 (stR (stF (stF o2_0 8 (0 : Int32)) 9 (0 : Int32)) 1 q3), cX6_0 cI g0 (stR (stF (stF o2_0 8 (0 : Int32)) 9 (0 : Int32)) 1 q3), cX6_1 cI g0 (stR (stF (stF o2_0 8 (0 : Int32)) 9 (0 : Int32)) 1 q3), cX6_2 cI g0 (stR (stF (stF o2_0 8 (0 : Int32)) 9 (0 : Int32)) 1 q3), cX6_3 cI g0 (stR (stF (stF o2_0 8 (0 : Int32)) 9 (0 : Int32)) 1 q3), cX6_4 cI g0 (stR (stF (stF o2_0 8 (0 : Int32)) 9 (0 : Int32)) 1 q3), cX6_5 cI g0 (stR (stF (stF o2_0 8 (0 : Int32)) 9 (0 : Int32)) 1 q3), cX6_6 cI g0 (stR (stF (stF o2_0 8 (0 : Int32)) 9 (0 : Int32)) 1 q3), cX6_7 cI g0 (stR (stF (stF o2_0 8 (0 : Int32)) 9 (0 : Int32)) 1 q3)]) H := hP
        have hD : va_D A ([cX6 a0 g0 (stR (stF (stF o2_0 8 (0 : Int32)) 9 (0 : Int32)) 1 q3), cX6_0 cI g0 (stR (stF (stF o2_0 8 (0 : Int32)) 9 (0 : Int32)) 1 q3), cX6_1 cI g0 (stR (stF (stF o2_0 8 (0 : Int32)) 9 (0 : Int32)) 1 q3), cX6_2 cI g0 (stR (stF (stF o2_0 8 (0 : Int32)) 9 (0 : Int32)) 1 q3), cX6_3 cI g0 (stR (stF (stF o2_0 8 (0 : Int32)) 9 (0 : Int32)) 1 q3), cX6_4 cI g0 (stR (stF (stF o2_0 8 (0 : Int32)) 9 (0 : Int32)) 1 q3), cX6_5 cI g0 (stR (stF (stF o2_0 8 (0 : Int32)) 9 (0 : Int32)) 1 q3), cX6_6 cI g0 (stR (stF (stF o2_0 8 (0 : Int32)) 9 (0 : Int32)) 1 q3), cX6_7 cI g0 (stR (stF (stF o2_0 8 (0 : Int32)) 9 (0 : Int32)) 1 q3)]) := hD
        refine lv_aload_n hx hb dX6_clear_53 rfl (lv_at hl 0 rfl) ?_
        refine lv_iconst (v := (0 : Int32)) hx hb dX6_clear_54 (by decide) ?_
        refine va_put (D := (dC, dI)) (ci := 6) (v := .int (0 : Int32)) (ty := .int) (C := RX6) (T := TX6) (N := 11) hx hb hts hiX6 tyX6 tyX6_ok nmX6 hown hKK.1 hP hD hS 0 rfl rfl 10 (by decide) (hts (.fieldLink RX6 67 "SlideLand$Told" "dampYears" "I") (List.mem_of_getElem? (i := 5) rfl)) (fun _ h9 => h9) rfl (by decide +kernel) rfl rfl (Nat.le_of_ble_eq_true rfl) dX6_clear_55 (fun H locs hP hD hS => ?_)
        have hP : va_P (dC, dI) vwCl ([cX6 a0 g0 (stR (stF (stF (stF o2_0 8 (0 : Int32)) 9 (0 : Int32)) 10 (0 : Int32)) 1 q3), cX6_0 cI g0 (stR (stF (stF (stF o2_0 8 (0 : Int32)) 9 (0 : Int32)) 10 (0 : Int32)) 1 q3), cX6_1 cI g0 (stR (stF (stF (stF o2_0 8 (0 : Int32)) 9 (0 : Int32)) 10 (0 : Int32)) 1 q3), cX6_2 cI g0 (stR (stF (stF (stF o2_0 8 (0 : Int32)) 9 (0 : Int32)) 10 (0 : Int32)) 1 q3), cX6_3 cI g0 (stR (stF (stF (stF o2_0 8 (0 : Int32)) 9 (0 : Int32)) 10 (0 : Int32)) 1 q3), cX6_4 cI g0 (stR (stF (stF (stF o2_0 8 (0 : Int32)) 9 (0 : Int32)) 10 (0 : Int32)) 1 q3), cX6_5 cI g0 (stR (stF (stF (stF o2_0 8 (0 : Int32)) 9 (0 : Int32)) 10 (0 : Int32)) 1 q3), cX6_6 cI g0 (stR (stF (stF (stF o2_0 8 (0 : Int32)) 9 (0 : Int32)) 10 (0 : Int32)) 1 q3), cX6_7 cI g0 (stR (stF (stF (stF o2_0 8 (0 : Int32)) 9 (0 : Int32)) 10 (0 : Int32)) 1 q3)]) H := hP
        have hD : va_D A ([cX6 a0 g0 (stR (stF (stF (stF o2_0 8 (0 : Int32)) 9 (0 : Int32)) 10 (0 : Int32)) 1 q3), cX6_0 cI g0 (stR (stF (stF (stF o2_0 8 (0 : Int32)) 9 (0 : Int32)) 10 (0 : Int32)) 1 q3), cX6_1 cI g0 (stR (stF (stF (stF o2_0 8 (0 : Int32)) 9 (0 : Int32)) 10 (0 : Int32)) 1 q3), cX6_2 cI g0 (stR (stF (stF (stF o2_0 8 (0 : Int32)) 9 (0 : Int32)) 10 (0 : Int32)) 1 q3), cX6_3 cI g0 (stR (stF (stF (stF o2_0 8 (0 : Int32)) 9 (0 : Int32)) 10 (0 : Int32)) 1 q3), cX6_4 cI g0 (stR (stF (stF (stF o2_0 8 (0 : Int32)) 9 (0 : Int32)) 10 (0 : Int32)) 1 q3), cX6_5 cI g0 (stR (stF (stF (stF o2_0 8 (0 : Int32)) 9 (0 : Int32)) 10 (0 : Int32)) 1 q3), cX6_6 cI g0 (stR (stF (stF (stF o2_0 8 (0 : Int32)) 9 (0 : Int32)) 10 (0 : Int32)) 1 q3), cX6_7 cI g0 (stR (stF (stF (stF o2_0 8 (0 : Int32)) 9 (0 : Int32)) 10 (0 : Int32)) 1 q3)]) := hD
        have h := Option.some.inj h
        subst h
        subst hQ
        exact W.vret hx hb hr (fun t ht hW => ⟨⟨rfl, by rw [ht]; exact hP, hD⟩, hS.F ht⟩) hS.2.2 dX6_clear_58
      · have h := ite_f k1 h
        refine lv_aload_n hx hb dX6_clear_8 rfl (lv_at hl 0 rfl) ?_
        refine va_get (D := (dC, dI)) (ci := 6) (v := .ref (g0 0)) (C := RX6) (T := TX6) (N := 11) hx hb hts hiX6 hown hKK.1 hP 0 rfl rfl 0 (by decide) (hts (.fieldLink RX6 9 "SlideLand$Told" "oneInch" "[I") (List.mem_of_getElem? (i := 1) rfl)) (fun _ h9 => h9) rfl dX6_clear_9 ?_
        refine lv_iload_n hx hb dX6_clear_12 rfl (lv_at hl 1 rfl) ?_
        refine lv_sipush (v := (-1000 : Int32)) hx hb dX6_clear_13 (by decide) ?_
        obtain ⟨q4, hq4, h⟩ := obd_e h
        refine kcN (rest := []) (w2 := ([cX6 a0 g0 (stR o2_0 0 q4), cX6_0 cI g0 (stR o2_0 0 q4), cX6_1 cI g0 (stR o2_0 0 q4), cX6_2 cI g0 (stR o2_0 0 q4), cX6_3 cI g0 (stR o2_0 0 q4), cX6_4 cI g0 (stR o2_0 0 q4), cX6_5 cI g0 (stR o2_0 0 q4), cX6_6 cI g0 (stR o2_0 0 q4), cX6_7 cI g0 (stR o2_0 0 q4)])) hx hb hml hown hts hKK hP hD hS hA (c_X7_setCell l dC dI cB cI cZ cO (g0 0) 12 (o2_0.2 0) x2_1 (-1000 : Int32) hq4) [1] (atAll_map ⟨rfl, trivial⟩) (by decide +kernel) (sameAd_map ⟨rfl, trivial⟩) (atAll_map ⟨rfl, trivial⟩) ⟨Or.inl rfl, Or.inr (by decide), Or.inl rfl, Or.inl rfl, Or.inl rfl, Or.inl rfl, Or.inl rfl, Or.inl rfl, Or.inl rfl, trivial⟩ ⟨va_cnB 3 hts gX6_clear_X7_setCell_n57 rfl rfl rfl (hKK.2 _ (nws_in 1 rfl)) (hts (.initialized RX7) (List.mem_of_getElem? (i := 7) rfl)) dsc_X7_setCell ⟨Nat.le_of_ble_eq_true rfl, Nat.le_of_ble_eq_true rfl⟩, hts (.static yX7_setCell) (List.mem_of_getElem? (i := 6) rfl), trivial⟩ rfl hl.1 rfl (Nat.le_of_ble_eq_true rfl) dX6_clear_16 ⟨Nat.zero_le _, Nat.zero_le _⟩ (fun H locs hP hD hS => ?_)
        obtain ⟨x5, hx5, h⟩ := bnd_e h
        refine lv_iinc (v := x5) (lv' := [(1, .int x5), (0, .ref a0)]) hx hb dX6_clear_19 hl (k := 1) rfl (by rw [← hx5]; rfl) (by decide) rfl (fun ls hl => ?_)
        refine lv_goto (tgt := 2) hx hb dX6_clear_22 (by decide) ?_
        exact ih2 x5 (stR o2_0 0 q4) h _ _ _ hP hD hS (lv_sub hl [1, 0] rfl)
  exact lp2 FU (0 : Int32) o0 h _ _ _ hP hD hS (lv_sub hl [1, 0] rfl)
def f_X6_endOfItem_91 (x24_5 : Int32) (o24_0 : Ob) (kL24 : (Int32 → Int32 → Ob → Option (Int32 × Ob))) (q7 : (Nat → Int32)) (x8 : Int32) (q9 : Int32) (y91_1 : Int32) : Option (Int32 × Ob) := if q9 = y91_1 then (bnd (x8 + (1 : Int32)) fun x11 : Int32 => bnd (x24_5 + (1 : Int32)) fun x12 : Int32 => kL24 x11 x12 (stR o24_0 7 q7)) else (some ((-4 : Int32), (stR o24_0 7 q7)))
def f_X6_endOfItem_24 (o1 : Ob) (y15_0 : Int32) : Nat → Int32 → Int32 → Ob → Option (Int32 × Ob)
  | 0, _, _, _ => none
  | nn24+1, x24_4, x24_5, o24_0 => if y15_0 ≤ x24_5 then (some (x24_4, o24_0)) else ((f_X2_figuresAt o1 x24_4).bind fun q4 : Int32 => if q4 = 0 then (some ((-4 : Int32), o24_0)) else ((f_X2_numberAt o1 x24_4 q4).bind fun q6 : Int32 => (f_X7_setCell 3 (o24_0.2 7) x24_5 q6).bind fun q7 : (Nat → Int32) => bnd (x24_4 + q4) fun x8 : Int32 => (f_X2_letterAt o1 x8).bind fun q9 : Int32 => if (y15_0 - (1 : Int32)) ≤ x24_5 then (f_X6_endOfItem_91 x24_5 o24_0 (f_X6_endOfItem_24 o1 y15_0 nn24) q7 x8 q9 (59 : Int32)) else (f_X6_endOfItem_91 x24_5 o24_0 (f_X6_endOfItem_24 o1 y15_0 nn24) q7 x8 q9 (44 : Int32))))
def f_X6_endOfItem_15 (o0 : Ob) (o1 : Ob) (v2 : Int32) (y15_0 : Int32) : Option (Int32 × Ob) := bnd (v2 + (1 : Int32)) fun x2 : Int32 => f_X6_endOfItem_24 o1 y15_0 FU x2 (0 : Int32) o0
def f_X6_endOfItem (o0 : Ob) (o1 : Ob) (v2 : Int32) : Option (Int32 × Ob) := (f_X2_letterAt o1 v2).bind fun q1 : Int32 => if q1 = (115 : Int32) then (f_X6_endOfItem_15 o0 o1 v2 (3 : Int32)) else (f_X6_endOfItem_15 o0 o1 v2 (1 : Int32))
abbrev rmX6_endOfItem : Room := { frames := 4, cells := 0, slots := 0, locals := 85 }
theorem dsc_X6_endOfItem : yX6_endOfItem.cls ≠ "java/lang/invoke/MethodHandle" ∧ yX6_endOfItem.cls ≠ "java/lang/invoke/VarHandle" ∧ (parseMethodDescriptor yX6_endOfItem.desc).map (fun d => d.parameters.length) = some 2 := by decide +kernel
set_option maxHeartbeats 4000000 in
set_option maxRecDepth 100000 in
theorem c_X6_endOfItem (l : Launch) (dC : Nat → ClassId) (dI : Nat → Nat → Nat) (cB cI cZ cO : ClassId) (a0 : Nat) (g0 : Nat → Nat) (o0 : Ob) (a1 : Nat) (g1 : Nat → Nat) (o1 : Ob) (v2 : Int32) {r : Int32 × Ob} (h : f_X6_endOfItem o0 o1 v2 = some r) : Ct dC dI cB cI cZ cO l yX6_endOfItem wsX6_endOfItem rmX6_endOfItem [.ref a0, .ref a1, .int v2] ([cX6 a0 g0 o0, cX6_0 cI g0 o0, cX6_1 cI g0 o0, cX6_2 cI g0 o0, cX6_3 cI g0 o0, cX6_4 cI g0 o0, cX6_5 cI g0 o0, cX6_6 cI g0 o0, cX6_7 cI g0 o0, cX2 a1 g1 o1, cX2_0 cI g1 o1]) (some (.int r.1)) ([cX6 a0 g0 r.2, cX6_0 cI g0 r.2, cX6_1 cI g0 r.2, cX6_2 cI g0 r.2, cX6_3 cI g0 r.2, cX6_4 cI g0 r.2, cX6_5 cI g0 r.2, cX6_6 cI g0 r.2, cX6_7 cI g0 r.2, cX2 a1 g1 o1, cX2_0 cI g1 o1]) := by
  intro sz
  refine Met.ofW (cc := cX6_endOfItem) (maxL := 7) (ret := (some .int)) (by decide) rfl ?_
  intro p e s m args below meth c s₁ B hml hv
  obtain ⟨rfl, hsz, hP, hKK, hD0⟩ := hv
  have hx := B.exec
  have hb := B.bytes
  have hr := B.returns
  have hts := atoms_spec (ws := wsX6_endOfItem) B.pre
  have hown : s.vm.findClass RX6 = some m.cls := findClass_of_methodNamed B.named
  have hlocks := B.notSynchronized
  have hiX6 : ∀ w ∈ u_ws RX6 TX6 11, w ∈ wsX6_endOfItem := fun w h => List.mem_cons_of_mem _ (List.mem_append_left _ (List.mem_append_right _ h))
  subst hsz
  have hD := hD0.self (sz := s.heap.size)
  generalize hAe : va_A ([cX6 a0 g0 o0, cX6_0 cI g0 o0, cX6_1 cI g0 o0, cX6_2 cI g0 o0, cX6_3 cI g0 o0, cX6_4 cI g0 o0, cX6_5 cI g0 o0, cX6_6 cI g0 o0, cX6_7 cI g0 o0, cX2 a1 g1 o1, cX2_0 cI g1 o1]) s.heap.size = A at hD ⊢
  have hA : ∀ q : Nat, s.heap.size ≤ q → A q := fun q h => by rw [← hAe]; exact Or.inr h
  have hS : va_S A s.heap s.heap [] := va_S.rf
  have hP : va_P (dC, dI) vwCl ([cX6 a0 g0 o0, cX6_0 cI g0 o0, cX6_1 cI g0 o0, cX6_2 cI g0 o0, cX6_3 cI g0 o0, cX6_4 cI g0 o0, cX6_5 cI g0 o0, cX6_6 cI g0 o0, cX6_7 cI g0 o0, cX2 a1 g1 o1, cX2_0 cI g1 o1]) s.heap := hP
  have hD : va_D A ([cX6 a0 g0 o0, cX6_0 cI g0 o0, cX6_1 cI g0 o0, cX6_2 cI g0 o0, cX6_3 cI g0 o0, cX6_4 cI g0 o0, cX6_5 cI g0 o0, cX6_6 cI g0 o0, cX6_7 cI g0 o0, cX2 a1 g1 o1, cX2_0 cI g1 o1]) := hD
  have hl := lv_entry ([.ref a0, .ref a1, .int v2]) (n := 7) (Nat.le_of_ble_eq_true rfl)
  rw [lg_entry_eq]
  generalize (lg_sl ([.ref a0, .ref a1, .int v2]) ++ List.replicate (7 - (lg_sl ([.ref a0, .ref a1, .int v2])).length) Slot.unset).toArray = ls at hl ⊢
  have hl : lv_has ls 7 [(0, .ref a0), (1, .ref a1), (2, .int v2)] := hl
  obtain ⟨Q, hQ⟩ : ∃ Q, Q = MQ below (Qq dC dI (some (.int r.1)) ([cX6 a0 g0 r.2, cX6_0 cI g0 r.2, cX6_1 cI g0 r.2, cX6_2 cI g0 r.2, cX6_3 cI g0 r.2, cX6_4 cI g0 r.2, cX6_5 cI g0 r.2, cX6_6 cI g0 r.2, cX6_7 cI g0 r.2, cX2 a1 g1 o1, cX2_0 cI g1 o1]) A) ([.ref a0, .ref a1, .int v2] : List Value).toArray s 0 0 A := ⟨_, rfl⟩
  rw [← hQ]
  rw [f_X6_endOfItem] at h
  clear hAe hD0
  refine lv_aload_n hx hb dX6_endOfItem_0 rfl (lv_at hl 1 rfl) ?_
  refine lv_iload_n hx hb dX6_endOfItem_1 rfl (lv_at hl 2 rfl) ?_
  obtain ⟨q1, hq1, h⟩ := obd_e h
  refine kcV (rest := []) (w2 := ([cX6 a0 g0 o0, cX6_0 cI g0 o0, cX6_1 cI g0 o0, cX6_2 cI g0 o0, cX6_3 cI g0 o0, cX6_4 cI g0 o0, cX6_5 cI g0 o0, cX6_6 cI g0 o0, cX6_7 cI g0 o0, cX2 a1 g1 o1, cX2_0 cI g1 o1])) hx hb hml hown hts hKK hP hD hS hA (c_X2_letterAt l dC dI cB cI cZ cO a1 g1 o1 v2 hq1) [9, 10] (atAll_map ⟨rfl, rfl, trivial⟩) (by decide +kernel) (sameAd_map ⟨rfl, rfl, trivial⟩) (atAll_map ⟨rfl, rfl, trivial⟩) (agr_refl _ _ _) (cwV 1 hts gX6_endOfItem_X2_letterAt rfl rfl rfl ⟨rfl, dsc_X2_letterAt⟩ ⟨Nat.le_of_ble_eq_true rfl, Nat.le_of_ble_eq_true rfl⟩) (va_recv hKK.1 hP (ci := 2) (q0 := 9) rfl rfl) rfl hl.1 rfl (Nat.le_of_ble_eq_true rfl) dX6_endOfItem_2 ⟨Nat.zero_le _, Nat.zero_le _⟩ (fun H locs hP hD hS => ?_)
  refine lv_bipush (v := (115 : Int32)) hx hb dX6_endOfItem_5 (by decide) ?_
  have jn15 : ∀ (y15_0 : Int32), f_X6_endOfItem_15 o0 o1 v2 y15_0 = some r → ∀ (H : Heap) (locs : List Loc) (ls : Array Slot), va_P (dC, dI) vwCl ([cX6 a0 g0 o0, cX6_0 cI g0 o0, cX6_1 cI g0 o0, cX6_2 cI g0 o0, cX6_3 cI g0 o0, cX6_4 cI g0 o0, cX6_5 cI g0 o0, cX6_6 cI g0 o0, cX6_7 cI g0 o0, cX2 a1 g1 o1, cX2_0 cI g1 o1]) H → va_D A ([cX6 a0 g0 o0, cX6_0 cI g0 o0, cX6_1 cI g0 o0, cX6_2 cI g0 o0, cX6_3 cI g0 o0, cX6_4 cI g0 o0, cX6_5 cI g0 o0, cX6_6 cI g0 o0, cX6_7 cI g0 o0, cX2 a1 g1 o1, cX2_0 cI g1 o1]) → va_S A s.heap H locs → lv_has ls 7 [(0, .ref a0), (1, .ref a1), (2, .int v2)] → W p l e (headSpec wsX6_endOfItem rmX6_endOfItem).room s m ([.ref a0, .ref a1, .int v2] : List Value).toArray below meth c H locs 0 0 Q (F0 m 15 ls [.int y15_0]) := by
    intro y15_0 h H locs ls hP hD hS hl
    rw [f_X6_endOfItem_15] at h
    refine lv_istore_n (lv' := [(3, .int y15_0), (0, .ref a0), (1, .ref a1), (2, .int v2)]) hx hb dX6_endOfItem_15 rfl hl (by decide) rfl (fun ls hl => ?_)
    refine lv_iload_n hx hb dX6_endOfItem_16 rfl (lv_at hl 3 rfl) ?_
    refine lv_iconst (v := (1 : Int32)) hx hb dX6_endOfItem_17 (by decide) ?_
    refine lv_iadd hx hb dX6_endOfItem_18 ?_
    obtain ⟨x2, hx2, h⟩ := bnd_e h
    refine lv_topE hx2 ?_
    refine lv_istore (lv' := [(4, .int x2), (3, .int y15_0), (0, .ref a0), (1, .ref a1), (2, .int v2)]) hx hb dX6_endOfItem_19 hl (by decide) rfl (fun ls hl => ?_)
    refine lv_iconst (v := (0 : Int32)) hx hb dX6_endOfItem_21 (by decide) ?_
    refine lv_istore (lv' := [(5, .int (0 : Int32)), (4, .int x2), (3, .int y15_0), (0, .ref a0), (1, .ref a1), (2, .int v2)]) hx hb dX6_endOfItem_22 hl (by decide) rfl (fun ls hl => ?_)
    have lp24 : ∀ (nn24 : Nat) (x24_4 : Int32) (x24_5 : Int32) (o24_0 : Ob), f_X6_endOfItem_24 o1 y15_0 nn24 x24_4 x24_5 o24_0 = some r → ∀ (H : Heap) (locs : List Loc) (ls : Array Slot), va_P (dC, dI) vwCl ([cX6 a0 g0 o24_0, cX6_0 cI g0 o24_0, cX6_1 cI g0 o24_0, cX6_2 cI g0 o24_0, cX6_3 cI g0 o24_0, cX6_4 cI g0 o24_0, cX6_5 cI g0 o24_0, cX6_6 cI g0 o24_0, cX6_7 cI g0 o24_0, cX2 a1 g1 o1, cX2_0 cI g1 o1]) H → va_D A ([cX6 a0 g0 o24_0, cX6_0 cI g0 o24_0, cX6_1 cI g0 o24_0, cX6_2 cI g0 o24_0, cX6_3 cI g0 o24_0, cX6_4 cI g0 o24_0, cX6_5 cI g0 o24_0, cX6_6 cI g0 o24_0, cX6_7 cI g0 o24_0, cX2 a1 g1 o1, cX2_0 cI g1 o1]) → va_S A s.heap H locs → lv_has ls 7 [(0, .ref a0), (1, .ref a1), (3, .int y15_0), (4, .int x24_4), (5, .int x24_5)] → W p l e (headSpec wsX6_endOfItem rmX6_endOfItem).room s m ([.ref a0, .ref a1, .int v2] : List Value).toArray below meth c H locs 0 0 Q (F0 m 24 ls []) := by
      intro nn24
      induction nn24 with
      | zero => intro x24_4 x24_5 o24_0 h; rw [f_X6_endOfItem_24] at h; cases h
      | succ nn24 ih24 =>
        intro x24_4 x24_5 o24_0 h H locs ls hP hD hS hl
        rw [f_X6_endOfItem_24] at h
        refine lv_iload hx hb dX6_endOfItem_24 (lv_at hl 4 rfl) ?_
        refine lv_iload_n hx hb dX6_endOfItem_26 rfl (lv_at hl 2 rfl) ?_
        refine lv_icmp_ge (tgt := 106) hx hb dX6_endOfItem_27 (by decide) (fun k3 => ?_) (fun k3 => ?_)
        · have h := ite_t k3 h
          refine lv_iload hx hb dX6_endOfItem_106 (lv_at hl 3 rfl) ?_
          have h := Option.some.inj h
          subst h
          subst hQ
          exact W.iret (v := x24_4) hx hb hr (fun t ht hW => ⟨⟨rfl, by rw [ht]; exact hP, hD⟩, hS.F ht⟩) hS.2.2 dX6_endOfItem_108
        · have h := ite_f k3 h
          refine lv_aload_n hx hb dX6_endOfItem_30 rfl (lv_at hl 1 rfl) ?_
          refine lv_iload hx hb dX6_endOfItem_31 (lv_at hl 3 rfl) ?_
          obtain ⟨q4, hq4, h⟩ := obd_e h
          refine kcV (rest := []) (w2 := ([cX6 a0 g0 o24_0, cX6_0 cI g0 o24_0, cX6_1 cI g0 o24_0, cX6_2 cI g0 o24_0, cX6_3 cI g0 o24_0, cX6_4 cI g0 o24_0, cX6_5 cI g0 o24_0, cX6_6 cI g0 o24_0, cX6_7 cI g0 o24_0, cX2 a1 g1 o1, cX2_0 cI g1 o1])) hx hb hml hown hts hKK hP hD hS hA (c_X2_figuresAt l dC dI cB cI cZ cO a1 g1 o1 x24_4 hq4) [9, 10] (atAll_map ⟨rfl, rfl, trivial⟩) (by decide +kernel) (sameAd_map ⟨rfl, rfl, trivial⟩) (atAll_map ⟨rfl, rfl, trivial⟩) (agr_refl _ _ _) (cwV 1 hts gX6_endOfItem_X2_figuresAt rfl rfl rfl ⟨rfl, dsc_X2_figuresAt⟩ ⟨Nat.le_of_ble_eq_true rfl, Nat.le_of_ble_eq_true rfl⟩) (va_recv hKK.1 hP (ci := 2) (q0 := 9) rfl rfl) rfl hl.1 rfl (Nat.le_of_ble_eq_true rfl) dX6_endOfItem_33 ⟨Nat.zero_le _, Nat.zero_le _⟩ (fun H locs hP hD hS => ?_)
          refine lv_istore (lv' := [(6, .int q4), (0, .ref a0), (1, .ref a1), (3, .int y15_0), (4, .int x24_4), (5, .int x24_5)]) hx hb dX6_endOfItem_36 hl (by decide) rfl (fun ls hl => ?_)
          refine lv_iload hx hb dX6_endOfItem_38 (lv_at hl 0 rfl) ?_
          refine lv_if_ne (tgt := 46) hx hb dX6_endOfItem_40 (by decide) (fun k5 => ?_) (fun k5 => ?_)
          · have h := ite_f k5 h
            refine lv_aload_n hx hb dX6_endOfItem_46 rfl (lv_at hl 1 rfl) ?_
            refine va_get (D := (dC, dI)) (ci := 6) (v := .ref (g0 7)) (C := RX6) (T := TX6) (N := 11) hx hb hts hiX6 hown hKK.1 hP 0 rfl rfl 7 (by decide) (hts (.fieldLink RX6 33 "SlideLand$Told" "numbers" "[I") (List.mem_of_getElem? (i := 1) rfl)) (fun _ h9 => h9) rfl dX6_endOfItem_47 ?_
            refine lv_iload hx hb dX6_endOfItem_50 (lv_at hl 5 rfl) ?_
            refine lv_aload_n hx hb dX6_endOfItem_52 rfl (lv_at hl 2 rfl) ?_
            refine lv_iload hx hb dX6_endOfItem_53 (lv_at hl 4 rfl) ?_
            refine lv_iload hx hb dX6_endOfItem_55 (lv_at hl 0 rfl) ?_
            obtain ⟨q6, hq6, h⟩ := obd_e h
            refine kcV (rest := [.int x24_5, .ref (g0 7)]) (w2 := ([cX6 a0 g0 o24_0, cX6_0 cI g0 o24_0, cX6_1 cI g0 o24_0, cX6_2 cI g0 o24_0, cX6_3 cI g0 o24_0, cX6_4 cI g0 o24_0, cX6_5 cI g0 o24_0, cX6_6 cI g0 o24_0, cX6_7 cI g0 o24_0, cX2 a1 g1 o1, cX2_0 cI g1 o1])) hx hb hml hown hts hKK hP hD hS hA (c_X2_numberAt l dC dI cB cI cZ cO a1 g1 o1 x24_4 q4 hq6) [9, 10] (atAll_map ⟨rfl, rfl, trivial⟩) (by decide +kernel) (sameAd_map ⟨rfl, rfl, trivial⟩) (atAll_map ⟨rfl, rfl, trivial⟩) (agr_refl _ _ _) (cwV 2 hts gX6_endOfItem_X2_numberAt rfl rfl rfl ⟨rfl, dsc_X2_numberAt⟩ ⟨Nat.le_of_ble_eq_true rfl, Nat.le_of_ble_eq_true rfl⟩) (va_recv hKK.1 hP (ci := 2) (q0 := 9) rfl rfl) rfl hl.1 rfl (Nat.le_of_ble_eq_true rfl) dX6_endOfItem_57 ⟨Nat.zero_le _, Nat.zero_le _⟩ (fun H locs hP hD hS => ?_)
            obtain ⟨q7, hq7, h⟩ := obd_e h
            refine kcN (rest := []) (w2 := ([cX6 a0 g0 (stR o24_0 7 q7), cX6_0 cI g0 (stR o24_0 7 q7), cX6_1 cI g0 (stR o24_0 7 q7), cX6_2 cI g0 (stR o24_0 7 q7), cX6_3 cI g0 (stR o24_0 7 q7), cX6_4 cI g0 (stR o24_0 7 q7), cX6_5 cI g0 (stR o24_0 7 q7), cX6_6 cI g0 (stR o24_0 7 q7), cX6_7 cI g0 (stR o24_0 7 q7), cX2 a1 g1 o1, cX2_0 cI g1 o1])) hx hb hml hown hts hKK hP hD hS hA (c_X7_setCell l dC dI cB cI cZ cO (g0 7) 3 (o24_0.2 7) x24_5 q6 hq7) [8] (atAll_map ⟨rfl, trivial⟩) (by decide +kernel) (sameAd_map ⟨rfl, trivial⟩) (atAll_map ⟨rfl, trivial⟩) ⟨Or.inl rfl, Or.inl rfl, Or.inl rfl, Or.inl rfl, Or.inl rfl, Or.inl rfl, Or.inl rfl, Or.inl rfl, Or.inr (by decide), Or.inl rfl, Or.inl rfl, trivial⟩ ⟨va_cnB 3 hts gX6_endOfItem_X7_setCell_n57 rfl rfl rfl (hKK.2 _ (nws_in 1 rfl)) (hts (.initialized RX7) (List.mem_of_getElem? (i := 10) rfl)) dsc_X7_setCell ⟨Nat.le_of_ble_eq_true rfl, Nat.le_of_ble_eq_true rfl⟩, hts (.static yX7_setCell) (List.mem_of_getElem? (i := 25) rfl), trivial⟩ rfl hl.1 rfl (Nat.le_of_ble_eq_true rfl) dX6_endOfItem_60 ⟨Nat.zero_le _, Nat.zero_le _⟩ (fun H locs hP hD hS => ?_)
            refine lv_iload hx hb dX6_endOfItem_63 (lv_at hl 4 rfl) ?_
            refine lv_iload hx hb dX6_endOfItem_65 (lv_at hl 0 rfl) ?_
            refine lv_iadd hx hb dX6_endOfItem_67 ?_
            obtain ⟨x8, hx8, h⟩ := bnd_e h
            refine lv_topE hx8 ?_
            refine lv_istore (lv' := [(4, .int x8), (6, .int q4), (0, .ref a0), (1, .ref a1), (3, .int y15_0), (5, .int x24_5)]) hx hb dX6_endOfItem_68 hl (by decide) rfl (fun ls hl => ?_)
            refine lv_aload_n hx hb dX6_endOfItem_70 rfl (lv_at hl 3 rfl) ?_
            refine lv_iload hx hb dX6_endOfItem_71 (lv_at hl 0 rfl) ?_
            obtain ⟨q9, hq9, h⟩ := obd_e h
            refine kcV (rest := []) (w2 := ([cX6 a0 g0 (stR o24_0 7 q7), cX6_0 cI g0 (stR o24_0 7 q7), cX6_1 cI g0 (stR o24_0 7 q7), cX6_2 cI g0 (stR o24_0 7 q7), cX6_3 cI g0 (stR o24_0 7 q7), cX6_4 cI g0 (stR o24_0 7 q7), cX6_5 cI g0 (stR o24_0 7 q7), cX6_6 cI g0 (stR o24_0 7 q7), cX6_7 cI g0 (stR o24_0 7 q7), cX2 a1 g1 o1, cX2_0 cI g1 o1])) hx hb hml hown hts hKK hP hD hS hA (c_X2_letterAt l dC dI cB cI cZ cO a1 g1 o1 x8 hq9) [9, 10] (atAll_map ⟨rfl, rfl, trivial⟩) (by decide +kernel) (sameAd_map ⟨rfl, rfl, trivial⟩) (atAll_map ⟨rfl, rfl, trivial⟩) (agr_refl _ _ _) (cwV 1 hts gX6_endOfItem_X2_letterAt rfl rfl rfl ⟨rfl, dsc_X2_letterAt⟩ ⟨Nat.le_of_ble_eq_true rfl, Nat.le_of_ble_eq_true rfl⟩) (va_recv hKK.1 hP (ci := 2) (q0 := 9) rfl rfl) rfl hl.1 rfl (Nat.le_of_ble_eq_true rfl) dX6_endOfItem_73 ⟨Nat.zero_le _, Nat.zero_le _⟩ (fun H locs hP hD hS => ?_)
            refine lv_iload hx hb dX6_endOfItem_76 (lv_at hl 5 rfl) ?_
            refine lv_iload_n hx hb dX6_endOfItem_78 rfl (lv_at hl 4 rfl) ?_
            refine lv_iconst (v := (1 : Int32)) hx hb dX6_endOfItem_79 (by decide) ?_
            refine lv_isub hx hb dX6_endOfItem_80 ?_
            have jn91 : ∀ (y91_1 : Int32), f_X6_endOfItem_91 x24_5 o24_0 (f_X6_endOfItem_24 o1 y15_0 nn24) q7 x8 q9 y91_1 = some r → ∀ (H : Heap) (locs : List Loc) (ls : Array Slot), va_P (dC, dI) vwCl ([cX6 a0 g0 (stR o24_0 7 q7), cX6_0 cI g0 (stR o24_0 7 q7), cX6_1 cI g0 (stR o24_0 7 q7), cX6_2 cI g0 (stR o24_0 7 q7), cX6_3 cI g0 (stR o24_0 7 q7), cX6_4 cI g0 (stR o24_0 7 q7), cX6_5 cI g0 (stR o24_0 7 q7), cX6_6 cI g0 (stR o24_0 7 q7), cX6_7 cI g0 (stR o24_0 7 q7), cX2 a1 g1 o1, cX2_0 cI g1 o1]) H → va_D A ([cX6 a0 g0 (stR o24_0 7 q7), cX6_0 cI g0 (stR o24_0 7 q7), cX6_1 cI g0 (stR o24_0 7 q7), cX6_2 cI g0 (stR o24_0 7 q7), cX6_3 cI g0 (stR o24_0 7 q7), cX6_4 cI g0 (stR o24_0 7 q7), cX6_5 cI g0 (stR o24_0 7 q7), cX6_6 cI g0 (stR o24_0 7 q7), cX6_7 cI g0 (stR o24_0 7 q7), cX2 a1 g1 o1, cX2_0 cI g1 o1]) → va_S A s.heap H locs → lv_has ls 7 [(0, .ref a0), (1, .ref a1), (3, .int y15_0), (4, .int x8), (5, .int x24_5)] → W p l e (headSpec wsX6_endOfItem rmX6_endOfItem).room s m ([.ref a0, .ref a1, .int v2] : List Value).toArray below meth c H locs 0 0 Q (F0 m 91 ls [.int y91_1, .int q9]) := by
              intro y91_1 h H locs ls hP hD hS hl
              rw [f_X6_endOfItem_91] at h
              refine lv_icmp_eq (tgt := 97) hx hb dX6_endOfItem_91 (by decide) (fun k10 => ?_) (fun k10 => ?_)
              · have h := ite_t k10 h
                obtain ⟨x11, hx11, h⟩ := bnd_e h
                refine lv_iinc (v := x11) (lv' := [(4, .int x11), (0, .ref a0), (1, .ref a1), (3, .int y15_0), (5, .int x24_5)]) hx hb dX6_endOfItem_97 hl (k := 3) rfl (by rw [← hx11]; rfl) (by decide) rfl (fun ls hl => ?_)
                obtain ⟨x12, hx12, h⟩ := bnd_e h
                refine lv_iinc (v := x12) (lv' := [(5, .int x12), (4, .int x11), (0, .ref a0), (1, .ref a1), (3, .int y15_0)]) hx hb dX6_endOfItem_100 hl (k := 4) rfl (by rw [← hx12]; rfl) (by decide) rfl (fun ls hl => ?_)
                refine lv_goto (tgt := 24) hx hb dX6_endOfItem_103 (by decide) ?_
                exact ih24 x11 x12 (stR o24_0 7 q7) h _ _ _ hP hD hS (lv_sub hl [2, 3, 4, 1, 0] rfl)
              · have h := ite_f k10 h
                refine lv_bipush (v := (-4 : Int32)) hx hb dX6_endOfItem_94 (by decide) ?_
                have h := Option.some.inj h
                subst h
                subst hQ
                exact W.iret (v := (-4 : Int32)) hx hb hr (fun t ht hW => ⟨⟨rfl, by rw [ht]; exact hP, hD⟩, hS.F ht⟩) hS.2.2 dX6_endOfItem_96
            refine lv_icmp_ge (tgt := 89) hx hb dX6_endOfItem_81 (by decide) (fun k13 => ?_) (fun k13 => ?_)
            · have h := ite_t k13 h
              refine lv_bipush (v := (59 : Int32)) hx hb dX6_endOfItem_89 (by decide) ?_
              exact jn91 (59 : Int32) h _ _ _ hP hD hS (lv_sub hl [2, 3, 4, 0, 5] rfl)
            · have h := ite_f k13 h
              refine lv_bipush (v := (44 : Int32)) hx hb dX6_endOfItem_84 (by decide) ?_
              refine lv_goto (tgt := 91) hx hb dX6_endOfItem_86 (by decide) ?_
              exact jn91 (44 : Int32) h _ _ _ hP hD hS (lv_sub hl [2, 3, 4, 0, 5] rfl)
          · have h := ite_t k5 h
            refine lv_bipush (v := (-4 : Int32)) hx hb dX6_endOfItem_43 (by decide) ?_
            have h := Option.some.inj h
            subst h
            subst hQ
            exact W.iret (v := (-4 : Int32)) hx hb hr (fun t ht hW => ⟨⟨rfl, by rw [ht]; exact hP, hD⟩, hS.F ht⟩) hS.2.2 dX6_endOfItem_45
    exact lp24 FU x2 (0 : Int32) o0 h _ _ _ hP hD hS (lv_sub hl [3, 4, 2, 1, 0] rfl)
  refine lv_icmp_ne (tgt := 14) hx hb dX6_endOfItem_7 (by decide) (fun k14 => ?_) (fun k14 => ?_)
  · have h := ite_f k14 h
    refine lv_iconst (v := (1 : Int32)) hx hb dX6_endOfItem_14 (by decide) ?_
    exact jn15 (1 : Int32) h _ _ _ hP hD hS (lv_sub hl [0, 1, 2] rfl)
  · have h := ite_t k14 h
    refine lv_iconst (v := (3 : Int32)) hx hb dX6_endOfItem_10 (by decide) ?_
    refine lv_goto (tgt := 15) hx hb dX6_endOfItem_11 (by decide) ?_
    exact jn15 (3 : Int32) h _ _ _ hP hD hS (lv_sub hl [0, 1, 2] rfl)
def f_X6_addOne (o0 : Ob) (v1 : Int32) (v2 : Int32) : Option (Bool × Ob) := (f_X7_cell 2 (o0.2 1) v1).bind fun q1 : Int32 => if (6 : Int32) ≤ q1 then (some (false, o0)) else (if v2 ≤ (60 : Int32) then (bnd (f_X7_oneOf v1 q1) fun q4 : Int32 => (f_X7_setCell 12 (o0.2 0) q4 v2).bind fun q5 : (Nat → Int32) => (f_X7_setCell 2 (o0.2 1) v1 (q1 + (1 : Int32))).bind fun q6 : (Nat → Int32) => some (true, (stR (stR o0 0 q5) 1 q6))) else (some (false, o0)))
abbrev rmX6_addOne : Room := { frames := 1, cells := 0, slots := 0, locals := 22 }
theorem dsc_X6_addOne : yX6_addOne.cls ≠ "java/lang/invoke/MethodHandle" ∧ yX6_addOne.cls ≠ "java/lang/invoke/VarHandle" ∧ (parseMethodDescriptor yX6_addOne.desc).map (fun d => d.parameters.length) = some 2 := by decide +kernel
set_option maxHeartbeats 4000000 in
set_option maxRecDepth 100000 in
theorem c_X6_addOne (l : Launch) (dC : Nat → ClassId) (dI : Nat → Nat → Nat) (cB cI cZ cO : ClassId) (a0 : Nat) (g0 : Nat → Nat) (o0 : Ob) (v1 : Int32) (v2 : Int32) {r : Bool × Ob} (h : f_X6_addOne o0 v1 v2 = some r) : Ct dC dI cB cI cZ cO l yX6_addOne wsX6_addOne rmX6_addOne [.ref a0, .int v1, .int v2] ([cX6 a0 g0 o0, cX6_0 cI g0 o0, cX6_1 cI g0 o0, cX6_2 cI g0 o0, cX6_3 cI g0 o0, cX6_4 cI g0 o0, cX6_5 cI g0 o0, cX6_6 cI g0 o0, cX6_7 cI g0 o0]) (some (.int (b2i r.1))) ([cX6 a0 g0 r.2, cX6_0 cI g0 r.2, cX6_1 cI g0 r.2, cX6_2 cI g0 r.2, cX6_3 cI g0 r.2, cX6_4 cI g0 r.2, cX6_5 cI g0 r.2, cX6_6 cI g0 r.2, cX6_7 cI g0 r.2]) := by
  intro sz
  refine Met.ofW (cc := cX6_addOne) (maxL := 4) (ret := (some .boolean)) (by decide) rfl ?_
  intro p e s m args below meth c s₁ B hml hv
  obtain ⟨rfl, hsz, hP, hKK, hD0⟩ := hv
  have hx := B.exec
  have hb := B.bytes
  have hr := B.returns
  have hts := atoms_spec (ws := wsX6_addOne) B.pre
  have hown : s.vm.findClass RX6 = some m.cls := findClass_of_methodNamed B.named
  have hlocks := B.notSynchronized
  have hiX6 : ∀ w ∈ u_ws RX6 TX6 11, w ∈ wsX6_addOne := fun w h => List.mem_cons_of_mem _ (List.mem_append_right _ h)
  subst hsz
  have hD := hD0.self (sz := s.heap.size)
  generalize hAe : va_A ([cX6 a0 g0 o0, cX6_0 cI g0 o0, cX6_1 cI g0 o0, cX6_2 cI g0 o0, cX6_3 cI g0 o0, cX6_4 cI g0 o0, cX6_5 cI g0 o0, cX6_6 cI g0 o0, cX6_7 cI g0 o0]) s.heap.size = A at hD ⊢
  have hA : ∀ q : Nat, s.heap.size ≤ q → A q := fun q h => by rw [← hAe]; exact Or.inr h
  have hS : va_S A s.heap s.heap [] := va_S.rf
  have hP : va_P (dC, dI) vwCl ([cX6 a0 g0 o0, cX6_0 cI g0 o0, cX6_1 cI g0 o0, cX6_2 cI g0 o0, cX6_3 cI g0 o0, cX6_4 cI g0 o0, cX6_5 cI g0 o0, cX6_6 cI g0 o0, cX6_7 cI g0 o0]) s.heap := hP
  have hD : va_D A ([cX6 a0 g0 o0, cX6_0 cI g0 o0, cX6_1 cI g0 o0, cX6_2 cI g0 o0, cX6_3 cI g0 o0, cX6_4 cI g0 o0, cX6_5 cI g0 o0, cX6_6 cI g0 o0, cX6_7 cI g0 o0]) := hD
  have hl := lv_entry ([.ref a0, .int v1, .int v2]) (n := 4) (Nat.le_of_ble_eq_true rfl)
  rw [lg_entry_eq]
  generalize (lg_sl ([.ref a0, .int v1, .int v2]) ++ List.replicate (4 - (lg_sl ([.ref a0, .int v1, .int v2])).length) Slot.unset).toArray = ls at hl ⊢
  have hl : lv_has ls 4 [(0, .ref a0), (1, .int v1), (2, .int v2)] := hl
  obtain ⟨Q, hQ⟩ : ∃ Q, Q = MQ below (Qq dC dI (some (.int (b2i r.1))) ([cX6 a0 g0 r.2, cX6_0 cI g0 r.2, cX6_1 cI g0 r.2, cX6_2 cI g0 r.2, cX6_3 cI g0 r.2, cX6_4 cI g0 r.2, cX6_5 cI g0 r.2, cX6_6 cI g0 r.2, cX6_7 cI g0 r.2]) A) ([.ref a0, .int v1, .int v2] : List Value).toArray s 0 0 A := ⟨_, rfl⟩
  rw [← hQ]
  rw [f_X6_addOne] at h
  clear hAe hD0
  refine lv_aload_n hx hb dX6_addOne_0 rfl (lv_at hl 0 rfl) ?_
  refine va_get (D := (dC, dI)) (ci := 6) (v := .ref (g0 1)) (C := RX6) (T := TX6) (N := 11) hx hb hts hiX6 hown hKK.1 hP 0 rfl rfl 1 (by decide) (hts (.fieldLink RX6 15 "SlideLand$Told" "ofLand" "[I") (List.mem_of_getElem? (i := 1) rfl)) (fun _ h9 => h9) rfl dX6_addOne_1 ?_
  refine lv_iload_n hx hb dX6_addOne_4 rfl (lv_at hl 1 rfl) ?_
  obtain ⟨q1, hq1, h⟩ := obd_e h
  refine kcN (rest := []) (w2 := ([cX6 a0 g0 o0, cX6_0 cI g0 o0, cX6_1 cI g0 o0, cX6_2 cI g0 o0, cX6_3 cI g0 o0, cX6_4 cI g0 o0, cX6_5 cI g0 o0, cX6_6 cI g0 o0, cX6_7 cI g0 o0])) hx hb hml hown hts hKK hP hD hS hA (c_X7_cell l dC dI cB cI cZ cO (g0 1) 2 (o0.2 1) v1 hq1) [2] (atAll_map ⟨rfl, trivial⟩) (by decide +kernel) (sameAd_map ⟨rfl, trivial⟩) (atAll_map ⟨rfl, trivial⟩) (agr_refl _ _ _) ⟨va_cnB 2 hts gX6_addOne_X7_cell_n77 rfl rfl rfl (hKK.2 _ (nws_in 3 rfl)) (hts (.initialized RX7) (List.mem_of_getElem? (i := 4) rfl)) dsc_X7_cell ⟨Nat.le_of_ble_eq_true rfl, Nat.le_of_ble_eq_true rfl⟩, hts (.static yX7_cell) (List.mem_of_getElem? (i := 3) rfl), trivial⟩ rfl hl.1 rfl (Nat.le_of_ble_eq_true rfl) dX6_addOne_5 ⟨Nat.zero_le _, Nat.zero_le _⟩ (fun H locs hP hD hS => ?_)
  refine lv_istore_n (lv' := [(3, .int q1), (0, .ref a0), (1, .int v1), (2, .int v2)]) hx hb dX6_addOne_8 rfl hl (by decide) rfl (fun ls hl => ?_)
  refine lv_iload_n hx hb dX6_addOne_9 rfl (lv_at hl 0 rfl) ?_
  refine lv_bipush (v := (6 : Int32)) hx hb dX6_addOne_10 (by decide) ?_
  refine lv_icmp_ge (tgt := 21) hx hb dX6_addOne_12 (by decide) (fun k2 => ?_) (fun k2 => ?_)
  · have h := ite_t k2 h
    refine lv_iconst (v := (0 : Int32)) hx hb dX6_addOne_21 (by decide) ?_
    have h := Option.some.inj h
    subst h
    subst hQ
    exact W.zret (v := (0 : Int32)) hx hb hr rfl (fun t ht hW => ⟨⟨rfl, by rw [ht]; exact hP, hD⟩, hS.F ht⟩) hS.2.2 dX6_addOne_22
  · have h := ite_f k2 h
    refine lv_iload_n hx hb dX6_addOne_15 rfl (lv_at hl 3 rfl) ?_
    refine lv_bipush (v := (60 : Int32)) hx hb dX6_addOne_16 (by decide) ?_
    refine lv_icmp_le (tgt := 23) hx hb dX6_addOne_18 (by decide) (fun k3 => ?_) (fun k3 => ?_)
    · have h := ite_t k3 h
      refine lv_aload_n hx hb dX6_addOne_23 rfl (lv_at hl 1 rfl) ?_
      refine va_get (D := (dC, dI)) (ci := 6) (v := .ref (g0 0)) (C := RX6) (T := TX6) (N := 11) hx hb hts hiX6 hown hKK.1 hP 0 rfl rfl 0 (by decide) (hts (.fieldLink RX6 9 "SlideLand$Told" "oneInch" "[I") (List.mem_of_getElem? (i := 2) rfl)) (fun _ h9 => h9) rfl dX6_addOne_24 ?_
      refine lv_iload_n hx hb dX6_addOne_27 rfl (lv_at hl 2 rfl) ?_
      refine lv_iload_n hx hb dX6_addOne_28 rfl (lv_at hl 0 rfl) ?_
      obtain ⟨q4, hq4, h⟩ := bnd_e h
      refine kcN (rest := [.ref (g0 0)]) (w2 := ([cX6 a0 g0 o0, cX6_0 cI g0 o0, cX6_1 cI g0 o0, cX6_2 cI g0 o0, cX6_3 cI g0 o0, cX6_4 cI g0 o0, cX6_5 cI g0 o0, cX6_6 cI g0 o0, cX6_7 cI g0 o0])) hx hb hml hown hts hKK hP hD hS hA (c_X7_oneOf l dC dI cB cI cZ cO v1 q1 hq4) [] (atAll_map trivial) (by decide +kernel) (sameAd_map trivial) (atAll_map trivial) (agr_refl _ _ _) ⟨va_cnB 2 hts gX6_addOne_X7_oneOf_n95 rfl rfl rfl (hKK.2 _ (nws_in 4 rfl)) (hts (.initialized RX7) (List.mem_of_getElem? (i := 4) rfl)) dsc_X7_oneOf ⟨Nat.le_of_ble_eq_true rfl, Nat.le_of_ble_eq_true rfl⟩, hts (.static yX7_oneOf) (List.mem_of_getElem? (i := 6) rfl), trivial⟩ rfl hl.1 rfl (Nat.le_of_ble_eq_true rfl) dX6_addOne_29 ⟨Nat.zero_le _, Nat.zero_le _⟩ (fun H locs hP hD hS => ?_)
      refine lv_iload_n hx hb dX6_addOne_32 rfl (lv_at hl 3 rfl) ?_
      obtain ⟨q5, hq5, h⟩ := obd_e h
      refine kcN (rest := []) (w2 := ([cX6 a0 g0 (stR o0 0 q5), cX6_0 cI g0 (stR o0 0 q5), cX6_1 cI g0 (stR o0 0 q5), cX6_2 cI g0 (stR o0 0 q5), cX6_3 cI g0 (stR o0 0 q5), cX6_4 cI g0 (stR o0 0 q5), cX6_5 cI g0 (stR o0 0 q5), cX6_6 cI g0 (stR o0 0 q5), cX6_7 cI g0 (stR o0 0 q5)])) hx hb hml hown hts hKK hP hD hS hA (c_X7_setCell l dC dI cB cI cZ cO (g0 0) 12 (o0.2 0) q4 v2 hq5) [1] (atAll_map ⟨rfl, trivial⟩) (by decide +kernel) (sameAd_map ⟨rfl, trivial⟩) (atAll_map ⟨rfl, trivial⟩) ⟨Or.inl rfl, Or.inr (by decide), Or.inl rfl, Or.inl rfl, Or.inl rfl, Or.inl rfl, Or.inl rfl, Or.inl rfl, Or.inl rfl, trivial⟩ ⟨va_cnB 3 hts gX6_addOne_X7_setCell_n57 rfl rfl rfl (hKK.2 _ (nws_in 1 rfl)) (hts (.initialized RX7) (List.mem_of_getElem? (i := 4) rfl)) dsc_X7_setCell ⟨Nat.le_of_ble_eq_true rfl, Nat.le_of_ble_eq_true rfl⟩, hts (.static yX7_setCell) (List.mem_of_getElem? (i := 8) rfl), trivial⟩ rfl hl.1 rfl (Nat.le_of_ble_eq_true rfl) dX6_addOne_33 ⟨Nat.zero_le _, Nat.zero_le _⟩ (fun H locs hP hD hS => ?_)
      refine lv_aload_n hx hb dX6_addOne_36 rfl (lv_at hl 1 rfl) ?_
      refine va_get (D := (dC, dI)) (ci := 6) (v := .ref (g0 1)) (C := RX6) (T := TX6) (N := 11) hx hb hts hiX6 hown hKK.1 hP 0 rfl rfl 1 (by decide) (hts (.fieldLink RX6 15 "SlideLand$Told" "ofLand" "[I") (List.mem_of_getElem? (i := 1) rfl)) (fun _ h9 => h9) rfl dX6_addOne_37 ?_
      refine lv_iload_n hx hb dX6_addOne_40 rfl (lv_at hl 2 rfl) ?_
      refine lv_iload_n hx hb dX6_addOne_41 rfl (lv_at hl 0 rfl) ?_
      refine lv_iconst (v := (1 : Int32)) hx hb dX6_addOne_42 (by decide) ?_
      refine lv_iadd hx hb dX6_addOne_43 ?_
      obtain ⟨q6, hq6, h⟩ := obd_e h
      refine kcN (rest := []) (w2 := ([cX6 a0 g0 (stR (stR o0 0 q5) 1 q6), cX6_0 cI g0 (stR (stR o0 0 q5) 1 q6), cX6_1 cI g0 (stR (stR o0 0 q5) 1 q6), cX6_2 cI g0 (stR (stR o0 0 q5) 1 q6), cX6_3 cI g0 (stR (stR o0 0 q5) 1 q6), cX6_4 cI g0 (stR (stR o0 0 q5) 1 q6), cX6_5 cI g0 (stR (stR o0 0 q5) 1 q6), cX6_6 cI g0 (stR (stR o0 0 q5) 1 q6), cX6_7 cI g0 (stR (stR o0 0 q5) 1 q6)])) hx hb hml hown hts hKK hP hD hS hA (c_X7_setCell l dC dI cB cI cZ cO (g0 1) 2 (o0.2 1) v1 (q1 + (1 : Int32)) hq6) [2] (atAll_map ⟨rfl, trivial⟩) (by decide +kernel) (sameAd_map ⟨rfl, trivial⟩) (atAll_map ⟨rfl, trivial⟩) ⟨Or.inl rfl, Or.inl rfl, Or.inr (by decide), Or.inl rfl, Or.inl rfl, Or.inl rfl, Or.inl rfl, Or.inl rfl, Or.inl rfl, trivial⟩ ⟨va_cnB 3 hts gX6_addOne_X7_setCell_n57 rfl rfl rfl (hKK.2 _ (nws_in 1 rfl)) (hts (.initialized RX7) (List.mem_of_getElem? (i := 4) rfl)) dsc_X7_setCell ⟨Nat.le_of_ble_eq_true rfl, Nat.le_of_ble_eq_true rfl⟩, hts (.static yX7_setCell) (List.mem_of_getElem? (i := 8) rfl), trivial⟩ rfl hl.1 rfl (Nat.le_of_ble_eq_true rfl) dX6_addOne_44 ⟨Nat.zero_le _, Nat.zero_le _⟩ (fun H locs hP hD hS => ?_)
      refine lv_iconst (v := (1 : Int32)) hx hb dX6_addOne_47 (by decide) ?_
      have h := Option.some.inj h
      subst h
      subst hQ
      exact W.zret (v := (1 : Int32)) hx hb hr rfl (fun t ht hW => ⟨⟨rfl, by rw [ht]; exact hP, hD⟩, hS.F ht⟩) hS.2.2 dX6_addOne_48
    · have h := ite_f k3 h
      refine lv_iconst (v := (0 : Int32)) hx hb dX6_addOne_21 (by decide) ?_
      have h := Option.some.inj h
      subst h
      subst hQ
      exact W.zret (v := (0 : Int32)) hx hb hr rfl (fun t ht hW => ⟨⟨rfl, by rw [ht]; exact hP, hD⟩, hS.F ht⟩) hS.2.2 dX6_addOne_22
def f_X6_addStrip (o0 : Ob) (v1 : Int32) (v2 : Int32) (v3 : Int32) : Option (Bool × Ob) := if (7 : Int32) ≤ (o0.1 8) then (some (false, o0)) else (if (3 : Int32) < v1 then (some (false, o0)) else (if (60 : Int32) < v2 then (some (false, o0)) else (if v3 ≤ (99 : Int32) then ((f_X7_setCell 7 (o0.2 2) (o0.1 8) v1).bind fun q5 : (Nat → Int32) => (f_X7_setCell 7 (o0.2 3) (o0.1 8) v2).bind fun q6 : (Nat → Int32) => (f_X7_setCell 7 (o0.2 4) (o0.1 8) v3).bind fun q7 : (Nat → Int32) => bnd ((o0.1 8) + (1 : Int32)) fun x8 : Int32 => some (true, (stR (stR (stR (stF o0 8 x8) 2 q5) 3 q6) 4 q7))) else (some (false, o0)))))
abbrev rmX6_addStrip : Room := { frames := 1, cells := 0, slots := 0, locals := 22 }
theorem dsc_X6_addStrip : yX6_addStrip.cls ≠ "java/lang/invoke/MethodHandle" ∧ yX6_addStrip.cls ≠ "java/lang/invoke/VarHandle" ∧ (parseMethodDescriptor yX6_addStrip.desc).map (fun d => d.parameters.length) = some 3 := by decide +kernel
set_option maxHeartbeats 4000000 in
set_option maxRecDepth 100000 in
theorem c_X6_addStrip (l : Launch) (dC : Nat → ClassId) (dI : Nat → Nat → Nat) (cB cI cZ cO : ClassId) (a0 : Nat) (g0 : Nat → Nat) (o0 : Ob) (v1 : Int32) (v2 : Int32) (v3 : Int32) {r : Bool × Ob} (h : f_X6_addStrip o0 v1 v2 v3 = some r) : Ct dC dI cB cI cZ cO l yX6_addStrip wsX6_addStrip rmX6_addStrip [.ref a0, .int v1, .int v2, .int v3] ([cX6 a0 g0 o0, cX6_0 cI g0 o0, cX6_1 cI g0 o0, cX6_2 cI g0 o0, cX6_3 cI g0 o0, cX6_4 cI g0 o0, cX6_5 cI g0 o0, cX6_6 cI g0 o0, cX6_7 cI g0 o0]) (some (.int (b2i r.1))) ([cX6 a0 g0 r.2, cX6_0 cI g0 r.2, cX6_1 cI g0 r.2, cX6_2 cI g0 r.2, cX6_3 cI g0 r.2, cX6_4 cI g0 r.2, cX6_5 cI g0 r.2, cX6_6 cI g0 r.2, cX6_7 cI g0 r.2]) := by
  intro sz
  refine Met.ofW (cc := cX6_addStrip) (maxL := 4) (ret := (some .boolean)) (by decide) rfl ?_
  intro p e s m args below meth c s₁ B hml hv
  obtain ⟨rfl, hsz, hP, hKK, hD0⟩ := hv
  have hx := B.exec
  have hb := B.bytes
  have hr := B.returns
  have hts := atoms_spec (ws := wsX6_addStrip) B.pre
  have hown : s.vm.findClass RX6 = some m.cls := findClass_of_methodNamed B.named
  have hlocks := B.notSynchronized
  have hiX6 : ∀ w ∈ u_ws RX6 TX6 11, w ∈ wsX6_addStrip := fun w h => List.mem_cons_of_mem _ (List.mem_append_right _ h)
  subst hsz
  have hD := hD0.self (sz := s.heap.size)
  generalize hAe : va_A ([cX6 a0 g0 o0, cX6_0 cI g0 o0, cX6_1 cI g0 o0, cX6_2 cI g0 o0, cX6_3 cI g0 o0, cX6_4 cI g0 o0, cX6_5 cI g0 o0, cX6_6 cI g0 o0, cX6_7 cI g0 o0]) s.heap.size = A at hD ⊢
  have hA : ∀ q : Nat, s.heap.size ≤ q → A q := fun q h => by rw [← hAe]; exact Or.inr h
  have hS : va_S A s.heap s.heap [] := va_S.rf
  have hP : va_P (dC, dI) vwCl ([cX6 a0 g0 o0, cX6_0 cI g0 o0, cX6_1 cI g0 o0, cX6_2 cI g0 o0, cX6_3 cI g0 o0, cX6_4 cI g0 o0, cX6_5 cI g0 o0, cX6_6 cI g0 o0, cX6_7 cI g0 o0]) s.heap := hP
  have hD : va_D A ([cX6 a0 g0 o0, cX6_0 cI g0 o0, cX6_1 cI g0 o0, cX6_2 cI g0 o0, cX6_3 cI g0 o0, cX6_4 cI g0 o0, cX6_5 cI g0 o0, cX6_6 cI g0 o0, cX6_7 cI g0 o0]) := hD
  have hl := lv_entry ([.ref a0, .int v1, .int v2, .int v3]) (n := 4) (Nat.le_of_ble_eq_true rfl)
  rw [lg_entry_eq]
  generalize (lg_sl ([.ref a0, .int v1, .int v2, .int v3]) ++ List.replicate (4 - (lg_sl ([.ref a0, .int v1, .int v2, .int v3])).length) Slot.unset).toArray = ls at hl ⊢
  have hl : lv_has ls 4 [(0, .ref a0), (1, .int v1), (2, .int v2), (3, .int v3)] := hl
  obtain ⟨Q, hQ⟩ : ∃ Q, Q = MQ below (Qq dC dI (some (.int (b2i r.1))) ([cX6 a0 g0 r.2, cX6_0 cI g0 r.2, cX6_1 cI g0 r.2, cX6_2 cI g0 r.2, cX6_3 cI g0 r.2, cX6_4 cI g0 r.2, cX6_5 cI g0 r.2, cX6_6 cI g0 r.2, cX6_7 cI g0 r.2]) A) ([.ref a0, .int v1, .int v2, .int v3] : List Value).toArray s 0 0 A := ⟨_, rfl⟩
  rw [← hQ]
  rw [f_X6_addStrip] at h
  clear hAe hD0
  refine lv_aload_n hx hb dX6_addStrip_0 rfl (lv_at hl 0 rfl) ?_
  refine va_get (D := (dC, dI)) (ci := 6) (v := .int (o0.1 8)) (C := RX6) (T := TX6) (N := 11) hx hb hts hiX6 hown hKK.1 hP 0 rfl rfl 8 (by decide) (hts (.fieldLink RX6 61 "SlideLand$Told" "strips" "I") (List.mem_of_getElem? (i := 1) rfl)) (fun _ h9 => h9) rfl dX6_addStrip_1 ?_
  refine lv_bipush (v := (7 : Int32)) hx hb dX6_addStrip_4 (by decide) ?_
  refine lv_icmp_ge (tgt := 26) hx hb dX6_addStrip_6 (by decide) (fun k1 => ?_) (fun k1 => ?_)
  · have h := ite_t k1 h
    refine lv_iconst (v := (0 : Int32)) hx hb dX6_addStrip_26 (by decide) ?_
    have h := Option.some.inj h
    subst h
    subst hQ
    exact W.zret (v := (0 : Int32)) hx hb hr rfl (fun t ht hW => ⟨⟨rfl, by rw [ht]; exact hP, hD⟩, hS.F ht⟩) hS.2.2 dX6_addStrip_27
  · have h := ite_f k1 h
    refine lv_iload_n hx hb dX6_addStrip_9 rfl (lv_at hl 1 rfl) ?_
    refine lv_iconst (v := (3 : Int32)) hx hb dX6_addStrip_10 (by decide) ?_
    refine lv_icmp_gt (tgt := 26) hx hb dX6_addStrip_11 (by decide) (fun k2 => ?_) (fun k2 => ?_)
    · have h := ite_t k2 h
      refine lv_iconst (v := (0 : Int32)) hx hb dX6_addStrip_26 (by decide) ?_
      have h := Option.some.inj h
      subst h
      subst hQ
      exact W.zret (v := (0 : Int32)) hx hb hr rfl (fun t ht hW => ⟨⟨rfl, by rw [ht]; exact hP, hD⟩, hS.F ht⟩) hS.2.2 dX6_addStrip_27
    · have h := ite_f k2 h
      refine lv_iload_n hx hb dX6_addStrip_14 rfl (lv_at hl 2 rfl) ?_
      refine lv_bipush (v := (60 : Int32)) hx hb dX6_addStrip_15 (by decide) ?_
      refine lv_icmp_gt (tgt := 26) hx hb dX6_addStrip_17 (by decide) (fun k3 => ?_) (fun k3 => ?_)
      · have h := ite_t k3 h
        refine lv_iconst (v := (0 : Int32)) hx hb dX6_addStrip_26 (by decide) ?_
        have h := Option.some.inj h
        subst h
        subst hQ
        exact W.zret (v := (0 : Int32)) hx hb hr rfl (fun t ht hW => ⟨⟨rfl, by rw [ht]; exact hP, hD⟩, hS.F ht⟩) hS.2.2 dX6_addStrip_27
      · have h := ite_f k3 h
        refine lv_iload_n hx hb dX6_addStrip_20 rfl (lv_at hl 3 rfl) ?_
        refine lv_bipush (v := (99 : Int32)) hx hb dX6_addStrip_21 (by decide) ?_
        refine lv_icmp_le (tgt := 28) hx hb dX6_addStrip_23 (by decide) (fun k4 => ?_) (fun k4 => ?_)
        · have h := ite_t k4 h
          refine lv_aload_n hx hb dX6_addStrip_28 rfl (lv_at hl 0 rfl) ?_
          refine va_get (D := (dC, dI)) (ci := 6) (v := .ref (g0 2)) (C := RX6) (T := TX6) (N := 11) hx hb hts hiX6 hown hKK.1 hP 0 rfl rfl 2 (by decide) (hts (.fieldLink RX6 18 "SlideLand$Told" "kind" "[I") (List.mem_of_getElem? (i := 2) rfl)) (fun _ h9 => h9) rfl dX6_addStrip_29 ?_
          refine lv_aload_n hx hb dX6_addStrip_32 rfl (lv_at hl 0 rfl) ?_
          refine va_get (D := (dC, dI)) (ci := 6) (v := .int (o0.1 8)) (C := RX6) (T := TX6) (N := 11) hx hb hts hiX6 hown hKK.1 hP 0 rfl rfl 8 (by decide) (hts (.fieldLink RX6 61 "SlideLand$Told" "strips" "I") (List.mem_of_getElem? (i := 1) rfl)) (fun _ h9 => h9) rfl dX6_addStrip_33 ?_
          refine lv_iload_n hx hb dX6_addStrip_36 rfl (lv_at hl 1 rfl) ?_
          obtain ⟨q5, hq5, h⟩ := obd_e h
          refine kcN (rest := []) (w2 := ([cX6 a0 g0 (stR o0 2 q5), cX6_0 cI g0 (stR o0 2 q5), cX6_1 cI g0 (stR o0 2 q5), cX6_2 cI g0 (stR o0 2 q5), cX6_3 cI g0 (stR o0 2 q5), cX6_4 cI g0 (stR o0 2 q5), cX6_5 cI g0 (stR o0 2 q5), cX6_6 cI g0 (stR o0 2 q5), cX6_7 cI g0 (stR o0 2 q5)])) hx hb hml hown hts hKK hP hD hS hA (c_X7_setCell l dC dI cB cI cZ cO (g0 2) 7 (o0.2 2) (o0.1 8) v1 hq5) [3] (atAll_map ⟨rfl, trivial⟩) (by decide +kernel) (sameAd_map ⟨rfl, trivial⟩) (atAll_map ⟨rfl, trivial⟩) ⟨Or.inl rfl, Or.inl rfl, Or.inl rfl, Or.inr (by decide), Or.inl rfl, Or.inl rfl, Or.inl rfl, Or.inl rfl, Or.inl rfl, trivial⟩ ⟨va_cnB 3 hts gX6_addStrip_X7_setCell_n57 rfl rfl rfl (hKK.2 _ (nws_in 1 rfl)) (hts (.initialized RX7) (List.mem_of_getElem? (i := 6) rfl)) dsc_X7_setCell ⟨Nat.le_of_ble_eq_true rfl, Nat.le_of_ble_eq_true rfl⟩, hts (.static yX7_setCell) (List.mem_of_getElem? (i := 5) rfl), trivial⟩ rfl hl.1 rfl (Nat.le_of_ble_eq_true rfl) dX6_addStrip_37 ⟨Nat.zero_le _, Nat.zero_le _⟩ (fun H locs hP hD hS => ?_)
          refine lv_aload_n hx hb dX6_addStrip_40 rfl (lv_at hl 0 rfl) ?_
          refine va_get (D := (dC, dI)) (ci := 6) (v := .ref (g0 3)) (C := RX6) (T := TX6) (N := 11) hx hb hts hiX6 hown hKK.1 hP 0 rfl rfl 3 (by decide) (hts (.fieldLink RX6 21 "SlideLand$Told" "stripInch" "[I") (List.mem_of_getElem? (i := 3) rfl)) (fun _ h9 => h9) rfl dX6_addStrip_41 ?_
          refine lv_aload_n hx hb dX6_addStrip_44 rfl (lv_at hl 0 rfl) ?_
          refine va_get (D := (dC, dI)) (ci := 6) (v := .int (o0.1 8)) (C := RX6) (T := TX6) (N := 11) hx hb hts hiX6 hown hKK.1 hP 0 rfl rfl 8 (by decide) (hts (.fieldLink RX6 61 "SlideLand$Told" "strips" "I") (List.mem_of_getElem? (i := 1) rfl)) (fun _ h9 => h9) rfl dX6_addStrip_45 ?_
          refine lv_iload_n hx hb dX6_addStrip_48 rfl (lv_at hl 2 rfl) ?_
          obtain ⟨q6, hq6, h⟩ := obd_e h
          refine kcN (rest := []) (w2 := ([cX6 a0 g0 (stR (stR o0 2 q5) 3 q6), cX6_0 cI g0 (stR (stR o0 2 q5) 3 q6), cX6_1 cI g0 (stR (stR o0 2 q5) 3 q6), cX6_2 cI g0 (stR (stR o0 2 q5) 3 q6), cX6_3 cI g0 (stR (stR o0 2 q5) 3 q6), cX6_4 cI g0 (stR (stR o0 2 q5) 3 q6), cX6_5 cI g0 (stR (stR o0 2 q5) 3 q6), cX6_6 cI g0 (stR (stR o0 2 q5) 3 q6), cX6_7 cI g0 (stR (stR o0 2 q5) 3 q6)])) hx hb hml hown hts hKK hP hD hS hA (c_X7_setCell l dC dI cB cI cZ cO (g0 3) 7 (o0.2 3) (o0.1 8) v2 hq6) [4] (atAll_map ⟨rfl, trivial⟩) (by decide +kernel) (sameAd_map ⟨rfl, trivial⟩) (atAll_map ⟨rfl, trivial⟩) ⟨Or.inl rfl, Or.inl rfl, Or.inl rfl, Or.inl rfl, Or.inr (by decide), Or.inl rfl, Or.inl rfl, Or.inl rfl, Or.inl rfl, trivial⟩ ⟨va_cnB 3 hts gX6_addStrip_X7_setCell_n57 rfl rfl rfl (hKK.2 _ (nws_in 1 rfl)) (hts (.initialized RX7) (List.mem_of_getElem? (i := 6) rfl)) dsc_X7_setCell ⟨Nat.le_of_ble_eq_true rfl, Nat.le_of_ble_eq_true rfl⟩, hts (.static yX7_setCell) (List.mem_of_getElem? (i := 5) rfl), trivial⟩ rfl hl.1 rfl (Nat.le_of_ble_eq_true rfl) dX6_addStrip_49 ⟨Nat.zero_le _, Nat.zero_le _⟩ (fun H locs hP hD hS => ?_)
          refine lv_aload_n hx hb dX6_addStrip_52 rfl (lv_at hl 0 rfl) ?_
          refine va_get (D := (dC, dI)) (ci := 6) (v := .ref (g0 4)) (C := RX6) (T := TX6) (N := 11) hx hb hts hiX6 hown hKK.1 hP 0 rfl rfl 4 (by decide) (hts (.fieldLink RX6 24 "SlideLand$Told" "firstGoods" "[I") (List.mem_of_getElem? (i := 4) rfl)) (fun _ h9 => h9) rfl dX6_addStrip_53 ?_
          refine lv_aload_n hx hb dX6_addStrip_56 rfl (lv_at hl 0 rfl) ?_
          refine va_get (D := (dC, dI)) (ci := 6) (v := .int (o0.1 8)) (C := RX6) (T := TX6) (N := 11) hx hb hts hiX6 hown hKK.1 hP 0 rfl rfl 8 (by decide) (hts (.fieldLink RX6 61 "SlideLand$Told" "strips" "I") (List.mem_of_getElem? (i := 1) rfl)) (fun _ h9 => h9) rfl dX6_addStrip_57 ?_
          refine lv_iload_n hx hb dX6_addStrip_60 rfl (lv_at hl 3 rfl) ?_
          obtain ⟨q7, hq7, h⟩ := obd_e h
          refine kcN (rest := []) (w2 := ([cX6 a0 g0 (stR (stR (stR o0 2 q5) 3 q6) 4 q7), cX6_0 cI g0 (stR (stR (stR o0 2 q5) 3 q6) 4 q7), cX6_1 cI g0 (stR (stR (stR o0 2 q5) 3 q6) 4 q7), cX6_2 cI g0 (stR (stR (stR o0 2 q5) 3 q6) 4 q7), cX6_3 cI g0 (stR (stR (stR o0 2 q5) 3 q6) 4 q7), cX6_4 cI g0 (stR (stR (stR o0 2 q5) 3 q6) 4 q7), cX6_5 cI g0 (stR (stR (stR o0 2 q5) 3 q6) 4 q7), cX6_6 cI g0 (stR (stR (stR o0 2 q5) 3 q6) 4 q7), cX6_7 cI g0 (stR (stR (stR o0 2 q5) 3 q6) 4 q7)])) hx hb hml hown hts hKK hP hD hS hA (c_X7_setCell l dC dI cB cI cZ cO (g0 4) 7 (o0.2 4) (o0.1 8) v3 hq7) [5] (atAll_map ⟨rfl, trivial⟩) (by decide +kernel) (sameAd_map ⟨rfl, trivial⟩) (atAll_map ⟨rfl, trivial⟩) ⟨Or.inl rfl, Or.inl rfl, Or.inl rfl, Or.inl rfl, Or.inl rfl, Or.inr (by decide), Or.inl rfl, Or.inl rfl, Or.inl rfl, trivial⟩ ⟨va_cnB 3 hts gX6_addStrip_X7_setCell_n57 rfl rfl rfl (hKK.2 _ (nws_in 1 rfl)) (hts (.initialized RX7) (List.mem_of_getElem? (i := 6) rfl)) dsc_X7_setCell ⟨Nat.le_of_ble_eq_true rfl, Nat.le_of_ble_eq_true rfl⟩, hts (.static yX7_setCell) (List.mem_of_getElem? (i := 5) rfl), trivial⟩ rfl hl.1 rfl (Nat.le_of_ble_eq_true rfl) dX6_addStrip_61 ⟨Nat.zero_le _, Nat.zero_le _⟩ (fun H locs hP hD hS => ?_)
          refine lv_aload_n hx hb dX6_addStrip_64 rfl (lv_at hl 0 rfl) ?_
          refine lv_dup hx hb dX6_addStrip_65 rfl ?_
          refine va_get (D := (dC, dI)) (ci := 6) (v := .int (o0.1 8)) (C := RX6) (T := TX6) (N := 11) hx hb hts hiX6 hown hKK.1 hP 0 rfl rfl 8 (by decide) (hts (.fieldLink RX6 61 "SlideLand$Told" "strips" "I") (List.mem_of_getElem? (i := 1) rfl)) (fun _ h9 => h9) rfl dX6_addStrip_66 ?_
          refine lv_iconst (v := (1 : Int32)) hx hb dX6_addStrip_69 (by decide) ?_
          refine lv_iadd hx hb dX6_addStrip_70 ?_
          obtain ⟨x8, hx8, h⟩ := bnd_e h
          rw [hx8]
          refine va_put (D := (dC, dI)) (ci := 6) (v := .int x8) (ty := .int) (C := RX6) (T := TX6) (N := 11) hx hb hts hiX6 tyX6 tyX6_ok nmX6 hown hKK.1 hP hD hS 0 rfl rfl 8 (by decide) (hts (.fieldLink RX6 61 "SlideLand$Told" "strips" "I") (List.mem_of_getElem? (i := 1) rfl)) (fun _ h9 => h9) rfl (by decide +kernel) rfl rfl (Nat.le_of_ble_eq_true rfl) dX6_addStrip_71 (fun H locs hP hD hS => ?_)
          have hP : va_P (dC, dI) vwCl ([cX6 a0 g0 (stR (stR (stR (stF o0 8 x8) 2 q5) 3 q6) 4 q7), cX6_0 cI g0 (stR (stR (stR (stF o0 8 x8) 2 q5) 3 q6) 4 q7), cX6_1 cI g0 (stR (stR (stR (stF o0 8 x8) 2 q5) 3 q6) 4 q7), cX6_2 cI g0 (stR (stR (stR (stF o0 8 x8) 2 q5) 3 q6) 4 q7), cX6_3 cI g0 (stR (stR (stR (stF o0 8 x8) 2 q5) 3 q6) 4 q7), cX6_4 cI g0 (stR (stR (stR (stF o0 8 x8) 2 q5) 3 q6) 4 q7), cX6_5 cI g0 (stR (stR (stR (stF o0 8 x8) 2 q5) 3 q6) 4 q7), cX6_6 cI g0 (stR (stR (stR (stF o0 8 x8) 2 q5) 3 q6) 4 q7), cX6_7 cI g0 (stR (stR (stR (stF o0 8 x8) 2 q5) 3 q6) 4 q7)]) H := hP
          have hD : va_D A ([cX6 a0 g0 (stR (stR (stR (stF o0 8 x8) 2 q5) 3 q6) 4 q7), cX6_0 cI g0 (stR (stR (stR (stF o0 8 x8) 2 q5) 3 q6) 4 q7), cX6_1 cI g0 (stR (stR (stR (stF o0 8 x8) 2 q5) 3 q6) 4 q7), cX6_2 cI g0 (stR (stR (stR (stF o0 8 x8) 2 q5) 3 q6) 4 q7), cX6_3 cI g0 (stR (stR (stR (stF o0 8 x8) 2 q5) 3 q6) 4 q7), cX6_4 cI g0 (stR (stR (stR (stF o0 8 x8) 2 q5) 3 q6) 4 q7), cX6_5 cI g0 (stR (stR (stR (stF o0 8 x8) 2 q5) 3 q6) 4 q7), cX6_6 cI g0 (stR (stR (stR (stF o0 8 x8) 2 q5) 3 q6) 4 q7), cX6_7 cI g0 (stR (stR (stR (stF o0 8 x8) 2 q5) 3 q6) 4 q7)]) := hD
          refine lv_iconst (v := (1 : Int32)) hx hb dX6_addStrip_74 (by decide) ?_
          have h := Option.some.inj h
          subst h
          subst hQ
          exact W.zret (v := (1 : Int32)) hx hb hr rfl (fun t ht hW => ⟨⟨rfl, by rw [ht]; exact hP, hD⟩, hS.F ht⟩) hS.2.2 dX6_addStrip_75
        · have h := ite_f k4 h
          refine lv_iconst (v := (0 : Int32)) hx hb dX6_addStrip_26 (by decide) ?_
          have h := Option.some.inj h
          subst h
          subst hQ
          exact W.zret (v := (0 : Int32)) hx hb hr rfl (fun t ht hW => ⟨⟨rfl, by rw [ht]; exact hP, hD⟩, hS.F ht⟩) hS.2.2 dX6_addStrip_27
def f_X6_addPush (o0 : Ob) (v1 : Int32) : Option (Bool × Ob) := if (4 : Int32) ≤ (o0.1 9) then (some (false, o0)) else (bnd (f_X7_within v1 (1 : Int32) (20 : Int32)) fun q2 : Bool => if (b2i q2) = 0 then (some (false, o0)) else ((f_X7_setCell 4 (o0.2 5) (o0.1 9) v1).bind fun q4 : (Nat → Int32) => bnd ((o0.1 9) + (1 : Int32)) fun x5 : Int32 => some (true, (stR (stF o0 9 x5) 5 q4))))
abbrev rmX6_addPush : Room := { frames := 1, cells := 0, slots := 0, locals := 22 }
theorem dsc_X6_addPush : yX6_addPush.cls ≠ "java/lang/invoke/MethodHandle" ∧ yX6_addPush.cls ≠ "java/lang/invoke/VarHandle" ∧ (parseMethodDescriptor yX6_addPush.desc).map (fun d => d.parameters.length) = some 1 := by decide +kernel
set_option maxHeartbeats 4000000 in
set_option maxRecDepth 100000 in
theorem c_X6_addPush (l : Launch) (dC : Nat → ClassId) (dI : Nat → Nat → Nat) (cB cI cZ cO : ClassId) (a0 : Nat) (g0 : Nat → Nat) (o0 : Ob) (v1 : Int32) {r : Bool × Ob} (h : f_X6_addPush o0 v1 = some r) : Ct dC dI cB cI cZ cO l yX6_addPush wsX6_addPush rmX6_addPush [.ref a0, .int v1] ([cX6 a0 g0 o0, cX6_0 cI g0 o0, cX6_1 cI g0 o0, cX6_2 cI g0 o0, cX6_3 cI g0 o0, cX6_4 cI g0 o0, cX6_5 cI g0 o0, cX6_6 cI g0 o0, cX6_7 cI g0 o0]) (some (.int (b2i r.1))) ([cX6 a0 g0 r.2, cX6_0 cI g0 r.2, cX6_1 cI g0 r.2, cX6_2 cI g0 r.2, cX6_3 cI g0 r.2, cX6_4 cI g0 r.2, cX6_5 cI g0 r.2, cX6_6 cI g0 r.2, cX6_7 cI g0 r.2]) := by
  intro sz
  refine Met.ofW (cc := cX6_addPush) (maxL := 2) (ret := (some .boolean)) (by decide) rfl ?_
  intro p e s m args below meth c s₁ B hml hv
  obtain ⟨rfl, hsz, hP, hKK, hD0⟩ := hv
  have hx := B.exec
  have hb := B.bytes
  have hr := B.returns
  have hts := atoms_spec (ws := wsX6_addPush) B.pre
  have hown : s.vm.findClass RX6 = some m.cls := findClass_of_methodNamed B.named
  have hlocks := B.notSynchronized
  have hiX6 : ∀ w ∈ u_ws RX6 TX6 11, w ∈ wsX6_addPush := fun w h => List.mem_cons_of_mem _ (List.mem_append_right _ h)
  subst hsz
  have hD := hD0.self (sz := s.heap.size)
  generalize hAe : va_A ([cX6 a0 g0 o0, cX6_0 cI g0 o0, cX6_1 cI g0 o0, cX6_2 cI g0 o0, cX6_3 cI g0 o0, cX6_4 cI g0 o0, cX6_5 cI g0 o0, cX6_6 cI g0 o0, cX6_7 cI g0 o0]) s.heap.size = A at hD ⊢
  have hA : ∀ q : Nat, s.heap.size ≤ q → A q := fun q h => by rw [← hAe]; exact Or.inr h
  have hS : va_S A s.heap s.heap [] := va_S.rf
  have hP : va_P (dC, dI) vwCl ([cX6 a0 g0 o0, cX6_0 cI g0 o0, cX6_1 cI g0 o0, cX6_2 cI g0 o0, cX6_3 cI g0 o0, cX6_4 cI g0 o0, cX6_5 cI g0 o0, cX6_6 cI g0 o0, cX6_7 cI g0 o0]) s.heap := hP
  have hD : va_D A ([cX6 a0 g0 o0, cX6_0 cI g0 o0, cX6_1 cI g0 o0, cX6_2 cI g0 o0, cX6_3 cI g0 o0, cX6_4 cI g0 o0, cX6_5 cI g0 o0, cX6_6 cI g0 o0, cX6_7 cI g0 o0]) := hD
  have hl := lv_entry ([.ref a0, .int v1]) (n := 2) (Nat.le_of_ble_eq_true rfl)
  rw [lg_entry_eq]
  generalize (lg_sl ([.ref a0, .int v1]) ++ List.replicate (2 - (lg_sl ([.ref a0, .int v1])).length) Slot.unset).toArray = ls at hl ⊢
  have hl : lv_has ls 2 [(0, .ref a0), (1, .int v1)] := hl
  obtain ⟨Q, hQ⟩ : ∃ Q, Q = MQ below (Qq dC dI (some (.int (b2i r.1))) ([cX6 a0 g0 r.2, cX6_0 cI g0 r.2, cX6_1 cI g0 r.2, cX6_2 cI g0 r.2, cX6_3 cI g0 r.2, cX6_4 cI g0 r.2, cX6_5 cI g0 r.2, cX6_6 cI g0 r.2, cX6_7 cI g0 r.2]) A) ([.ref a0, .int v1] : List Value).toArray s 0 0 A := ⟨_, rfl⟩
  rw [← hQ]
  rw [f_X6_addPush] at h
  clear hAe hD0
  refine lv_aload_n hx hb dX6_addPush_0 rfl (lv_at hl 0 rfl) ?_
  refine va_get (D := (dC, dI)) (ci := 6) (v := .int (o0.1 9)) (C := RX6) (T := TX6) (N := 11) hx hb hts hiX6 hown hKK.1 hP 0 rfl rfl 9 (by decide) (hts (.fieldLink RX6 64 "SlideLand$Told" "pushes" "I") (List.mem_of_getElem? (i := 1) rfl)) (fun _ h9 => h9) rfl dX6_addPush_1 ?_
  refine lv_iconst (v := (4 : Int32)) hx hb dX6_addPush_4 (by decide) ?_
  refine lv_icmp_ge (tgt := 18) hx hb dX6_addPush_5 (by decide) (fun k1 => ?_) (fun k1 => ?_)
  · have h := ite_t k1 h
    refine lv_iconst (v := (0 : Int32)) hx hb dX6_addPush_18 (by decide) ?_
    have h := Option.some.inj h
    subst h
    subst hQ
    exact W.zret (v := (0 : Int32)) hx hb hr rfl (fun t ht hW => ⟨⟨rfl, by rw [ht]; exact hP, hD⟩, hS.F ht⟩) hS.2.2 dX6_addPush_19
  · have h := ite_f k1 h
    refine lv_iload_n hx hb dX6_addPush_8 rfl (lv_at hl 1 rfl) ?_
    refine lv_iconst (v := (1 : Int32)) hx hb dX6_addPush_9 (by decide) ?_
    refine lv_bipush (v := (20 : Int32)) hx hb dX6_addPush_10 (by decide) ?_
    obtain ⟨q2, hq2, h⟩ := bnd_e h
    refine kcN (rest := []) (w2 := ([cX6 a0 g0 o0, cX6_0 cI g0 o0, cX6_1 cI g0 o0, cX6_2 cI g0 o0, cX6_3 cI g0 o0, cX6_4 cI g0 o0, cX6_5 cI g0 o0, cX6_6 cI g0 o0, cX6_7 cI g0 o0])) hx hb hml hown hts hKK hP hD hS hA (c_X7_within l dC dI cB cI cZ cO v1 (1 : Int32) (20 : Int32) hq2) [] (atAll_map trivial) (by decide +kernel) (sameAd_map trivial) (atAll_map trivial) (agr_refl _ _ _) ⟨va_cnB 3 hts gX6_addPush_X7_within_n98 rfl rfl rfl (hKK.2 _ (nws_in 5 rfl)) (hts (.initialized RX7) (List.mem_of_getElem? (i := 4) rfl)) dsc_X7_within ⟨Nat.le_of_ble_eq_true rfl, Nat.le_of_ble_eq_true rfl⟩, hts (.static yX7_within) (List.mem_of_getElem? (i := 3) rfl), trivial⟩ rfl hl.1 rfl (Nat.le_of_ble_eq_true rfl) dX6_addPush_12 ⟨Nat.zero_le _, Nat.zero_le _⟩ (fun H locs hP hD hS => ?_)
    refine lv_if_ne (tgt := 20) hx hb dX6_addPush_15 (by decide) (fun k3 => ?_) (fun k3 => ?_)
    · have h := ite_f k3 h
      refine lv_aload_n hx hb dX6_addPush_20 rfl (lv_at hl 0 rfl) ?_
      refine va_get (D := (dC, dI)) (ci := 6) (v := .ref (g0 5)) (C := RX6) (T := TX6) (N := 11) hx hb hts hiX6 hown hKK.1 hP 0 rfl rfl 5 (by decide) (hts (.fieldLink RX6 27 "SlideLand$Told" "pushed" "[I") (List.mem_of_getElem? (i := 2) rfl)) (fun _ h9 => h9) rfl dX6_addPush_21 ?_
      refine lv_aload_n hx hb dX6_addPush_24 rfl (lv_at hl 0 rfl) ?_
      refine va_get (D := (dC, dI)) (ci := 6) (v := .int (o0.1 9)) (C := RX6) (T := TX6) (N := 11) hx hb hts hiX6 hown hKK.1 hP 0 rfl rfl 9 (by decide) (hts (.fieldLink RX6 64 "SlideLand$Told" "pushes" "I") (List.mem_of_getElem? (i := 1) rfl)) (fun _ h9 => h9) rfl dX6_addPush_25 ?_
      refine lv_iload_n hx hb dX6_addPush_28 rfl (lv_at hl 1 rfl) ?_
      obtain ⟨q4, hq4, h⟩ := obd_e h
      refine kcN (rest := []) (w2 := ([cX6 a0 g0 (stR o0 5 q4), cX6_0 cI g0 (stR o0 5 q4), cX6_1 cI g0 (stR o0 5 q4), cX6_2 cI g0 (stR o0 5 q4), cX6_3 cI g0 (stR o0 5 q4), cX6_4 cI g0 (stR o0 5 q4), cX6_5 cI g0 (stR o0 5 q4), cX6_6 cI g0 (stR o0 5 q4), cX6_7 cI g0 (stR o0 5 q4)])) hx hb hml hown hts hKK hP hD hS hA (c_X7_setCell l dC dI cB cI cZ cO (g0 5) 4 (o0.2 5) (o0.1 9) v1 hq4) [6] (atAll_map ⟨rfl, trivial⟩) (by decide +kernel) (sameAd_map ⟨rfl, trivial⟩) (atAll_map ⟨rfl, trivial⟩) ⟨Or.inl rfl, Or.inl rfl, Or.inl rfl, Or.inl rfl, Or.inl rfl, Or.inl rfl, Or.inr (by decide), Or.inl rfl, Or.inl rfl, trivial⟩ ⟨va_cnB 3 hts gX6_addPush_X7_setCell_n57 rfl rfl rfl (hKK.2 _ (nws_in 1 rfl)) (hts (.initialized RX7) (List.mem_of_getElem? (i := 4) rfl)) dsc_X7_setCell ⟨Nat.le_of_ble_eq_true rfl, Nat.le_of_ble_eq_true rfl⟩, hts (.static yX7_setCell) (List.mem_of_getElem? (i := 6) rfl), trivial⟩ rfl hl.1 rfl (Nat.le_of_ble_eq_true rfl) dX6_addPush_29 ⟨Nat.zero_le _, Nat.zero_le _⟩ (fun H locs hP hD hS => ?_)
      refine lv_aload_n hx hb dX6_addPush_32 rfl (lv_at hl 0 rfl) ?_
      refine lv_dup hx hb dX6_addPush_33 rfl ?_
      refine va_get (D := (dC, dI)) (ci := 6) (v := .int (o0.1 9)) (C := RX6) (T := TX6) (N := 11) hx hb hts hiX6 hown hKK.1 hP 0 rfl rfl 9 (by decide) (hts (.fieldLink RX6 64 "SlideLand$Told" "pushes" "I") (List.mem_of_getElem? (i := 1) rfl)) (fun _ h9 => h9) rfl dX6_addPush_34 ?_
      refine lv_iconst (v := (1 : Int32)) hx hb dX6_addPush_37 (by decide) ?_
      refine lv_iadd hx hb dX6_addPush_38 ?_
      obtain ⟨x5, hx5, h⟩ := bnd_e h
      rw [hx5]
      refine va_put (D := (dC, dI)) (ci := 6) (v := .int x5) (ty := .int) (C := RX6) (T := TX6) (N := 11) hx hb hts hiX6 tyX6 tyX6_ok nmX6 hown hKK.1 hP hD hS 0 rfl rfl 9 (by decide) (hts (.fieldLink RX6 64 "SlideLand$Told" "pushes" "I") (List.mem_of_getElem? (i := 1) rfl)) (fun _ h9 => h9) rfl (by decide +kernel) rfl rfl (Nat.le_of_ble_eq_true rfl) dX6_addPush_39 (fun H locs hP hD hS => ?_)
      have hP : va_P (dC, dI) vwCl ([cX6 a0 g0 (stR (stF o0 9 x5) 5 q4), cX6_0 cI g0 (stR (stF o0 9 x5) 5 q4), cX6_1 cI g0 (stR (stF o0 9 x5) 5 q4), cX6_2 cI g0 (stR (stF o0 9 x5) 5 q4), cX6_3 cI g0 (stR (stF o0 9 x5) 5 q4), cX6_4 cI g0 (stR (stF o0 9 x5) 5 q4), cX6_5 cI g0 (stR (stF o0 9 x5) 5 q4), cX6_6 cI g0 (stR (stF o0 9 x5) 5 q4), cX6_7 cI g0 (stR (stF o0 9 x5) 5 q4)]) H := hP
      have hD : va_D A ([cX6 a0 g0 (stR (stF o0 9 x5) 5 q4), cX6_0 cI g0 (stR (stF o0 9 x5) 5 q4), cX6_1 cI g0 (stR (stF o0 9 x5) 5 q4), cX6_2 cI g0 (stR (stF o0 9 x5) 5 q4), cX6_3 cI g0 (stR (stF o0 9 x5) 5 q4), cX6_4 cI g0 (stR (stF o0 9 x5) 5 q4), cX6_5 cI g0 (stR (stF o0 9 x5) 5 q4), cX6_6 cI g0 (stR (stF o0 9 x5) 5 q4), cX6_7 cI g0 (stR (stF o0 9 x5) 5 q4)]) := hD
      refine lv_iconst (v := (1 : Int32)) hx hb dX6_addPush_42 (by decide) ?_
      have h := Option.some.inj h
      subst h
      subst hQ
      exact W.zret (v := (1 : Int32)) hx hb hr rfl (fun t ht hW => ⟨⟨rfl, by rw [ht]; exact hP, hD⟩, hS.F ht⟩) hS.2.2 dX6_addPush_43
    · have h := ite_t k3 h
      refine lv_iconst (v := (0 : Int32)) hx hb dX6_addPush_18 (by decide) ?_
      have h := Option.some.inj h
      subst h
      subst hQ
      exact W.zret (v := (0 : Int32)) hx hb hr rfl (fun t ht hW => ⟨⟨rfl, by rw [ht]; exact hP, hD⟩, hS.F ht⟩) hS.2.2 dX6_addPush_19
def f_X6_addDamp (o0 : Ob) (v1 : Int32) : Option (Bool × Ob) := if (8 : Int32) ≤ (o0.1 10) then (some (false, o0)) else (if v1 ≤ (3 : Int32) then ((f_X7_setCell 8 (o0.2 6) (o0.1 10) v1).bind fun q3 : (Nat → Int32) => bnd ((o0.1 10) + (1 : Int32)) fun x4 : Int32 => some (true, (stR (stF o0 10 x4) 6 q3))) else (some (false, o0)))
abbrev rmX6_addDamp : Room := { frames := 1, cells := 0, slots := 0, locals := 22 }
theorem dsc_X6_addDamp : yX6_addDamp.cls ≠ "java/lang/invoke/MethodHandle" ∧ yX6_addDamp.cls ≠ "java/lang/invoke/VarHandle" ∧ (parseMethodDescriptor yX6_addDamp.desc).map (fun d => d.parameters.length) = some 1 := by decide +kernel
set_option maxHeartbeats 4000000 in
set_option maxRecDepth 100000 in
theorem c_X6_addDamp (l : Launch) (dC : Nat → ClassId) (dI : Nat → Nat → Nat) (cB cI cZ cO : ClassId) (a0 : Nat) (g0 : Nat → Nat) (o0 : Ob) (v1 : Int32) {r : Bool × Ob} (h : f_X6_addDamp o0 v1 = some r) : Ct dC dI cB cI cZ cO l yX6_addDamp wsX6_addDamp rmX6_addDamp [.ref a0, .int v1] ([cX6 a0 g0 o0, cX6_0 cI g0 o0, cX6_1 cI g0 o0, cX6_2 cI g0 o0, cX6_3 cI g0 o0, cX6_4 cI g0 o0, cX6_5 cI g0 o0, cX6_6 cI g0 o0, cX6_7 cI g0 o0]) (some (.int (b2i r.1))) ([cX6 a0 g0 r.2, cX6_0 cI g0 r.2, cX6_1 cI g0 r.2, cX6_2 cI g0 r.2, cX6_3 cI g0 r.2, cX6_4 cI g0 r.2, cX6_5 cI g0 r.2, cX6_6 cI g0 r.2, cX6_7 cI g0 r.2]) := by
  intro sz
  refine Met.ofW (cc := cX6_addDamp) (maxL := 2) (ret := (some .boolean)) (by decide) rfl ?_
  intro p e s m args below meth c s₁ B hml hv
  obtain ⟨rfl, hsz, hP, hKK, hD0⟩ := hv
  have hx := B.exec
  have hb := B.bytes
  have hr := B.returns
  have hts := atoms_spec (ws := wsX6_addDamp) B.pre
  have hown : s.vm.findClass RX6 = some m.cls := findClass_of_methodNamed B.named
  have hlocks := B.notSynchronized
  have hiX6 : ∀ w ∈ u_ws RX6 TX6 11, w ∈ wsX6_addDamp := fun w h => List.mem_cons_of_mem _ (List.mem_append_right _ h)
  subst hsz
  have hD := hD0.self (sz := s.heap.size)
  generalize hAe : va_A ([cX6 a0 g0 o0, cX6_0 cI g0 o0, cX6_1 cI g0 o0, cX6_2 cI g0 o0, cX6_3 cI g0 o0, cX6_4 cI g0 o0, cX6_5 cI g0 o0, cX6_6 cI g0 o0, cX6_7 cI g0 o0]) s.heap.size = A at hD ⊢
  have hA : ∀ q : Nat, s.heap.size ≤ q → A q := fun q h => by rw [← hAe]; exact Or.inr h
  have hS : va_S A s.heap s.heap [] := va_S.rf
  have hP : va_P (dC, dI) vwCl ([cX6 a0 g0 o0, cX6_0 cI g0 o0, cX6_1 cI g0 o0, cX6_2 cI g0 o0, cX6_3 cI g0 o0, cX6_4 cI g0 o0, cX6_5 cI g0 o0, cX6_6 cI g0 o0, cX6_7 cI g0 o0]) s.heap := hP
  have hD : va_D A ([cX6 a0 g0 o0, cX6_0 cI g0 o0, cX6_1 cI g0 o0, cX6_2 cI g0 o0, cX6_3 cI g0 o0, cX6_4 cI g0 o0, cX6_5 cI g0 o0, cX6_6 cI g0 o0, cX6_7 cI g0 o0]) := hD
  have hl := lv_entry ([.ref a0, .int v1]) (n := 2) (Nat.le_of_ble_eq_true rfl)
  rw [lg_entry_eq]
  generalize (lg_sl ([.ref a0, .int v1]) ++ List.replicate (2 - (lg_sl ([.ref a0, .int v1])).length) Slot.unset).toArray = ls at hl ⊢
  have hl : lv_has ls 2 [(0, .ref a0), (1, .int v1)] := hl
  obtain ⟨Q, hQ⟩ : ∃ Q, Q = MQ below (Qq dC dI (some (.int (b2i r.1))) ([cX6 a0 g0 r.2, cX6_0 cI g0 r.2, cX6_1 cI g0 r.2, cX6_2 cI g0 r.2, cX6_3 cI g0 r.2, cX6_4 cI g0 r.2, cX6_5 cI g0 r.2, cX6_6 cI g0 r.2, cX6_7 cI g0 r.2]) A) ([.ref a0, .int v1] : List Value).toArray s 0 0 A := ⟨_, rfl⟩
  rw [← hQ]
  rw [f_X6_addDamp] at h
  clear hAe hD0
  refine lv_aload_n hx hb dX6_addDamp_0 rfl (lv_at hl 0 rfl) ?_
  refine va_get (D := (dC, dI)) (ci := 6) (v := .int (o0.1 10)) (C := RX6) (T := TX6) (N := 11) hx hb hts hiX6 hown hKK.1 hP 0 rfl rfl 10 (by decide) (hts (.fieldLink RX6 67 "SlideLand$Told" "dampYears" "I") (List.mem_of_getElem? (i := 1) rfl)) (fun _ h9 => h9) rfl dX6_addDamp_1 ?_
  refine lv_bipush (v := (8 : Int32)) hx hb dX6_addDamp_4 (by decide) ?_
  refine lv_icmp_ge (tgt := 14) hx hb dX6_addDamp_6 (by decide) (fun k1 => ?_) (fun k1 => ?_)
  · have h := ite_t k1 h
    refine lv_iconst (v := (0 : Int32)) hx hb dX6_addDamp_14 (by decide) ?_
    have h := Option.some.inj h
    subst h
    subst hQ
    exact W.zret (v := (0 : Int32)) hx hb hr rfl (fun t ht hW => ⟨⟨rfl, by rw [ht]; exact hP, hD⟩, hS.F ht⟩) hS.2.2 dX6_addDamp_15
  · have h := ite_f k1 h
    refine lv_iload_n hx hb dX6_addDamp_9 rfl (lv_at hl 1 rfl) ?_
    refine lv_iconst (v := (3 : Int32)) hx hb dX6_addDamp_10 (by decide) ?_
    refine lv_icmp_le (tgt := 16) hx hb dX6_addDamp_11 (by decide) (fun k2 => ?_) (fun k2 => ?_)
    · have h := ite_t k2 h
      refine lv_aload_n hx hb dX6_addDamp_16 rfl (lv_at hl 0 rfl) ?_
      refine va_get (D := (dC, dI)) (ci := 6) (v := .ref (g0 6)) (C := RX6) (T := TX6) (N := 11) hx hb hts hiX6 hown hKK.1 hP 0 rfl rfl 6 (by decide) (hts (.fieldLink RX6 30 "SlideLand$Told" "damps" "[I") (List.mem_of_getElem? (i := 2) rfl)) (fun _ h9 => h9) rfl dX6_addDamp_17 ?_
      refine lv_aload_n hx hb dX6_addDamp_20 rfl (lv_at hl 0 rfl) ?_
      refine va_get (D := (dC, dI)) (ci := 6) (v := .int (o0.1 10)) (C := RX6) (T := TX6) (N := 11) hx hb hts hiX6 hown hKK.1 hP 0 rfl rfl 10 (by decide) (hts (.fieldLink RX6 67 "SlideLand$Told" "dampYears" "I") (List.mem_of_getElem? (i := 1) rfl)) (fun _ h9 => h9) rfl dX6_addDamp_21 ?_
      refine lv_iload_n hx hb dX6_addDamp_24 rfl (lv_at hl 1 rfl) ?_
      obtain ⟨q3, hq3, h⟩ := obd_e h
      refine kcN (rest := []) (w2 := ([cX6 a0 g0 (stR o0 6 q3), cX6_0 cI g0 (stR o0 6 q3), cX6_1 cI g0 (stR o0 6 q3), cX6_2 cI g0 (stR o0 6 q3), cX6_3 cI g0 (stR o0 6 q3), cX6_4 cI g0 (stR o0 6 q3), cX6_5 cI g0 (stR o0 6 q3), cX6_6 cI g0 (stR o0 6 q3), cX6_7 cI g0 (stR o0 6 q3)])) hx hb hml hown hts hKK hP hD hS hA (c_X7_setCell l dC dI cB cI cZ cO (g0 6) 8 (o0.2 6) (o0.1 10) v1 hq3) [7] (atAll_map ⟨rfl, trivial⟩) (by decide +kernel) (sameAd_map ⟨rfl, trivial⟩) (atAll_map ⟨rfl, trivial⟩) ⟨Or.inl rfl, Or.inl rfl, Or.inl rfl, Or.inl rfl, Or.inl rfl, Or.inl rfl, Or.inl rfl, Or.inr (by decide), Or.inl rfl, trivial⟩ ⟨va_cnB 3 hts gX6_addDamp_X7_setCell_n57 rfl rfl rfl (hKK.2 _ (nws_in 1 rfl)) (hts (.initialized RX7) (List.mem_of_getElem? (i := 4) rfl)) dsc_X7_setCell ⟨Nat.le_of_ble_eq_true rfl, Nat.le_of_ble_eq_true rfl⟩, hts (.static yX7_setCell) (List.mem_of_getElem? (i := 3) rfl), trivial⟩ rfl hl.1 rfl (Nat.le_of_ble_eq_true rfl) dX6_addDamp_25 ⟨Nat.zero_le _, Nat.zero_le _⟩ (fun H locs hP hD hS => ?_)
      refine lv_aload_n hx hb dX6_addDamp_28 rfl (lv_at hl 0 rfl) ?_
      refine lv_dup hx hb dX6_addDamp_29 rfl ?_
      refine va_get (D := (dC, dI)) (ci := 6) (v := .int (o0.1 10)) (C := RX6) (T := TX6) (N := 11) hx hb hts hiX6 hown hKK.1 hP 0 rfl rfl 10 (by decide) (hts (.fieldLink RX6 67 "SlideLand$Told" "dampYears" "I") (List.mem_of_getElem? (i := 1) rfl)) (fun _ h9 => h9) rfl dX6_addDamp_30 ?_
      refine lv_iconst (v := (1 : Int32)) hx hb dX6_addDamp_33 (by decide) ?_
      refine lv_iadd hx hb dX6_addDamp_34 ?_
      obtain ⟨x4, hx4, h⟩ := bnd_e h
      rw [hx4]
      refine va_put (D := (dC, dI)) (ci := 6) (v := .int x4) (ty := .int) (C := RX6) (T := TX6) (N := 11) hx hb hts hiX6 tyX6 tyX6_ok nmX6 hown hKK.1 hP hD hS 0 rfl rfl 10 (by decide) (hts (.fieldLink RX6 67 "SlideLand$Told" "dampYears" "I") (List.mem_of_getElem? (i := 1) rfl)) (fun _ h9 => h9) rfl (by decide +kernel) rfl rfl (Nat.le_of_ble_eq_true rfl) dX6_addDamp_35 (fun H locs hP hD hS => ?_)
      have hP : va_P (dC, dI) vwCl ([cX6 a0 g0 (stR (stF o0 10 x4) 6 q3), cX6_0 cI g0 (stR (stF o0 10 x4) 6 q3), cX6_1 cI g0 (stR (stF o0 10 x4) 6 q3), cX6_2 cI g0 (stR (stF o0 10 x4) 6 q3), cX6_3 cI g0 (stR (stF o0 10 x4) 6 q3), cX6_4 cI g0 (stR (stF o0 10 x4) 6 q3), cX6_5 cI g0 (stR (stF o0 10 x4) 6 q3), cX6_6 cI g0 (stR (stF o0 10 x4) 6 q3), cX6_7 cI g0 (stR (stF o0 10 x4) 6 q3)]) H := hP
      have hD : va_D A ([cX6 a0 g0 (stR (stF o0 10 x4) 6 q3), cX6_0 cI g0 (stR (stF o0 10 x4) 6 q3), cX6_1 cI g0 (stR (stF o0 10 x4) 6 q3), cX6_2 cI g0 (stR (stF o0 10 x4) 6 q3), cX6_3 cI g0 (stR (stF o0 10 x4) 6 q3), cX6_4 cI g0 (stR (stF o0 10 x4) 6 q3), cX6_5 cI g0 (stR (stF o0 10 x4) 6 q3), cX6_6 cI g0 (stR (stF o0 10 x4) 6 q3), cX6_7 cI g0 (stR (stF o0 10 x4) 6 q3)]) := hD
      refine lv_iconst (v := (1 : Int32)) hx hb dX6_addDamp_38 (by decide) ?_
      have h := Option.some.inj h
      subst h
      subst hQ
      exact W.zret (v := (1 : Int32)) hx hb hr rfl (fun t ht hW => ⟨⟨rfl, by rw [ht]; exact hP, hD⟩, hS.F ht⟩) hS.2.2 dX6_addDamp_39
    · have h := ite_f k2 h
      refine lv_iconst (v := (0 : Int32)) hx hb dX6_addDamp_14 (by decide) ?_
      have h := Option.some.inj h
      subst h
      subst hQ
      exact W.zret (v := (0 : Int32)) hx hb hr rfl (fun t ht hW => ⟨⟨rfl, by rw [ht]; exact hP, hD⟩, hS.F ht⟩) hS.2.2 dX6_addDamp_15
def f_X6_addItem (o0 : Ob) (v1 : Int32) : Option (Bool × Ob) := (f_X7_cell 3 (o0.2 7) (0 : Int32)).bind fun q1 : Int32 => if v1 = (100 : Int32) then ((f_X6_addDamp o0 q1).bind fun q7 : Bool × Ob => some (q7.1, q7.2)) else if v1 = (108 : Int32) then ((f_X6_addOne o0 (1 : Int32) q1).bind fun q7 : Bool × Ob => some (q7.1, q7.2)) else if v1 = (112 : Int32) then ((f_X6_addPush o0 q1).bind fun q7 : Bool × Ob => some (q7.1, q7.2)) else if v1 = (115 : Int32) then ((f_X7_cell 3 (o0.2 7) (1 : Int32)).bind fun q7 : Int32 => (f_X7_cell 3 (o0.2 7) (2 : Int32)).bind fun q8 : Int32 => (f_X6_addStrip o0 q1 q7 q8).bind fun q9 : Bool × Ob => some (q9.1, q9.2)) else if v1 = (117 : Int32) then ((f_X6_addOne o0 (0 : Int32) q1).bind fun q7 : Bool × Ob => some (q7.1, q7.2)) else (some (false, o0))
abbrev rmX6_addItem : Room := { frames := 2, cells := 0, slots := 0, locals := 45 }
theorem dsc_X6_addItem : yX6_addItem.cls ≠ "java/lang/invoke/MethodHandle" ∧ yX6_addItem.cls ≠ "java/lang/invoke/VarHandle" ∧ (parseMethodDescriptor yX6_addItem.desc).map (fun d => d.parameters.length) = some 1 := by decide +kernel
set_option maxHeartbeats 4000000 in
set_option maxRecDepth 100000 in
theorem c_X6_addItem (l : Launch) (dC : Nat → ClassId) (dI : Nat → Nat → Nat) (cB cI cZ cO : ClassId) (a0 : Nat) (g0 : Nat → Nat) (o0 : Ob) (v1 : Int32) {r : Bool × Ob} (h : f_X6_addItem o0 v1 = some r) : Ct dC dI cB cI cZ cO l yX6_addItem wsX6_addItem rmX6_addItem [.ref a0, .int v1] ([cX6 a0 g0 o0, cX6_0 cI g0 o0, cX6_1 cI g0 o0, cX6_2 cI g0 o0, cX6_3 cI g0 o0, cX6_4 cI g0 o0, cX6_5 cI g0 o0, cX6_6 cI g0 o0, cX6_7 cI g0 o0]) (some (.int (b2i r.1))) ([cX6 a0 g0 r.2, cX6_0 cI g0 r.2, cX6_1 cI g0 r.2, cX6_2 cI g0 r.2, cX6_3 cI g0 r.2, cX6_4 cI g0 r.2, cX6_5 cI g0 r.2, cX6_6 cI g0 r.2, cX6_7 cI g0 r.2]) := by
  intro sz
  refine Met.ofW (cc := cX6_addItem) (maxL := 3) (ret := (some .boolean)) (by decide) rfl ?_
  intro p e s m args below meth c s₁ B hml hv
  obtain ⟨rfl, hsz, hP, hKK, hD0⟩ := hv
  have hx := B.exec
  have hb := B.bytes
  have hr := B.returns
  have hts := atoms_spec (ws := wsX6_addItem) B.pre
  have hown : s.vm.findClass RX6 = some m.cls := findClass_of_methodNamed B.named
  have hlocks := B.notSynchronized
  have hiX6 : ∀ w ∈ u_ws RX6 TX6 11, w ∈ wsX6_addItem := fun w h => List.mem_cons_of_mem _ (List.mem_append_right _ h)
  subst hsz
  have hD := hD0.self (sz := s.heap.size)
  generalize hAe : va_A ([cX6 a0 g0 o0, cX6_0 cI g0 o0, cX6_1 cI g0 o0, cX6_2 cI g0 o0, cX6_3 cI g0 o0, cX6_4 cI g0 o0, cX6_5 cI g0 o0, cX6_6 cI g0 o0, cX6_7 cI g0 o0]) s.heap.size = A at hD ⊢
  have hA : ∀ q : Nat, s.heap.size ≤ q → A q := fun q h => by rw [← hAe]; exact Or.inr h
  have hS : va_S A s.heap s.heap [] := va_S.rf
  have hP : va_P (dC, dI) vwCl ([cX6 a0 g0 o0, cX6_0 cI g0 o0, cX6_1 cI g0 o0, cX6_2 cI g0 o0, cX6_3 cI g0 o0, cX6_4 cI g0 o0, cX6_5 cI g0 o0, cX6_6 cI g0 o0, cX6_7 cI g0 o0]) s.heap := hP
  have hD : va_D A ([cX6 a0 g0 o0, cX6_0 cI g0 o0, cX6_1 cI g0 o0, cX6_2 cI g0 o0, cX6_3 cI g0 o0, cX6_4 cI g0 o0, cX6_5 cI g0 o0, cX6_6 cI g0 o0, cX6_7 cI g0 o0]) := hD
  have hl := lv_entry ([.ref a0, .int v1]) (n := 3) (Nat.le_of_ble_eq_true rfl)
  rw [lg_entry_eq]
  generalize (lg_sl ([.ref a0, .int v1]) ++ List.replicate (3 - (lg_sl ([.ref a0, .int v1])).length) Slot.unset).toArray = ls at hl ⊢
  have hl : lv_has ls 3 [(0, .ref a0), (1, .int v1)] := hl
  obtain ⟨Q, hQ⟩ : ∃ Q, Q = MQ below (Qq dC dI (some (.int (b2i r.1))) ([cX6 a0 g0 r.2, cX6_0 cI g0 r.2, cX6_1 cI g0 r.2, cX6_2 cI g0 r.2, cX6_3 cI g0 r.2, cX6_4 cI g0 r.2, cX6_5 cI g0 r.2, cX6_6 cI g0 r.2, cX6_7 cI g0 r.2]) A) ([.ref a0, .int v1] : List Value).toArray s 0 0 A := ⟨_, rfl⟩
  rw [← hQ]
  rw [f_X6_addItem] at h
  clear hAe hD0
  refine lv_aload_n hx hb dX6_addItem_0 rfl (lv_at hl 0 rfl) ?_
  refine va_get (D := (dC, dI)) (ci := 6) (v := .ref (g0 7)) (C := RX6) (T := TX6) (N := 11) hx hb hts hiX6 hown hKK.1 hP 0 rfl rfl 7 (by decide) (hts (.fieldLink RX6 33 "SlideLand$Told" "numbers" "[I") (List.mem_of_getElem? (i := 1) rfl)) (fun _ h9 => h9) rfl dX6_addItem_1 ?_
  refine lv_iconst (v := (0 : Int32)) hx hb dX6_addItem_4 (by decide) ?_
  obtain ⟨q1, hq1, h⟩ := obd_e h
  refine kcN (rest := []) (w2 := ([cX6 a0 g0 o0, cX6_0 cI g0 o0, cX6_1 cI g0 o0, cX6_2 cI g0 o0, cX6_3 cI g0 o0, cX6_4 cI g0 o0, cX6_5 cI g0 o0, cX6_6 cI g0 o0, cX6_7 cI g0 o0])) hx hb hml hown hts hKK hP hD hS hA (c_X7_cell l dC dI cB cI cZ cO (g0 7) 3 (o0.2 7) (0 : Int32) hq1) [8] (atAll_map ⟨rfl, trivial⟩) (by decide +kernel) (sameAd_map ⟨rfl, trivial⟩) (atAll_map ⟨rfl, trivial⟩) (agr_refl _ _ _) ⟨va_cnB 2 hts gX6_addItem_X7_cell_n77 rfl rfl rfl (hKK.2 _ (nws_in 3 rfl)) (hts (.initialized RX7) (List.mem_of_getElem? (i := 3) rfl)) dsc_X7_cell ⟨Nat.le_of_ble_eq_true rfl, Nat.le_of_ble_eq_true rfl⟩, hts (.static yX7_cell) (List.mem_of_getElem? (i := 2) rfl), trivial⟩ rfl hl.1 rfl (Nat.le_of_ble_eq_true rfl) dX6_addItem_5 ⟨Nat.zero_le _, Nat.zero_le _⟩ (fun H locs hP hD hS => ?_)
  refine lv_istore_n (lv' := [(2, .int q1), (0, .ref a0), (1, .int v1)]) hx hb dX6_addItem_8 rfl hl (by decide) rfl (fun ls hl => ?_)
  refine lv_iload_n hx hb dX6_addItem_9 rfl (lv_at hl 2 rfl) ?_
  by_cases k2 : v1 = (100 : Int32)
  · have h := ite_t k2 h
    refine lv_lookup (off := 92) (tgt := 102) hx hb dX6_addItem_10 (by decide) (by rw [k2]; rfl) (by decide) ?_
    refine lv_aload_n hx hb dX6_addItem_102 rfl (lv_at hl 1 rfl) ?_
    refine lv_iload_n hx hb dX6_addItem_103 rfl (lv_at hl 0 rfl) ?_
    obtain ⟨q7, hq7, h⟩ := obd_e h
    refine kcV (rest := []) (w2 := ([cX6 a0 g0 q7.2, cX6_0 cI g0 q7.2, cX6_1 cI g0 q7.2, cX6_2 cI g0 q7.2, cX6_3 cI g0 q7.2, cX6_4 cI g0 q7.2, cX6_5 cI g0 q7.2, cX6_6 cI g0 q7.2, cX6_7 cI g0 q7.2])) hx hb hml hown hts hKK hP hD hS hA (c_X6_addDamp l dC dI cB cI cZ cO a0 g0 o0 q1 hq7) [0, 1, 2, 3, 4, 5, 6, 7, 8] (atAll_map ⟨rfl, rfl, rfl, rfl, rfl, rfl, rfl, rfl, rfl, trivial⟩) (by decide +kernel) (sameAd_map ⟨rfl, rfl, rfl, rfl, rfl, rfl, rfl, rfl, rfl, trivial⟩) (atAll_map ⟨rfl, rfl, rfl, rfl, rfl, rfl, rfl, rfl, rfl, trivial⟩) ⟨Or.inr (by decide), Or.inr (by decide), Or.inr (by decide), Or.inr (by decide), Or.inr (by decide), Or.inr (by decide), Or.inr (by decide), Or.inr (by decide), Or.inr (by decide), trivial⟩ (cwV 1 hts gX6_addItem_X6_addDamp rfl rfl rfl ⟨rfl, dsc_X6_addDamp⟩ ⟨Nat.le_of_ble_eq_true rfl, Nat.le_of_ble_eq_true rfl⟩) (va_recv hKK.1 hP (ci := 6) (q0 := 0) rfl rfl) rfl hl.1 rfl (Nat.le_of_ble_eq_true rfl) dX6_addItem_104 ⟨Nat.zero_le _, Nat.zero_le _⟩ (fun H locs hP hD hS => ?_)
    have h := Option.some.inj h
    subst h
    subst hQ
    exact W.zret (v := (b2i q7.1)) hx hb hr (b2i_nar _) (fun t ht hW => ⟨⟨rfl, by rw [ht]; exact hP, hD⟩, hS.F ht⟩) hS.2.2 dX6_addItem_107
  · have h := ite_f k2 h
    by_cases k3 : v1 = (108 : Int32)
    · have h := ite_t k3 h
      refine lv_lookup (off := 57) (tgt := 67) hx hb dX6_addItem_10 (by decide) (by rw [k3]; rfl) (by decide) ?_
      refine lv_aload_n hx hb dX6_addItem_67 rfl (lv_at hl 1 rfl) ?_
      refine lv_iconst (v := (1 : Int32)) hx hb dX6_addItem_68 (by decide) ?_
      refine lv_iload_n hx hb dX6_addItem_69 rfl (lv_at hl 0 rfl) ?_
      obtain ⟨q7, hq7, h⟩ := obd_e h
      refine kcV (rest := []) (w2 := ([cX6 a0 g0 q7.2, cX6_0 cI g0 q7.2, cX6_1 cI g0 q7.2, cX6_2 cI g0 q7.2, cX6_3 cI g0 q7.2, cX6_4 cI g0 q7.2, cX6_5 cI g0 q7.2, cX6_6 cI g0 q7.2, cX6_7 cI g0 q7.2])) hx hb hml hown hts hKK hP hD hS hA (c_X6_addOne l dC dI cB cI cZ cO a0 g0 o0 (1 : Int32) q1 hq7) [0, 1, 2, 3, 4, 5, 6, 7, 8] (atAll_map ⟨rfl, rfl, rfl, rfl, rfl, rfl, rfl, rfl, rfl, trivial⟩) (by decide +kernel) (sameAd_map ⟨rfl, rfl, rfl, rfl, rfl, rfl, rfl, rfl, rfl, trivial⟩) (atAll_map ⟨rfl, rfl, rfl, rfl, rfl, rfl, rfl, rfl, rfl, trivial⟩) ⟨Or.inr (by decide), Or.inr (by decide), Or.inr (by decide), Or.inr (by decide), Or.inr (by decide), Or.inr (by decide), Or.inr (by decide), Or.inr (by decide), Or.inr (by decide), trivial⟩ (cwV 2 hts gX6_addItem_X6_addOne rfl rfl rfl ⟨rfl, dsc_X6_addOne⟩ ⟨Nat.le_of_ble_eq_true rfl, Nat.le_of_ble_eq_true rfl⟩) (va_recv hKK.1 hP (ci := 6) (q0 := 0) rfl rfl) rfl hl.1 rfl (Nat.le_of_ble_eq_true rfl) dX6_addItem_70 ⟨Nat.zero_le _, Nat.zero_le _⟩ (fun H locs hP hD hS => ?_)
      have h := Option.some.inj h
      subst h
      subst hQ
      exact W.zret (v := (b2i q7.1)) hx hb hr (b2i_nar _) (fun t ht hW => ⟨⟨rfl, by rw [ht]; exact hP, hD⟩, hS.F ht⟩) hS.2.2 dX6_addItem_73
    · have h := ite_f k3 h
      by_cases k4 : v1 = (112 : Int32)
      · have h := ite_t k4 h
        refine lv_lookup (off := 86) (tgt := 96) hx hb dX6_addItem_10 (by decide) (by rw [k4]; rfl) (by decide) ?_
        refine lv_aload_n hx hb dX6_addItem_96 rfl (lv_at hl 1 rfl) ?_
        refine lv_iload_n hx hb dX6_addItem_97 rfl (lv_at hl 0 rfl) ?_
        obtain ⟨q7, hq7, h⟩ := obd_e h
        refine kcV (rest := []) (w2 := ([cX6 a0 g0 q7.2, cX6_0 cI g0 q7.2, cX6_1 cI g0 q7.2, cX6_2 cI g0 q7.2, cX6_3 cI g0 q7.2, cX6_4 cI g0 q7.2, cX6_5 cI g0 q7.2, cX6_6 cI g0 q7.2, cX6_7 cI g0 q7.2])) hx hb hml hown hts hKK hP hD hS hA (c_X6_addPush l dC dI cB cI cZ cO a0 g0 o0 q1 hq7) [0, 1, 2, 3, 4, 5, 6, 7, 8] (atAll_map ⟨rfl, rfl, rfl, rfl, rfl, rfl, rfl, rfl, rfl, trivial⟩) (by decide +kernel) (sameAd_map ⟨rfl, rfl, rfl, rfl, rfl, rfl, rfl, rfl, rfl, trivial⟩) (atAll_map ⟨rfl, rfl, rfl, rfl, rfl, rfl, rfl, rfl, rfl, trivial⟩) ⟨Or.inr (by decide), Or.inr (by decide), Or.inr (by decide), Or.inr (by decide), Or.inr (by decide), Or.inr (by decide), Or.inr (by decide), Or.inr (by decide), Or.inr (by decide), trivial⟩ (cwV 1 hts gX6_addItem_X6_addPush rfl rfl rfl ⟨rfl, dsc_X6_addPush⟩ ⟨Nat.le_of_ble_eq_true rfl, Nat.le_of_ble_eq_true rfl⟩) (va_recv hKK.1 hP (ci := 6) (q0 := 0) rfl rfl) rfl hl.1 rfl (Nat.le_of_ble_eq_true rfl) dX6_addItem_98 ⟨Nat.zero_le _, Nat.zero_le _⟩ (fun H locs hP hD hS => ?_)
        have h := Option.some.inj h
        subst h
        subst hQ
        exact W.zret (v := (b2i q7.1)) hx hb hr (b2i_nar _) (fun t ht hW => ⟨⟨rfl, by rw [ht]; exact hP, hD⟩, hS.F ht⟩) hS.2.2 dX6_addItem_101
      · have h := ite_f k4 h
        by_cases k5 : v1 = (115 : Int32)
        · have h := ite_t k5 h
          refine lv_lookup (off := 64) (tgt := 74) hx hb dX6_addItem_10 (by decide) (by rw [k5]; rfl) (by decide) ?_
          refine lv_aload_n hx hb dX6_addItem_74 rfl (lv_at hl 1 rfl) ?_
          refine lv_iload_n hx hb dX6_addItem_75 rfl (lv_at hl 0 rfl) ?_
          refine lv_aload_n hx hb dX6_addItem_76 rfl (lv_at hl 1 rfl) ?_
          refine va_get (D := (dC, dI)) (ci := 6) (v := .ref (g0 7)) (C := RX6) (T := TX6) (N := 11) hx hb hts hiX6 hown hKK.1 hP 0 rfl rfl 7 (by decide) (hts (.fieldLink RX6 33 "SlideLand$Told" "numbers" "[I") (List.mem_of_getElem? (i := 1) rfl)) (fun _ h9 => h9) rfl dX6_addItem_77 ?_
          refine lv_iconst (v := (1 : Int32)) hx hb dX6_addItem_80 (by decide) ?_
          obtain ⟨q7, hq7, h⟩ := obd_e h
          refine kcN (rest := [.int q1, .ref a0]) (w2 := ([cX6 a0 g0 o0, cX6_0 cI g0 o0, cX6_1 cI g0 o0, cX6_2 cI g0 o0, cX6_3 cI g0 o0, cX6_4 cI g0 o0, cX6_5 cI g0 o0, cX6_6 cI g0 o0, cX6_7 cI g0 o0])) hx hb hml hown hts hKK hP hD hS hA (c_X7_cell l dC dI cB cI cZ cO (g0 7) 3 (o0.2 7) (1 : Int32) hq7) [8] (atAll_map ⟨rfl, trivial⟩) (by decide +kernel) (sameAd_map ⟨rfl, trivial⟩) (atAll_map ⟨rfl, trivial⟩) (agr_refl _ _ _) ⟨va_cnB 2 hts gX6_addItem_X7_cell_n77 rfl rfl rfl (hKK.2 _ (nws_in 3 rfl)) (hts (.initialized RX7) (List.mem_of_getElem? (i := 3) rfl)) dsc_X7_cell ⟨Nat.le_of_ble_eq_true rfl, Nat.le_of_ble_eq_true rfl⟩, hts (.static yX7_cell) (List.mem_of_getElem? (i := 2) rfl), trivial⟩ rfl hl.1 rfl (Nat.le_of_ble_eq_true rfl) dX6_addItem_81 ⟨Nat.zero_le _, Nat.zero_le _⟩ (fun H locs hP hD hS => ?_)
          refine lv_aload_n hx hb dX6_addItem_84 rfl (lv_at hl 1 rfl) ?_
          refine va_get (D := (dC, dI)) (ci := 6) (v := .ref (g0 7)) (C := RX6) (T := TX6) (N := 11) hx hb hts hiX6 hown hKK.1 hP 0 rfl rfl 7 (by decide) (hts (.fieldLink RX6 33 "SlideLand$Told" "numbers" "[I") (List.mem_of_getElem? (i := 1) rfl)) (fun _ h9 => h9) rfl dX6_addItem_85 ?_
          refine lv_iconst (v := (2 : Int32)) hx hb dX6_addItem_88 (by decide) ?_
          obtain ⟨q8, hq8, h⟩ := obd_e h
          refine kcN (rest := [.int q7, .int q1, .ref a0]) (w2 := ([cX6 a0 g0 o0, cX6_0 cI g0 o0, cX6_1 cI g0 o0, cX6_2 cI g0 o0, cX6_3 cI g0 o0, cX6_4 cI g0 o0, cX6_5 cI g0 o0, cX6_6 cI g0 o0, cX6_7 cI g0 o0])) hx hb hml hown hts hKK hP hD hS hA (c_X7_cell l dC dI cB cI cZ cO (g0 7) 3 (o0.2 7) (2 : Int32) hq8) [8] (atAll_map ⟨rfl, trivial⟩) (by decide +kernel) (sameAd_map ⟨rfl, trivial⟩) (atAll_map ⟨rfl, trivial⟩) (agr_refl _ _ _) ⟨va_cnB 2 hts gX6_addItem_X7_cell_n77 rfl rfl rfl (hKK.2 _ (nws_in 3 rfl)) (hts (.initialized RX7) (List.mem_of_getElem? (i := 3) rfl)) dsc_X7_cell ⟨Nat.le_of_ble_eq_true rfl, Nat.le_of_ble_eq_true rfl⟩, hts (.static yX7_cell) (List.mem_of_getElem? (i := 2) rfl), trivial⟩ rfl hl.1 rfl (Nat.le_of_ble_eq_true rfl) dX6_addItem_89 ⟨Nat.zero_le _, Nat.zero_le _⟩ (fun H locs hP hD hS => ?_)
          obtain ⟨q9, hq9, h⟩ := obd_e h
          refine kcV (rest := []) (w2 := ([cX6 a0 g0 q9.2, cX6_0 cI g0 q9.2, cX6_1 cI g0 q9.2, cX6_2 cI g0 q9.2, cX6_3 cI g0 q9.2, cX6_4 cI g0 q9.2, cX6_5 cI g0 q9.2, cX6_6 cI g0 q9.2, cX6_7 cI g0 q9.2])) hx hb hml hown hts hKK hP hD hS hA (c_X6_addStrip l dC dI cB cI cZ cO a0 g0 o0 q1 q7 q8 hq9) [0, 1, 2, 3, 4, 5, 6, 7, 8] (atAll_map ⟨rfl, rfl, rfl, rfl, rfl, rfl, rfl, rfl, rfl, trivial⟩) (by decide +kernel) (sameAd_map ⟨rfl, rfl, rfl, rfl, rfl, rfl, rfl, rfl, rfl, trivial⟩) (atAll_map ⟨rfl, rfl, rfl, rfl, rfl, rfl, rfl, rfl, rfl, trivial⟩) ⟨Or.inr (by decide), Or.inr (by decide), Or.inr (by decide), Or.inr (by decide), Or.inr (by decide), Or.inr (by decide), Or.inr (by decide), Or.inr (by decide), Or.inr (by decide), trivial⟩ (cwV 3 hts gX6_addItem_X6_addStrip rfl rfl rfl ⟨rfl, dsc_X6_addStrip⟩ ⟨Nat.le_of_ble_eq_true rfl, Nat.le_of_ble_eq_true rfl⟩) (va_recv hKK.1 hP (ci := 6) (q0 := 0) rfl rfl) rfl hl.1 rfl (Nat.le_of_ble_eq_true rfl) dX6_addItem_92 ⟨Nat.zero_le _, Nat.zero_le _⟩ (fun H locs hP hD hS => ?_)
          have h := Option.some.inj h
          subst h
          subst hQ
          exact W.zret (v := (b2i q9.1)) hx hb hr (b2i_nar _) (fun t ht hW => ⟨⟨rfl, by rw [ht]; exact hP, hD⟩, hS.F ht⟩) hS.2.2 dX6_addItem_95
        · have h := ite_f k5 h
          by_cases k6 : v1 = (117 : Int32)
          · have h := ite_t k6 h
            refine lv_lookup (off := 50) (tgt := 60) hx hb dX6_addItem_10 (by decide) (by rw [k6]; rfl) (by decide) ?_
            refine lv_aload_n hx hb dX6_addItem_60 rfl (lv_at hl 1 rfl) ?_
            refine lv_iconst (v := (0 : Int32)) hx hb dX6_addItem_61 (by decide) ?_
            refine lv_iload_n hx hb dX6_addItem_62 rfl (lv_at hl 0 rfl) ?_
            obtain ⟨q7, hq7, h⟩ := obd_e h
            refine kcV (rest := []) (w2 := ([cX6 a0 g0 q7.2, cX6_0 cI g0 q7.2, cX6_1 cI g0 q7.2, cX6_2 cI g0 q7.2, cX6_3 cI g0 q7.2, cX6_4 cI g0 q7.2, cX6_5 cI g0 q7.2, cX6_6 cI g0 q7.2, cX6_7 cI g0 q7.2])) hx hb hml hown hts hKK hP hD hS hA (c_X6_addOne l dC dI cB cI cZ cO a0 g0 o0 (0 : Int32) q1 hq7) [0, 1, 2, 3, 4, 5, 6, 7, 8] (atAll_map ⟨rfl, rfl, rfl, rfl, rfl, rfl, rfl, rfl, rfl, trivial⟩) (by decide +kernel) (sameAd_map ⟨rfl, rfl, rfl, rfl, rfl, rfl, rfl, rfl, rfl, trivial⟩) (atAll_map ⟨rfl, rfl, rfl, rfl, rfl, rfl, rfl, rfl, rfl, trivial⟩) ⟨Or.inr (by decide), Or.inr (by decide), Or.inr (by decide), Or.inr (by decide), Or.inr (by decide), Or.inr (by decide), Or.inr (by decide), Or.inr (by decide), Or.inr (by decide), trivial⟩ (cwV 2 hts gX6_addItem_X6_addOne rfl rfl rfl ⟨rfl, dsc_X6_addOne⟩ ⟨Nat.le_of_ble_eq_true rfl, Nat.le_of_ble_eq_true rfl⟩) (va_recv hKK.1 hP (ci := 6) (q0 := 0) rfl rfl) rfl hl.1 rfl (Nat.le_of_ble_eq_true rfl) dX6_addItem_63 ⟨Nat.zero_le _, Nat.zero_le _⟩ (fun H locs hP hD hS => ?_)
            have h := Option.some.inj h
            subst h
            subst hQ
            exact W.zret (v := (b2i q7.1)) hx hb hr (b2i_nar _) (fun t ht hW => ⟨⟨rfl, by rw [ht]; exact hP, hD⟩, hS.F ht⟩) hS.2.2 dX6_addItem_66
          · have h := ite_f k6 h
            refine lv_lookup (off := 98) (tgt := 108) hx hb dX6_addItem_10 (by decide) (by simp [Op.lookupswitch.offset, sw_nf k2 (show Int32.toInt (100 : Int32) = 100 from by decide), sw_nf k3 (show Int32.toInt (108 : Int32) = 108 from by decide), sw_nf k4 (show Int32.toInt (112 : Int32) = 112 from by decide), sw_nf k5 (show Int32.toInt (115 : Int32) = 115 from by decide), sw_nf k6 (show Int32.toInt (117 : Int32) = 117 from by decide)]) (by decide) ?_
            refine lv_iconst (v := (0 : Int32)) hx hb dX6_addItem_108 (by decide) ?_
            have h := Option.some.inj h
            subst h
            subst hQ
            exact W.zret (v := (0 : Int32)) hx hb hr rfl (fun t ht hW => ⟨⟨rfl, by rw [ht]; exact hP, hD⟩, hS.F ht⟩) hS.2.2 dX6_addItem_109
def f_X6_read_8 (o1 : Ob) : Nat → Int32 → Int32 → Ob → Option (Int32 × Ob)
  | 0, _, _, _ => none
  | nn8+1, x8_2, x8_3, o8_0 => if (200 : Int32) ≤ x8_3 then (some ((-4 : Int32), o8_0)) else (if (o1.1 1) ≤ x8_2 then (some ((-4 : Int32), o8_0)) else ((f_X6_endOfItem o8_0 o1 x8_2).bind fun q4 : Int32 × Ob => if q4.1 = (-4 : Int32) then (some (x8_2, q4.2)) else ((f_X2_letterAt o1 x8_2).bind fun q6 : Int32 => (f_X6_addItem q4.2 q6).bind fun q7 : Bool × Ob => if (b2i q7.1) = 0 then (some (x8_2, q7.2)) else (bnd (x8_3 + (1 : Int32)) fun x9 : Int32 => (f_X6_read_8 o1 nn8) q4.1 x9 q7.2))))
def f_X6_read (o0 : Ob) (o1 : Ob) : Option (Int32 × Ob) := (f_X6_clear o0).bind fun q1 : Ob => f_X6_read_8 o1 FU (0 : Int32) (0 : Int32) q1
abbrev rmX6_read : Room := { frames := 5, cells := 0, slots := 0, locals := 111 }
theorem dsc_X6_read : yX6_read.cls ≠ "java/lang/invoke/MethodHandle" ∧ yX6_read.cls ≠ "java/lang/invoke/VarHandle" ∧ (parseMethodDescriptor yX6_read.desc).map (fun d => d.parameters.length) = some 1 := by decide +kernel
set_option maxHeartbeats 4000000 in
set_option maxRecDepth 100000 in
theorem c_X6_read (l : Launch) (dC : Nat → ClassId) (dI : Nat → Nat → Nat) (cB cI cZ cO : ClassId) (a0 : Nat) (g0 : Nat → Nat) (o0 : Ob) (a1 : Nat) (g1 : Nat → Nat) (o1 : Ob) {r : Int32 × Ob} (h : f_X6_read o0 o1 = some r) : Ct dC dI cB cI cZ cO l yX6_read wsX6_read rmX6_read [.ref a0, .ref a1] ([cX6 a0 g0 o0, cX6_0 cI g0 o0, cX6_1 cI g0 o0, cX6_2 cI g0 o0, cX6_3 cI g0 o0, cX6_4 cI g0 o0, cX6_5 cI g0 o0, cX6_6 cI g0 o0, cX6_7 cI g0 o0, cX2 a1 g1 o1, cX2_0 cI g1 o1]) (some (.int r.1)) ([cX6 a0 g0 r.2, cX6_0 cI g0 r.2, cX6_1 cI g0 r.2, cX6_2 cI g0 r.2, cX6_3 cI g0 r.2, cX6_4 cI g0 r.2, cX6_5 cI g0 r.2, cX6_6 cI g0 r.2, cX6_7 cI g0 r.2, cX2 a1 g1 o1, cX2_0 cI g1 o1]) := by
  intro sz
  refine Met.ofW (cc := cX6_read) (maxL := 5) (ret := (some .int)) (by decide) rfl ?_
  intro p e s m args below meth c s₁ B hml hv
  obtain ⟨rfl, hsz, hP, hKK, hD0⟩ := hv
  have hx := B.exec
  have hb := B.bytes
  have hr := B.returns
  have hts := atoms_spec (ws := wsX6_read) B.pre
  have hown : s.vm.findClass RX6 = some m.cls := findClass_of_methodNamed B.named
  have hlocks := B.notSynchronized
  have hiX2 : ∀ w ∈ u_ws RX2 TX2 2, w ∈ wsX6_read := fun w h => List.mem_cons_of_mem _ (List.mem_append_left _ (List.mem_append_right _ h))
  subst hsz
  have hD := hD0.self (sz := s.heap.size)
  generalize hAe : va_A ([cX6 a0 g0 o0, cX6_0 cI g0 o0, cX6_1 cI g0 o0, cX6_2 cI g0 o0, cX6_3 cI g0 o0, cX6_4 cI g0 o0, cX6_5 cI g0 o0, cX6_6 cI g0 o0, cX6_7 cI g0 o0, cX2 a1 g1 o1, cX2_0 cI g1 o1]) s.heap.size = A at hD ⊢
  have hA : ∀ q : Nat, s.heap.size ≤ q → A q := fun q h => by rw [← hAe]; exact Or.inr h
  have hS : va_S A s.heap s.heap [] := va_S.rf
  have hP : va_P (dC, dI) vwCl ([cX6 a0 g0 o0, cX6_0 cI g0 o0, cX6_1 cI g0 o0, cX6_2 cI g0 o0, cX6_3 cI g0 o0, cX6_4 cI g0 o0, cX6_5 cI g0 o0, cX6_6 cI g0 o0, cX6_7 cI g0 o0, cX2 a1 g1 o1, cX2_0 cI g1 o1]) s.heap := hP
  have hD : va_D A ([cX6 a0 g0 o0, cX6_0 cI g0 o0, cX6_1 cI g0 o0, cX6_2 cI g0 o0, cX6_3 cI g0 o0, cX6_4 cI g0 o0, cX6_5 cI g0 o0, cX6_6 cI g0 o0, cX6_7 cI g0 o0, cX2 a1 g1 o1, cX2_0 cI g1 o1]) := hD
  have hl := lv_entry ([.ref a0, .ref a1]) (n := 5) (Nat.le_of_ble_eq_true rfl)
  rw [lg_entry_eq]
  generalize (lg_sl ([.ref a0, .ref a1]) ++ List.replicate (5 - (lg_sl ([.ref a0, .ref a1])).length) Slot.unset).toArray = ls at hl ⊢
  have hl : lv_has ls 5 [(0, .ref a0), (1, .ref a1)] := hl
  obtain ⟨Q, hQ⟩ : ∃ Q, Q = MQ below (Qq dC dI (some (.int r.1)) ([cX6 a0 g0 r.2, cX6_0 cI g0 r.2, cX6_1 cI g0 r.2, cX6_2 cI g0 r.2, cX6_3 cI g0 r.2, cX6_4 cI g0 r.2, cX6_5 cI g0 r.2, cX6_6 cI g0 r.2, cX6_7 cI g0 r.2, cX2 a1 g1 o1, cX2_0 cI g1 o1]) A) ([.ref a0, .ref a1] : List Value).toArray s 0 0 A := ⟨_, rfl⟩
  rw [← hQ]
  rw [f_X6_read] at h
  clear hAe hD0
  refine lv_aload_n hx hb dX6_read_0 rfl (lv_at hl 0 rfl) ?_
  obtain ⟨q1, hq1, h⟩ := obd_e h
  refine kcV (rest := []) (w2 := ([cX6 a0 g0 q1, cX6_0 cI g0 q1, cX6_1 cI g0 q1, cX6_2 cI g0 q1, cX6_3 cI g0 q1, cX6_4 cI g0 q1, cX6_5 cI g0 q1, cX6_6 cI g0 q1, cX6_7 cI g0 q1, cX2 a1 g1 o1, cX2_0 cI g1 o1])) hx hb hml hown hts hKK hP hD hS hA (c_X6_clear l dC dI cB cI cZ cO a0 g0 o0 hq1) [0, 1, 2, 3, 4, 5, 6, 7, 8] (atAll_map ⟨rfl, rfl, rfl, rfl, rfl, rfl, rfl, rfl, rfl, trivial⟩) (by decide +kernel) (sameAd_map ⟨rfl, rfl, rfl, rfl, rfl, rfl, rfl, rfl, rfl, trivial⟩) (atAll_map ⟨rfl, rfl, rfl, rfl, rfl, rfl, rfl, rfl, rfl, trivial⟩) ⟨Or.inr (by decide), Or.inr (by decide), Or.inr (by decide), Or.inr (by decide), Or.inr (by decide), Or.inr (by decide), Or.inr (by decide), Or.inr (by decide), Or.inr (by decide), Or.inl rfl, Or.inl rfl, trivial⟩ (cwV 0 hts gX6_read_X6_clear rfl rfl rfl ⟨rfl, dsc_X6_clear⟩ ⟨Nat.le_of_ble_eq_true rfl, Nat.le_of_ble_eq_true rfl⟩) (va_recv hKK.1 hP (ci := 6) (q0 := 0) rfl rfl) rfl hl.1 rfl (Nat.le_of_ble_eq_true rfl) dX6_read_1 ⟨Nat.zero_le _, Nat.zero_le _⟩ (fun H locs hP hD hS => ?_)
  refine lv_iconst (v := (0 : Int32)) hx hb dX6_read_4 (by decide) ?_
  refine lv_istore_n (lv' := [(2, .int (0 : Int32)), (0, .ref a0), (1, .ref a1)]) hx hb dX6_read_5 rfl hl (by decide) rfl (fun ls hl => ?_)
  refine lv_iconst (v := (0 : Int32)) hx hb dX6_read_6 (by decide) ?_
  refine lv_istore_n (lv' := [(3, .int (0 : Int32)), (2, .int (0 : Int32)), (0, .ref a0), (1, .ref a1)]) hx hb dX6_read_7 rfl hl (by decide) rfl (fun ls hl => ?_)
  have lp8 : ∀ (nn8 : Nat) (x8_2 : Int32) (x8_3 : Int32) (o8_0 : Ob), f_X6_read_8 o1 nn8 x8_2 x8_3 o8_0 = some r → ∀ (H : Heap) (locs : List Loc) (ls : Array Slot), va_P (dC, dI) vwCl ([cX6 a0 g0 o8_0, cX6_0 cI g0 o8_0, cX6_1 cI g0 o8_0, cX6_2 cI g0 o8_0, cX6_3 cI g0 o8_0, cX6_4 cI g0 o8_0, cX6_5 cI g0 o8_0, cX6_6 cI g0 o8_0, cX6_7 cI g0 o8_0, cX2 a1 g1 o1, cX2_0 cI g1 o1]) H → va_D A ([cX6 a0 g0 o8_0, cX6_0 cI g0 o8_0, cX6_1 cI g0 o8_0, cX6_2 cI g0 o8_0, cX6_3 cI g0 o8_0, cX6_4 cI g0 o8_0, cX6_5 cI g0 o8_0, cX6_6 cI g0 o8_0, cX6_7 cI g0 o8_0, cX2 a1 g1 o1, cX2_0 cI g1 o1]) → va_S A s.heap H locs → lv_has ls 5 [(0, .ref a0), (1, .ref a1), (2, .int x8_2), (3, .int x8_3)] → W p l e (headSpec wsX6_read rmX6_read).room s m ([.ref a0, .ref a1] : List Value).toArray below meth c H locs 0 0 Q (F0 m 8 ls []) := by
    intro nn8
    induction nn8 with
    | zero => intro x8_2 x8_3 o8_0 h; rw [f_X6_read_8] at h; cases h
    | succ nn8 ih8 =>
      intro x8_2 x8_3 o8_0 h H locs ls hP hD hS hl
      rw [f_X6_read_8] at h
      refine lv_iload_n hx hb dX6_read_8 rfl (lv_at hl 3 rfl) ?_
      refine lv_sipush (v := (200 : Int32)) hx hb dX6_read_9 (by decide) ?_
      refine lv_icmp_ge (tgt := 61) hx hb dX6_read_12 (by decide) (fun k2 => ?_) (fun k2 => ?_)
      · have h := ite_t k2 h
        refine lv_bipush (v := (-4 : Int32)) hx hb dX6_read_61 (by decide) ?_
        have h := Option.some.inj h
        subst h
        subst hQ
        exact W.iret (v := (-4 : Int32)) hx hb hr (fun t ht hW => ⟨⟨rfl, by rw [ht]; exact hP, hD⟩, hS.F ht⟩) hS.2.2 dX6_read_63
      · have h := ite_f k2 h
        refine lv_iload_n hx hb dX6_read_15 rfl (lv_at hl 2 rfl) ?_
        refine lv_aload_n hx hb dX6_read_16 rfl (lv_at hl 1 rfl) ?_
        refine va_get (D := (dC, dI)) (ci := 2) (v := .int (o1.1 1)) (C := RX2) (T := TX2) (N := 2) hx hb hts hiX2 hown hKK.1 hP 9 rfl rfl 1 (by decide) (hts (.fieldLink RX6 39 "SlideLand$Letters" "size" "I") (List.mem_of_getElem? (i := 1) rfl)) (fun _ h9 => h9) rfl dX6_read_17 ?_
        refine lv_icmp_ge (tgt := 61) hx hb dX6_read_20 (by decide) (fun k3 => ?_) (fun k3 => ?_)
        · have h := ite_t k3 h
          refine lv_bipush (v := (-4 : Int32)) hx hb dX6_read_61 (by decide) ?_
          have h := Option.some.inj h
          subst h
          subst hQ
          exact W.iret (v := (-4 : Int32)) hx hb hr (fun t ht hW => ⟨⟨rfl, by rw [ht]; exact hP, hD⟩, hS.F ht⟩) hS.2.2 dX6_read_63
        · have h := ite_f k3 h
          refine lv_aload_n hx hb dX6_read_23 rfl (lv_at hl 0 rfl) ?_
          refine lv_aload_n hx hb dX6_read_24 rfl (lv_at hl 1 rfl) ?_
          refine lv_iload_n hx hb dX6_read_25 rfl (lv_at hl 2 rfl) ?_
          obtain ⟨q4, hq4, h⟩ := obd_e h
          refine kcV (rest := []) (w2 := ([cX6 a0 g0 q4.2, cX6_0 cI g0 q4.2, cX6_1 cI g0 q4.2, cX6_2 cI g0 q4.2, cX6_3 cI g0 q4.2, cX6_4 cI g0 q4.2, cX6_5 cI g0 q4.2, cX6_6 cI g0 q4.2, cX6_7 cI g0 q4.2, cX2 a1 g1 o1, cX2_0 cI g1 o1])) hx hb hml hown hts hKK hP hD hS hA (c_X6_endOfItem l dC dI cB cI cZ cO a0 g0 o8_0 a1 g1 o1 x8_2 hq4) [0, 1, 2, 3, 4, 5, 6, 7, 8, 9, 10] (atAll_map ⟨rfl, rfl, rfl, rfl, rfl, rfl, rfl, rfl, rfl, rfl, rfl, trivial⟩) (by decide +kernel) (sameAd_map ⟨rfl, rfl, rfl, rfl, rfl, rfl, rfl, rfl, rfl, rfl, rfl, trivial⟩) (atAll_map ⟨rfl, rfl, rfl, rfl, rfl, rfl, rfl, rfl, rfl, rfl, rfl, trivial⟩) ⟨Or.inr (by decide), Or.inr (by decide), Or.inr (by decide), Or.inr (by decide), Or.inr (by decide), Or.inr (by decide), Or.inr (by decide), Or.inr (by decide), Or.inr (by decide), Or.inl rfl, Or.inl rfl, trivial⟩ (cwV 2 hts gX6_read_X6_endOfItem rfl rfl rfl ⟨rfl, dsc_X6_endOfItem⟩ ⟨Nat.le_of_ble_eq_true rfl, Nat.le_of_ble_eq_true rfl⟩) (va_recv hKK.1 hP (ci := 6) (q0 := 0) rfl rfl) rfl hl.1 rfl (Nat.le_of_ble_eq_true rfl) dX6_read_26 ⟨Nat.zero_le _, Nat.zero_le _⟩ (fun H locs hP hD hS => ?_)
          refine lv_istore (lv' := [(4, .int q4.1), (0, .ref a0), (1, .ref a1), (2, .int x8_2), (3, .int x8_3)]) hx hb dX6_read_29 hl (by decide) rfl (fun ls hl => ?_)
          refine lv_iload hx hb dX6_read_31 (lv_at hl 0 rfl) ?_
          refine lv_bipush (v := (-4 : Int32)) hx hb dX6_read_33 (by decide) ?_
          refine lv_icmp_eq (tgt := 50) hx hb dX6_read_35 (by decide) (fun k5 => ?_) (fun k5 => ?_)
          · have h := ite_t k5 h
            refine lv_iload_n hx hb dX6_read_50 rfl (lv_at hl 3 rfl) ?_
            have h := Option.some.inj h
            subst h
            subst hQ
            exact W.iret (v := x8_2) hx hb hr (fun t ht hW => ⟨⟨rfl, by rw [ht]; exact hP, hD⟩, hS.F ht⟩) hS.2.2 dX6_read_51
          · have h := ite_f k5 h
            refine lv_aload_n hx hb dX6_read_38 rfl (lv_at hl 1 rfl) ?_
            refine lv_aload_n hx hb dX6_read_39 rfl (lv_at hl 2 rfl) ?_
            refine lv_iload_n hx hb dX6_read_40 rfl (lv_at hl 3 rfl) ?_
            obtain ⟨q6, hq6, h⟩ := obd_e h
            refine kcV (rest := [.ref a0]) (w2 := ([cX6 a0 g0 q4.2, cX6_0 cI g0 q4.2, cX6_1 cI g0 q4.2, cX6_2 cI g0 q4.2, cX6_3 cI g0 q4.2, cX6_4 cI g0 q4.2, cX6_5 cI g0 q4.2, cX6_6 cI g0 q4.2, cX6_7 cI g0 q4.2, cX2 a1 g1 o1, cX2_0 cI g1 o1])) hx hb hml hown hts hKK hP hD hS hA (c_X2_letterAt l dC dI cB cI cZ cO a1 g1 o1 x8_2 hq6) [9, 10] (atAll_map ⟨rfl, rfl, trivial⟩) (by decide +kernel) (sameAd_map ⟨rfl, rfl, trivial⟩) (atAll_map ⟨rfl, rfl, trivial⟩) (agr_refl _ _ _) (cwV 1 hts gX6_read_X2_letterAt rfl rfl rfl ⟨rfl, dsc_X2_letterAt⟩ ⟨Nat.le_of_ble_eq_true rfl, Nat.le_of_ble_eq_true rfl⟩) (va_recv hKK.1 hP (ci := 2) (q0 := 9) rfl rfl) rfl hl.1 rfl (Nat.le_of_ble_eq_true rfl) dX6_read_41 ⟨Nat.zero_le _, Nat.zero_le _⟩ (fun H locs hP hD hS => ?_)
            obtain ⟨q7, hq7, h⟩ := obd_e h
            refine kcV (rest := []) (w2 := ([cX6 a0 g0 q7.2, cX6_0 cI g0 q7.2, cX6_1 cI g0 q7.2, cX6_2 cI g0 q7.2, cX6_3 cI g0 q7.2, cX6_4 cI g0 q7.2, cX6_5 cI g0 q7.2, cX6_6 cI g0 q7.2, cX6_7 cI g0 q7.2, cX2 a1 g1 o1, cX2_0 cI g1 o1])) hx hb hml hown hts hKK hP hD hS hA (c_X6_addItem l dC dI cB cI cZ cO a0 g0 q4.2 q6 hq7) [0, 1, 2, 3, 4, 5, 6, 7, 8] (atAll_map ⟨rfl, rfl, rfl, rfl, rfl, rfl, rfl, rfl, rfl, trivial⟩) (by decide +kernel) (sameAd_map ⟨rfl, rfl, rfl, rfl, rfl, rfl, rfl, rfl, rfl, trivial⟩) (atAll_map ⟨rfl, rfl, rfl, rfl, rfl, rfl, rfl, rfl, rfl, trivial⟩) ⟨Or.inr (by decide), Or.inr (by decide), Or.inr (by decide), Or.inr (by decide), Or.inr (by decide), Or.inr (by decide), Or.inr (by decide), Or.inr (by decide), Or.inr (by decide), Or.inl rfl, Or.inl rfl, trivial⟩ (cwV 1 hts gX6_read_X6_addItem rfl rfl rfl ⟨rfl, dsc_X6_addItem⟩ ⟨Nat.le_of_ble_eq_true rfl, Nat.le_of_ble_eq_true rfl⟩) (va_recv hKK.1 hP (ci := 6) (q0 := 0) rfl rfl) rfl hl.1 rfl (Nat.le_of_ble_eq_true rfl) dX6_read_44 ⟨Nat.zero_le _, Nat.zero_le _⟩ (fun H locs hP hD hS => ?_)
            refine lv_if_ne (tgt := 52) hx hb dX6_read_47 (by decide) (fun k8 => ?_) (fun k8 => ?_)
            · have h := ite_f k8 h
              refine lv_iload hx hb dX6_read_52 (lv_at hl 0 rfl) ?_
              refine lv_istore_n (lv' := [(2, .int q4.1), (4, .int q4.1), (0, .ref a0), (1, .ref a1), (3, .int x8_3)]) hx hb dX6_read_54 rfl hl (by decide) rfl (fun ls hl => ?_)
              obtain ⟨x9, hx9, h⟩ := bnd_e h
              refine lv_iinc (v := x9) (lv' := [(3, .int x9), (2, .int q4.1), (4, .int q4.1), (0, .ref a0), (1, .ref a1)]) hx hb dX6_read_55 hl (k := 4) rfl (by rw [← hx9]; rfl) (by decide) rfl (fun ls hl => ?_)
              refine lv_goto (tgt := 8) hx hb dX6_read_58 (by decide) ?_
              exact ih8 q4.1 x9 q7.2 h _ _ _ hP hD hS (lv_sub hl [3, 4, 1, 0] rfl)
            · have h := ite_t k8 h
              refine lv_iload_n hx hb dX6_read_50 rfl (lv_at hl 3 rfl) ?_
              have h := Option.some.inj h
              subst h
              subst hQ
              exact W.iret (v := x8_2) hx hb hr (fun t ht hW => ⟨⟨rfl, by rw [ht]; exact hP, hD⟩, hS.F ht⟩) hS.2.2 dX6_read_51
  exact lp8 FU (0 : Int32) (0 : Int32) q1 h _ _ _ hP hD hS (lv_sub hl [2, 3, 1, 0] rfl)
