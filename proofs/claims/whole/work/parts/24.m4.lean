def f_X8_known_46 (o46_0 : Ob) : Option (Ob) := bnd ((o46_0.1 19) + (1 : Int32)) fun x1 : Int32 => (f_X8_copies (stF o46_0 19 x1) (0 : Int32) (x1 * (26 : Int32))).bind fun q2 : Ob => some q2
def f_X8_known_12 : Nat → Int32 → Ob → Option (Ob)
  | 0, _, _ => none
  | nn12+1, x12_1, o12_0 => if (208 : Int32) ≤ x12_1 then (f_X8_known_46 (stF o12_0 19 (7 : Int32))) else (if (x12_1 + (26 : Int32)) < 0 ∨ 312 ≤ (x12_1 + (26 : Int32)).toNatClampNeg then none else if x12_1 < 0 ∨ 312 ≤ x12_1.toNatClampNeg then none else bnd (upd (o12_0.2 18) x12_1.toNatClampNeg ((o12_0.2 18) (x12_1 + (26 : Int32)).toNatClampNeg)) fun u7 : Nat → Int32 => bnd (x12_1 + (1 : Int32)) fun x8 : Int32 => (f_X8_known_12 nn12) x8 (stR o12_0 18 u7))
def f_X8_known (o0 : Ob) : Option (Ob) := if (o0.1 19) = (8 : Int32) then (f_X8_known_12 FU (26 : Int32) o0) else (f_X8_known_46 o0)
abbrev rmX8_known : Room := { frames := 1, cells := 0, slots := 0, locals := 23 }
theorem dsc_X8_known : yX8_known.cls ≠ "java/lang/invoke/MethodHandle" ∧ yX8_known.cls ≠ "java/lang/invoke/VarHandle" ∧ (parseMethodDescriptor yX8_known.desc).map (fun d => d.parameters.length) = some 0 := by decide +kernel
set_option maxHeartbeats 4000000 in
set_option maxRecDepth 100000 in
theorem c_X8_known (l : Launch) (dC : Nat → ClassId) (dI : Nat → Nat → Nat) (cB cI cZ cO : ClassId) (a0 : Nat) (g0 : Nat → Nat) (o0 : Ob) {r : Ob} (h : f_X8_known o0 = some r) : Ct dC dI cB cI cZ cO l yX8_known wsX8_known rmX8_known [.ref a0] ([cX8 a0 g0 o0, cX8_0 cI g0 o0, cX8_1 cI g0 o0, cX8_3 cI g0 o0, cX8_4 cI g0 o0, cX8_6 cI g0 o0, cX8_8 cI g0 o0, cX8_9 cI g0 o0, cX8_10 cI g0 o0, cX8_12 cI g0 o0, cX8_13 cI g0 o0, cX8_15 cI g0 o0, cX8_17 cI g0 o0, cX8_18 cI g0 o0, cX8_22 cB g0 o0, cX8_27 cI g0 o0, cX8_28 cI g0 o0, cX8_29 cI g0 o0, cX8_30 cI g0 o0, cX8_31 cI g0 o0, cX8_32 cI g0 o0, cX8_33 cI g0 o0]) none ([cX8 a0 g0 r, cX8_0 cI g0 r, cX8_1 cI g0 r, cX8_3 cI g0 r, cX8_4 cI g0 r, cX8_6 cI g0 r, cX8_8 cI g0 r, cX8_9 cI g0 r, cX8_10 cI g0 r, cX8_12 cI g0 r, cX8_13 cI g0 r, cX8_15 cI g0 r, cX8_17 cI g0 r, cX8_18 cI g0 r, cX8_22 cB g0 r, cX8_27 cI g0 r, cX8_28 cI g0 r, cX8_29 cI g0 r, cX8_30 cI g0 r, cX8_31 cI g0 r, cX8_32 cI g0 r, cX8_33 cI g0 r]) := by
  intro sz
  refine Met.ofW (cc := cX8_known) (maxL := 2) (ret := none) (by decide) rfl ?_
  intro p e s m args below meth c s₁ B hml hv
  obtain ⟨rfl, hsz, hP, hKK, hD0⟩ := hv
  have hx := B.exec
  have hb := B.bytes
  have hr := B.returns
  have hts := atoms_spec (ws := wsX8_known) B.pre
  have hown : s.vm.findClass RX8 = some m.cls := findClass_of_methodNamed B.named
  have hlocks := B.notSynchronized
  have hiX8 : ∀ w ∈ u_ws RX8 TX8 36, w ∈ wsX8_known := fun w h => List.mem_cons_of_mem _ (List.mem_append_right _ h)
  subst hsz
  have hD := hD0.self (sz := s.heap.size)
  generalize hAe : va_A ([cX8 a0 g0 o0, cX8_0 cI g0 o0, cX8_1 cI g0 o0, cX8_3 cI g0 o0, cX8_4 cI g0 o0, cX8_6 cI g0 o0, cX8_8 cI g0 o0, cX8_9 cI g0 o0, cX8_10 cI g0 o0, cX8_12 cI g0 o0, cX8_13 cI g0 o0, cX8_15 cI g0 o0, cX8_17 cI g0 o0, cX8_18 cI g0 o0, cX8_22 cB g0 o0, cX8_27 cI g0 o0, cX8_28 cI g0 o0, cX8_29 cI g0 o0, cX8_30 cI g0 o0, cX8_31 cI g0 o0, cX8_32 cI g0 o0, cX8_33 cI g0 o0]) s.heap.size = A at hD ⊢
  have hA : ∀ q : Nat, s.heap.size ≤ q → A q := fun q h => by rw [← hAe]; exact Or.inr h
  have hS : va_S A s.heap s.heap [] := va_S.rf
  have hP : va_P (dC, dI) vwCl ([cX8 a0 g0 o0, cX8_0 cI g0 o0, cX8_1 cI g0 o0, cX8_3 cI g0 o0, cX8_4 cI g0 o0, cX8_6 cI g0 o0, cX8_8 cI g0 o0, cX8_9 cI g0 o0, cX8_10 cI g0 o0, cX8_12 cI g0 o0, cX8_13 cI g0 o0, cX8_15 cI g0 o0, cX8_17 cI g0 o0, cX8_18 cI g0 o0, cX8_22 cB g0 o0, cX8_27 cI g0 o0, cX8_28 cI g0 o0, cX8_29 cI g0 o0, cX8_30 cI g0 o0, cX8_31 cI g0 o0, cX8_32 cI g0 o0, cX8_33 cI g0 o0]) s.heap := hP
  have hD : va_D A ([cX8 a0 g0 o0, cX8_0 cI g0 o0, cX8_1 cI g0 o0, cX8_3 cI g0 o0, cX8_4 cI g0 o0, cX8_6 cI g0 o0, cX8_8 cI g0 o0, cX8_9 cI g0 o0, cX8_10 cI g0 o0, cX8_12 cI g0 o0, cX8_13 cI g0 o0, cX8_15 cI g0 o0, cX8_17 cI g0 o0, cX8_18 cI g0 o0, cX8_22 cB g0 o0, cX8_27 cI g0 o0, cX8_28 cI g0 o0, cX8_29 cI g0 o0, cX8_30 cI g0 o0, cX8_31 cI g0 o0, cX8_32 cI g0 o0, cX8_33 cI g0 o0]) := hD
  have hl := lv_entry ([.ref a0]) (n := 2) (Nat.le_of_ble_eq_true rfl)
  rw [lg_entry_eq]
  generalize (lg_sl ([.ref a0]) ++ List.replicate (2 - (lg_sl ([.ref a0])).length) Slot.unset).toArray = ls at hl ⊢
  have hl : lv_has ls 2 [(0, .ref a0)] := hl
  obtain ⟨Q, hQ⟩ : ∃ Q, Q = MQ below (Qq dC dI none ([cX8 a0 g0 r, cX8_0 cI g0 r, cX8_1 cI g0 r, cX8_3 cI g0 r, cX8_4 cI g0 r, cX8_6 cI g0 r, cX8_8 cI g0 r, cX8_9 cI g0 r, cX8_10 cI g0 r, cX8_12 cI g0 r, cX8_13 cI g0 r, cX8_15 cI g0 r, cX8_17 cI g0 r, cX8_18 cI g0 r, cX8_22 cB g0 r, cX8_27 cI g0 r, cX8_28 cI g0 r, cX8_29 cI g0 r, cX8_30 cI g0 r, cX8_31 cI g0 r, cX8_32 cI g0 r, cX8_33 cI g0 r]) A) ([.ref a0] : List Value).toArray s 0 0 A := ⟨_, rfl⟩
  rw [← hQ]
  rw [f_X8_known] at h
  clear hAe hD0
  refine lv_aload_n hx hb dX8_known_0 rfl (lv_at hl 0 rfl) ?_
  refine va_get (D := (dC, dI)) (ci := 8) (v := .int (o0.1 19)) (C := RX8) (T := TX8) (N := 36) hx hb hts hiX8 hown hKK.1 hP 0 rfl rfl 19 (by decide) (hts (.fieldLink RX8 160 "SlideLandModel" "acts" "I") (List.mem_of_getElem? (i := 1) rfl)) (fun _ h9 => h9) rfl dX8_known_1 ?_
  refine lv_bipush (v := (8 : Int32)) hx hb dX8_known_4 (by decide) ?_
  have jn46 : ∀ (o46_0 : Ob), f_X8_known_46 o46_0 = some r → ∀ (H : Heap) (locs : List Loc) (ls : Array Slot), va_P (dC, dI) vwCl ([cX8 a0 g0 o46_0, cX8_0 cI g0 o46_0, cX8_1 cI g0 o46_0, cX8_3 cI g0 o46_0, cX8_4 cI g0 o46_0, cX8_6 cI g0 o46_0, cX8_8 cI g0 o46_0, cX8_9 cI g0 o46_0, cX8_10 cI g0 o46_0, cX8_12 cI g0 o46_0, cX8_13 cI g0 o46_0, cX8_15 cI g0 o46_0, cX8_17 cI g0 o46_0, cX8_18 cI g0 o46_0, cX8_22 cB g0 o46_0, cX8_27 cI g0 o46_0, cX8_28 cI g0 o46_0, cX8_29 cI g0 o46_0, cX8_30 cI g0 o46_0, cX8_31 cI g0 o46_0, cX8_32 cI g0 o46_0, cX8_33 cI g0 o46_0]) H → va_D A ([cX8 a0 g0 o46_0, cX8_0 cI g0 o46_0, cX8_1 cI g0 o46_0, cX8_3 cI g0 o46_0, cX8_4 cI g0 o46_0, cX8_6 cI g0 o46_0, cX8_8 cI g0 o46_0, cX8_9 cI g0 o46_0, cX8_10 cI g0 o46_0, cX8_12 cI g0 o46_0, cX8_13 cI g0 o46_0, cX8_15 cI g0 o46_0, cX8_17 cI g0 o46_0, cX8_18 cI g0 o46_0, cX8_22 cB g0 o46_0, cX8_27 cI g0 o46_0, cX8_28 cI g0 o46_0, cX8_29 cI g0 o46_0, cX8_30 cI g0 o46_0, cX8_31 cI g0 o46_0, cX8_32 cI g0 o46_0, cX8_33 cI g0 o46_0]) → va_S A s.heap H locs → lv_has ls 2 [(0, .ref a0)] → W p l e (headSpec wsX8_known rmX8_known).room s m ([.ref a0] : List Value).toArray below meth c H locs 0 0 Q (F0 m 46 ls []) := by
    intro o46_0 h H locs ls hP hD hS hl
    rw [f_X8_known_46] at h
    refine lv_aload_n hx hb dX8_known_46 rfl (lv_at hl 0 rfl) ?_
    refine lv_dup hx hb dX8_known_47 rfl ?_
    refine va_get (D := (dC, dI)) (ci := 8) (v := .int (o46_0.1 19)) (C := RX8) (T := TX8) (N := 36) hx hb hts hiX8 hown hKK.1 hP 0 rfl rfl 19 (by decide) (hts (.fieldLink RX8 160 "SlideLandModel" "acts" "I") (List.mem_of_getElem? (i := 1) rfl)) (fun _ h9 => h9) rfl dX8_known_48 ?_
    refine lv_iconst (v := (1 : Int32)) hx hb dX8_known_51 (by decide) ?_
    refine lv_iadd hx hb dX8_known_52 ?_
    obtain ⟨x1, hx1, h⟩ := bnd_e h
    rw [hx1]
    refine va_put (D := (dC, dI)) (ci := 8) (v := .int x1) (ty := .int) (C := RX8) (T := TX8) (N := 36) hx hb hts hiX8 tyX8 tyX8_ok nmX8 hown hKK.1 hP hD hS 0 rfl rfl 19 (by decide) (hts (.fieldLink RX8 160 "SlideLandModel" "acts" "I") (List.mem_of_getElem? (i := 1) rfl)) (fun _ h9 => h9) rfl (by decide +kernel) rfl rfl (Nat.le_of_ble_eq_true rfl) dX8_known_53 (fun H locs hP hD hS => ?_)
    have hP : va_P (dC, dI) vwCl ([cX8 a0 g0 (stF o46_0 19 x1), cX8_0 cI g0 (stF o46_0 19 x1), cX8_1 cI g0 (stF o46_0 19 x1), cX8_3 cI g0 (stF o46_0 19 x1), cX8_4 cI g0 (stF o46_0 19 x1), cX8_6 cI g0 (stF o46_0 19 x1), cX8_8 cI g0 (stF o46_0 19 x1), cX8_9 cI g0 (stF o46_0 19 x1), cX8_10 cI g0 (stF o46_0 19 x1), cX8_12 cI g0 (stF o46_0 19 x1), cX8_13 cI g0 (stF o46_0 19 x1), cX8_15 cI g0 (stF o46_0 19 x1), cX8_17 cI g0 (stF o46_0 19 x1), cX8_18 cI g0 (stF o46_0 19 x1), cX8_22 cB g0 (stF o46_0 19 x1), cX8_27 cI g0 (stF o46_0 19 x1), cX8_28 cI g0 (stF o46_0 19 x1), cX8_29 cI g0 (stF o46_0 19 x1), cX8_30 cI g0 (stF o46_0 19 x1), cX8_31 cI g0 (stF o46_0 19 x1), cX8_32 cI g0 (stF o46_0 19 x1), cX8_33 cI g0 (stF o46_0 19 x1)]) H := hP
    have hD : va_D A ([cX8 a0 g0 (stF o46_0 19 x1), cX8_0 cI g0 (stF o46_0 19 x1), cX8_1 cI g0 (stF o46_0 19 x1), cX8_3 cI g0 (stF o46_0 19 x1), cX8_4 cI g0 (stF o46_0 19 x1), cX8_6 cI g0 (stF o46_0 19 x1), cX8_8 cI g0 (stF o46_0 19 x1), cX8_9 cI g0 (stF o46_0 19 x1), cX8_10 cI g0 (stF o46_0 19 x1), cX8_12 cI g0 (stF o46_0 19 x1), cX8_13 cI g0 (stF o46_0 19 x1), cX8_15 cI g0 (stF o46_0 19 x1), cX8_17 cI g0 (stF o46_0 19 x1), cX8_18 cI g0 (stF o46_0 19 x1), cX8_22 cB g0 (stF o46_0 19 x1), cX8_27 cI g0 (stF o46_0 19 x1), cX8_28 cI g0 (stF o46_0 19 x1), cX8_29 cI g0 (stF o46_0 19 x1), cX8_30 cI g0 (stF o46_0 19 x1), cX8_31 cI g0 (stF o46_0 19 x1), cX8_32 cI g0 (stF o46_0 19 x1), cX8_33 cI g0 (stF o46_0 19 x1)]) := hD
    refine lv_aload_n hx hb dX8_known_56 rfl (lv_at hl 0 rfl) ?_
    refine lv_iconst (v := (0 : Int32)) hx hb dX8_known_57 (by decide) ?_
    refine lv_aload_n hx hb dX8_known_58 rfl (lv_at hl 0 rfl) ?_
    refine va_get (D := (dC, dI)) (ci := 8) (v := .int x1) (C := RX8) (T := TX8) (N := 36) hx hb hts hiX8 hown hKK.1 hP 0 rfl rfl 19 (by decide) (hts (.fieldLink RX8 160 "SlideLandModel" "acts" "I") (List.mem_of_getElem? (i := 1) rfl)) (fun _ h9 => h9) rfl dX8_known_59 ?_
    refine lv_bipush (v := (26 : Int32)) hx hb dX8_known_62 (by decide) ?_
    refine lv_imul hx hb dX8_known_64 ?_
    obtain ⟨q2, hq2, h⟩ := obd_e h
    refine kcV (rest := []) (w2 := ([cX8 a0 g0 q2, cX8_0 cI g0 q2, cX8_1 cI g0 q2, cX8_3 cI g0 q2, cX8_4 cI g0 q2, cX8_6 cI g0 q2, cX8_8 cI g0 q2, cX8_9 cI g0 q2, cX8_10 cI g0 q2, cX8_12 cI g0 q2, cX8_13 cI g0 q2, cX8_15 cI g0 q2, cX8_17 cI g0 q2, cX8_18 cI g0 q2, cX8_22 cB g0 q2, cX8_27 cI g0 q2, cX8_28 cI g0 q2, cX8_29 cI g0 q2, cX8_30 cI g0 q2, cX8_31 cI g0 q2, cX8_32 cI g0 q2, cX8_33 cI g0 q2])) hx hb hml hown hts hKK hP hD hS hA (c_X8_copies l dC dI cB cI cZ cO a0 g0 (stF o46_0 19 x1) (0 : Int32) (x1 * (26 : Int32)) hq2) [0, 1, 2, 3, 4, 5, 6, 7, 8, 9, 10, 11, 12, 13, 14, 15, 16, 17, 18, 19, 20, 21] (atAll_map ⟨rfl, rfl, rfl, rfl, rfl, rfl, rfl, rfl, rfl, rfl, rfl, rfl, rfl, rfl, rfl, rfl, rfl, rfl, rfl, rfl, rfl, rfl, trivial⟩) (by decide +kernel) (sameAd_map ⟨rfl, rfl, rfl, rfl, rfl, rfl, rfl, rfl, rfl, rfl, rfl, rfl, rfl, rfl, rfl, rfl, rfl, rfl, rfl, rfl, rfl, rfl, trivial⟩) (atAll_map ⟨rfl, rfl, rfl, rfl, rfl, rfl, rfl, rfl, rfl, rfl, rfl, rfl, rfl, rfl, rfl, rfl, rfl, rfl, rfl, rfl, rfl, rfl, trivial⟩) ⟨Or.inr (by decide), Or.inr (by decide), Or.inr (by decide), Or.inr (by decide), Or.inr (by decide), Or.inr (by decide), Or.inr (by decide), Or.inr (by decide), Or.inr (by decide), Or.inr (by decide), Or.inr (by decide), Or.inr (by decide), Or.inr (by decide), Or.inr (by decide), Or.inr (by decide), Or.inr (by decide), Or.inr (by decide), Or.inr (by decide), Or.inr (by decide), Or.inr (by decide), Or.inr (by decide), Or.inr (by decide), trivial⟩ (cwV 2 hts gX8_known_X8_copies rfl rfl rfl ⟨rfl, dsc_X8_copies⟩ ⟨Nat.le_of_ble_eq_true rfl, Nat.le_of_ble_eq_true rfl⟩) (va_recv hKK.1 hP (ci := 8) (q0 := 0) rfl rfl) rfl hl.1 rfl (Nat.le_of_ble_eq_true rfl) dX8_known_65 ⟨Nat.zero_le _, Nat.zero_le _⟩ (fun H locs hP hD hS => ?_)
    have h := Option.some.inj h
    subst h
    subst hQ
    exact W.vret hx hb hr (fun t ht hW => ⟨⟨rfl, by rw [ht]; exact hP, hD⟩, hS.F ht⟩) hS.2.2 dX8_known_68
  refine lv_icmp_ne (tgt := 46) hx hb dX8_known_6 (by decide) (fun k3 => ?_) (fun k3 => ?_)
  · have h := ite_f k3 h
    exact jn46 o0 h _ _ _ hP hD hS (lv_sub hl [0] rfl)
  · have h := ite_t k3 h
    refine lv_bipush (v := (26 : Int32)) hx hb dX8_known_9 (by decide) ?_
    refine lv_istore_n (lv' := [(1, .int (26 : Int32)), (0, .ref a0)]) hx hb dX8_known_11 rfl hl (by decide) rfl (fun ls hl => ?_)
    have lp12 : ∀ (nn12 : Nat) (x12_1 : Int32) (o12_0 : Ob), f_X8_known_12 nn12 x12_1 o12_0 = some r → ∀ (H : Heap) (locs : List Loc) (ls : Array Slot), va_P (dC, dI) vwCl ([cX8 a0 g0 o12_0, cX8_0 cI g0 o12_0, cX8_1 cI g0 o12_0, cX8_3 cI g0 o12_0, cX8_4 cI g0 o12_0, cX8_6 cI g0 o12_0, cX8_8 cI g0 o12_0, cX8_9 cI g0 o12_0, cX8_10 cI g0 o12_0, cX8_12 cI g0 o12_0, cX8_13 cI g0 o12_0, cX8_15 cI g0 o12_0, cX8_17 cI g0 o12_0, cX8_18 cI g0 o12_0, cX8_22 cB g0 o12_0, cX8_27 cI g0 o12_0, cX8_28 cI g0 o12_0, cX8_29 cI g0 o12_0, cX8_30 cI g0 o12_0, cX8_31 cI g0 o12_0, cX8_32 cI g0 o12_0, cX8_33 cI g0 o12_0]) H → va_D A ([cX8 a0 g0 o12_0, cX8_0 cI g0 o12_0, cX8_1 cI g0 o12_0, cX8_3 cI g0 o12_0, cX8_4 cI g0 o12_0, cX8_6 cI g0 o12_0, cX8_8 cI g0 o12_0, cX8_9 cI g0 o12_0, cX8_10 cI g0 o12_0, cX8_12 cI g0 o12_0, cX8_13 cI g0 o12_0, cX8_15 cI g0 o12_0, cX8_17 cI g0 o12_0, cX8_18 cI g0 o12_0, cX8_22 cB g0 o12_0, cX8_27 cI g0 o12_0, cX8_28 cI g0 o12_0, cX8_29 cI g0 o12_0, cX8_30 cI g0 o12_0, cX8_31 cI g0 o12_0, cX8_32 cI g0 o12_0, cX8_33 cI g0 o12_0]) → va_S A s.heap H locs → lv_has ls 2 [(0, .ref a0), (1, .int x12_1)] → W p l e (headSpec wsX8_known rmX8_known).room s m ([.ref a0] : List Value).toArray below meth c H locs 0 0 Q (F0 m 12 ls []) := by
      intro nn12
      induction nn12 with
      | zero => intro x12_1 o12_0 h; rw [f_X8_known_12] at h; cases h
      | succ nn12 ih12 =>
        intro x12_1 o12_0 h H locs ls hP hD hS hl
        rw [f_X8_known_12] at h
        refine lv_iload_n hx hb dX8_known_12 rfl (lv_at hl 1 rfl) ?_
        refine lv_sipush (v := (208 : Int32)) hx hb dX8_known_13 (by decide) ?_
        refine lv_icmp_ge (tgt := 40) hx hb dX8_known_16 (by decide) (fun k4 => ?_) (fun k4 => ?_)
        · have h := ite_t k4 h
          refine lv_aload_n hx hb dX8_known_40 rfl (lv_at hl 0 rfl) ?_
          refine lv_bipush (v := (7 : Int32)) hx hb dX8_known_41 (by decide) ?_
          refine va_put (D := (dC, dI)) (ci := 8) (v := .int (7 : Int32)) (ty := .int) (C := RX8) (T := TX8) (N := 36) hx hb hts hiX8 tyX8 tyX8_ok nmX8 hown hKK.1 hP hD hS 0 rfl rfl 19 (by decide) (hts (.fieldLink RX8 160 "SlideLandModel" "acts" "I") (List.mem_of_getElem? (i := 1) rfl)) (fun _ h9 => h9) rfl (by decide +kernel) rfl rfl (Nat.le_of_ble_eq_true rfl) dX8_known_43 (fun H locs hP hD hS => ?_)
          have hP : va_P (dC, dI) vwCl ([cX8 a0 g0 (stF o12_0 19 (7 : Int32)), cX8_0 cI g0 (stF o12_0 19 (7 : Int32)), cX8_1 cI g0 (stF o12_0 19 (7 : Int32)), cX8_3 cI g0 (stF o12_0 19 (7 : Int32)), cX8_4 cI g0 (stF o12_0 19 (7 : Int32)), cX8_6 cI g0 (stF o12_0 19 (7 : Int32)), cX8_8 cI g0 (stF o12_0 19 (7 : Int32)), cX8_9 cI g0 (stF o12_0 19 (7 : Int32)), cX8_10 cI g0 (stF o12_0 19 (7 : Int32)), cX8_12 cI g0 (stF o12_0 19 (7 : Int32)), cX8_13 cI g0 (stF o12_0 19 (7 : Int32)), cX8_15 cI g0 (stF o12_0 19 (7 : Int32)), cX8_17 cI g0 (stF o12_0 19 (7 : Int32)), cX8_18 cI g0 (stF o12_0 19 (7 : Int32)), cX8_22 cB g0 (stF o12_0 19 (7 : Int32)), cX8_27 cI g0 (stF o12_0 19 (7 : Int32)), cX8_28 cI g0 (stF o12_0 19 (7 : Int32)), cX8_29 cI g0 (stF o12_0 19 (7 : Int32)), cX8_30 cI g0 (stF o12_0 19 (7 : Int32)), cX8_31 cI g0 (stF o12_0 19 (7 : Int32)), cX8_32 cI g0 (stF o12_0 19 (7 : Int32)), cX8_33 cI g0 (stF o12_0 19 (7 : Int32))]) H := hP
          have hD : va_D A ([cX8 a0 g0 (stF o12_0 19 (7 : Int32)), cX8_0 cI g0 (stF o12_0 19 (7 : Int32)), cX8_1 cI g0 (stF o12_0 19 (7 : Int32)), cX8_3 cI g0 (stF o12_0 19 (7 : Int32)), cX8_4 cI g0 (stF o12_0 19 (7 : Int32)), cX8_6 cI g0 (stF o12_0 19 (7 : Int32)), cX8_8 cI g0 (stF o12_0 19 (7 : Int32)), cX8_9 cI g0 (stF o12_0 19 (7 : Int32)), cX8_10 cI g0 (stF o12_0 19 (7 : Int32)), cX8_12 cI g0 (stF o12_0 19 (7 : Int32)), cX8_13 cI g0 (stF o12_0 19 (7 : Int32)), cX8_15 cI g0 (stF o12_0 19 (7 : Int32)), cX8_17 cI g0 (stF o12_0 19 (7 : Int32)), cX8_18 cI g0 (stF o12_0 19 (7 : Int32)), cX8_22 cB g0 (stF o12_0 19 (7 : Int32)), cX8_27 cI g0 (stF o12_0 19 (7 : Int32)), cX8_28 cI g0 (stF o12_0 19 (7 : Int32)), cX8_29 cI g0 (stF o12_0 19 (7 : Int32)), cX8_30 cI g0 (stF o12_0 19 (7 : Int32)), cX8_31 cI g0 (stF o12_0 19 (7 : Int32)), cX8_32 cI g0 (stF o12_0 19 (7 : Int32)), cX8_33 cI g0 (stF o12_0 19 (7 : Int32))]) := hD
          exact jn46 (stF o12_0 19 (7 : Int32)) h _ _ _ hP hD hS (lv_sub hl [0] rfl)
        · have h := ite_f k4 h
          refine lv_aload_n hx hb dX8_known_19 rfl (lv_at hl 0 rfl) ?_
          refine va_get (D := (dC, dI)) (ci := 8) (v := .ref (g0 18)) (C := RX8) (T := TX8) (N := 36) hx hb hts hiX8 hown hKK.1 hP 0 rfl rfl 18 (by decide) (hts (.fieldLink RX8 46 "SlideLandModel" "slot" "[I") (List.mem_of_getElem? (i := 2) rfl)) (fun _ h9 => h9) rfl dX8_known_20 ?_
          refine lv_iload_n hx hb dX8_known_23 rfl (lv_at hl 1 rfl) ?_
          refine lv_aload_n hx hb dX8_known_24 rfl (lv_at hl 0 rfl) ?_
          refine va_get (D := (dC, dI)) (ci := 8) (v := .ref (g0 18)) (C := RX8) (T := TX8) (N := 36) hx hb hts hiX8 hown hKK.1 hP 0 rfl rfl 18 (by decide) (hts (.fieldLink RX8 46 "SlideLandModel" "slot" "[I") (List.mem_of_getElem? (i := 2) rfl)) (fun _ h9 => h9) rfl dX8_known_25 ?_
          refine lv_iload_n hx hb dX8_known_28 rfl (lv_at hl 1 rfl) ?_
          refine lv_bipush (v := (26 : Int32)) hx hb dX8_known_29 (by decide) ?_
          refine lv_iadd hx hb dX8_known_31 ?_
          obtain ⟨k5, h⟩ := ite_n h
          refine va_iald hx hb hKK.1 hP 13 1 rfl rfl k5 dX8_known_32 ?_
          obtain ⟨k6, h⟩ := ite_n h
          obtain ⟨u7, hu7, h⟩ := bnd_e h
          refine k_iast (f := (o12_0.2 18)) hx hb hKK.1 hP hD hS 13 1 hu7 rfl rfl k6 dX8_known_33 (fun H locs hP hD hS => ?_)
          have hP : va_P (dC, dI) vwCl ([cX8 a0 g0 (stR o12_0 18 u7), cX8_0 cI g0 (stR o12_0 18 u7), cX8_1 cI g0 (stR o12_0 18 u7), cX8_3 cI g0 (stR o12_0 18 u7), cX8_4 cI g0 (stR o12_0 18 u7), cX8_6 cI g0 (stR o12_0 18 u7), cX8_8 cI g0 (stR o12_0 18 u7), cX8_9 cI g0 (stR o12_0 18 u7), cX8_10 cI g0 (stR o12_0 18 u7), cX8_12 cI g0 (stR o12_0 18 u7), cX8_13 cI g0 (stR o12_0 18 u7), cX8_15 cI g0 (stR o12_0 18 u7), cX8_17 cI g0 (stR o12_0 18 u7), cX8_18 cI g0 (stR o12_0 18 u7), cX8_22 cB g0 (stR o12_0 18 u7), cX8_27 cI g0 (stR o12_0 18 u7), cX8_28 cI g0 (stR o12_0 18 u7), cX8_29 cI g0 (stR o12_0 18 u7), cX8_30 cI g0 (stR o12_0 18 u7), cX8_31 cI g0 (stR o12_0 18 u7), cX8_32 cI g0 (stR o12_0 18 u7), cX8_33 cI g0 (stR o12_0 18 u7)]) H := hP
          have hD : va_D A ([cX8 a0 g0 (stR o12_0 18 u7), cX8_0 cI g0 (stR o12_0 18 u7), cX8_1 cI g0 (stR o12_0 18 u7), cX8_3 cI g0 (stR o12_0 18 u7), cX8_4 cI g0 (stR o12_0 18 u7), cX8_6 cI g0 (stR o12_0 18 u7), cX8_8 cI g0 (stR o12_0 18 u7), cX8_9 cI g0 (stR o12_0 18 u7), cX8_10 cI g0 (stR o12_0 18 u7), cX8_12 cI g0 (stR o12_0 18 u7), cX8_13 cI g0 (stR o12_0 18 u7), cX8_15 cI g0 (stR o12_0 18 u7), cX8_17 cI g0 (stR o12_0 18 u7), cX8_18 cI g0 (stR o12_0 18 u7), cX8_22 cB g0 (stR o12_0 18 u7), cX8_27 cI g0 (stR o12_0 18 u7), cX8_28 cI g0 (stR o12_0 18 u7), cX8_29 cI g0 (stR o12_0 18 u7), cX8_30 cI g0 (stR o12_0 18 u7), cX8_31 cI g0 (stR o12_0 18 u7), cX8_32 cI g0 (stR o12_0 18 u7), cX8_33 cI g0 (stR o12_0 18 u7)]) := hD
          obtain ⟨x8, hx8, h⟩ := bnd_e h
          refine lv_iinc (v := x8) (lv' := [(1, .int x8), (0, .ref a0)]) hx hb dX8_known_34 hl (k := 1) rfl (by rw [← hx8]; rfl) (by decide) rfl (fun ls hl => ?_)
          refine lv_goto (tgt := 12) hx hb dX8_known_37 (by decide) ?_
          exact ih12 x8 (stR o12_0 18 u7) h _ _ _ hP hD hS (lv_sub hl [1, 0] rfl)
    exact lp12 FU (26 : Int32) o0 h _ _ _ hP hD hS (lv_sub hl [1, 0] rfl)
def f_X8_gives (o0 : Ob) (v1 : Int32) (v2 : Int32) (v3 : Int32) : Option (Ob) := if v2 < 0 ∨ 4 ≤ v2.toNatClampNeg then none else if (v1 + (2 : Int32)) < 0 ∨ 312 ≤ (v1 + (2 : Int32)).toNatClampNeg then none else bnd (f_X8_larger (0 : Int32) (((o0.2 6) v2.toNatClampNeg) - ((o0.2 18) (v1 + (2 : Int32)).toNatClampNeg))) fun q3 : Int32 => if v1 < 0 ∨ 312 ≤ v1.toNatClampNeg then none else if (v1 + (1 : Int32)) < 0 ∨ 312 ≤ (v1 + (1 : Int32)).toNatClampNeg then none else bnd (upd (o0.2 18) (v1 + (1 : Int32)).toNatClampNeg ((o0.2 18) v1.toNatClampNeg)) fun u6 : Nat → Int32 => if v1 < 0 ∨ 312 ≤ v1.toNatClampNeg then none else bnd (f_X8_pushed (u6 v1.toNatClampNeg) q3 v3) fun q8 : Int32 => if v1 < 0 ∨ 312 ≤ v1.toNatClampNeg then none else bnd (upd u6 v1.toNatClampNeg q8) fun u10 : Nat → Int32 => if (v1 + (2 : Int32)) < 0 ∨ 312 ≤ (v1 + (2 : Int32)).toNatClampNeg then none else bnd (f_X8_larger (0 : Int32) ((u10 (v1 + (2 : Int32)).toNatClampNeg) - (1 : Int32))) fun q12 : Int32 => if (v1 + (2 : Int32)) < 0 ∨ 312 ≤ (v1 + (2 : Int32)).toNatClampNeg then none else bnd (upd u10 (v1 + (2 : Int32)).toNatClampNeg q12) fun u14 : Nat → Int32 => some (stR o0 18 u14)
abbrev rmX8_gives : Room := { frames := 2, cells := 0, slots := 0, locals := 43 }
theorem dsc_X8_gives : yX8_gives.cls ≠ "java/lang/invoke/MethodHandle" ∧ yX8_gives.cls ≠ "java/lang/invoke/VarHandle" ∧ (parseMethodDescriptor yX8_gives.desc).map (fun d => d.parameters.length) = some 3 := by decide +kernel
set_option maxHeartbeats 4000000 in
set_option maxRecDepth 100000 in
theorem c_X8_gives (l : Launch) (dC : Nat → ClassId) (dI : Nat → Nat → Nat) (cB cI cZ cO : ClassId) (a0 : Nat) (g0 : Nat → Nat) (o0 : Ob) (v1 : Int32) (v2 : Int32) (v3 : Int32) {r : Ob} (h : f_X8_gives o0 v1 v2 v3 = some r) : Ct dC dI cB cI cZ cO l yX8_gives wsX8_gives rmX8_gives [.ref a0, .int v1, .int v2, .int v3] ([cX8 a0 g0 o0, cX8_0 cI g0 o0, cX8_1 cI g0 o0, cX8_3 cI g0 o0, cX8_4 cI g0 o0, cX8_6 cI g0 o0, cX8_8 cI g0 o0, cX8_9 cI g0 o0, cX8_10 cI g0 o0, cX8_12 cI g0 o0, cX8_13 cI g0 o0, cX8_15 cI g0 o0, cX8_17 cI g0 o0, cX8_18 cI g0 o0, cX8_22 cB g0 o0, cX8_27 cI g0 o0, cX8_28 cI g0 o0, cX8_29 cI g0 o0, cX8_30 cI g0 o0, cX8_31 cI g0 o0, cX8_32 cI g0 o0, cX8_33 cI g0 o0]) none ([cX8 a0 g0 r, cX8_0 cI g0 r, cX8_1 cI g0 r, cX8_3 cI g0 r, cX8_4 cI g0 r, cX8_6 cI g0 r, cX8_8 cI g0 r, cX8_9 cI g0 r, cX8_10 cI g0 r, cX8_12 cI g0 r, cX8_13 cI g0 r, cX8_15 cI g0 r, cX8_17 cI g0 r, cX8_18 cI g0 r, cX8_22 cB g0 r, cX8_27 cI g0 r, cX8_28 cI g0 r, cX8_29 cI g0 r, cX8_30 cI g0 r, cX8_31 cI g0 r, cX8_32 cI g0 r, cX8_33 cI g0 r]) := by
  intro sz
  refine Met.ofW (cc := cX8_gives) (maxL := 5) (ret := none) (by decide) rfl ?_
  intro p e s m args below meth c s₁ B hml hv
  obtain ⟨rfl, hsz, hP, hKK, hD0⟩ := hv
  have hx := B.exec
  have hb := B.bytes
  have hr := B.returns
  have hts := atoms_spec (ws := wsX8_gives) B.pre
  have hown : s.vm.findClass RX8 = some m.cls := findClass_of_methodNamed B.named
  have hlocks := B.notSynchronized
  have hiX8 : ∀ w ∈ u_ws RX8 TX8 36, w ∈ wsX8_gives := fun w h => List.mem_cons_of_mem _ (List.mem_append_right _ h)
  subst hsz
  have hD := hD0.self (sz := s.heap.size)
  generalize hAe : va_A ([cX8 a0 g0 o0, cX8_0 cI g0 o0, cX8_1 cI g0 o0, cX8_3 cI g0 o0, cX8_4 cI g0 o0, cX8_6 cI g0 o0, cX8_8 cI g0 o0, cX8_9 cI g0 o0, cX8_10 cI g0 o0, cX8_12 cI g0 o0, cX8_13 cI g0 o0, cX8_15 cI g0 o0, cX8_17 cI g0 o0, cX8_18 cI g0 o0, cX8_22 cB g0 o0, cX8_27 cI g0 o0, cX8_28 cI g0 o0, cX8_29 cI g0 o0, cX8_30 cI g0 o0, cX8_31 cI g0 o0, cX8_32 cI g0 o0, cX8_33 cI g0 o0]) s.heap.size = A at hD ⊢
  have hA : ∀ q : Nat, s.heap.size ≤ q → A q := fun q h => by rw [← hAe]; exact Or.inr h
  have hS : va_S A s.heap s.heap [] := va_S.rf
  have hP : va_P (dC, dI) vwCl ([cX8 a0 g0 o0, cX8_0 cI g0 o0, cX8_1 cI g0 o0, cX8_3 cI g0 o0, cX8_4 cI g0 o0, cX8_6 cI g0 o0, cX8_8 cI g0 o0, cX8_9 cI g0 o0, cX8_10 cI g0 o0, cX8_12 cI g0 o0, cX8_13 cI g0 o0, cX8_15 cI g0 o0, cX8_17 cI g0 o0, cX8_18 cI g0 o0, cX8_22 cB g0 o0, cX8_27 cI g0 o0, cX8_28 cI g0 o0, cX8_29 cI g0 o0, cX8_30 cI g0 o0, cX8_31 cI g0 o0, cX8_32 cI g0 o0, cX8_33 cI g0 o0]) s.heap := hP
  have hD : va_D A ([cX8 a0 g0 o0, cX8_0 cI g0 o0, cX8_1 cI g0 o0, cX8_3 cI g0 o0, cX8_4 cI g0 o0, cX8_6 cI g0 o0, cX8_8 cI g0 o0, cX8_9 cI g0 o0, cX8_10 cI g0 o0, cX8_12 cI g0 o0, cX8_13 cI g0 o0, cX8_15 cI g0 o0, cX8_17 cI g0 o0, cX8_18 cI g0 o0, cX8_22 cB g0 o0, cX8_27 cI g0 o0, cX8_28 cI g0 o0, cX8_29 cI g0 o0, cX8_30 cI g0 o0, cX8_31 cI g0 o0, cX8_32 cI g0 o0, cX8_33 cI g0 o0]) := hD
  have hl := lv_entry ([.ref a0, .int v1, .int v2, .int v3]) (n := 5) (Nat.le_of_ble_eq_true rfl)
  rw [lg_entry_eq]
  generalize (lg_sl ([.ref a0, .int v1, .int v2, .int v3]) ++ List.replicate (5 - (lg_sl ([.ref a0, .int v1, .int v2, .int v3])).length) Slot.unset).toArray = ls at hl ⊢
  have hl : lv_has ls 5 [(0, .ref a0), (1, .int v1), (2, .int v2), (3, .int v3)] := hl
  obtain ⟨Q, hQ⟩ : ∃ Q, Q = MQ below (Qq dC dI none ([cX8 a0 g0 r, cX8_0 cI g0 r, cX8_1 cI g0 r, cX8_3 cI g0 r, cX8_4 cI g0 r, cX8_6 cI g0 r, cX8_8 cI g0 r, cX8_9 cI g0 r, cX8_10 cI g0 r, cX8_12 cI g0 r, cX8_13 cI g0 r, cX8_15 cI g0 r, cX8_17 cI g0 r, cX8_18 cI g0 r, cX8_22 cB g0 r, cX8_27 cI g0 r, cX8_28 cI g0 r, cX8_29 cI g0 r, cX8_30 cI g0 r, cX8_31 cI g0 r, cX8_32 cI g0 r, cX8_33 cI g0 r]) A) ([.ref a0, .int v1, .int v2, .int v3] : List Value).toArray s 0 0 A := ⟨_, rfl⟩
  rw [← hQ]
  rw [f_X8_gives] at h
  clear hAe hD0
  refine lv_iconst (v := (0 : Int32)) hx hb dX8_gives_0 (by decide) ?_
  refine lv_aload_n hx hb dX8_gives_1 rfl (lv_at hl 0 rfl) ?_
  refine va_get (D := (dC, dI)) (ci := 8) (v := .ref (g0 6)) (C := RX8) (T := TX8) (N := 36) hx hb hts hiX8 hown hKK.1 hP 0 rfl rfl 6 (by decide) (hts (.fieldLink RX8 22 "SlideLandModel" "by" "[I") (List.mem_of_getElem? (i := 1) rfl)) (fun _ h9 => h9) rfl dX8_gives_2 ?_
  refine lv_iload_n hx hb dX8_gives_5 rfl (lv_at hl 2 rfl) ?_
  obtain ⟨k1, h⟩ := ite_n h
  refine va_iald hx hb hKK.1 hP 5 1 rfl rfl k1 dX8_gives_6 ?_
  refine lv_aload_n hx hb dX8_gives_7 rfl (lv_at hl 0 rfl) ?_
  refine va_get (D := (dC, dI)) (ci := 8) (v := .ref (g0 18)) (C := RX8) (T := TX8) (N := 36) hx hb hts hiX8 hown hKK.1 hP 0 rfl rfl 18 (by decide) (hts (.fieldLink RX8 46 "SlideLandModel" "slot" "[I") (List.mem_of_getElem? (i := 2) rfl)) (fun _ h9 => h9) rfl dX8_gives_8 ?_
  refine lv_iload_n hx hb dX8_gives_11 rfl (lv_at hl 1 rfl) ?_
  refine lv_iconst (v := (2 : Int32)) hx hb dX8_gives_12 (by decide) ?_
  refine lv_iadd hx hb dX8_gives_13 ?_
  obtain ⟨k2, h⟩ := ite_n h
  refine va_iald hx hb hKK.1 hP 13 1 rfl rfl k2 dX8_gives_14 ?_
  refine lv_isub hx hb dX8_gives_15 ?_
  obtain ⟨q3, hq3, h⟩ := bnd_e h
  refine kcS (rest := []) (w2 := ([cX8 a0 g0 o0, cX8_0 cI g0 o0, cX8_1 cI g0 o0, cX8_3 cI g0 o0, cX8_4 cI g0 o0, cX8_6 cI g0 o0, cX8_8 cI g0 o0, cX8_9 cI g0 o0, cX8_10 cI g0 o0, cX8_12 cI g0 o0, cX8_13 cI g0 o0, cX8_15 cI g0 o0, cX8_17 cI g0 o0, cX8_18 cI g0 o0, cX8_22 cB g0 o0, cX8_27 cI g0 o0, cX8_28 cI g0 o0, cX8_29 cI g0 o0, cX8_30 cI g0 o0, cX8_31 cI g0 o0, cX8_32 cI g0 o0, cX8_33 cI g0 o0])) hx hb hml hown hts hKK hP hD hS hA (c_X8_larger l dC dI cB cI cZ cO (0 : Int32) (((o0.2 6) v2.toNatClampNeg) - ((o0.2 18) (v1 + (2 : Int32)).toNatClampNeg)) hq3) [] (atAll_map trivial) (by decide +kernel) (sameAd_map trivial) (atAll_map trivial) (agr_refl _ _ _) (va_cwS 2 hts gX8_gives_X8_larger rfl rfl rfl dsc_X8_larger ⟨Nat.le_of_ble_eq_true rfl, Nat.le_of_ble_eq_true rfl⟩) rfl hl.1 rfl (Nat.le_of_ble_eq_true rfl) dX8_gives_16 ⟨Nat.zero_le _, Nat.zero_le _⟩ (fun H locs hP hD hS => ?_)
  refine lv_istore (lv' := [(4, .int q3), (0, .ref a0), (1, .int v1), (2, .int v2), (3, .int v3)]) hx hb dX8_gives_19 hl (by decide) rfl (fun ls hl => ?_)
  refine lv_aload_n hx hb dX8_gives_21 rfl (lv_at hl 1 rfl) ?_
  refine va_get (D := (dC, dI)) (ci := 8) (v := .ref (g0 18)) (C := RX8) (T := TX8) (N := 36) hx hb hts hiX8 hown hKK.1 hP 0 rfl rfl 18 (by decide) (hts (.fieldLink RX8 46 "SlideLandModel" "slot" "[I") (List.mem_of_getElem? (i := 2) rfl)) (fun _ h9 => h9) rfl dX8_gives_22 ?_
  refine lv_iload_n hx hb dX8_gives_25 rfl (lv_at hl 2 rfl) ?_
  refine lv_iconst (v := (1 : Int32)) hx hb dX8_gives_26 (by decide) ?_
  refine lv_iadd hx hb dX8_gives_27 ?_
  refine lv_aload_n hx hb dX8_gives_28 rfl (lv_at hl 1 rfl) ?_
  refine va_get (D := (dC, dI)) (ci := 8) (v := .ref (g0 18)) (C := RX8) (T := TX8) (N := 36) hx hb hts hiX8 hown hKK.1 hP 0 rfl rfl 18 (by decide) (hts (.fieldLink RX8 46 "SlideLandModel" "slot" "[I") (List.mem_of_getElem? (i := 2) rfl)) (fun _ h9 => h9) rfl dX8_gives_29 ?_
  refine lv_iload_n hx hb dX8_gives_32 rfl (lv_at hl 2 rfl) ?_
  obtain ⟨k4, h⟩ := ite_n h
  refine va_iald hx hb hKK.1 hP 13 1 rfl rfl k4 dX8_gives_33 ?_
  obtain ⟨k5, h⟩ := ite_n h
  obtain ⟨u6, hu6, h⟩ := bnd_e h
  refine k_iast (f := (o0.2 18)) hx hb hKK.1 hP hD hS 13 1 hu6 rfl rfl k5 dX8_gives_34 (fun H locs hP hD hS => ?_)
  have hP : va_P (dC, dI) vwCl ([cX8 a0 g0 (stR o0 18 u6), cX8_0 cI g0 (stR o0 18 u6), cX8_1 cI g0 (stR o0 18 u6), cX8_3 cI g0 (stR o0 18 u6), cX8_4 cI g0 (stR o0 18 u6), cX8_6 cI g0 (stR o0 18 u6), cX8_8 cI g0 (stR o0 18 u6), cX8_9 cI g0 (stR o0 18 u6), cX8_10 cI g0 (stR o0 18 u6), cX8_12 cI g0 (stR o0 18 u6), cX8_13 cI g0 (stR o0 18 u6), cX8_15 cI g0 (stR o0 18 u6), cX8_17 cI g0 (stR o0 18 u6), cX8_18 cI g0 (stR o0 18 u6), cX8_22 cB g0 (stR o0 18 u6), cX8_27 cI g0 (stR o0 18 u6), cX8_28 cI g0 (stR o0 18 u6), cX8_29 cI g0 (stR o0 18 u6), cX8_30 cI g0 (stR o0 18 u6), cX8_31 cI g0 (stR o0 18 u6), cX8_32 cI g0 (stR o0 18 u6), cX8_33 cI g0 (stR o0 18 u6)]) H := hP
  have hD : va_D A ([cX8 a0 g0 (stR o0 18 u6), cX8_0 cI g0 (stR o0 18 u6), cX8_1 cI g0 (stR o0 18 u6), cX8_3 cI g0 (stR o0 18 u6), cX8_4 cI g0 (stR o0 18 u6), cX8_6 cI g0 (stR o0 18 u6), cX8_8 cI g0 (stR o0 18 u6), cX8_9 cI g0 (stR o0 18 u6), cX8_10 cI g0 (stR o0 18 u6), cX8_12 cI g0 (stR o0 18 u6), cX8_13 cI g0 (stR o0 18 u6), cX8_15 cI g0 (stR o0 18 u6), cX8_17 cI g0 (stR o0 18 u6), cX8_18 cI g0 (stR o0 18 u6), cX8_22 cB g0 (stR o0 18 u6), cX8_27 cI g0 (stR o0 18 u6), cX8_28 cI g0 (stR o0 18 u6), cX8_29 cI g0 (stR o0 18 u6), cX8_30 cI g0 (stR o0 18 u6), cX8_31 cI g0 (stR o0 18 u6), cX8_32 cI g0 (stR o0 18 u6), cX8_33 cI g0 (stR o0 18 u6)]) := hD
  refine lv_aload_n hx hb dX8_gives_35 rfl (lv_at hl 1 rfl) ?_
  refine va_get (D := (dC, dI)) (ci := 8) (v := .ref (g0 18)) (C := RX8) (T := TX8) (N := 36) hx hb hts hiX8 hown hKK.1 hP 0 rfl rfl 18 (by decide) (hts (.fieldLink RX8 46 "SlideLandModel" "slot" "[I") (List.mem_of_getElem? (i := 2) rfl)) (fun _ h9 => h9) rfl dX8_gives_36 ?_
  refine lv_iload_n hx hb dX8_gives_39 rfl (lv_at hl 2 rfl) ?_
  refine lv_aload_n hx hb dX8_gives_40 rfl (lv_at hl 1 rfl) ?_
  refine va_get (D := (dC, dI)) (ci := 8) (v := .ref (g0 18)) (C := RX8) (T := TX8) (N := 36) hx hb hts hiX8 hown hKK.1 hP 0 rfl rfl 18 (by decide) (hts (.fieldLink RX8 46 "SlideLandModel" "slot" "[I") (List.mem_of_getElem? (i := 2) rfl)) (fun _ h9 => h9) rfl dX8_gives_41 ?_
  refine lv_iload_n hx hb dX8_gives_44 rfl (lv_at hl 2 rfl) ?_
  obtain ⟨k7, h⟩ := ite_n h
  refine va_iald hx hb hKK.1 hP 13 1 rfl rfl k7 dX8_gives_45 ?_
  refine lv_iload hx hb dX8_gives_46 (lv_at hl 0 rfl) ?_
  refine lv_iload_n hx hb dX8_gives_48 rfl (lv_at hl 4 rfl) ?_
  obtain ⟨q8, hq8, h⟩ := bnd_e h
  refine kcS (rest := [.int v1, .ref (g0 18)]) (w2 := ([cX8 a0 g0 (stR o0 18 u6), cX8_0 cI g0 (stR o0 18 u6), cX8_1 cI g0 (stR o0 18 u6), cX8_3 cI g0 (stR o0 18 u6), cX8_4 cI g0 (stR o0 18 u6), cX8_6 cI g0 (stR o0 18 u6), cX8_8 cI g0 (stR o0 18 u6), cX8_9 cI g0 (stR o0 18 u6), cX8_10 cI g0 (stR o0 18 u6), cX8_12 cI g0 (stR o0 18 u6), cX8_13 cI g0 (stR o0 18 u6), cX8_15 cI g0 (stR o0 18 u6), cX8_17 cI g0 (stR o0 18 u6), cX8_18 cI g0 (stR o0 18 u6), cX8_22 cB g0 (stR o0 18 u6), cX8_27 cI g0 (stR o0 18 u6), cX8_28 cI g0 (stR o0 18 u6), cX8_29 cI g0 (stR o0 18 u6), cX8_30 cI g0 (stR o0 18 u6), cX8_31 cI g0 (stR o0 18 u6), cX8_32 cI g0 (stR o0 18 u6), cX8_33 cI g0 (stR o0 18 u6)])) hx hb hml hown hts hKK hP hD hS hA (c_X8_pushed l dC dI cB cI cZ cO (u6 v1.toNatClampNeg) q3 v3 hq8) [] (atAll_map trivial) (by decide +kernel) (sameAd_map trivial) (atAll_map trivial) (agr_refl _ _ _) (va_cwS 3 hts gX8_gives_X8_pushed rfl rfl rfl dsc_X8_pushed ⟨Nat.le_of_ble_eq_true rfl, Nat.le_of_ble_eq_true rfl⟩) rfl hl.1 rfl (Nat.le_of_ble_eq_true rfl) dX8_gives_49 ⟨Nat.zero_le _, Nat.zero_le _⟩ (fun H locs hP hD hS => ?_)
  obtain ⟨k9, h⟩ := ite_n h
  obtain ⟨u10, hu10, h⟩ := bnd_e h
  refine k_iast (f := u6) hx hb hKK.1 hP hD hS 13 1 hu10 rfl rfl k9 dX8_gives_52 (fun H locs hP hD hS => ?_)
  have hP : va_P (dC, dI) vwCl ([cX8 a0 g0 (stR o0 18 u10), cX8_0 cI g0 (stR o0 18 u10), cX8_1 cI g0 (stR o0 18 u10), cX8_3 cI g0 (stR o0 18 u10), cX8_4 cI g0 (stR o0 18 u10), cX8_6 cI g0 (stR o0 18 u10), cX8_8 cI g0 (stR o0 18 u10), cX8_9 cI g0 (stR o0 18 u10), cX8_10 cI g0 (stR o0 18 u10), cX8_12 cI g0 (stR o0 18 u10), cX8_13 cI g0 (stR o0 18 u10), cX8_15 cI g0 (stR o0 18 u10), cX8_17 cI g0 (stR o0 18 u10), cX8_18 cI g0 (stR o0 18 u10), cX8_22 cB g0 (stR o0 18 u10), cX8_27 cI g0 (stR o0 18 u10), cX8_28 cI g0 (stR o0 18 u10), cX8_29 cI g0 (stR o0 18 u10), cX8_30 cI g0 (stR o0 18 u10), cX8_31 cI g0 (stR o0 18 u10), cX8_32 cI g0 (stR o0 18 u10), cX8_33 cI g0 (stR o0 18 u10)]) H := hP
  have hD : va_D A ([cX8 a0 g0 (stR o0 18 u10), cX8_0 cI g0 (stR o0 18 u10), cX8_1 cI g0 (stR o0 18 u10), cX8_3 cI g0 (stR o0 18 u10), cX8_4 cI g0 (stR o0 18 u10), cX8_6 cI g0 (stR o0 18 u10), cX8_8 cI g0 (stR o0 18 u10), cX8_9 cI g0 (stR o0 18 u10), cX8_10 cI g0 (stR o0 18 u10), cX8_12 cI g0 (stR o0 18 u10), cX8_13 cI g0 (stR o0 18 u10), cX8_15 cI g0 (stR o0 18 u10), cX8_17 cI g0 (stR o0 18 u10), cX8_18 cI g0 (stR o0 18 u10), cX8_22 cB g0 (stR o0 18 u10), cX8_27 cI g0 (stR o0 18 u10), cX8_28 cI g0 (stR o0 18 u10), cX8_29 cI g0 (stR o0 18 u10), cX8_30 cI g0 (stR o0 18 u10), cX8_31 cI g0 (stR o0 18 u10), cX8_32 cI g0 (stR o0 18 u10), cX8_33 cI g0 (stR o0 18 u10)]) := hD
  refine lv_aload_n hx hb dX8_gives_53 rfl (lv_at hl 1 rfl) ?_
  refine va_get (D := (dC, dI)) (ci := 8) (v := .ref (g0 18)) (C := RX8) (T := TX8) (N := 36) hx hb hts hiX8 hown hKK.1 hP 0 rfl rfl 18 (by decide) (hts (.fieldLink RX8 46 "SlideLandModel" "slot" "[I") (List.mem_of_getElem? (i := 2) rfl)) (fun _ h9 => h9) rfl dX8_gives_54 ?_
  refine lv_iload_n hx hb dX8_gives_57 rfl (lv_at hl 2 rfl) ?_
  refine lv_iconst (v := (2 : Int32)) hx hb dX8_gives_58 (by decide) ?_
  refine lv_iadd hx hb dX8_gives_59 ?_
  refine lv_iconst (v := (0 : Int32)) hx hb dX8_gives_60 (by decide) ?_
  refine lv_aload_n hx hb dX8_gives_61 rfl (lv_at hl 1 rfl) ?_
  refine va_get (D := (dC, dI)) (ci := 8) (v := .ref (g0 18)) (C := RX8) (T := TX8) (N := 36) hx hb hts hiX8 hown hKK.1 hP 0 rfl rfl 18 (by decide) (hts (.fieldLink RX8 46 "SlideLandModel" "slot" "[I") (List.mem_of_getElem? (i := 2) rfl)) (fun _ h9 => h9) rfl dX8_gives_62 ?_
  refine lv_iload_n hx hb dX8_gives_65 rfl (lv_at hl 2 rfl) ?_
  refine lv_iconst (v := (2 : Int32)) hx hb dX8_gives_66 (by decide) ?_
  refine lv_iadd hx hb dX8_gives_67 ?_
  obtain ⟨k11, h⟩ := ite_n h
  refine va_iald hx hb hKK.1 hP 13 1 rfl rfl k11 dX8_gives_68 ?_
  refine lv_iconst (v := (1 : Int32)) hx hb dX8_gives_69 (by decide) ?_
  refine lv_isub hx hb dX8_gives_70 ?_
  obtain ⟨q12, hq12, h⟩ := bnd_e h
  refine kcS (rest := [.int (v1 + (2 : Int32)), .ref (g0 18)]) (w2 := ([cX8 a0 g0 (stR o0 18 u10), cX8_0 cI g0 (stR o0 18 u10), cX8_1 cI g0 (stR o0 18 u10), cX8_3 cI g0 (stR o0 18 u10), cX8_4 cI g0 (stR o0 18 u10), cX8_6 cI g0 (stR o0 18 u10), cX8_8 cI g0 (stR o0 18 u10), cX8_9 cI g0 (stR o0 18 u10), cX8_10 cI g0 (stR o0 18 u10), cX8_12 cI g0 (stR o0 18 u10), cX8_13 cI g0 (stR o0 18 u10), cX8_15 cI g0 (stR o0 18 u10), cX8_17 cI g0 (stR o0 18 u10), cX8_18 cI g0 (stR o0 18 u10), cX8_22 cB g0 (stR o0 18 u10), cX8_27 cI g0 (stR o0 18 u10), cX8_28 cI g0 (stR o0 18 u10), cX8_29 cI g0 (stR o0 18 u10), cX8_30 cI g0 (stR o0 18 u10), cX8_31 cI g0 (stR o0 18 u10), cX8_32 cI g0 (stR o0 18 u10), cX8_33 cI g0 (stR o0 18 u10)])) hx hb hml hown hts hKK hP hD hS hA (c_X8_larger l dC dI cB cI cZ cO (0 : Int32) ((u10 (v1 + (2 : Int32)).toNatClampNeg) - (1 : Int32)) hq12) [] (atAll_map trivial) (by decide +kernel) (sameAd_map trivial) (atAll_map trivial) (agr_refl _ _ _) (va_cwS 2 hts gX8_gives_X8_larger rfl rfl rfl dsc_X8_larger ⟨Nat.le_of_ble_eq_true rfl, Nat.le_of_ble_eq_true rfl⟩) rfl hl.1 rfl (Nat.le_of_ble_eq_true rfl) dX8_gives_71 ⟨Nat.zero_le _, Nat.zero_le _⟩ (fun H locs hP hD hS => ?_)
  obtain ⟨k13, h⟩ := ite_n h
  obtain ⟨u14, hu14, h⟩ := bnd_e h
  refine k_iast (f := u10) hx hb hKK.1 hP hD hS 13 1 hu14 rfl rfl k13 dX8_gives_74 (fun H locs hP hD hS => ?_)
  have hP : va_P (dC, dI) vwCl ([cX8 a0 g0 (stR o0 18 u14), cX8_0 cI g0 (stR o0 18 u14), cX8_1 cI g0 (stR o0 18 u14), cX8_3 cI g0 (stR o0 18 u14), cX8_4 cI g0 (stR o0 18 u14), cX8_6 cI g0 (stR o0 18 u14), cX8_8 cI g0 (stR o0 18 u14), cX8_9 cI g0 (stR o0 18 u14), cX8_10 cI g0 (stR o0 18 u14), cX8_12 cI g0 (stR o0 18 u14), cX8_13 cI g0 (stR o0 18 u14), cX8_15 cI g0 (stR o0 18 u14), cX8_17 cI g0 (stR o0 18 u14), cX8_18 cI g0 (stR o0 18 u14), cX8_22 cB g0 (stR o0 18 u14), cX8_27 cI g0 (stR o0 18 u14), cX8_28 cI g0 (stR o0 18 u14), cX8_29 cI g0 (stR o0 18 u14), cX8_30 cI g0 (stR o0 18 u14), cX8_31 cI g0 (stR o0 18 u14), cX8_32 cI g0 (stR o0 18 u14), cX8_33 cI g0 (stR o0 18 u14)]) H := hP
  have hD : va_D A ([cX8 a0 g0 (stR o0 18 u14), cX8_0 cI g0 (stR o0 18 u14), cX8_1 cI g0 (stR o0 18 u14), cX8_3 cI g0 (stR o0 18 u14), cX8_4 cI g0 (stR o0 18 u14), cX8_6 cI g0 (stR o0 18 u14), cX8_8 cI g0 (stR o0 18 u14), cX8_9 cI g0 (stR o0 18 u14), cX8_10 cI g0 (stR o0 18 u14), cX8_12 cI g0 (stR o0 18 u14), cX8_13 cI g0 (stR o0 18 u14), cX8_15 cI g0 (stR o0 18 u14), cX8_17 cI g0 (stR o0 18 u14), cX8_18 cI g0 (stR o0 18 u14), cX8_22 cB g0 (stR o0 18 u14), cX8_27 cI g0 (stR o0 18 u14), cX8_28 cI g0 (stR o0 18 u14), cX8_29 cI g0 (stR o0 18 u14), cX8_30 cI g0 (stR o0 18 u14), cX8_31 cI g0 (stR o0 18 u14), cX8_32 cI g0 (stR o0 18 u14), cX8_33 cI g0 (stR o0 18 u14)]) := hD
  have h := Option.some.inj h
  subst h
  subst hQ
  exact W.vret hx hb hr (fun t ht hW => ⟨⟨rfl, by rw [ht]; exact hP, hD⟩, hS.F ht⟩) hS.2.2 dX8_gives_75
def f_X8_push (o0 : Ob) (v1 : Int32) (v2 : Int32) : Option (Int32 × Ob) := bnd (f_X8_isPush o0 v1 v2) fun q1 : Bool => if (b2i q1) = 0 then (some ((-1 : Int32), o0)) else ((f_X8_known o0).bind fun q3 : Ob => (f_X8_gives q3 (0 : Int32) v1 v2).bind fun q4 : Ob => some ((((q4.2 18) (0 : Int32).toNatClampNeg) + (40 : Int32)), q4))
abbrev rmX8_push : Room := { frames := 3, cells := 0, slots := 0, locals := 67 }
theorem dsc_X8_push : yX8_push.cls ≠ "java/lang/invoke/MethodHandle" ∧ yX8_push.cls ≠ "java/lang/invoke/VarHandle" ∧ (parseMethodDescriptor yX8_push.desc).map (fun d => d.parameters.length) = some 2 := by decide +kernel
set_option maxHeartbeats 4000000 in
set_option maxRecDepth 100000 in
theorem c_X8_push (l : Launch) (dC : Nat → ClassId) (dI : Nat → Nat → Nat) (cB cI cZ cO : ClassId) (a0 : Nat) (g0 : Nat → Nat) (o0 : Ob) (v1 : Int32) (v2 : Int32) {r : Int32 × Ob} (h : f_X8_push o0 v1 v2 = some r) : Ct dC dI cB cI cZ cO l yX8_push wsX8_push rmX8_push [.ref a0, .int v1, .int v2] ([cX8 a0 g0 o0, cX8_0 cI g0 o0, cX8_1 cI g0 o0, cX8_3 cI g0 o0, cX8_4 cI g0 o0, cX8_6 cI g0 o0, cX8_8 cI g0 o0, cX8_9 cI g0 o0, cX8_10 cI g0 o0, cX8_12 cI g0 o0, cX8_13 cI g0 o0, cX8_15 cI g0 o0, cX8_17 cI g0 o0, cX8_18 cI g0 o0, cX8_22 cB g0 o0, cX8_27 cI g0 o0, cX8_28 cI g0 o0, cX8_29 cI g0 o0, cX8_30 cI g0 o0, cX8_31 cI g0 o0, cX8_32 cI g0 o0, cX8_33 cI g0 o0]) (some (.int r.1)) ([cX8 a0 g0 r.2, cX8_0 cI g0 r.2, cX8_1 cI g0 r.2, cX8_3 cI g0 r.2, cX8_4 cI g0 r.2, cX8_6 cI g0 r.2, cX8_8 cI g0 r.2, cX8_9 cI g0 r.2, cX8_10 cI g0 r.2, cX8_12 cI g0 r.2, cX8_13 cI g0 r.2, cX8_15 cI g0 r.2, cX8_17 cI g0 r.2, cX8_18 cI g0 r.2, cX8_22 cB g0 r.2, cX8_27 cI g0 r.2, cX8_28 cI g0 r.2, cX8_29 cI g0 r.2, cX8_30 cI g0 r.2, cX8_31 cI g0 r.2, cX8_32 cI g0 r.2, cX8_33 cI g0 r.2]) := by
  intro sz
  refine Met.ofW (cc := cX8_push) (maxL := 3) (ret := (some .int)) (by decide) rfl ?_
  intro p e s m args below meth c s₁ B hml hv
  obtain ⟨rfl, hsz, hP, hKK, hD0⟩ := hv
  have hx := B.exec
  have hb := B.bytes
  have hr := B.returns
  have hts := atoms_spec (ws := wsX8_push) B.pre
  have hown : s.vm.findClass RX8 = some m.cls := findClass_of_methodNamed B.named
  have hlocks := B.notSynchronized
  have hiX8 : ∀ w ∈ u_ws RX8 TX8 36, w ∈ wsX8_push := fun w h => List.mem_cons_of_mem _ (List.mem_append_right _ h)
  subst hsz
  have hD := hD0.self (sz := s.heap.size)
  generalize hAe : va_A ([cX8 a0 g0 o0, cX8_0 cI g0 o0, cX8_1 cI g0 o0, cX8_3 cI g0 o0, cX8_4 cI g0 o0, cX8_6 cI g0 o0, cX8_8 cI g0 o0, cX8_9 cI g0 o0, cX8_10 cI g0 o0, cX8_12 cI g0 o0, cX8_13 cI g0 o0, cX8_15 cI g0 o0, cX8_17 cI g0 o0, cX8_18 cI g0 o0, cX8_22 cB g0 o0, cX8_27 cI g0 o0, cX8_28 cI g0 o0, cX8_29 cI g0 o0, cX8_30 cI g0 o0, cX8_31 cI g0 o0, cX8_32 cI g0 o0, cX8_33 cI g0 o0]) s.heap.size = A at hD ⊢
  have hA : ∀ q : Nat, s.heap.size ≤ q → A q := fun q h => by rw [← hAe]; exact Or.inr h
  have hS : va_S A s.heap s.heap [] := va_S.rf
  have hP : va_P (dC, dI) vwCl ([cX8 a0 g0 o0, cX8_0 cI g0 o0, cX8_1 cI g0 o0, cX8_3 cI g0 o0, cX8_4 cI g0 o0, cX8_6 cI g0 o0, cX8_8 cI g0 o0, cX8_9 cI g0 o0, cX8_10 cI g0 o0, cX8_12 cI g0 o0, cX8_13 cI g0 o0, cX8_15 cI g0 o0, cX8_17 cI g0 o0, cX8_18 cI g0 o0, cX8_22 cB g0 o0, cX8_27 cI g0 o0, cX8_28 cI g0 o0, cX8_29 cI g0 o0, cX8_30 cI g0 o0, cX8_31 cI g0 o0, cX8_32 cI g0 o0, cX8_33 cI g0 o0]) s.heap := hP
  have hD : va_D A ([cX8 a0 g0 o0, cX8_0 cI g0 o0, cX8_1 cI g0 o0, cX8_3 cI g0 o0, cX8_4 cI g0 o0, cX8_6 cI g0 o0, cX8_8 cI g0 o0, cX8_9 cI g0 o0, cX8_10 cI g0 o0, cX8_12 cI g0 o0, cX8_13 cI g0 o0, cX8_15 cI g0 o0, cX8_17 cI g0 o0, cX8_18 cI g0 o0, cX8_22 cB g0 o0, cX8_27 cI g0 o0, cX8_28 cI g0 o0, cX8_29 cI g0 o0, cX8_30 cI g0 o0, cX8_31 cI g0 o0, cX8_32 cI g0 o0, cX8_33 cI g0 o0]) := hD
  have hl := lv_entry ([.ref a0, .int v1, .int v2]) (n := 3) (Nat.le_of_ble_eq_true rfl)
  rw [lg_entry_eq]
  generalize (lg_sl ([.ref a0, .int v1, .int v2]) ++ List.replicate (3 - (lg_sl ([.ref a0, .int v1, .int v2])).length) Slot.unset).toArray = ls at hl ⊢
  have hl : lv_has ls 3 [(0, .ref a0), (1, .int v1), (2, .int v2)] := hl
  obtain ⟨Q, hQ⟩ : ∃ Q, Q = MQ below (Qq dC dI (some (.int r.1)) ([cX8 a0 g0 r.2, cX8_0 cI g0 r.2, cX8_1 cI g0 r.2, cX8_3 cI g0 r.2, cX8_4 cI g0 r.2, cX8_6 cI g0 r.2, cX8_8 cI g0 r.2, cX8_9 cI g0 r.2, cX8_10 cI g0 r.2, cX8_12 cI g0 r.2, cX8_13 cI g0 r.2, cX8_15 cI g0 r.2, cX8_17 cI g0 r.2, cX8_18 cI g0 r.2, cX8_22 cB g0 r.2, cX8_27 cI g0 r.2, cX8_28 cI g0 r.2, cX8_29 cI g0 r.2, cX8_30 cI g0 r.2, cX8_31 cI g0 r.2, cX8_32 cI g0 r.2, cX8_33 cI g0 r.2]) A) ([.ref a0, .int v1, .int v2] : List Value).toArray s 0 0 A := ⟨_, rfl⟩
  rw [← hQ]
  rw [f_X8_push] at h
  clear hAe hD0
  refine lv_aload_n hx hb dX8_push_0 rfl (lv_at hl 0 rfl) ?_
  refine lv_iload_n hx hb dX8_push_1 rfl (lv_at hl 1 rfl) ?_
  refine lv_iload_n hx hb dX8_push_2 rfl (lv_at hl 2 rfl) ?_
  obtain ⟨q1, hq1, h⟩ := bnd_e h
  refine kcV (rest := []) (w2 := ([cX8 a0 g0 o0, cX8_0 cI g0 o0, cX8_1 cI g0 o0, cX8_3 cI g0 o0, cX8_4 cI g0 o0, cX8_6 cI g0 o0, cX8_8 cI g0 o0, cX8_9 cI g0 o0, cX8_10 cI g0 o0, cX8_12 cI g0 o0, cX8_13 cI g0 o0, cX8_15 cI g0 o0, cX8_17 cI g0 o0, cX8_18 cI g0 o0, cX8_22 cB g0 o0, cX8_27 cI g0 o0, cX8_28 cI g0 o0, cX8_29 cI g0 o0, cX8_30 cI g0 o0, cX8_31 cI g0 o0, cX8_32 cI g0 o0, cX8_33 cI g0 o0])) hx hb hml hown hts hKK hP hD hS hA (c_X8_isPush l dC dI cB cI cZ cO a0 g0 o0 v1 v2 hq1) [0, 1, 2, 3, 4, 5, 6, 7, 8, 9, 10, 11, 12, 13, 14, 15, 16, 17, 18, 19, 20, 21] (atAll_map ⟨rfl, rfl, rfl, rfl, rfl, rfl, rfl, rfl, rfl, rfl, rfl, rfl, rfl, rfl, rfl, rfl, rfl, rfl, rfl, rfl, rfl, rfl, trivial⟩) (by decide +kernel) (sameAd_map ⟨rfl, rfl, rfl, rfl, rfl, rfl, rfl, rfl, rfl, rfl, rfl, rfl, rfl, rfl, rfl, rfl, rfl, rfl, rfl, rfl, rfl, rfl, trivial⟩) (atAll_map ⟨rfl, rfl, rfl, rfl, rfl, rfl, rfl, rfl, rfl, rfl, rfl, rfl, rfl, rfl, rfl, rfl, rfl, rfl, rfl, rfl, rfl, rfl, trivial⟩) (agr_refl _ _ _) (cwV 2 hts gX8_push_X8_isPush rfl rfl rfl ⟨rfl, dsc_X8_isPush⟩ ⟨Nat.le_of_ble_eq_true rfl, Nat.le_of_ble_eq_true rfl⟩) (va_recv hKK.1 hP (ci := 8) (q0 := 0) rfl rfl) rfl hl.1 rfl (Nat.le_of_ble_eq_true rfl) dX8_push_3 ⟨Nat.zero_le _, Nat.zero_le _⟩ (fun H locs hP hD hS => ?_)
  refine lv_if_ne (tgt := 11) hx hb dX8_push_6 (by decide) (fun k2 => ?_) (fun k2 => ?_)
  · have h := ite_f k2 h
    refine lv_aload_n hx hb dX8_push_11 rfl (lv_at hl 0 rfl) ?_
    obtain ⟨q3, hq3, h⟩ := obd_e h
    refine kcV (rest := []) (w2 := ([cX8 a0 g0 q3, cX8_0 cI g0 q3, cX8_1 cI g0 q3, cX8_3 cI g0 q3, cX8_4 cI g0 q3, cX8_6 cI g0 q3, cX8_8 cI g0 q3, cX8_9 cI g0 q3, cX8_10 cI g0 q3, cX8_12 cI g0 q3, cX8_13 cI g0 q3, cX8_15 cI g0 q3, cX8_17 cI g0 q3, cX8_18 cI g0 q3, cX8_22 cB g0 q3, cX8_27 cI g0 q3, cX8_28 cI g0 q3, cX8_29 cI g0 q3, cX8_30 cI g0 q3, cX8_31 cI g0 q3, cX8_32 cI g0 q3, cX8_33 cI g0 q3])) hx hb hml hown hts hKK hP hD hS hA (c_X8_known l dC dI cB cI cZ cO a0 g0 o0 hq3) [0, 1, 2, 3, 4, 5, 6, 7, 8, 9, 10, 11, 12, 13, 14, 15, 16, 17, 18, 19, 20, 21] (atAll_map ⟨rfl, rfl, rfl, rfl, rfl, rfl, rfl, rfl, rfl, rfl, rfl, rfl, rfl, rfl, rfl, rfl, rfl, rfl, rfl, rfl, rfl, rfl, trivial⟩) (by decide +kernel) (sameAd_map ⟨rfl, rfl, rfl, rfl, rfl, rfl, rfl, rfl, rfl, rfl, rfl, rfl, rfl, rfl, rfl, rfl, rfl, rfl, rfl, rfl, rfl, rfl, trivial⟩) (atAll_map ⟨rfl, rfl, rfl, rfl, rfl, rfl, rfl, rfl, rfl, rfl, rfl, rfl, rfl, rfl, rfl, rfl, rfl, rfl, rfl, rfl, rfl, rfl, trivial⟩) ⟨Or.inr (by decide), Or.inr (by decide), Or.inr (by decide), Or.inr (by decide), Or.inr (by decide), Or.inr (by decide), Or.inr (by decide), Or.inr (by decide), Or.inr (by decide), Or.inr (by decide), Or.inr (by decide), Or.inr (by decide), Or.inr (by decide), Or.inr (by decide), Or.inr (by decide), Or.inr (by decide), Or.inr (by decide), Or.inr (by decide), Or.inr (by decide), Or.inr (by decide), Or.inr (by decide), Or.inr (by decide), trivial⟩ (cwV 0 hts gX8_push_X8_known rfl rfl rfl ⟨rfl, dsc_X8_known⟩ ⟨Nat.le_of_ble_eq_true rfl, Nat.le_of_ble_eq_true rfl⟩) (va_recv hKK.1 hP (ci := 8) (q0 := 0) rfl rfl) rfl hl.1 rfl (Nat.le_of_ble_eq_true rfl) dX8_push_12 ⟨Nat.zero_le _, Nat.zero_le _⟩ (fun H locs hP hD hS => ?_)
    refine lv_aload_n hx hb dX8_push_15 rfl (lv_at hl 0 rfl) ?_
    refine lv_iconst (v := (0 : Int32)) hx hb dX8_push_16 (by decide) ?_
    refine lv_iload_n hx hb dX8_push_17 rfl (lv_at hl 1 rfl) ?_
    refine lv_iload_n hx hb dX8_push_18 rfl (lv_at hl 2 rfl) ?_
    obtain ⟨q4, hq4, h⟩ := obd_e h
    refine kcV (rest := []) (w2 := ([cX8 a0 g0 q4, cX8_0 cI g0 q4, cX8_1 cI g0 q4, cX8_3 cI g0 q4, cX8_4 cI g0 q4, cX8_6 cI g0 q4, cX8_8 cI g0 q4, cX8_9 cI g0 q4, cX8_10 cI g0 q4, cX8_12 cI g0 q4, cX8_13 cI g0 q4, cX8_15 cI g0 q4, cX8_17 cI g0 q4, cX8_18 cI g0 q4, cX8_22 cB g0 q4, cX8_27 cI g0 q4, cX8_28 cI g0 q4, cX8_29 cI g0 q4, cX8_30 cI g0 q4, cX8_31 cI g0 q4, cX8_32 cI g0 q4, cX8_33 cI g0 q4])) hx hb hml hown hts hKK hP hD hS hA (c_X8_gives l dC dI cB cI cZ cO a0 g0 q3 (0 : Int32) v1 v2 hq4) [0, 1, 2, 3, 4, 5, 6, 7, 8, 9, 10, 11, 12, 13, 14, 15, 16, 17, 18, 19, 20, 21] (atAll_map ⟨rfl, rfl, rfl, rfl, rfl, rfl, rfl, rfl, rfl, rfl, rfl, rfl, rfl, rfl, rfl, rfl, rfl, rfl, rfl, rfl, rfl, rfl, trivial⟩) (by decide +kernel) (sameAd_map ⟨rfl, rfl, rfl, rfl, rfl, rfl, rfl, rfl, rfl, rfl, rfl, rfl, rfl, rfl, rfl, rfl, rfl, rfl, rfl, rfl, rfl, rfl, trivial⟩) (atAll_map ⟨rfl, rfl, rfl, rfl, rfl, rfl, rfl, rfl, rfl, rfl, rfl, rfl, rfl, rfl, rfl, rfl, rfl, rfl, rfl, rfl, rfl, rfl, trivial⟩) ⟨Or.inr (by decide), Or.inr (by decide), Or.inr (by decide), Or.inr (by decide), Or.inr (by decide), Or.inr (by decide), Or.inr (by decide), Or.inr (by decide), Or.inr (by decide), Or.inr (by decide), Or.inr (by decide), Or.inr (by decide), Or.inr (by decide), Or.inr (by decide), Or.inr (by decide), Or.inr (by decide), Or.inr (by decide), Or.inr (by decide), Or.inr (by decide), Or.inr (by decide), Or.inr (by decide), Or.inr (by decide), trivial⟩ (cwV 3 hts gX8_push_X8_gives rfl rfl rfl ⟨rfl, dsc_X8_gives⟩ ⟨Nat.le_of_ble_eq_true rfl, Nat.le_of_ble_eq_true rfl⟩) (va_recv hKK.1 hP (ci := 8) (q0 := 0) rfl rfl) rfl hl.1 rfl (Nat.le_of_ble_eq_true rfl) dX8_push_19 ⟨Nat.zero_le _, Nat.zero_le _⟩ (fun H locs hP hD hS => ?_)
    refine lv_aload_n hx hb dX8_push_22 rfl (lv_at hl 0 rfl) ?_
    refine va_get (D := (dC, dI)) (ci := 8) (v := .ref (g0 18)) (C := RX8) (T := TX8) (N := 36) hx hb hts hiX8 hown hKK.1 hP 0 rfl rfl 18 (by decide) (hts (.fieldLink RX8 46 "SlideLandModel" "slot" "[I") (List.mem_of_getElem? (i := 1) rfl)) (fun _ h9 => h9) rfl dX8_push_23 ?_
    refine lv_iconst (v := (0 : Int32)) hx hb dX8_push_26 (by decide) ?_
    refine va_iald hx hb hKK.1 hP 13 1 rfl rfl (show ¬ ((0 : Int32) < 0 ∨ 312 ≤ (0 : Int32).toNatClampNeg) from by decide) dX8_push_27 ?_
    refine lv_bipush (v := (40 : Int32)) hx hb dX8_push_28 (by decide) ?_
    refine lv_iadd hx hb dX8_push_30 ?_
    have h := Option.some.inj h
    subst h
    subst hQ
    exact W.iret (v := (((q4.2 18) (0 : Int32).toNatClampNeg) + (40 : Int32))) hx hb hr (fun t ht hW => ⟨⟨rfl, by rw [ht]; exact hP, hD⟩, hS.F ht⟩) hS.2.2 dX8_push_31
  · have h := ite_t k2 h
    refine lv_iconst (v := (-1 : Int32)) hx hb dX8_push_9 (by decide) ?_
    have h := Option.some.inj h
    subst h
    subst hQ
    exact W.iret (v := (-1 : Int32)) hx hb hr (fun t ht hW => ⟨⟨rfl, by rw [ht]; exact hP, hD⟩, hS.F ht⟩) hS.2.2 dX8_push_10
def f_X8_chalk (o0 : Ob) (v1 : Int32) : Option (Int32 × Ob) := bnd (f_X8_in (v1.toInt64) (0 : Int64) (9 : Int64)) fun q1 : Bool => if (b2i q1) = 0 then (some ((-1 : Int32), o0)) else ((f_X8_known o0).bind fun q3 : Ob => bnd ((q3.2 18) (2 : Int32).toNatClampNeg) fun x4 : Int32 => bnd (upd (q3.2 18) (2 : Int32).toNatClampNeg v1) fun u5 : Nat → Int32 => some (x4, (stR q3 18 u5)))
abbrev rmX8_chalk : Room := { frames := 2, cells := 0, slots := 0, locals := 44 }
theorem dsc_X8_chalk : yX8_chalk.cls ≠ "java/lang/invoke/MethodHandle" ∧ yX8_chalk.cls ≠ "java/lang/invoke/VarHandle" ∧ (parseMethodDescriptor yX8_chalk.desc).map (fun d => d.parameters.length) = some 1 := by decide +kernel
set_option maxHeartbeats 4000000 in
set_option maxRecDepth 100000 in
theorem c_X8_chalk (l : Launch) (dC : Nat → ClassId) (dI : Nat → Nat → Nat) (cB cI cZ cO : ClassId) (a0 : Nat) (g0 : Nat → Nat) (o0 : Ob) (v1 : Int32) {r : Int32 × Ob} (h : f_X8_chalk o0 v1 = some r) : Ct dC dI cB cI cZ cO l yX8_chalk wsX8_chalk rmX8_chalk [.ref a0, .int v1] ([cX8 a0 g0 o0, cX8_0 cI g0 o0, cX8_1 cI g0 o0, cX8_3 cI g0 o0, cX8_4 cI g0 o0, cX8_6 cI g0 o0, cX8_8 cI g0 o0, cX8_9 cI g0 o0, cX8_10 cI g0 o0, cX8_12 cI g0 o0, cX8_13 cI g0 o0, cX8_15 cI g0 o0, cX8_17 cI g0 o0, cX8_18 cI g0 o0, cX8_22 cB g0 o0, cX8_27 cI g0 o0, cX8_28 cI g0 o0, cX8_29 cI g0 o0, cX8_30 cI g0 o0, cX8_31 cI g0 o0, cX8_32 cI g0 o0, cX8_33 cI g0 o0]) (some (.int r.1)) ([cX8 a0 g0 r.2, cX8_0 cI g0 r.2, cX8_1 cI g0 r.2, cX8_3 cI g0 r.2, cX8_4 cI g0 r.2, cX8_6 cI g0 r.2, cX8_8 cI g0 r.2, cX8_9 cI g0 r.2, cX8_10 cI g0 r.2, cX8_12 cI g0 r.2, cX8_13 cI g0 r.2, cX8_15 cI g0 r.2, cX8_17 cI g0 r.2, cX8_18 cI g0 r.2, cX8_22 cB g0 r.2, cX8_27 cI g0 r.2, cX8_28 cI g0 r.2, cX8_29 cI g0 r.2, cX8_30 cI g0 r.2, cX8_31 cI g0 r.2, cX8_32 cI g0 r.2, cX8_33 cI g0 r.2]) := by
  intro sz
  refine Met.ofW (cc := cX8_chalk) (maxL := 3) (ret := (some .int)) (by decide) rfl ?_
  intro p e s m args below meth c s₁ B hml hv
  obtain ⟨rfl, hsz, hP, hKK, hD0⟩ := hv
  have hx := B.exec
  have hb := B.bytes
  have hr := B.returns
  have hts := atoms_spec (ws := wsX8_chalk) B.pre
  have hown : s.vm.findClass RX8 = some m.cls := findClass_of_methodNamed B.named
  have hlocks := B.notSynchronized
  have hiX8 : ∀ w ∈ u_ws RX8 TX8 36, w ∈ wsX8_chalk := fun w h => List.mem_cons_of_mem _ (List.mem_append_right _ h)
  subst hsz
  have hD := hD0.self (sz := s.heap.size)
  generalize hAe : va_A ([cX8 a0 g0 o0, cX8_0 cI g0 o0, cX8_1 cI g0 o0, cX8_3 cI g0 o0, cX8_4 cI g0 o0, cX8_6 cI g0 o0, cX8_8 cI g0 o0, cX8_9 cI g0 o0, cX8_10 cI g0 o0, cX8_12 cI g0 o0, cX8_13 cI g0 o0, cX8_15 cI g0 o0, cX8_17 cI g0 o0, cX8_18 cI g0 o0, cX8_22 cB g0 o0, cX8_27 cI g0 o0, cX8_28 cI g0 o0, cX8_29 cI g0 o0, cX8_30 cI g0 o0, cX8_31 cI g0 o0, cX8_32 cI g0 o0, cX8_33 cI g0 o0]) s.heap.size = A at hD ⊢
  have hA : ∀ q : Nat, s.heap.size ≤ q → A q := fun q h => by rw [← hAe]; exact Or.inr h
  have hS : va_S A s.heap s.heap [] := va_S.rf
  have hP : va_P (dC, dI) vwCl ([cX8 a0 g0 o0, cX8_0 cI g0 o0, cX8_1 cI g0 o0, cX8_3 cI g0 o0, cX8_4 cI g0 o0, cX8_6 cI g0 o0, cX8_8 cI g0 o0, cX8_9 cI g0 o0, cX8_10 cI g0 o0, cX8_12 cI g0 o0, cX8_13 cI g0 o0, cX8_15 cI g0 o0, cX8_17 cI g0 o0, cX8_18 cI g0 o0, cX8_22 cB g0 o0, cX8_27 cI g0 o0, cX8_28 cI g0 o0, cX8_29 cI g0 o0, cX8_30 cI g0 o0, cX8_31 cI g0 o0, cX8_32 cI g0 o0, cX8_33 cI g0 o0]) s.heap := hP
  have hD : va_D A ([cX8 a0 g0 o0, cX8_0 cI g0 o0, cX8_1 cI g0 o0, cX8_3 cI g0 o0, cX8_4 cI g0 o0, cX8_6 cI g0 o0, cX8_8 cI g0 o0, cX8_9 cI g0 o0, cX8_10 cI g0 o0, cX8_12 cI g0 o0, cX8_13 cI g0 o0, cX8_15 cI g0 o0, cX8_17 cI g0 o0, cX8_18 cI g0 o0, cX8_22 cB g0 o0, cX8_27 cI g0 o0, cX8_28 cI g0 o0, cX8_29 cI g0 o0, cX8_30 cI g0 o0, cX8_31 cI g0 o0, cX8_32 cI g0 o0, cX8_33 cI g0 o0]) := hD
  have hl := lv_entry ([.ref a0, .int v1]) (n := 3) (Nat.le_of_ble_eq_true rfl)
  rw [lg_entry_eq]
  generalize (lg_sl ([.ref a0, .int v1]) ++ List.replicate (3 - (lg_sl ([.ref a0, .int v1])).length) Slot.unset).toArray = ls at hl ⊢
  have hl : lv_has ls 3 [(0, .ref a0), (1, .int v1)] := hl
  obtain ⟨Q, hQ⟩ : ∃ Q, Q = MQ below (Qq dC dI (some (.int r.1)) ([cX8 a0 g0 r.2, cX8_0 cI g0 r.2, cX8_1 cI g0 r.2, cX8_3 cI g0 r.2, cX8_4 cI g0 r.2, cX8_6 cI g0 r.2, cX8_8 cI g0 r.2, cX8_9 cI g0 r.2, cX8_10 cI g0 r.2, cX8_12 cI g0 r.2, cX8_13 cI g0 r.2, cX8_15 cI g0 r.2, cX8_17 cI g0 r.2, cX8_18 cI g0 r.2, cX8_22 cB g0 r.2, cX8_27 cI g0 r.2, cX8_28 cI g0 r.2, cX8_29 cI g0 r.2, cX8_30 cI g0 r.2, cX8_31 cI g0 r.2, cX8_32 cI g0 r.2, cX8_33 cI g0 r.2]) A) ([.ref a0, .int v1] : List Value).toArray s 0 0 A := ⟨_, rfl⟩
  rw [← hQ]
  rw [f_X8_chalk] at h
  clear hAe hD0
  refine lv_iload_n hx hb dX8_chalk_0 rfl (lv_at hl 1 rfl) ?_
  refine lv_i2l hx hb dX8_chalk_1 rfl ?_
  refine lv_lconst (v := 0) hx hb dX8_chalk_2 (by decide) ?_
  refine lv_ldc2 hx hb hown (hts (.constantLong RX8 226 (9)) (List.mem_of_getElem? (i := 1) rfl)) dX8_chalk_3 ?_
  obtain ⟨q1, hq1, h⟩ := bnd_e h
  refine kcS (rest := []) (w2 := ([cX8 a0 g0 o0, cX8_0 cI g0 o0, cX8_1 cI g0 o0, cX8_3 cI g0 o0, cX8_4 cI g0 o0, cX8_6 cI g0 o0, cX8_8 cI g0 o0, cX8_9 cI g0 o0, cX8_10 cI g0 o0, cX8_12 cI g0 o0, cX8_13 cI g0 o0, cX8_15 cI g0 o0, cX8_17 cI g0 o0, cX8_18 cI g0 o0, cX8_22 cB g0 o0, cX8_27 cI g0 o0, cX8_28 cI g0 o0, cX8_29 cI g0 o0, cX8_30 cI g0 o0, cX8_31 cI g0 o0, cX8_32 cI g0 o0, cX8_33 cI g0 o0])) hx hb hml hown hts hKK hP hD hS hA (c_X8_in l dC dI cB cI cZ cO (v1.toInt64) (0 : Int64) (9 : Int64) hq1) [] (atAll_map trivial) (by decide +kernel) (sameAd_map trivial) (atAll_map trivial) (agr_refl _ _ _) (va_cwS 3 hts gX8_chalk_X8_in rfl rfl rfl dsc_X8_in ⟨Nat.le_of_ble_eq_true rfl, Nat.le_of_ble_eq_true rfl⟩) rfl hl.1 rfl (Nat.le_of_ble_eq_true rfl) dX8_chalk_6 ⟨Nat.zero_le _, Nat.zero_le _⟩ (fun H locs hP hD hS => ?_)
  refine lv_if_ne (tgt := 14) hx hb dX8_chalk_9 (by decide) (fun k2 => ?_) (fun k2 => ?_)
  · have h := ite_f k2 h
    refine lv_aload_n hx hb dX8_chalk_14 rfl (lv_at hl 0 rfl) ?_
    obtain ⟨q3, hq3, h⟩ := obd_e h
    refine kcV (rest := []) (w2 := ([cX8 a0 g0 q3, cX8_0 cI g0 q3, cX8_1 cI g0 q3, cX8_3 cI g0 q3, cX8_4 cI g0 q3, cX8_6 cI g0 q3, cX8_8 cI g0 q3, cX8_9 cI g0 q3, cX8_10 cI g0 q3, cX8_12 cI g0 q3, cX8_13 cI g0 q3, cX8_15 cI g0 q3, cX8_17 cI g0 q3, cX8_18 cI g0 q3, cX8_22 cB g0 q3, cX8_27 cI g0 q3, cX8_28 cI g0 q3, cX8_29 cI g0 q3, cX8_30 cI g0 q3, cX8_31 cI g0 q3, cX8_32 cI g0 q3, cX8_33 cI g0 q3])) hx hb hml hown hts hKK hP hD hS hA (c_X8_known l dC dI cB cI cZ cO a0 g0 o0 hq3) [0, 1, 2, 3, 4, 5, 6, 7, 8, 9, 10, 11, 12, 13, 14, 15, 16, 17, 18, 19, 20, 21] (atAll_map ⟨rfl, rfl, rfl, rfl, rfl, rfl, rfl, rfl, rfl, rfl, rfl, rfl, rfl, rfl, rfl, rfl, rfl, rfl, rfl, rfl, rfl, rfl, trivial⟩) (by decide +kernel) (sameAd_map ⟨rfl, rfl, rfl, rfl, rfl, rfl, rfl, rfl, rfl, rfl, rfl, rfl, rfl, rfl, rfl, rfl, rfl, rfl, rfl, rfl, rfl, rfl, trivial⟩) (atAll_map ⟨rfl, rfl, rfl, rfl, rfl, rfl, rfl, rfl, rfl, rfl, rfl, rfl, rfl, rfl, rfl, rfl, rfl, rfl, rfl, rfl, rfl, rfl, trivial⟩) ⟨Or.inr (by decide), Or.inr (by decide), Or.inr (by decide), Or.inr (by decide), Or.inr (by decide), Or.inr (by decide), Or.inr (by decide), Or.inr (by decide), Or.inr (by decide), Or.inr (by decide), Or.inr (by decide), Or.inr (by decide), Or.inr (by decide), Or.inr (by decide), Or.inr (by decide), Or.inr (by decide), Or.inr (by decide), Or.inr (by decide), Or.inr (by decide), Or.inr (by decide), Or.inr (by decide), Or.inr (by decide), trivial⟩ (cwV 0 hts gX8_chalk_X8_known rfl rfl rfl ⟨rfl, dsc_X8_known⟩ ⟨Nat.le_of_ble_eq_true rfl, Nat.le_of_ble_eq_true rfl⟩) (va_recv hKK.1 hP (ci := 8) (q0 := 0) rfl rfl) rfl hl.1 rfl (Nat.le_of_ble_eq_true rfl) dX8_chalk_15 ⟨Nat.zero_le _, Nat.zero_le _⟩ (fun H locs hP hD hS => ?_)
    refine lv_aload_n hx hb dX8_chalk_18 rfl (lv_at hl 0 rfl) ?_
    refine va_get (D := (dC, dI)) (ci := 8) (v := .ref (g0 18)) (C := RX8) (T := TX8) (N := 36) hx hb hts hiX8 hown hKK.1 hP 0 rfl rfl 18 (by decide) (hts (.fieldLink RX8 46 "SlideLandModel" "slot" "[I") (List.mem_of_getElem? (i := 2) rfl)) (fun _ h9 => h9) rfl dX8_chalk_19 ?_
    refine lv_iconst (v := (2 : Int32)) hx hb dX8_chalk_22 (by decide) ?_
    refine va_iald hx hb hKK.1 hP 13 1 rfl rfl (show ¬ ((2 : Int32) < 0 ∨ 312 ≤ (2 : Int32).toNatClampNeg) from by decide) dX8_chalk_23 ?_
    obtain ⟨x4, hx4, h⟩ := bnd_e h
    refine lv_topE hx4 ?_
    refine lv_istore_n (lv' := [(2, .int x4), (0, .ref a0), (1, .int v1)]) hx hb dX8_chalk_24 rfl hl (by decide) rfl (fun ls hl => ?_)
    refine lv_aload_n hx hb dX8_chalk_25 rfl (lv_at hl 1 rfl) ?_
    refine va_get (D := (dC, dI)) (ci := 8) (v := .ref (g0 18)) (C := RX8) (T := TX8) (N := 36) hx hb hts hiX8 hown hKK.1 hP 0 rfl rfl 18 (by decide) (hts (.fieldLink RX8 46 "SlideLandModel" "slot" "[I") (List.mem_of_getElem? (i := 2) rfl)) (fun _ h9 => h9) rfl dX8_chalk_26 ?_
    refine lv_iconst (v := (2 : Int32)) hx hb dX8_chalk_29 (by decide) ?_
    refine lv_iload_n hx hb dX8_chalk_30 rfl (lv_at hl 2 rfl) ?_
    obtain ⟨u5, hu5, h⟩ := bnd_e h
    refine k_iast (f := (q3.2 18)) hx hb hKK.1 hP hD hS 13 1 hu5 rfl rfl (show ¬ ((2 : Int32) < 0 ∨ 312 ≤ (2 : Int32).toNatClampNeg) from by decide) dX8_chalk_31 (fun H locs hP hD hS => ?_)
    have hP : va_P (dC, dI) vwCl ([cX8 a0 g0 (stR q3 18 u5), cX8_0 cI g0 (stR q3 18 u5), cX8_1 cI g0 (stR q3 18 u5), cX8_3 cI g0 (stR q3 18 u5), cX8_4 cI g0 (stR q3 18 u5), cX8_6 cI g0 (stR q3 18 u5), cX8_8 cI g0 (stR q3 18 u5), cX8_9 cI g0 (stR q3 18 u5), cX8_10 cI g0 (stR q3 18 u5), cX8_12 cI g0 (stR q3 18 u5), cX8_13 cI g0 (stR q3 18 u5), cX8_15 cI g0 (stR q3 18 u5), cX8_17 cI g0 (stR q3 18 u5), cX8_18 cI g0 (stR q3 18 u5), cX8_22 cB g0 (stR q3 18 u5), cX8_27 cI g0 (stR q3 18 u5), cX8_28 cI g0 (stR q3 18 u5), cX8_29 cI g0 (stR q3 18 u5), cX8_30 cI g0 (stR q3 18 u5), cX8_31 cI g0 (stR q3 18 u5), cX8_32 cI g0 (stR q3 18 u5), cX8_33 cI g0 (stR q3 18 u5)]) H := hP
    have hD : va_D A ([cX8 a0 g0 (stR q3 18 u5), cX8_0 cI g0 (stR q3 18 u5), cX8_1 cI g0 (stR q3 18 u5), cX8_3 cI g0 (stR q3 18 u5), cX8_4 cI g0 (stR q3 18 u5), cX8_6 cI g0 (stR q3 18 u5), cX8_8 cI g0 (stR q3 18 u5), cX8_9 cI g0 (stR q3 18 u5), cX8_10 cI g0 (stR q3 18 u5), cX8_12 cI g0 (stR q3 18 u5), cX8_13 cI g0 (stR q3 18 u5), cX8_15 cI g0 (stR q3 18 u5), cX8_17 cI g0 (stR q3 18 u5), cX8_18 cI g0 (stR q3 18 u5), cX8_22 cB g0 (stR q3 18 u5), cX8_27 cI g0 (stR q3 18 u5), cX8_28 cI g0 (stR q3 18 u5), cX8_29 cI g0 (stR q3 18 u5), cX8_30 cI g0 (stR q3 18 u5), cX8_31 cI g0 (stR q3 18 u5), cX8_32 cI g0 (stR q3 18 u5), cX8_33 cI g0 (stR q3 18 u5)]) := hD
    refine lv_iload_n hx hb dX8_chalk_32 rfl (lv_at hl 0 rfl) ?_
    have h := Option.some.inj h
    subst h
    subst hQ
    exact W.iret (v := x4) hx hb hr (fun t ht hW => ⟨⟨rfl, by rw [ht]; exact hP, hD⟩, hS.F ht⟩) hS.2.2 dX8_chalk_33
  · have h := ite_t k2 h
    refine lv_iconst (v := (-1 : Int32)) hx hb dX8_chalk_12 (by decide) ?_
    have h := Option.some.inj h
    subst h
    subst hQ
    exact W.iret (v := (-1 : Int32)) hx hb hr (fun t ht hW => ⟨⟨rfl, by rw [ht]; exact hP, hD⟩, hS.F ht⟩) hS.2.2 dX8_chalk_13
def f_X8_trades_150 (v1 : Int32) (x2_2 : Int32) (kL2 : (Int32 → Ob → Option (Ob))) (o20_0 : Ob) (y150_2 : Int32) : Option (Ob) := if ((v1 + (4 : Int32)) + x2_2) < 0 ∨ 312 ≤ ((v1 + (4 : Int32)) + x2_2).toNatClampNeg then none else bnd (upd (o20_0.2 18) ((v1 + (4 : Int32)) + x2_2).toNatClampNeg y150_2) fun u9 : Nat → Int32 => bnd (x2_2 + (1 : Int32)) fun x10 : Int32 => kL2 x10 (stR o20_0 18 u9)
def f_X8_trades_104 (v1 : Int32) (x2_2 : Int32) (kL2 : (Int32 → Ob → Option (Ob))) (o20_0 : Ob) (y104_0 : Bool) : Option (Ob) := bnd (b2i y104_0) fun x7 : Int32 => if x7 = 0 then (if ((v1 + (4 : Int32)) + x2_2) < 0 ∨ 312 ≤ ((v1 + (4 : Int32)) + x2_2).toNatClampNeg then none else f_X8_trades_150 v1 x2_2 kL2 o20_0 ((o20_0.2 18) ((v1 + (4 : Int32)) + x2_2).toNatClampNeg)) else (if ((v1 + (4 : Int32)) + x2_2) < 0 ∨ 312 ≤ ((v1 + (4 : Int32)) + x2_2).toNatClampNeg then none else bnd (f_X8_smaller (99 : Int32) (((o20_0.2 18) ((v1 + (4 : Int32)) + x2_2).toNatClampNeg) + (3 : Int32))) fun q14 : Int32 => f_X8_trades_150 v1 x2_2 kL2 o20_0 q14)
def f_X8_trades_103 (v1 : Int32) (x2_2 : Int32) (kL2 : (Int32 → Ob → Option (Ob))) (o20_0 : Ob) : Option (Ob) := f_X8_trades_104 v1 x2_2 kL2 o20_0 false
def f_X8_trades_79 (x20_4 : Int32) (kL20 : (Int32 → Ob → Option (Ob))) (o79_0 : Ob) : Option (Ob) := bnd (x20_4 + (1 : Int32)) fun x18 : Int32 => kL20 x18 o79_0
def f_X8_trades_20 (v1 : Int32) (x2_2 : Int32) (kL2 : (Int32 → Ob → Option (Ob))) (q5 : Int32) : Nat → Int32 → Ob → Option (Ob)
  | 0, _, _ => none
  | nn20+1, x20_4, o20_0 => if (12 : Int32) ≤ x20_4 then (if (q5 - q5 / (64 : Int32) * (64 : Int32)) ≤ 0 then (f_X8_trades_103 v1 x2_2 kL2 o20_0) else (if (q5 / (64 : Int32)) ≤ 0 then (f_X8_trades_103 v1 x2_2 kL2 o20_0) else (f_X8_trades_104 v1 x2_2 kL2 o20_0 true))) else (bnd (f_X8_has q5 x20_4) fun q17 : Bool => if (b2i q17) = 0 then (f_X8_trades_79 x20_4 (f_X8_trades_20 v1 x2_2 kL2 q5 nn20) o20_0) else (if ((v1 + (4 : Int32)) + x2_2) < 0 ∨ 312 ≤ ((v1 + (4 : Int32)) + x2_2).toNatClampNeg then none else if ((o20_0.2 18) ((v1 + (4 : Int32)) + x2_2).toNatClampNeg) ≤ 0 then (f_X8_trades_79 x20_4 (f_X8_trades_20 v1 x2_2 kL2 q5 nn20) o20_0) else (if ((v1 + (4 : Int32)) + x2_2) < 0 ∨ 312 ≤ ((v1 + (4 : Int32)) + x2_2).toNatClampNeg then none else if ((v1 + (4 : Int32)) + x2_2) < 0 ∨ 312 ≤ ((v1 + (4 : Int32)) + x2_2).toNatClampNeg then none else bnd (upd (o20_0.2 18) ((v1 + (4 : Int32)) + x2_2).toNatClampNeg (((o20_0.2 18) ((v1 + (4 : Int32)) + x2_2).toNatClampNeg) - (1 : Int32))) fun u24 : Nat → Int32 => if ((v1 + (11 : Int32)) + x20_4) < 0 ∨ 312 ≤ ((v1 + (11 : Int32)) + x20_4).toNatClampNeg then none else if ((v1 + (11 : Int32)) + x20_4) < 0 ∨ 312 ≤ ((v1 + (11 : Int32)) + x20_4).toNatClampNeg then none else bnd (upd u24 ((v1 + (11 : Int32)) + x20_4).toNatClampNeg ((u24 ((v1 + (11 : Int32)) + x20_4).toNatClampNeg) + (1 : Int32))) fun u27 : Nat → Int32 => f_X8_trades_79 x20_4 (f_X8_trades_20 v1 x2_2 kL2 q5 nn20) (stR o20_0 18 u27))))
def f_X8_trades_2 (v1 : Int32) : Nat → Int32 → Ob → Option (Ob)
  | 0, _, _ => none
  | nn2+1, x2_2, o2_0 => if (o2_0.1 2) ≤ x2_2 then (if (v1 + (3 : Int32)) < 0 ∨ 312 ≤ (v1 + (3 : Int32)).toNatClampNeg then none else if (v1 + (3 : Int32)) < 0 ∨ 312 ≤ (v1 + (3 : Int32)).toNatClampNeg then none else bnd (upd (o2_0.2 18) (v1 + (3 : Int32)).toNatClampNeg (((o2_0.2 18) (v1 + (3 : Int32)).toNatClampNeg) + (1 : Int32))) fun u4 : Nat → Int32 => some (stR o2_0 18 u4)) else ((f_X8_againstIn o2_0 v1 x2_2).bind fun q5 : Int32 => f_X8_trades_20 v1 x2_2 (f_X8_trades_2 v1 nn2) q5 FU (0 : Int32) o2_0)
def f_X8_trades (o0 : Ob) (v1 : Int32) : Option (Ob) := f_X8_trades_2 v1 FU (0 : Int32) o0
abbrev rmX8_trades : Room := { frames := 4, cells := 0, slots := 0, locals := 98 }
theorem dsc_X8_trades : yX8_trades.cls ≠ "java/lang/invoke/MethodHandle" ∧ yX8_trades.cls ≠ "java/lang/invoke/VarHandle" ∧ (parseMethodDescriptor yX8_trades.desc).map (fun d => d.parameters.length) = some 1 := by decide +kernel
set_option maxHeartbeats 4000000 in
set_option maxRecDepth 100000 in
theorem c_X8_trades (l : Launch) (dC : Nat → ClassId) (dI : Nat → Nat → Nat) (cB cI cZ cO : ClassId) (a0 : Nat) (g0 : Nat → Nat) (o0 : Ob) (v1 : Int32) {r : Ob} (h : f_X8_trades o0 v1 = some r) : Ct dC dI cB cI cZ cO l yX8_trades wsX8_trades rmX8_trades [.ref a0, .int v1] ([cX8 a0 g0 o0, cX8_0 cI g0 o0, cX8_1 cI g0 o0, cX8_3 cI g0 o0, cX8_4 cI g0 o0, cX8_6 cI g0 o0, cX8_8 cI g0 o0, cX8_9 cI g0 o0, cX8_10 cI g0 o0, cX8_12 cI g0 o0, cX8_13 cI g0 o0, cX8_15 cI g0 o0, cX8_17 cI g0 o0, cX8_18 cI g0 o0, cX8_22 cB g0 o0, cX8_27 cI g0 o0, cX8_28 cI g0 o0, cX8_29 cI g0 o0, cX8_30 cI g0 o0, cX8_31 cI g0 o0, cX8_32 cI g0 o0, cX8_33 cI g0 o0]) none ([cX8 a0 g0 r, cX8_0 cI g0 r, cX8_1 cI g0 r, cX8_3 cI g0 r, cX8_4 cI g0 r, cX8_6 cI g0 r, cX8_8 cI g0 r, cX8_9 cI g0 r, cX8_10 cI g0 r, cX8_12 cI g0 r, cX8_13 cI g0 r, cX8_15 cI g0 r, cX8_17 cI g0 r, cX8_18 cI g0 r, cX8_22 cB g0 r, cX8_27 cI g0 r, cX8_28 cI g0 r, cX8_29 cI g0 r, cX8_30 cI g0 r, cX8_31 cI g0 r, cX8_32 cI g0 r, cX8_33 cI g0 r]) := by
  intro sz
  refine Met.ofW (cc := cX8_trades) (maxL := 5) (ret := none) (by decide) rfl ?_
  intro p e s m args below meth c s₁ B hml hv
  obtain ⟨rfl, hsz, hP, hKK, hD0⟩ := hv
  have hx := B.exec
  have hb := B.bytes
  have hr := B.returns
  have hts := atoms_spec (ws := wsX8_trades) B.pre
  have hown : s.vm.findClass RX8 = some m.cls := findClass_of_methodNamed B.named
  have hlocks := B.notSynchronized
  have hiX8 : ∀ w ∈ u_ws RX8 TX8 36, w ∈ wsX8_trades := fun w h => List.mem_cons_of_mem _ (List.mem_append_right _ h)
  subst hsz
  have hD := hD0.self (sz := s.heap.size)
  generalize hAe : va_A ([cX8 a0 g0 o0, cX8_0 cI g0 o0, cX8_1 cI g0 o0, cX8_3 cI g0 o0, cX8_4 cI g0 o0, cX8_6 cI g0 o0, cX8_8 cI g0 o0, cX8_9 cI g0 o0, cX8_10 cI g0 o0, cX8_12 cI g0 o0, cX8_13 cI g0 o0, cX8_15 cI g0 o0, cX8_17 cI g0 o0, cX8_18 cI g0 o0, cX8_22 cB g0 o0, cX8_27 cI g0 o0, cX8_28 cI g0 o0, cX8_29 cI g0 o0, cX8_30 cI g0 o0, cX8_31 cI g0 o0, cX8_32 cI g0 o0, cX8_33 cI g0 o0]) s.heap.size = A at hD ⊢
  have hA : ∀ q : Nat, s.heap.size ≤ q → A q := fun q h => by rw [← hAe]; exact Or.inr h
  have hS : va_S A s.heap s.heap [] := va_S.rf
  have hP : va_P (dC, dI) vwCl ([cX8 a0 g0 o0, cX8_0 cI g0 o0, cX8_1 cI g0 o0, cX8_3 cI g0 o0, cX8_4 cI g0 o0, cX8_6 cI g0 o0, cX8_8 cI g0 o0, cX8_9 cI g0 o0, cX8_10 cI g0 o0, cX8_12 cI g0 o0, cX8_13 cI g0 o0, cX8_15 cI g0 o0, cX8_17 cI g0 o0, cX8_18 cI g0 o0, cX8_22 cB g0 o0, cX8_27 cI g0 o0, cX8_28 cI g0 o0, cX8_29 cI g0 o0, cX8_30 cI g0 o0, cX8_31 cI g0 o0, cX8_32 cI g0 o0, cX8_33 cI g0 o0]) s.heap := hP
  have hD : va_D A ([cX8 a0 g0 o0, cX8_0 cI g0 o0, cX8_1 cI g0 o0, cX8_3 cI g0 o0, cX8_4 cI g0 o0, cX8_6 cI g0 o0, cX8_8 cI g0 o0, cX8_9 cI g0 o0, cX8_10 cI g0 o0, cX8_12 cI g0 o0, cX8_13 cI g0 o0, cX8_15 cI g0 o0, cX8_17 cI g0 o0, cX8_18 cI g0 o0, cX8_22 cB g0 o0, cX8_27 cI g0 o0, cX8_28 cI g0 o0, cX8_29 cI g0 o0, cX8_30 cI g0 o0, cX8_31 cI g0 o0, cX8_32 cI g0 o0, cX8_33 cI g0 o0]) := hD
  have hl := lv_entry ([.ref a0, .int v1]) (n := 5) (Nat.le_of_ble_eq_true rfl)
  rw [lg_entry_eq]
  generalize (lg_sl ([.ref a0, .int v1]) ++ List.replicate (5 - (lg_sl ([.ref a0, .int v1])).length) Slot.unset).toArray = ls at hl ⊢
  have hl : lv_has ls 5 [(0, .ref a0), (1, .int v1)] := hl
  obtain ⟨Q, hQ⟩ : ∃ Q, Q = MQ below (Qq dC dI none ([cX8 a0 g0 r, cX8_0 cI g0 r, cX8_1 cI g0 r, cX8_3 cI g0 r, cX8_4 cI g0 r, cX8_6 cI g0 r, cX8_8 cI g0 r, cX8_9 cI g0 r, cX8_10 cI g0 r, cX8_12 cI g0 r, cX8_13 cI g0 r, cX8_15 cI g0 r, cX8_17 cI g0 r, cX8_18 cI g0 r, cX8_22 cB g0 r, cX8_27 cI g0 r, cX8_28 cI g0 r, cX8_29 cI g0 r, cX8_30 cI g0 r, cX8_31 cI g0 r, cX8_32 cI g0 r, cX8_33 cI g0 r]) A) ([.ref a0, .int v1] : List Value).toArray s 0 0 A := ⟨_, rfl⟩
  rw [← hQ]
  rw [f_X8_trades] at h
  clear hAe hD0
  refine lv_iconst (v := (0 : Int32)) hx hb dX8_trades_0 (by decide) ?_
  refine lv_istore_n (lv' := [(2, .int (0 : Int32)), (0, .ref a0), (1, .int v1)]) hx hb dX8_trades_1 rfl hl (by decide) rfl (fun ls hl => ?_)
  have lp2 : ∀ (nn2 : Nat) (x2_2 : Int32) (o2_0 : Ob), f_X8_trades_2 v1 nn2 x2_2 o2_0 = some r → ∀ (H : Heap) (locs : List Loc) (ls : Array Slot), va_P (dC, dI) vwCl ([cX8 a0 g0 o2_0, cX8_0 cI g0 o2_0, cX8_1 cI g0 o2_0, cX8_3 cI g0 o2_0, cX8_4 cI g0 o2_0, cX8_6 cI g0 o2_0, cX8_8 cI g0 o2_0, cX8_9 cI g0 o2_0, cX8_10 cI g0 o2_0, cX8_12 cI g0 o2_0, cX8_13 cI g0 o2_0, cX8_15 cI g0 o2_0, cX8_17 cI g0 o2_0, cX8_18 cI g0 o2_0, cX8_22 cB g0 o2_0, cX8_27 cI g0 o2_0, cX8_28 cI g0 o2_0, cX8_29 cI g0 o2_0, cX8_30 cI g0 o2_0, cX8_31 cI g0 o2_0, cX8_32 cI g0 o2_0, cX8_33 cI g0 o2_0]) H → va_D A ([cX8 a0 g0 o2_0, cX8_0 cI g0 o2_0, cX8_1 cI g0 o2_0, cX8_3 cI g0 o2_0, cX8_4 cI g0 o2_0, cX8_6 cI g0 o2_0, cX8_8 cI g0 o2_0, cX8_9 cI g0 o2_0, cX8_10 cI g0 o2_0, cX8_12 cI g0 o2_0, cX8_13 cI g0 o2_0, cX8_15 cI g0 o2_0, cX8_17 cI g0 o2_0, cX8_18 cI g0 o2_0, cX8_22 cB g0 o2_0, cX8_27 cI g0 o2_0, cX8_28 cI g0 o2_0, cX8_29 cI g0 o2_0, cX8_30 cI g0 o2_0, cX8_31 cI g0 o2_0, cX8_32 cI g0 o2_0, cX8_33 cI g0 o2_0]) → va_S A s.heap H locs → lv_has ls 5 [(0, .ref a0), (1, .int v1), (2, .int x2_2)] → W p l e (headSpec wsX8_trades rmX8_trades).room s m ([.ref a0, .int v1] : List Value).toArray below meth c H locs 0 0 Q (F0 m 2 ls []) := by
    intro nn2
    induction nn2 with
    | zero => intro x2_2 o2_0 h; rw [f_X8_trades_2] at h; cases h
    | succ nn2 ih2 =>
      intro x2_2 o2_0 h H locs ls hP hD hS hl
      rw [f_X8_trades_2] at h
      refine lv_iload_n hx hb dX8_trades_2 rfl (lv_at hl 2 rfl) ?_
      refine lv_aload_n hx hb dX8_trades_3 rfl (lv_at hl 0 rfl) ?_
      refine va_get (D := (dC, dI)) (ci := 8) (v := .int (o2_0.1 2)) (C := RX8) (T := TX8) (N := 36) hx hb hts hiX8 hown hKK.1 hP 0 rfl rfl 2 (by decide) (hts (.fieldLink RX8 98 "SlideLandModel" "strips" "I") (List.mem_of_getElem? (i := 1) rfl)) (fun _ h9 => h9) rfl dX8_trades_4 ?_
      refine lv_icmp_ge (tgt := 157) hx hb dX8_trades_7 (by decide) (fun k1 => ?_) (fun k1 => ?_)
      · have h := ite_t k1 h
        refine lv_aload_n hx hb dX8_trades_157 rfl (lv_at hl 0 rfl) ?_
        refine va_get (D := (dC, dI)) (ci := 8) (v := .ref (g0 18)) (C := RX8) (T := TX8) (N := 36) hx hb hts hiX8 hown hKK.1 hP 0 rfl rfl 18 (by decide) (hts (.fieldLink RX8 46 "SlideLandModel" "slot" "[I") (List.mem_of_getElem? (i := 2) rfl)) (fun _ h9 => h9) rfl dX8_trades_158 ?_
        refine lv_iload_n hx hb dX8_trades_161 rfl (lv_at hl 1 rfl) ?_
        refine lv_iconst (v := (3 : Int32)) hx hb dX8_trades_162 (by decide) ?_
        refine lv_iadd hx hb dX8_trades_163 ?_
        refine lv_dup2_11 hx hb dX8_trades_164 rfl rfl ?_
        obtain ⟨k2, h⟩ := ite_n h
        refine va_iald hx hb hKK.1 hP 13 1 rfl rfl k2 dX8_trades_165 ?_
        refine lv_iconst (v := (1 : Int32)) hx hb dX8_trades_166 (by decide) ?_
        refine lv_iadd hx hb dX8_trades_167 ?_
        obtain ⟨k3, h⟩ := ite_n h
        obtain ⟨u4, hu4, h⟩ := bnd_e h
        refine k_iast (f := (o2_0.2 18)) hx hb hKK.1 hP hD hS 13 1 hu4 rfl rfl k3 dX8_trades_168 (fun H locs hP hD hS => ?_)
        have hP : va_P (dC, dI) vwCl ([cX8 a0 g0 (stR o2_0 18 u4), cX8_0 cI g0 (stR o2_0 18 u4), cX8_1 cI g0 (stR o2_0 18 u4), cX8_3 cI g0 (stR o2_0 18 u4), cX8_4 cI g0 (stR o2_0 18 u4), cX8_6 cI g0 (stR o2_0 18 u4), cX8_8 cI g0 (stR o2_0 18 u4), cX8_9 cI g0 (stR o2_0 18 u4), cX8_10 cI g0 (stR o2_0 18 u4), cX8_12 cI g0 (stR o2_0 18 u4), cX8_13 cI g0 (stR o2_0 18 u4), cX8_15 cI g0 (stR o2_0 18 u4), cX8_17 cI g0 (stR o2_0 18 u4), cX8_18 cI g0 (stR o2_0 18 u4), cX8_22 cB g0 (stR o2_0 18 u4), cX8_27 cI g0 (stR o2_0 18 u4), cX8_28 cI g0 (stR o2_0 18 u4), cX8_29 cI g0 (stR o2_0 18 u4), cX8_30 cI g0 (stR o2_0 18 u4), cX8_31 cI g0 (stR o2_0 18 u4), cX8_32 cI g0 (stR o2_0 18 u4), cX8_33 cI g0 (stR o2_0 18 u4)]) H := hP
        have hD : va_D A ([cX8 a0 g0 (stR o2_0 18 u4), cX8_0 cI g0 (stR o2_0 18 u4), cX8_1 cI g0 (stR o2_0 18 u4), cX8_3 cI g0 (stR o2_0 18 u4), cX8_4 cI g0 (stR o2_0 18 u4), cX8_6 cI g0 (stR o2_0 18 u4), cX8_8 cI g0 (stR o2_0 18 u4), cX8_9 cI g0 (stR o2_0 18 u4), cX8_10 cI g0 (stR o2_0 18 u4), cX8_12 cI g0 (stR o2_0 18 u4), cX8_13 cI g0 (stR o2_0 18 u4), cX8_15 cI g0 (stR o2_0 18 u4), cX8_17 cI g0 (stR o2_0 18 u4), cX8_18 cI g0 (stR o2_0 18 u4), cX8_22 cB g0 (stR o2_0 18 u4), cX8_27 cI g0 (stR o2_0 18 u4), cX8_28 cI g0 (stR o2_0 18 u4), cX8_29 cI g0 (stR o2_0 18 u4), cX8_30 cI g0 (stR o2_0 18 u4), cX8_31 cI g0 (stR o2_0 18 u4), cX8_32 cI g0 (stR o2_0 18 u4), cX8_33 cI g0 (stR o2_0 18 u4)]) := hD
        have h := Option.some.inj h
        subst h
        subst hQ
        exact W.vret hx hb hr (fun t ht hW => ⟨⟨rfl, by rw [ht]; exact hP, hD⟩, hS.F ht⟩) hS.2.2 dX8_trades_169
      · have h := ite_f k1 h
        refine lv_aload_n hx hb dX8_trades_10 rfl (lv_at hl 0 rfl) ?_
        refine lv_iload_n hx hb dX8_trades_11 rfl (lv_at hl 1 rfl) ?_
        refine lv_iload_n hx hb dX8_trades_12 rfl (lv_at hl 2 rfl) ?_
        obtain ⟨q5, hq5, h⟩ := obd_e h
        refine kcV (rest := []) (w2 := ([cX8 a0 g0 o2_0, cX8_0 cI g0 o2_0, cX8_1 cI g0 o2_0, cX8_3 cI g0 o2_0, cX8_4 cI g0 o2_0, cX8_6 cI g0 o2_0, cX8_8 cI g0 o2_0, cX8_9 cI g0 o2_0, cX8_10 cI g0 o2_0, cX8_12 cI g0 o2_0, cX8_13 cI g0 o2_0, cX8_15 cI g0 o2_0, cX8_17 cI g0 o2_0, cX8_18 cI g0 o2_0, cX8_22 cB g0 o2_0, cX8_27 cI g0 o2_0, cX8_28 cI g0 o2_0, cX8_29 cI g0 o2_0, cX8_30 cI g0 o2_0, cX8_31 cI g0 o2_0, cX8_32 cI g0 o2_0, cX8_33 cI g0 o2_0])) hx hb hml hown hts hKK hP hD hS hA (c_X8_againstIn l dC dI cB cI cZ cO a0 g0 o2_0 v1 x2_2 hq5) [0, 1, 2, 3, 4, 5, 6, 7, 8, 9, 10, 11, 12, 13, 14, 15, 16, 17, 18, 19, 20, 21] (atAll_map ⟨rfl, rfl, rfl, rfl, rfl, rfl, rfl, rfl, rfl, rfl, rfl, rfl, rfl, rfl, rfl, rfl, rfl, rfl, rfl, rfl, rfl, rfl, trivial⟩) (by decide +kernel) (sameAd_map ⟨rfl, rfl, rfl, rfl, rfl, rfl, rfl, rfl, rfl, rfl, rfl, rfl, rfl, rfl, rfl, rfl, rfl, rfl, rfl, rfl, rfl, rfl, trivial⟩) (atAll_map ⟨rfl, rfl, rfl, rfl, rfl, rfl, rfl, rfl, rfl, rfl, rfl, rfl, rfl, rfl, rfl, rfl, rfl, rfl, rfl, rfl, rfl, rfl, trivial⟩) (agr_refl _ _ _) (cwV 2 hts gX8_trades_X8_againstIn rfl rfl rfl ⟨rfl, dsc_X8_againstIn⟩ ⟨Nat.le_of_ble_eq_true rfl, Nat.le_of_ble_eq_true rfl⟩) (va_recv hKK.1 hP (ci := 8) (q0 := 0) rfl rfl) rfl hl.1 rfl (Nat.le_of_ble_eq_true rfl) dX8_trades_13 ⟨Nat.zero_le _, Nat.zero_le _⟩ (fun H locs hP hD hS => ?_)
        refine lv_istore_n (lv' := [(3, .int q5), (0, .ref a0), (1, .int v1), (2, .int x2_2)]) hx hb dX8_trades_16 rfl hl (by decide) rfl (fun ls hl => ?_)
        refine lv_iconst (v := (0 : Int32)) hx hb dX8_trades_17 (by decide) ?_
        refine lv_istore (lv' := [(4, .int (0 : Int32)), (3, .int q5), (0, .ref a0), (1, .int v1), (2, .int x2_2)]) hx hb dX8_trades_18 hl (by decide) rfl (fun ls hl => ?_)
        have lp20 : ∀ (nn20 : Nat) (x20_4 : Int32) (o20_0 : Ob), f_X8_trades_20 v1 x2_2 (f_X8_trades_2 v1 nn2) q5 nn20 x20_4 o20_0 = some r → ∀ (H : Heap) (locs : List Loc) (ls : Array Slot), va_P (dC, dI) vwCl ([cX8 a0 g0 o20_0, cX8_0 cI g0 o20_0, cX8_1 cI g0 o20_0, cX8_3 cI g0 o20_0, cX8_4 cI g0 o20_0, cX8_6 cI g0 o20_0, cX8_8 cI g0 o20_0, cX8_9 cI g0 o20_0, cX8_10 cI g0 o20_0, cX8_12 cI g0 o20_0, cX8_13 cI g0 o20_0, cX8_15 cI g0 o20_0, cX8_17 cI g0 o20_0, cX8_18 cI g0 o20_0, cX8_22 cB g0 o20_0, cX8_27 cI g0 o20_0, cX8_28 cI g0 o20_0, cX8_29 cI g0 o20_0, cX8_30 cI g0 o20_0, cX8_31 cI g0 o20_0, cX8_32 cI g0 o20_0, cX8_33 cI g0 o20_0]) H → va_D A ([cX8 a0 g0 o20_0, cX8_0 cI g0 o20_0, cX8_1 cI g0 o20_0, cX8_3 cI g0 o20_0, cX8_4 cI g0 o20_0, cX8_6 cI g0 o20_0, cX8_8 cI g0 o20_0, cX8_9 cI g0 o20_0, cX8_10 cI g0 o20_0, cX8_12 cI g0 o20_0, cX8_13 cI g0 o20_0, cX8_15 cI g0 o20_0, cX8_17 cI g0 o20_0, cX8_18 cI g0 o20_0, cX8_22 cB g0 o20_0, cX8_27 cI g0 o20_0, cX8_28 cI g0 o20_0, cX8_29 cI g0 o20_0, cX8_30 cI g0 o20_0, cX8_31 cI g0 o20_0, cX8_32 cI g0 o20_0, cX8_33 cI g0 o20_0]) → va_S A s.heap H locs → lv_has ls 5 [(0, .ref a0), (1, .int v1), (2, .int x2_2), (3, .int q5), (4, .int x20_4)] → W p l e (headSpec wsX8_trades rmX8_trades).room s m ([.ref a0, .int v1] : List Value).toArray below meth c H locs 0 0 Q (F0 m 20 ls []) := by
          intro nn20
          induction nn20 with
          | zero => intro x20_4 o20_0 h; rw [f_X8_trades_20] at h; cases h
          | succ nn20 ih20 =>
            intro x20_4 o20_0 h H locs ls hP hD hS hl
            rw [f_X8_trades_20] at h
            refine lv_iload hx hb dX8_trades_20 (lv_at hl 4 rfl) ?_
            refine lv_bipush (v := (12 : Int32)) hx hb dX8_trades_22 (by decide) ?_
            refine lv_icmp_ge (tgt := 85) hx hb dX8_trades_24 (by decide) (fun k6 => ?_) (fun k6 => ?_)
            · have h := ite_t k6 h
              refine lv_iload_n hx hb dX8_trades_85 rfl (lv_at hl 3 rfl) ?_
              refine lv_bipush (v := (64 : Int32)) hx hb dX8_trades_86 (by decide) ?_
              refine lv_irem hx hb dX8_trades_88 (by decide) ?_
              have jn104 : ∀ (y104_0 : Bool), f_X8_trades_104 v1 x2_2 (f_X8_trades_2 v1 nn2) o20_0 y104_0 = some r → ∀ (H : Heap) (locs : List Loc) (ls : Array Slot), va_P (dC, dI) vwCl ([cX8 a0 g0 o20_0, cX8_0 cI g0 o20_0, cX8_1 cI g0 o20_0, cX8_3 cI g0 o20_0, cX8_4 cI g0 o20_0, cX8_6 cI g0 o20_0, cX8_8 cI g0 o20_0, cX8_9 cI g0 o20_0, cX8_10 cI g0 o20_0, cX8_12 cI g0 o20_0, cX8_13 cI g0 o20_0, cX8_15 cI g0 o20_0, cX8_17 cI g0 o20_0, cX8_18 cI g0 o20_0, cX8_22 cB g0 o20_0, cX8_27 cI g0 o20_0, cX8_28 cI g0 o20_0, cX8_29 cI g0 o20_0, cX8_30 cI g0 o20_0, cX8_31 cI g0 o20_0, cX8_32 cI g0 o20_0, cX8_33 cI g0 o20_0]) H → va_D A ([cX8 a0 g0 o20_0, cX8_0 cI g0 o20_0, cX8_1 cI g0 o20_0, cX8_3 cI g0 o20_0, cX8_4 cI g0 o20_0, cX8_6 cI g0 o20_0, cX8_8 cI g0 o20_0, cX8_9 cI g0 o20_0, cX8_10 cI g0 o20_0, cX8_12 cI g0 o20_0, cX8_13 cI g0 o20_0, cX8_15 cI g0 o20_0, cX8_17 cI g0 o20_0, cX8_18 cI g0 o20_0, cX8_22 cB g0 o20_0, cX8_27 cI g0 o20_0, cX8_28 cI g0 o20_0, cX8_29 cI g0 o20_0, cX8_30 cI g0 o20_0, cX8_31 cI g0 o20_0, cX8_32 cI g0 o20_0, cX8_33 cI g0 o20_0]) → va_S A s.heap H locs → lv_has ls 5 [(0, .ref a0), (1, .int v1), (2, .int x2_2)] → W p l e (headSpec wsX8_trades rmX8_trades).room s m ([.ref a0, .int v1] : List Value).toArray below meth c H locs 0 0 Q (F0 m 104 ls [.int (b2i y104_0)]) := by
                intro y104_0 h H locs ls hP hD hS hl
                rw [f_X8_trades_104] at h
                obtain ⟨x7, hx7, h⟩ := bnd_e h
                refine lv_topE hx7 ?_
                refine lv_istore (lv' := [(4, .int x7), (0, .ref a0), (1, .int v1), (2, .int x2_2)]) hx hb dX8_trades_104 hl (by decide) rfl (fun ls hl => ?_)
                refine lv_aload_n hx hb dX8_trades_106 rfl (lv_at hl 1 rfl) ?_
                refine va_get (D := (dC, dI)) (ci := 8) (v := .ref (g0 18)) (C := RX8) (T := TX8) (N := 36) hx hb hts hiX8 hown hKK.1 hP 0 rfl rfl 18 (by decide) (hts (.fieldLink RX8 46 "SlideLandModel" "slot" "[I") (List.mem_of_getElem? (i := 2) rfl)) (fun _ h9 => h9) rfl dX8_trades_107 ?_
                refine lv_iload_n hx hb dX8_trades_110 rfl (lv_at hl 2 rfl) ?_
                refine lv_iconst (v := (4 : Int32)) hx hb dX8_trades_111 (by decide) ?_
                refine lv_iadd hx hb dX8_trades_112 ?_
                refine lv_iload_n hx hb dX8_trades_113 rfl (lv_at hl 3 rfl) ?_
                refine lv_iadd hx hb dX8_trades_114 ?_
                refine lv_iload hx hb dX8_trades_115 (lv_at hl 0 rfl) ?_
                have jn150 : ∀ (y150_2 : Int32), f_X8_trades_150 v1 x2_2 (f_X8_trades_2 v1 nn2) o20_0 y150_2 = some r → ∀ (H : Heap) (locs : List Loc) (ls : Array Slot), va_P (dC, dI) vwCl ([cX8 a0 g0 o20_0, cX8_0 cI g0 o20_0, cX8_1 cI g0 o20_0, cX8_3 cI g0 o20_0, cX8_4 cI g0 o20_0, cX8_6 cI g0 o20_0, cX8_8 cI g0 o20_0, cX8_9 cI g0 o20_0, cX8_10 cI g0 o20_0, cX8_12 cI g0 o20_0, cX8_13 cI g0 o20_0, cX8_15 cI g0 o20_0, cX8_17 cI g0 o20_0, cX8_18 cI g0 o20_0, cX8_22 cB g0 o20_0, cX8_27 cI g0 o20_0, cX8_28 cI g0 o20_0, cX8_29 cI g0 o20_0, cX8_30 cI g0 o20_0, cX8_31 cI g0 o20_0, cX8_32 cI g0 o20_0, cX8_33 cI g0 o20_0]) H → va_D A ([cX8 a0 g0 o20_0, cX8_0 cI g0 o20_0, cX8_1 cI g0 o20_0, cX8_3 cI g0 o20_0, cX8_4 cI g0 o20_0, cX8_6 cI g0 o20_0, cX8_8 cI g0 o20_0, cX8_9 cI g0 o20_0, cX8_10 cI g0 o20_0, cX8_12 cI g0 o20_0, cX8_13 cI g0 o20_0, cX8_15 cI g0 o20_0, cX8_17 cI g0 o20_0, cX8_18 cI g0 o20_0, cX8_22 cB g0 o20_0, cX8_27 cI g0 o20_0, cX8_28 cI g0 o20_0, cX8_29 cI g0 o20_0, cX8_30 cI g0 o20_0, cX8_31 cI g0 o20_0, cX8_32 cI g0 o20_0, cX8_33 cI g0 o20_0]) → va_S A s.heap H locs → lv_has ls 5 [(0, .ref a0), (1, .int v1), (2, .int x2_2)] → W p l e (headSpec wsX8_trades rmX8_trades).room s m ([.ref a0, .int v1] : List Value).toArray below meth c H locs 0 0 Q (F0 m 150 ls [.int y150_2, .int ((v1 + (4 : Int32)) + x2_2), .ref (g0 18)]) := by
                  intro y150_2 h H locs ls hP hD hS hl
                  rw [f_X8_trades_150] at h
                  obtain ⟨k8, h⟩ := ite_n h
                  obtain ⟨u9, hu9, h⟩ := bnd_e h
                  refine k_iast (f := (o20_0.2 18)) hx hb hKK.1 hP hD hS 13 1 hu9 rfl rfl k8 dX8_trades_150 (fun H locs hP hD hS => ?_)
                  have hP : va_P (dC, dI) vwCl ([cX8 a0 g0 (stR o20_0 18 u9), cX8_0 cI g0 (stR o20_0 18 u9), cX8_1 cI g0 (stR o20_0 18 u9), cX8_3 cI g0 (stR o20_0 18 u9), cX8_4 cI g0 (stR o20_0 18 u9), cX8_6 cI g0 (stR o20_0 18 u9), cX8_8 cI g0 (stR o20_0 18 u9), cX8_9 cI g0 (stR o20_0 18 u9), cX8_10 cI g0 (stR o20_0 18 u9), cX8_12 cI g0 (stR o20_0 18 u9), cX8_13 cI g0 (stR o20_0 18 u9), cX8_15 cI g0 (stR o20_0 18 u9), cX8_17 cI g0 (stR o20_0 18 u9), cX8_18 cI g0 (stR o20_0 18 u9), cX8_22 cB g0 (stR o20_0 18 u9), cX8_27 cI g0 (stR o20_0 18 u9), cX8_28 cI g0 (stR o20_0 18 u9), cX8_29 cI g0 (stR o20_0 18 u9), cX8_30 cI g0 (stR o20_0 18 u9), cX8_31 cI g0 (stR o20_0 18 u9), cX8_32 cI g0 (stR o20_0 18 u9), cX8_33 cI g0 (stR o20_0 18 u9)]) H := hP
                  have hD : va_D A ([cX8 a0 g0 (stR o20_0 18 u9), cX8_0 cI g0 (stR o20_0 18 u9), cX8_1 cI g0 (stR o20_0 18 u9), cX8_3 cI g0 (stR o20_0 18 u9), cX8_4 cI g0 (stR o20_0 18 u9), cX8_6 cI g0 (stR o20_0 18 u9), cX8_8 cI g0 (stR o20_0 18 u9), cX8_9 cI g0 (stR o20_0 18 u9), cX8_10 cI g0 (stR o20_0 18 u9), cX8_12 cI g0 (stR o20_0 18 u9), cX8_13 cI g0 (stR o20_0 18 u9), cX8_15 cI g0 (stR o20_0 18 u9), cX8_17 cI g0 (stR o20_0 18 u9), cX8_18 cI g0 (stR o20_0 18 u9), cX8_22 cB g0 (stR o20_0 18 u9), cX8_27 cI g0 (stR o20_0 18 u9), cX8_28 cI g0 (stR o20_0 18 u9), cX8_29 cI g0 (stR o20_0 18 u9), cX8_30 cI g0 (stR o20_0 18 u9), cX8_31 cI g0 (stR o20_0 18 u9), cX8_32 cI g0 (stR o20_0 18 u9), cX8_33 cI g0 (stR o20_0 18 u9)]) := hD
                  obtain ⟨x10, hx10, h⟩ := bnd_e h
                  refine lv_iinc (v := x10) (lv' := [(2, .int x10), (0, .ref a0), (1, .int v1)]) hx hb dX8_trades_151 hl (k := 2) rfl (by rw [← hx10]; rfl) (by decide) rfl (fun ls hl => ?_)
                  refine lv_goto (tgt := 2) hx hb dX8_trades_154 (by decide) ?_
                  exact ih2 x10 (stR o20_0 18 u9) h _ _ _ hP hD hS (lv_sub hl [1, 2, 0] rfl)
                refine lv_if_eq (tgt := 140) hx hb dX8_trades_117 (by decide) (fun k11 => ?_) (fun k11 => ?_)
                · have h := ite_t k11 h
                  refine lv_aload_n hx hb dX8_trades_140 rfl (lv_at hl 1 rfl) ?_
                  refine va_get (D := (dC, dI)) (ci := 8) (v := .ref (g0 18)) (C := RX8) (T := TX8) (N := 36) hx hb hts hiX8 hown hKK.1 hP 0 rfl rfl 18 (by decide) (hts (.fieldLink RX8 46 "SlideLandModel" "slot" "[I") (List.mem_of_getElem? (i := 2) rfl)) (fun _ h9 => h9) rfl dX8_trades_141 ?_
                  refine lv_iload_n hx hb dX8_trades_144 rfl (lv_at hl 2 rfl) ?_
                  refine lv_iconst (v := (4 : Int32)) hx hb dX8_trades_145 (by decide) ?_
                  refine lv_iadd hx hb dX8_trades_146 ?_
                  refine lv_iload_n hx hb dX8_trades_147 rfl (lv_at hl 3 rfl) ?_
                  refine lv_iadd hx hb dX8_trades_148 ?_
                  obtain ⟨k12, h⟩ := ite_n h
                  refine va_iald hx hb hKK.1 hP 13 1 rfl rfl k12 dX8_trades_149 ?_
                  exact jn150 ((o20_0.2 18) ((v1 + (4 : Int32)) + x2_2).toNatClampNeg) h _ _ _ hP hD hS (lv_sub hl [1, 2, 3] rfl)
                · have h := ite_f k11 h
                  refine lv_bipush (v := (99 : Int32)) hx hb dX8_trades_120 (by decide) ?_
                  refine lv_aload_n hx hb dX8_trades_122 rfl (lv_at hl 1 rfl) ?_
                  refine va_get (D := (dC, dI)) (ci := 8) (v := .ref (g0 18)) (C := RX8) (T := TX8) (N := 36) hx hb hts hiX8 hown hKK.1 hP 0 rfl rfl 18 (by decide) (hts (.fieldLink RX8 46 "SlideLandModel" "slot" "[I") (List.mem_of_getElem? (i := 2) rfl)) (fun _ h9 => h9) rfl dX8_trades_123 ?_
                  refine lv_iload_n hx hb dX8_trades_126 rfl (lv_at hl 2 rfl) ?_
                  refine lv_iconst (v := (4 : Int32)) hx hb dX8_trades_127 (by decide) ?_
                  refine lv_iadd hx hb dX8_trades_128 ?_
                  refine lv_iload_n hx hb dX8_trades_129 rfl (lv_at hl 3 rfl) ?_
                  refine lv_iadd hx hb dX8_trades_130 ?_
                  obtain ⟨k13, h⟩ := ite_n h
                  refine va_iald hx hb hKK.1 hP 13 1 rfl rfl k13 dX8_trades_131 ?_
                  refine lv_iconst (v := (3 : Int32)) hx hb dX8_trades_132 (by decide) ?_
                  refine lv_iadd hx hb dX8_trades_133 ?_
                  obtain ⟨q14, hq14, h⟩ := bnd_e h
                  refine kcS (rest := [.int ((v1 + (4 : Int32)) + x2_2), .ref (g0 18)]) (w2 := ([cX8 a0 g0 o20_0, cX8_0 cI g0 o20_0, cX8_1 cI g0 o20_0, cX8_3 cI g0 o20_0, cX8_4 cI g0 o20_0, cX8_6 cI g0 o20_0, cX8_8 cI g0 o20_0, cX8_9 cI g0 o20_0, cX8_10 cI g0 o20_0, cX8_12 cI g0 o20_0, cX8_13 cI g0 o20_0, cX8_15 cI g0 o20_0, cX8_17 cI g0 o20_0, cX8_18 cI g0 o20_0, cX8_22 cB g0 o20_0, cX8_27 cI g0 o20_0, cX8_28 cI g0 o20_0, cX8_29 cI g0 o20_0, cX8_30 cI g0 o20_0, cX8_31 cI g0 o20_0, cX8_32 cI g0 o20_0, cX8_33 cI g0 o20_0])) hx hb hml hown hts hKK hP hD hS hA (c_X8_smaller l dC dI cB cI cZ cO (99 : Int32) (((o20_0.2 18) ((v1 + (4 : Int32)) + x2_2).toNatClampNeg) + (3 : Int32)) hq14) [] (atAll_map trivial) (by decide +kernel) (sameAd_map trivial) (atAll_map trivial) (agr_refl _ _ _) (va_cwS 2 hts gX8_trades_X8_smaller rfl rfl rfl dsc_X8_smaller ⟨Nat.le_of_ble_eq_true rfl, Nat.le_of_ble_eq_true rfl⟩) rfl hl.1 rfl (Nat.le_of_ble_eq_true rfl) dX8_trades_134 ⟨Nat.zero_le _, Nat.zero_le _⟩ (fun H locs hP hD hS => ?_)
                  refine lv_goto (tgt := 150) hx hb dX8_trades_137 (by decide) ?_
                  exact jn150 q14 h _ _ _ hP hD hS (lv_sub hl [1, 2, 3] rfl)
              have jn103 : f_X8_trades_103 v1 x2_2 (f_X8_trades_2 v1 nn2) o20_0 = some r → ∀ (H : Heap) (locs : List Loc) (ls : Array Slot), va_P (dC, dI) vwCl ([cX8 a0 g0 o20_0, cX8_0 cI g0 o20_0, cX8_1 cI g0 o20_0, cX8_3 cI g0 o20_0, cX8_4 cI g0 o20_0, cX8_6 cI g0 o20_0, cX8_8 cI g0 o20_0, cX8_9 cI g0 o20_0, cX8_10 cI g0 o20_0, cX8_12 cI g0 o20_0, cX8_13 cI g0 o20_0, cX8_15 cI g0 o20_0, cX8_17 cI g0 o20_0, cX8_18 cI g0 o20_0, cX8_22 cB g0 o20_0, cX8_27 cI g0 o20_0, cX8_28 cI g0 o20_0, cX8_29 cI g0 o20_0, cX8_30 cI g0 o20_0, cX8_31 cI g0 o20_0, cX8_32 cI g0 o20_0, cX8_33 cI g0 o20_0]) H → va_D A ([cX8 a0 g0 o20_0, cX8_0 cI g0 o20_0, cX8_1 cI g0 o20_0, cX8_3 cI g0 o20_0, cX8_4 cI g0 o20_0, cX8_6 cI g0 o20_0, cX8_8 cI g0 o20_0, cX8_9 cI g0 o20_0, cX8_10 cI g0 o20_0, cX8_12 cI g0 o20_0, cX8_13 cI g0 o20_0, cX8_15 cI g0 o20_0, cX8_17 cI g0 o20_0, cX8_18 cI g0 o20_0, cX8_22 cB g0 o20_0, cX8_27 cI g0 o20_0, cX8_28 cI g0 o20_0, cX8_29 cI g0 o20_0, cX8_30 cI g0 o20_0, cX8_31 cI g0 o20_0, cX8_32 cI g0 o20_0, cX8_33 cI g0 o20_0]) → va_S A s.heap H locs → lv_has ls 5 [(0, .ref a0), (1, .int v1), (2, .int x2_2)] → W p l e (headSpec wsX8_trades rmX8_trades).room s m ([.ref a0, .int v1] : List Value).toArray below meth c H locs 0 0 Q (F0 m 103 ls []) := by
                intro h H locs ls hP hD hS hl
                rw [f_X8_trades_103] at h
                refine lv_iconst (v := (0 : Int32)) hx hb dX8_trades_103 (by decide) ?_
                exact jn104 false h _ _ _ hP hD hS (lv_sub hl [0, 1, 2] rfl)
              refine lv_if_le (tgt := 103) hx hb dX8_trades_89 (by decide) (fun k15 => ?_) (fun k15 => ?_)
              · have h := ite_t k15 h
                exact jn103 h _ _ _ hP hD hS (lv_sub hl [0, 1, 2] rfl)
              · have h := ite_f k15 h
                refine lv_iload_n hx hb dX8_trades_92 rfl (lv_at hl 3 rfl) ?_
                refine lv_bipush (v := (64 : Int32)) hx hb dX8_trades_93 (by decide) ?_
                refine lv_idiv hx hb dX8_trades_95 (by decide) ?_
                refine lv_if_le (tgt := 103) hx hb dX8_trades_96 (by decide) (fun k16 => ?_) (fun k16 => ?_)
                · have h := ite_t k16 h
                  exact jn103 h _ _ _ hP hD hS (lv_sub hl [0, 1, 2] rfl)
                · have h := ite_f k16 h
                  refine lv_iconst (v := (1 : Int32)) hx hb dX8_trades_99 (by decide) ?_
                  refine lv_goto (tgt := 104) hx hb dX8_trades_100 (by decide) ?_
                  exact jn104 true h _ _ _ hP hD hS (lv_sub hl [0, 1, 2] rfl)
            · have h := ite_f k6 h
              refine lv_iload_n hx hb dX8_trades_27 rfl (lv_at hl 3 rfl) ?_
              refine lv_iload hx hb dX8_trades_28 (lv_at hl 4 rfl) ?_
              obtain ⟨q17, hq17, h⟩ := bnd_e h
              refine kcS (rest := []) (w2 := ([cX8 a0 g0 o20_0, cX8_0 cI g0 o20_0, cX8_1 cI g0 o20_0, cX8_3 cI g0 o20_0, cX8_4 cI g0 o20_0, cX8_6 cI g0 o20_0, cX8_8 cI g0 o20_0, cX8_9 cI g0 o20_0, cX8_10 cI g0 o20_0, cX8_12 cI g0 o20_0, cX8_13 cI g0 o20_0, cX8_15 cI g0 o20_0, cX8_17 cI g0 o20_0, cX8_18 cI g0 o20_0, cX8_22 cB g0 o20_0, cX8_27 cI g0 o20_0, cX8_28 cI g0 o20_0, cX8_29 cI g0 o20_0, cX8_30 cI g0 o20_0, cX8_31 cI g0 o20_0, cX8_32 cI g0 o20_0, cX8_33 cI g0 o20_0])) hx hb hml hown hts hKK hP hD hS hA (c_X8_has l dC dI cB cI cZ cO q5 x20_4 hq17) [] (atAll_map trivial) (by decide +kernel) (sameAd_map trivial) (atAll_map trivial) (agr_refl _ _ _) (va_cwS 2 hts gX8_trades_X8_has rfl rfl rfl dsc_X8_has ⟨Nat.le_of_ble_eq_true rfl, Nat.le_of_ble_eq_true rfl⟩) rfl hl.1 rfl (Nat.le_of_ble_eq_true rfl) dX8_trades_30 ⟨Nat.zero_le _, Nat.zero_le _⟩ (fun H locs hP hD hS => ?_)
              have jn79 : ∀ (o79_0 : Ob), f_X8_trades_79 x20_4 (f_X8_trades_20 v1 x2_2 (f_X8_trades_2 v1 nn2) q5 nn20) o79_0 = some r → ∀ (H : Heap) (locs : List Loc) (ls : Array Slot), va_P (dC, dI) vwCl ([cX8 a0 g0 o79_0, cX8_0 cI g0 o79_0, cX8_1 cI g0 o79_0, cX8_3 cI g0 o79_0, cX8_4 cI g0 o79_0, cX8_6 cI g0 o79_0, cX8_8 cI g0 o79_0, cX8_9 cI g0 o79_0, cX8_10 cI g0 o79_0, cX8_12 cI g0 o79_0, cX8_13 cI g0 o79_0, cX8_15 cI g0 o79_0, cX8_17 cI g0 o79_0, cX8_18 cI g0 o79_0, cX8_22 cB g0 o79_0, cX8_27 cI g0 o79_0, cX8_28 cI g0 o79_0, cX8_29 cI g0 o79_0, cX8_30 cI g0 o79_0, cX8_31 cI g0 o79_0, cX8_32 cI g0 o79_0, cX8_33 cI g0 o79_0]) H → va_D A ([cX8 a0 g0 o79_0, cX8_0 cI g0 o79_0, cX8_1 cI g0 o79_0, cX8_3 cI g0 o79_0, cX8_4 cI g0 o79_0, cX8_6 cI g0 o79_0, cX8_8 cI g0 o79_0, cX8_9 cI g0 o79_0, cX8_10 cI g0 o79_0, cX8_12 cI g0 o79_0, cX8_13 cI g0 o79_0, cX8_15 cI g0 o79_0, cX8_17 cI g0 o79_0, cX8_18 cI g0 o79_0, cX8_22 cB g0 o79_0, cX8_27 cI g0 o79_0, cX8_28 cI g0 o79_0, cX8_29 cI g0 o79_0, cX8_30 cI g0 o79_0, cX8_31 cI g0 o79_0, cX8_32 cI g0 o79_0, cX8_33 cI g0 o79_0]) → va_S A s.heap H locs → lv_has ls 5 [(0, .ref a0), (1, .int v1), (2, .int x2_2), (3, .int q5), (4, .int x20_4)] → W p l e (headSpec wsX8_trades rmX8_trades).room s m ([.ref a0, .int v1] : List Value).toArray below meth c H locs 0 0 Q (F0 m 79 ls []) := by
                intro o79_0 h H locs ls hP hD hS hl
                rw [f_X8_trades_79] at h
                obtain ⟨x18, hx18, h⟩ := bnd_e h
                refine lv_iinc (v := x18) (lv' := [(4, .int x18), (0, .ref a0), (1, .int v1), (2, .int x2_2), (3, .int q5)]) hx hb dX8_trades_79 hl (k := 4) rfl (by rw [← hx18]; rfl) (by decide) rfl (fun ls hl => ?_)
                refine lv_goto (tgt := 20) hx hb dX8_trades_82 (by decide) ?_
                exact ih20 x18 o79_0 h _ _ _ hP hD hS (lv_sub hl [1, 2, 3, 4, 0] rfl)
              refine lv_if_eq (tgt := 79) hx hb dX8_trades_33 (by decide) (fun k19 => ?_) (fun k19 => ?_)
              · have h := ite_t k19 h
                exact jn79 o20_0 h _ _ _ hP hD hS (lv_sub hl [0, 1, 2, 3, 4] rfl)
              · have h := ite_f k19 h
                refine lv_aload_n hx hb dX8_trades_36 rfl (lv_at hl 0 rfl) ?_
                refine va_get (D := (dC, dI)) (ci := 8) (v := .ref (g0 18)) (C := RX8) (T := TX8) (N := 36) hx hb hts hiX8 hown hKK.1 hP 0 rfl rfl 18 (by decide) (hts (.fieldLink RX8 46 "SlideLandModel" "slot" "[I") (List.mem_of_getElem? (i := 2) rfl)) (fun _ h9 => h9) rfl dX8_trades_37 ?_
                refine lv_iload_n hx hb dX8_trades_40 rfl (lv_at hl 1 rfl) ?_
                refine lv_iconst (v := (4 : Int32)) hx hb dX8_trades_41 (by decide) ?_
                refine lv_iadd hx hb dX8_trades_42 ?_
                refine lv_iload_n hx hb dX8_trades_43 rfl (lv_at hl 2 rfl) ?_
                refine lv_iadd hx hb dX8_trades_44 ?_
                obtain ⟨k20, h⟩ := ite_n h
                refine va_iald hx hb hKK.1 hP 13 1 rfl rfl k20 dX8_trades_45 ?_
                refine lv_if_le (tgt := 79) hx hb dX8_trades_46 (by decide) (fun k21 => ?_) (fun k21 => ?_)
                · have h := ite_t k21 h
                  exact jn79 o20_0 h _ _ _ hP hD hS (lv_sub hl [0, 1, 2, 3, 4] rfl)
                · have h := ite_f k21 h
                  refine lv_aload_n hx hb dX8_trades_49 rfl (lv_at hl 0 rfl) ?_
                  refine va_get (D := (dC, dI)) (ci := 8) (v := .ref (g0 18)) (C := RX8) (T := TX8) (N := 36) hx hb hts hiX8 hown hKK.1 hP 0 rfl rfl 18 (by decide) (hts (.fieldLink RX8 46 "SlideLandModel" "slot" "[I") (List.mem_of_getElem? (i := 2) rfl)) (fun _ h9 => h9) rfl dX8_trades_50 ?_
                  refine lv_iload_n hx hb dX8_trades_53 rfl (lv_at hl 1 rfl) ?_
                  refine lv_iconst (v := (4 : Int32)) hx hb dX8_trades_54 (by decide) ?_
                  refine lv_iadd hx hb dX8_trades_55 ?_
                  refine lv_iload_n hx hb dX8_trades_56 rfl (lv_at hl 2 rfl) ?_
                  refine lv_iadd hx hb dX8_trades_57 ?_
                  refine lv_dup2_11 hx hb dX8_trades_58 rfl rfl ?_
                  obtain ⟨k22, h⟩ := ite_n h
                  refine va_iald hx hb hKK.1 hP 13 1 rfl rfl k22 dX8_trades_59 ?_
                  refine lv_iconst (v := (1 : Int32)) hx hb dX8_trades_60 (by decide) ?_
                  refine lv_isub hx hb dX8_trades_61 ?_
                  obtain ⟨k23, h⟩ := ite_n h
                  obtain ⟨u24, hu24, h⟩ := bnd_e h
                  refine k_iast (f := (o20_0.2 18)) hx hb hKK.1 hP hD hS 13 1 hu24 rfl rfl k23 dX8_trades_62 (fun H locs hP hD hS => ?_)
                  have hP : va_P (dC, dI) vwCl ([cX8 a0 g0 (stR o20_0 18 u24), cX8_0 cI g0 (stR o20_0 18 u24), cX8_1 cI g0 (stR o20_0 18 u24), cX8_3 cI g0 (stR o20_0 18 u24), cX8_4 cI g0 (stR o20_0 18 u24), cX8_6 cI g0 (stR o20_0 18 u24), cX8_8 cI g0 (stR o20_0 18 u24), cX8_9 cI g0 (stR o20_0 18 u24), cX8_10 cI g0 (stR o20_0 18 u24), cX8_12 cI g0 (stR o20_0 18 u24), cX8_13 cI g0 (stR o20_0 18 u24), cX8_15 cI g0 (stR o20_0 18 u24), cX8_17 cI g0 (stR o20_0 18 u24), cX8_18 cI g0 (stR o20_0 18 u24), cX8_22 cB g0 (stR o20_0 18 u24), cX8_27 cI g0 (stR o20_0 18 u24), cX8_28 cI g0 (stR o20_0 18 u24), cX8_29 cI g0 (stR o20_0 18 u24), cX8_30 cI g0 (stR o20_0 18 u24), cX8_31 cI g0 (stR o20_0 18 u24), cX8_32 cI g0 (stR o20_0 18 u24), cX8_33 cI g0 (stR o20_0 18 u24)]) H := hP
                  have hD : va_D A ([cX8 a0 g0 (stR o20_0 18 u24), cX8_0 cI g0 (stR o20_0 18 u24), cX8_1 cI g0 (stR o20_0 18 u24), cX8_3 cI g0 (stR o20_0 18 u24), cX8_4 cI g0 (stR o20_0 18 u24), cX8_6 cI g0 (stR o20_0 18 u24), cX8_8 cI g0 (stR o20_0 18 u24), cX8_9 cI g0 (stR o20_0 18 u24), cX8_10 cI g0 (stR o20_0 18 u24), cX8_12 cI g0 (stR o20_0 18 u24), cX8_13 cI g0 (stR o20_0 18 u24), cX8_15 cI g0 (stR o20_0 18 u24), cX8_17 cI g0 (stR o20_0 18 u24), cX8_18 cI g0 (stR o20_0 18 u24), cX8_22 cB g0 (stR o20_0 18 u24), cX8_27 cI g0 (stR o20_0 18 u24), cX8_28 cI g0 (stR o20_0 18 u24), cX8_29 cI g0 (stR o20_0 18 u24), cX8_30 cI g0 (stR o20_0 18 u24), cX8_31 cI g0 (stR o20_0 18 u24), cX8_32 cI g0 (stR o20_0 18 u24), cX8_33 cI g0 (stR o20_0 18 u24)]) := hD
                  refine lv_aload_n hx hb dX8_trades_63 rfl (lv_at hl 0 rfl) ?_
                  refine va_get (D := (dC, dI)) (ci := 8) (v := .ref (g0 18)) (C := RX8) (T := TX8) (N := 36) hx hb hts hiX8 hown hKK.1 hP 0 rfl rfl 18 (by decide) (hts (.fieldLink RX8 46 "SlideLandModel" "slot" "[I") (List.mem_of_getElem? (i := 2) rfl)) (fun _ h9 => h9) rfl dX8_trades_64 ?_
                  refine lv_iload_n hx hb dX8_trades_67 rfl (lv_at hl 1 rfl) ?_
                  refine lv_bipush (v := (11 : Int32)) hx hb dX8_trades_68 (by decide) ?_
                  refine lv_iadd hx hb dX8_trades_70 ?_
                  refine lv_iload hx hb dX8_trades_71 (lv_at hl 4 rfl) ?_
                  refine lv_iadd hx hb dX8_trades_73 ?_
                  refine lv_dup2_11 hx hb dX8_trades_74 rfl rfl ?_
                  obtain ⟨k25, h⟩ := ite_n h
                  refine va_iald hx hb hKK.1 hP 13 1 rfl rfl k25 dX8_trades_75 ?_
                  refine lv_iconst (v := (1 : Int32)) hx hb dX8_trades_76 (by decide) ?_
                  refine lv_iadd hx hb dX8_trades_77 ?_
                  obtain ⟨k26, h⟩ := ite_n h
                  obtain ⟨u27, hu27, h⟩ := bnd_e h
                  refine k_iast (f := u24) hx hb hKK.1 hP hD hS 13 1 hu27 rfl rfl k26 dX8_trades_78 (fun H locs hP hD hS => ?_)
                  have hP : va_P (dC, dI) vwCl ([cX8 a0 g0 (stR o20_0 18 u27), cX8_0 cI g0 (stR o20_0 18 u27), cX8_1 cI g0 (stR o20_0 18 u27), cX8_3 cI g0 (stR o20_0 18 u27), cX8_4 cI g0 (stR o20_0 18 u27), cX8_6 cI g0 (stR o20_0 18 u27), cX8_8 cI g0 (stR o20_0 18 u27), cX8_9 cI g0 (stR o20_0 18 u27), cX8_10 cI g0 (stR o20_0 18 u27), cX8_12 cI g0 (stR o20_0 18 u27), cX8_13 cI g0 (stR o20_0 18 u27), cX8_15 cI g0 (stR o20_0 18 u27), cX8_17 cI g0 (stR o20_0 18 u27), cX8_18 cI g0 (stR o20_0 18 u27), cX8_22 cB g0 (stR o20_0 18 u27), cX8_27 cI g0 (stR o20_0 18 u27), cX8_28 cI g0 (stR o20_0 18 u27), cX8_29 cI g0 (stR o20_0 18 u27), cX8_30 cI g0 (stR o20_0 18 u27), cX8_31 cI g0 (stR o20_0 18 u27), cX8_32 cI g0 (stR o20_0 18 u27), cX8_33 cI g0 (stR o20_0 18 u27)]) H := hP
                  have hD : va_D A ([cX8 a0 g0 (stR o20_0 18 u27), cX8_0 cI g0 (stR o20_0 18 u27), cX8_1 cI g0 (stR o20_0 18 u27), cX8_3 cI g0 (stR o20_0 18 u27), cX8_4 cI g0 (stR o20_0 18 u27), cX8_6 cI g0 (stR o20_0 18 u27), cX8_8 cI g0 (stR o20_0 18 u27), cX8_9 cI g0 (stR o20_0 18 u27), cX8_10 cI g0 (stR o20_0 18 u27), cX8_12 cI g0 (stR o20_0 18 u27), cX8_13 cI g0 (stR o20_0 18 u27), cX8_15 cI g0 (stR o20_0 18 u27), cX8_17 cI g0 (stR o20_0 18 u27), cX8_18 cI g0 (stR o20_0 18 u27), cX8_22 cB g0 (stR o20_0 18 u27), cX8_27 cI g0 (stR o20_0 18 u27), cX8_28 cI g0 (stR o20_0 18 u27), cX8_29 cI g0 (stR o20_0 18 u27), cX8_30 cI g0 (stR o20_0 18 u27), cX8_31 cI g0 (stR o20_0 18 u27), cX8_32 cI g0 (stR o20_0 18 u27), cX8_33 cI g0 (stR o20_0 18 u27)]) := hD
                  exact jn79 (stR o20_0 18 u27) h _ _ _ hP hD hS (lv_sub hl [0, 1, 2, 3, 4] rfl)
        exact lp20 FU (0 : Int32) o2_0 h _ _ _ hP hD hS (lv_sub hl [2, 3, 4, 1, 0] rfl)
  exact lp2 FU (0 : Int32) o0 h _ _ _ hP hD hS (lv_sub hl [1, 2, 0] rfl)
def f_X8_pass_37 (v1 : Int32) : Nat → Int32 → Ob → Option (Int32 × Ob)
  | 0, _, _ => none
  | nn37+1, x37_2, o37_0 => if v1 ≤ x37_2 then (some (((o37_0.2 18) (3 : Int32).toNatClampNeg), o37_0)) else ((f_X8_trades o37_0 (0 : Int32)).bind fun q6 : Ob => bnd (x37_2 + (1 : Int32)) fun x7 : Int32 => (f_X8_pass_37 v1 nn37) x7 q6)
def f_X8_pass (o0 : Ob) (v1 : Int32) : Option (Int32 × Ob) := bnd (f_X8_in (v1.toInt64) (1 : Int64) (20 : Int64)) fun q1 : Bool => if (b2i q1) = 0 then (some ((-1 : Int32), o0)) else (if (((o0.2 18) (3 : Int32).toNatClampNeg) + v1) ≤ (999 : Int32) then ((f_X8_known o0).bind fun q4 : Ob => f_X8_pass_37 v1 FU (0 : Int32) q4) else (some ((-2 : Int32), o0)))
abbrev rmX8_pass : Room := { frames := 5, cells := 0, slots := 0, locals := 122 }
theorem dsc_X8_pass : yX8_pass.cls ≠ "java/lang/invoke/MethodHandle" ∧ yX8_pass.cls ≠ "java/lang/invoke/VarHandle" ∧ (parseMethodDescriptor yX8_pass.desc).map (fun d => d.parameters.length) = some 1 := by decide +kernel
set_option maxHeartbeats 4000000 in
set_option maxRecDepth 100000 in
theorem c_X8_pass (l : Launch) (dC : Nat → ClassId) (dI : Nat → Nat → Nat) (cB cI cZ cO : ClassId) (a0 : Nat) (g0 : Nat → Nat) (o0 : Ob) (v1 : Int32) {r : Int32 × Ob} (h : f_X8_pass o0 v1 = some r) : Ct dC dI cB cI cZ cO l yX8_pass wsX8_pass rmX8_pass [.ref a0, .int v1] ([cX8 a0 g0 o0, cX8_0 cI g0 o0, cX8_1 cI g0 o0, cX8_3 cI g0 o0, cX8_4 cI g0 o0, cX8_6 cI g0 o0, cX8_8 cI g0 o0, cX8_9 cI g0 o0, cX8_10 cI g0 o0, cX8_12 cI g0 o0, cX8_13 cI g0 o0, cX8_15 cI g0 o0, cX8_17 cI g0 o0, cX8_18 cI g0 o0, cX8_22 cB g0 o0, cX8_27 cI g0 o0, cX8_28 cI g0 o0, cX8_29 cI g0 o0, cX8_30 cI g0 o0, cX8_31 cI g0 o0, cX8_32 cI g0 o0, cX8_33 cI g0 o0]) (some (.int r.1)) ([cX8 a0 g0 r.2, cX8_0 cI g0 r.2, cX8_1 cI g0 r.2, cX8_3 cI g0 r.2, cX8_4 cI g0 r.2, cX8_6 cI g0 r.2, cX8_8 cI g0 r.2, cX8_9 cI g0 r.2, cX8_10 cI g0 r.2, cX8_12 cI g0 r.2, cX8_13 cI g0 r.2, cX8_15 cI g0 r.2, cX8_17 cI g0 r.2, cX8_18 cI g0 r.2, cX8_22 cB g0 r.2, cX8_27 cI g0 r.2, cX8_28 cI g0 r.2, cX8_29 cI g0 r.2, cX8_30 cI g0 r.2, cX8_31 cI g0 r.2, cX8_32 cI g0 r.2, cX8_33 cI g0 r.2]) := by
  intro sz
  refine Met.ofW (cc := cX8_pass) (maxL := 3) (ret := (some .int)) (by decide) rfl ?_
  intro p e s m args below meth c s₁ B hml hv
  obtain ⟨rfl, hsz, hP, hKK, hD0⟩ := hv
  have hx := B.exec
  have hb := B.bytes
  have hr := B.returns
  have hts := atoms_spec (ws := wsX8_pass) B.pre
  have hown : s.vm.findClass RX8 = some m.cls := findClass_of_methodNamed B.named
  have hlocks := B.notSynchronized
  have hiX8 : ∀ w ∈ u_ws RX8 TX8 36, w ∈ wsX8_pass := fun w h => List.mem_cons_of_mem _ (List.mem_append_right _ h)
  subst hsz
  have hD := hD0.self (sz := s.heap.size)
  generalize hAe : va_A ([cX8 a0 g0 o0, cX8_0 cI g0 o0, cX8_1 cI g0 o0, cX8_3 cI g0 o0, cX8_4 cI g0 o0, cX8_6 cI g0 o0, cX8_8 cI g0 o0, cX8_9 cI g0 o0, cX8_10 cI g0 o0, cX8_12 cI g0 o0, cX8_13 cI g0 o0, cX8_15 cI g0 o0, cX8_17 cI g0 o0, cX8_18 cI g0 o0, cX8_22 cB g0 o0, cX8_27 cI g0 o0, cX8_28 cI g0 o0, cX8_29 cI g0 o0, cX8_30 cI g0 o0, cX8_31 cI g0 o0, cX8_32 cI g0 o0, cX8_33 cI g0 o0]) s.heap.size = A at hD ⊢
  have hA : ∀ q : Nat, s.heap.size ≤ q → A q := fun q h => by rw [← hAe]; exact Or.inr h
  have hS : va_S A s.heap s.heap [] := va_S.rf
  have hP : va_P (dC, dI) vwCl ([cX8 a0 g0 o0, cX8_0 cI g0 o0, cX8_1 cI g0 o0, cX8_3 cI g0 o0, cX8_4 cI g0 o0, cX8_6 cI g0 o0, cX8_8 cI g0 o0, cX8_9 cI g0 o0, cX8_10 cI g0 o0, cX8_12 cI g0 o0, cX8_13 cI g0 o0, cX8_15 cI g0 o0, cX8_17 cI g0 o0, cX8_18 cI g0 o0, cX8_22 cB g0 o0, cX8_27 cI g0 o0, cX8_28 cI g0 o0, cX8_29 cI g0 o0, cX8_30 cI g0 o0, cX8_31 cI g0 o0, cX8_32 cI g0 o0, cX8_33 cI g0 o0]) s.heap := hP
  have hD : va_D A ([cX8 a0 g0 o0, cX8_0 cI g0 o0, cX8_1 cI g0 o0, cX8_3 cI g0 o0, cX8_4 cI g0 o0, cX8_6 cI g0 o0, cX8_8 cI g0 o0, cX8_9 cI g0 o0, cX8_10 cI g0 o0, cX8_12 cI g0 o0, cX8_13 cI g0 o0, cX8_15 cI g0 o0, cX8_17 cI g0 o0, cX8_18 cI g0 o0, cX8_22 cB g0 o0, cX8_27 cI g0 o0, cX8_28 cI g0 o0, cX8_29 cI g0 o0, cX8_30 cI g0 o0, cX8_31 cI g0 o0, cX8_32 cI g0 o0, cX8_33 cI g0 o0]) := hD
  have hl := lv_entry ([.ref a0, .int v1]) (n := 3) (Nat.le_of_ble_eq_true rfl)
  rw [lg_entry_eq]
  generalize (lg_sl ([.ref a0, .int v1]) ++ List.replicate (3 - (lg_sl ([.ref a0, .int v1])).length) Slot.unset).toArray = ls at hl ⊢
  have hl : lv_has ls 3 [(0, .ref a0), (1, .int v1)] := hl
  obtain ⟨Q, hQ⟩ : ∃ Q, Q = MQ below (Qq dC dI (some (.int r.1)) ([cX8 a0 g0 r.2, cX8_0 cI g0 r.2, cX8_1 cI g0 r.2, cX8_3 cI g0 r.2, cX8_4 cI g0 r.2, cX8_6 cI g0 r.2, cX8_8 cI g0 r.2, cX8_9 cI g0 r.2, cX8_10 cI g0 r.2, cX8_12 cI g0 r.2, cX8_13 cI g0 r.2, cX8_15 cI g0 r.2, cX8_17 cI g0 r.2, cX8_18 cI g0 r.2, cX8_22 cB g0 r.2, cX8_27 cI g0 r.2, cX8_28 cI g0 r.2, cX8_29 cI g0 r.2, cX8_30 cI g0 r.2, cX8_31 cI g0 r.2, cX8_32 cI g0 r.2, cX8_33 cI g0 r.2]) A) ([.ref a0, .int v1] : List Value).toArray s 0 0 A := ⟨_, rfl⟩
  rw [← hQ]
  rw [f_X8_pass] at h
  clear hAe hD0
  refine lv_iload_n hx hb dX8_pass_0 rfl (lv_at hl 1 rfl) ?_
  refine lv_i2l hx hb dX8_pass_1 rfl ?_
  refine lv_lconst (v := 1) hx hb dX8_pass_2 (by decide) ?_
  refine lv_ldc2 hx hb hown (hts (.constantLong RX8 231 (20)) (List.mem_of_getElem? (i := 1) rfl)) dX8_pass_3 ?_
  obtain ⟨q1, hq1, h⟩ := bnd_e h
  refine kcS (rest := []) (w2 := ([cX8 a0 g0 o0, cX8_0 cI g0 o0, cX8_1 cI g0 o0, cX8_3 cI g0 o0, cX8_4 cI g0 o0, cX8_6 cI g0 o0, cX8_8 cI g0 o0, cX8_9 cI g0 o0, cX8_10 cI g0 o0, cX8_12 cI g0 o0, cX8_13 cI g0 o0, cX8_15 cI g0 o0, cX8_17 cI g0 o0, cX8_18 cI g0 o0, cX8_22 cB g0 o0, cX8_27 cI g0 o0, cX8_28 cI g0 o0, cX8_29 cI g0 o0, cX8_30 cI g0 o0, cX8_31 cI g0 o0, cX8_32 cI g0 o0, cX8_33 cI g0 o0])) hx hb hml hown hts hKK hP hD hS hA (c_X8_in l dC dI cB cI cZ cO (v1.toInt64) (1 : Int64) (20 : Int64) hq1) [] (atAll_map trivial) (by decide +kernel) (sameAd_map trivial) (atAll_map trivial) (agr_refl _ _ _) (va_cwS 3 hts gX8_pass_X8_in rfl rfl rfl dsc_X8_in ⟨Nat.le_of_ble_eq_true rfl, Nat.le_of_ble_eq_true rfl⟩) rfl hl.1 rfl (Nat.le_of_ble_eq_true rfl) dX8_pass_6 ⟨Nat.zero_le _, Nat.zero_le _⟩ (fun H locs hP hD hS => ?_)
  refine lv_if_ne (tgt := 14) hx hb dX8_pass_9 (by decide) (fun k2 => ?_) (fun k2 => ?_)
  · have h := ite_f k2 h
    refine lv_aload_n hx hb dX8_pass_14 rfl (lv_at hl 0 rfl) ?_
    refine va_get (D := (dC, dI)) (ci := 8) (v := .ref (g0 18)) (C := RX8) (T := TX8) (N := 36) hx hb hts hiX8 hown hKK.1 hP 0 rfl rfl 18 (by decide) (hts (.fieldLink RX8 46 "SlideLandModel" "slot" "[I") (List.mem_of_getElem? (i := 2) rfl)) (fun _ h9 => h9) rfl dX8_pass_15 ?_
    refine lv_iconst (v := (3 : Int32)) hx hb dX8_pass_18 (by decide) ?_
    refine va_iald hx hb hKK.1 hP 13 1 rfl rfl (show ¬ ((3 : Int32) < 0 ∨ 312 ≤ (3 : Int32).toNatClampNeg) from by decide) dX8_pass_19 ?_
    refine lv_iload_n hx hb dX8_pass_20 rfl (lv_at hl 1 rfl) ?_
    refine lv_iadd hx hb dX8_pass_21 ?_
    refine lv_sipush (v := (999 : Int32)) hx hb dX8_pass_22 (by decide) ?_
    refine lv_icmp_le (tgt := 31) hx hb dX8_pass_25 (by decide) (fun k3 => ?_) (fun k3 => ?_)
    · have h := ite_t k3 h
      refine lv_aload_n hx hb dX8_pass_31 rfl (lv_at hl 0 rfl) ?_
      obtain ⟨q4, hq4, h⟩ := obd_e h
      refine kcV (rest := []) (w2 := ([cX8 a0 g0 q4, cX8_0 cI g0 q4, cX8_1 cI g0 q4, cX8_3 cI g0 q4, cX8_4 cI g0 q4, cX8_6 cI g0 q4, cX8_8 cI g0 q4, cX8_9 cI g0 q4, cX8_10 cI g0 q4, cX8_12 cI g0 q4, cX8_13 cI g0 q4, cX8_15 cI g0 q4, cX8_17 cI g0 q4, cX8_18 cI g0 q4, cX8_22 cB g0 q4, cX8_27 cI g0 q4, cX8_28 cI g0 q4, cX8_29 cI g0 q4, cX8_30 cI g0 q4, cX8_31 cI g0 q4, cX8_32 cI g0 q4, cX8_33 cI g0 q4])) hx hb hml hown hts hKK hP hD hS hA (c_X8_known l dC dI cB cI cZ cO a0 g0 o0 hq4) [0, 1, 2, 3, 4, 5, 6, 7, 8, 9, 10, 11, 12, 13, 14, 15, 16, 17, 18, 19, 20, 21] (atAll_map ⟨rfl, rfl, rfl, rfl, rfl, rfl, rfl, rfl, rfl, rfl, rfl, rfl, rfl, rfl, rfl, rfl, rfl, rfl, rfl, rfl, rfl, rfl, trivial⟩) (by decide +kernel) (sameAd_map ⟨rfl, rfl, rfl, rfl, rfl, rfl, rfl, rfl, rfl, rfl, rfl, rfl, rfl, rfl, rfl, rfl, rfl, rfl, rfl, rfl, rfl, rfl, trivial⟩) (atAll_map ⟨rfl, rfl, rfl, rfl, rfl, rfl, rfl, rfl, rfl, rfl, rfl, rfl, rfl, rfl, rfl, rfl, rfl, rfl, rfl, rfl, rfl, rfl, trivial⟩) ⟨Or.inr (by decide), Or.inr (by decide), Or.inr (by decide), Or.inr (by decide), Or.inr (by decide), Or.inr (by decide), Or.inr (by decide), Or.inr (by decide), Or.inr (by decide), Or.inr (by decide), Or.inr (by decide), Or.inr (by decide), Or.inr (by decide), Or.inr (by decide), Or.inr (by decide), Or.inr (by decide), Or.inr (by decide), Or.inr (by decide), Or.inr (by decide), Or.inr (by decide), Or.inr (by decide), Or.inr (by decide), trivial⟩ (cwV 0 hts gX8_pass_X8_known rfl rfl rfl ⟨rfl, dsc_X8_known⟩ ⟨Nat.le_of_ble_eq_true rfl, Nat.le_of_ble_eq_true rfl⟩) (va_recv hKK.1 hP (ci := 8) (q0 := 0) rfl rfl) rfl hl.1 rfl (Nat.le_of_ble_eq_true rfl) dX8_pass_32 ⟨Nat.zero_le _, Nat.zero_le _⟩ (fun H locs hP hD hS => ?_)
      refine lv_iconst (v := (0 : Int32)) hx hb dX8_pass_35 (by decide) ?_
      refine lv_istore_n (lv' := [(2, .int (0 : Int32)), (0, .ref a0), (1, .int v1)]) hx hb dX8_pass_36 rfl hl (by decide) rfl (fun ls hl => ?_)
      have lp37 : ∀ (nn37 : Nat) (x37_2 : Int32) (o37_0 : Ob), f_X8_pass_37 v1 nn37 x37_2 o37_0 = some r → ∀ (H : Heap) (locs : List Loc) (ls : Array Slot), va_P (dC, dI) vwCl ([cX8 a0 g0 o37_0, cX8_0 cI g0 o37_0, cX8_1 cI g0 o37_0, cX8_3 cI g0 o37_0, cX8_4 cI g0 o37_0, cX8_6 cI g0 o37_0, cX8_8 cI g0 o37_0, cX8_9 cI g0 o37_0, cX8_10 cI g0 o37_0, cX8_12 cI g0 o37_0, cX8_13 cI g0 o37_0, cX8_15 cI g0 o37_0, cX8_17 cI g0 o37_0, cX8_18 cI g0 o37_0, cX8_22 cB g0 o37_0, cX8_27 cI g0 o37_0, cX8_28 cI g0 o37_0, cX8_29 cI g0 o37_0, cX8_30 cI g0 o37_0, cX8_31 cI g0 o37_0, cX8_32 cI g0 o37_0, cX8_33 cI g0 o37_0]) H → va_D A ([cX8 a0 g0 o37_0, cX8_0 cI g0 o37_0, cX8_1 cI g0 o37_0, cX8_3 cI g0 o37_0, cX8_4 cI g0 o37_0, cX8_6 cI g0 o37_0, cX8_8 cI g0 o37_0, cX8_9 cI g0 o37_0, cX8_10 cI g0 o37_0, cX8_12 cI g0 o37_0, cX8_13 cI g0 o37_0, cX8_15 cI g0 o37_0, cX8_17 cI g0 o37_0, cX8_18 cI g0 o37_0, cX8_22 cB g0 o37_0, cX8_27 cI g0 o37_0, cX8_28 cI g0 o37_0, cX8_29 cI g0 o37_0, cX8_30 cI g0 o37_0, cX8_31 cI g0 o37_0, cX8_32 cI g0 o37_0, cX8_33 cI g0 o37_0]) → va_S A s.heap H locs → lv_has ls 3 [(0, .ref a0), (1, .int v1), (2, .int x37_2)] → W p l e (headSpec wsX8_pass rmX8_pass).room s m ([.ref a0, .int v1] : List Value).toArray below meth c H locs 0 0 Q (F0 m 37 ls []) := by
        intro nn37
        induction nn37 with
        | zero => intro x37_2 o37_0 h; rw [f_X8_pass_37] at h; cases h
        | succ nn37 ih37 =>
          intro x37_2 o37_0 h H locs ls hP hD hS hl
          rw [f_X8_pass_37] at h
          refine lv_iload_n hx hb dX8_pass_37 rfl (lv_at hl 2 rfl) ?_
          refine lv_iload_n hx hb dX8_pass_38 rfl (lv_at hl 1 rfl) ?_
          refine lv_icmp_ge (tgt := 53) hx hb dX8_pass_39 (by decide) (fun k5 => ?_) (fun k5 => ?_)
          · have h := ite_t k5 h
            refine lv_aload_n hx hb dX8_pass_53 rfl (lv_at hl 0 rfl) ?_
            refine va_get (D := (dC, dI)) (ci := 8) (v := .ref (g0 18)) (C := RX8) (T := TX8) (N := 36) hx hb hts hiX8 hown hKK.1 hP 0 rfl rfl 18 (by decide) (hts (.fieldLink RX8 46 "SlideLandModel" "slot" "[I") (List.mem_of_getElem? (i := 2) rfl)) (fun _ h9 => h9) rfl dX8_pass_54 ?_
            refine lv_iconst (v := (3 : Int32)) hx hb dX8_pass_57 (by decide) ?_
            refine va_iald hx hb hKK.1 hP 13 1 rfl rfl (show ¬ ((3 : Int32) < 0 ∨ 312 ≤ (3 : Int32).toNatClampNeg) from by decide) dX8_pass_58 ?_
            have h := Option.some.inj h
            subst h
            subst hQ
            exact W.iret (v := ((o37_0.2 18) (3 : Int32).toNatClampNeg)) hx hb hr (fun t ht hW => ⟨⟨rfl, by rw [ht]; exact hP, hD⟩, hS.F ht⟩) hS.2.2 dX8_pass_59
          · have h := ite_f k5 h
            refine lv_aload_n hx hb dX8_pass_42 rfl (lv_at hl 0 rfl) ?_
            refine lv_iconst (v := (0 : Int32)) hx hb dX8_pass_43 (by decide) ?_
            obtain ⟨q6, hq6, h⟩ := obd_e h
            refine kcV (rest := []) (w2 := ([cX8 a0 g0 q6, cX8_0 cI g0 q6, cX8_1 cI g0 q6, cX8_3 cI g0 q6, cX8_4 cI g0 q6, cX8_6 cI g0 q6, cX8_8 cI g0 q6, cX8_9 cI g0 q6, cX8_10 cI g0 q6, cX8_12 cI g0 q6, cX8_13 cI g0 q6, cX8_15 cI g0 q6, cX8_17 cI g0 q6, cX8_18 cI g0 q6, cX8_22 cB g0 q6, cX8_27 cI g0 q6, cX8_28 cI g0 q6, cX8_29 cI g0 q6, cX8_30 cI g0 q6, cX8_31 cI g0 q6, cX8_32 cI g0 q6, cX8_33 cI g0 q6])) hx hb hml hown hts hKK hP hD hS hA (c_X8_trades l dC dI cB cI cZ cO a0 g0 o37_0 (0 : Int32) hq6) [0, 1, 2, 3, 4, 5, 6, 7, 8, 9, 10, 11, 12, 13, 14, 15, 16, 17, 18, 19, 20, 21] (atAll_map ⟨rfl, rfl, rfl, rfl, rfl, rfl, rfl, rfl, rfl, rfl, rfl, rfl, rfl, rfl, rfl, rfl, rfl, rfl, rfl, rfl, rfl, rfl, trivial⟩) (by decide +kernel) (sameAd_map ⟨rfl, rfl, rfl, rfl, rfl, rfl, rfl, rfl, rfl, rfl, rfl, rfl, rfl, rfl, rfl, rfl, rfl, rfl, rfl, rfl, rfl, rfl, trivial⟩) (atAll_map ⟨rfl, rfl, rfl, rfl, rfl, rfl, rfl, rfl, rfl, rfl, rfl, rfl, rfl, rfl, rfl, rfl, rfl, rfl, rfl, rfl, rfl, rfl, trivial⟩) ⟨Or.inr (by decide), Or.inr (by decide), Or.inr (by decide), Or.inr (by decide), Or.inr (by decide), Or.inr (by decide), Or.inr (by decide), Or.inr (by decide), Or.inr (by decide), Or.inr (by decide), Or.inr (by decide), Or.inr (by decide), Or.inr (by decide), Or.inr (by decide), Or.inr (by decide), Or.inr (by decide), Or.inr (by decide), Or.inr (by decide), Or.inr (by decide), Or.inr (by decide), Or.inr (by decide), Or.inr (by decide), trivial⟩ (cwV 1 hts gX8_pass_X8_trades rfl rfl rfl ⟨rfl, dsc_X8_trades⟩ ⟨Nat.le_of_ble_eq_true rfl, Nat.le_of_ble_eq_true rfl⟩) (va_recv hKK.1 hP (ci := 8) (q0 := 0) rfl rfl) rfl hl.1 rfl (Nat.le_of_ble_eq_true rfl) dX8_pass_44 ⟨Nat.zero_le _, Nat.zero_le _⟩ (fun H locs hP hD hS => ?_)
            obtain ⟨x7, hx7, h⟩ := bnd_e h
            refine lv_iinc (v := x7) (lv' := [(2, .int x7), (0, .ref a0), (1, .int v1)]) hx hb dX8_pass_47 hl (k := 2) rfl (by rw [← hx7]; rfl) (by decide) rfl (fun ls hl => ?_)
            refine lv_goto (tgt := 37) hx hb dX8_pass_50 (by decide) ?_
            exact ih37 x7 q6 h _ _ _ hP hD hS (lv_sub hl [1, 2, 0] rfl)
      exact lp37 FU (0 : Int32) q4 h _ _ _ hP hD hS (lv_sub hl [1, 2, 0] rfl)
    · have h := ite_f k3 h
      refine lv_bipush (v := (-2 : Int32)) hx hb dX8_pass_28 (by decide) ?_
      have h := Option.some.inj h
      subst h
      subst hQ
      exact W.iret (v := (-2 : Int32)) hx hb hr (fun t ht hW => ⟨⟨rfl, by rw [ht]; exact hP, hD⟩, hS.F ht⟩) hS.2.2 dX8_pass_30
  · have h := ite_t k2 h
    refine lv_iconst (v := (-1 : Int32)) hx hb dX8_pass_12 (by decide) ?_
    have h := Option.some.inj h
    subst h
    subst hQ
    exact W.iret (v := (-1 : Int32)) hx hb hr (fun t ht hW => ⟨⟨rfl, by rw [ht]; exact hP, hD⟩, hS.F ht⟩) hS.2.2 dX8_pass_13
