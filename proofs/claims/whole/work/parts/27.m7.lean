def f_X8_shifts_67 (x21_4 : Int32) (kL21 : (Int32 → Int32 → Int32 → Option (Int32))) (x6 : Int32) (y67_0 : Int32) : Option (Int32) := bnd (x21_4 + (-1 : Int32)) fun x8 : Int32 => kL21 x6 y67_0 x8
def f_X8_shifts_45 (o0 : Ob) (x21_2 : Int32) (x21_3 : Int32) (x21_4 : Int32) (kL21 : (Int32 → Int32 → Int32 → Option (Int32))) (y45_1 : Bool) : Option (Int32) := bnd (x21_2 + (b2i y45_1)) fun x6 : Int32 => (f_X8_isSo o0 x21_4 x21_4).bind fun q7 : Bool => if (b2i q7) = 0 then (f_X8_shifts_67 x21_4 kL21 x6 x21_3) else (f_X8_shifts_67 x21_4 kL21 x6 (x21_4 + (40 : Int32)))
def f_X8_shifts_21 (o0 : Ob) (v1 : Int32) : Nat → Int32 → Int32 → Int32 → Option (Int32)
  | 0, _, _, _ => none
  | nn21+1, x21_2, x21_3, x21_4 => if x21_4 < (-40 : Int32) then (if v1 = 0 then (some x21_2) else (some x21_3)) else ((f_X8_isSo o0 x21_4 x21_4).bind fun q5 : Bool => if (b2i q5) = 0 then (f_X8_shifts_45 o0 x21_2 x21_3 x21_4 (f_X8_shifts_21 o0 v1 nn21) false) else (f_X8_shifts_45 o0 x21_2 x21_3 x21_4 (f_X8_shifts_21 o0 v1 nn21) true))
def f_X8_shifts (o0 : Ob) (v1 : Int32) : Option (Int32) := bnd (f_X8_in (v1.toInt64) (0 : Int64) (1 : Int64)) fun q1 : Bool => if (b2i q1) = 0 then (some (-1 : Int32)) else (f_X8_shifts_21 o0 v1 FU (0 : Int32) (-4 : Int32) (40 : Int32))
abbrev rmX8_shifts : Room := { frames := 3, cells := 0, slots := 0, locals := 74 }
theorem dsc_X8_shifts : yX8_shifts.cls ≠ "java/lang/invoke/MethodHandle" ∧ yX8_shifts.cls ≠ "java/lang/invoke/VarHandle" ∧ (parseMethodDescriptor yX8_shifts.desc).map (fun d => d.parameters.length) = some 1 := by decide +kernel
set_option maxHeartbeats 4000000 in
set_option maxRecDepth 100000 in
theorem c_X8_shifts (l : Launch) (dC : Nat → ClassId) (dI : Nat → Nat → Nat) (cB cI cZ cO : ClassId) (a0 : Nat) (g0 : Nat → Nat) (o0 : Ob) (v1 : Int32) {r : Int32} (h : f_X8_shifts o0 v1 = some r) : Ct dC dI cB cI cZ cO l yX8_shifts wsX8_shifts rmX8_shifts [.ref a0, .int v1] ([cX8 a0 g0 o0, cX8_0 cI g0 o0, cX8_1 cI g0 o0, cX8_3 cI g0 o0, cX8_4 cI g0 o0, cX8_6 cI g0 o0, cX8_8 cI g0 o0, cX8_9 cI g0 o0, cX8_10 cI g0 o0, cX8_12 cI g0 o0, cX8_13 cI g0 o0, cX8_15 cI g0 o0, cX8_17 cI g0 o0, cX8_18 cI g0 o0, cX8_22 cB g0 o0, cX8_27 cI g0 o0, cX8_28 cI g0 o0, cX8_29 cI g0 o0, cX8_30 cI g0 o0, cX8_31 cI g0 o0, cX8_32 cI g0 o0, cX8_33 cI g0 o0]) (some (.int r)) ([cX8 a0 g0 o0, cX8_0 cI g0 o0, cX8_1 cI g0 o0, cX8_3 cI g0 o0, cX8_4 cI g0 o0, cX8_6 cI g0 o0, cX8_8 cI g0 o0, cX8_9 cI g0 o0, cX8_10 cI g0 o0, cX8_12 cI g0 o0, cX8_13 cI g0 o0, cX8_15 cI g0 o0, cX8_17 cI g0 o0, cX8_18 cI g0 o0, cX8_22 cB g0 o0, cX8_27 cI g0 o0, cX8_28 cI g0 o0, cX8_29 cI g0 o0, cX8_30 cI g0 o0, cX8_31 cI g0 o0, cX8_32 cI g0 o0, cX8_33 cI g0 o0]) := by
  intro sz
  refine Met.ofW (cc := cX8_shifts) (maxL := 5) (ret := (some .int)) (by decide) rfl ?_
  intro p e s m args below meth c s₁ B hml hv
  obtain ⟨rfl, hsz, hP, hKK, hD0⟩ := hv
  have hx := B.exec
  have hb := B.bytes
  have hr := B.returns
  have hts := atoms_spec (ws := wsX8_shifts) B.pre
  have hown : s.vm.findClass RX8 = some m.cls := findClass_of_methodNamed B.named
  have hlocks := B.notSynchronized
  subst hsz
  have hD := hD0.self (sz := s.heap.size)
  generalize hAe : va_A ([cX8 a0 g0 o0, cX8_0 cI g0 o0, cX8_1 cI g0 o0, cX8_3 cI g0 o0, cX8_4 cI g0 o0, cX8_6 cI g0 o0, cX8_8 cI g0 o0, cX8_9 cI g0 o0, cX8_10 cI g0 o0, cX8_12 cI g0 o0, cX8_13 cI g0 o0, cX8_15 cI g0 o0, cX8_17 cI g0 o0, cX8_18 cI g0 o0, cX8_22 cB g0 o0, cX8_27 cI g0 o0, cX8_28 cI g0 o0, cX8_29 cI g0 o0, cX8_30 cI g0 o0, cX8_31 cI g0 o0, cX8_32 cI g0 o0, cX8_33 cI g0 o0]) s.heap.size = A at hD ⊢
  have hA : ∀ q : Nat, s.heap.size ≤ q → A q := fun q h => by rw [← hAe]; exact Or.inr h
  have hS : va_S A s.heap s.heap [] := va_S.rf
  have hP : va_P (dC, dI) vwCl ([cX8 a0 g0 o0, cX8_0 cI g0 o0, cX8_1 cI g0 o0, cX8_3 cI g0 o0, cX8_4 cI g0 o0, cX8_6 cI g0 o0, cX8_8 cI g0 o0, cX8_9 cI g0 o0, cX8_10 cI g0 o0, cX8_12 cI g0 o0, cX8_13 cI g0 o0, cX8_15 cI g0 o0, cX8_17 cI g0 o0, cX8_18 cI g0 o0, cX8_22 cB g0 o0, cX8_27 cI g0 o0, cX8_28 cI g0 o0, cX8_29 cI g0 o0, cX8_30 cI g0 o0, cX8_31 cI g0 o0, cX8_32 cI g0 o0, cX8_33 cI g0 o0]) s.heap := hP
  have hD : va_D A ([cX8 a0 g0 o0, cX8_0 cI g0 o0, cX8_1 cI g0 o0, cX8_3 cI g0 o0, cX8_4 cI g0 o0, cX8_6 cI g0 o0, cX8_8 cI g0 o0, cX8_9 cI g0 o0, cX8_10 cI g0 o0, cX8_12 cI g0 o0, cX8_13 cI g0 o0, cX8_15 cI g0 o0, cX8_17 cI g0 o0, cX8_18 cI g0 o0, cX8_22 cB g0 o0, cX8_27 cI g0 o0, cX8_28 cI g0 o0, cX8_29 cI g0 o0, cX8_30 cI g0 o0, cX8_31 cI g0 o0, cX8_32 cI g0 o0, cX8_33 cI g0 o0]) := hD
  have hl := lv_entry ([.ref a0, .int v1]) (n := 5) (Nat.le_of_ble_eq_true rfl)
  rw [lg_entry_eq]
  generalize (lg_sl ([.ref a0, .int v1]) ++ List.replicate (5 - (lg_sl ([.ref a0, .int v1])).length) Slot.unset).toArray = ls at hl ⊢
  have hl : lv_has ls 5 [(0, .ref a0), (1, .int v1)] := hl
  obtain ⟨Q, hQ⟩ : ∃ Q, Q = MQ below (Qq dC dI (some (.int r)) ([cX8 a0 g0 o0, cX8_0 cI g0 o0, cX8_1 cI g0 o0, cX8_3 cI g0 o0, cX8_4 cI g0 o0, cX8_6 cI g0 o0, cX8_8 cI g0 o0, cX8_9 cI g0 o0, cX8_10 cI g0 o0, cX8_12 cI g0 o0, cX8_13 cI g0 o0, cX8_15 cI g0 o0, cX8_17 cI g0 o0, cX8_18 cI g0 o0, cX8_22 cB g0 o0, cX8_27 cI g0 o0, cX8_28 cI g0 o0, cX8_29 cI g0 o0, cX8_30 cI g0 o0, cX8_31 cI g0 o0, cX8_32 cI g0 o0, cX8_33 cI g0 o0]) A) ([.ref a0, .int v1] : List Value).toArray s 0 0 A := ⟨_, rfl⟩
  rw [← hQ]
  rw [f_X8_shifts] at h
  clear hAe hD0
  refine lv_iload_n hx hb dX8_shifts_0 rfl (lv_at hl 1 rfl) ?_
  refine lv_i2l hx hb dX8_shifts_1 rfl ?_
  refine lv_lconst (v := 0) hx hb dX8_shifts_2 (by decide) ?_
  refine lv_lconst (v := 1) hx hb dX8_shifts_3 (by decide) ?_
  obtain ⟨q1, hq1, h⟩ := bnd_e h
  refine kcS (rest := []) (w2 := ([cX8 a0 g0 o0, cX8_0 cI g0 o0, cX8_1 cI g0 o0, cX8_3 cI g0 o0, cX8_4 cI g0 o0, cX8_6 cI g0 o0, cX8_8 cI g0 o0, cX8_9 cI g0 o0, cX8_10 cI g0 o0, cX8_12 cI g0 o0, cX8_13 cI g0 o0, cX8_15 cI g0 o0, cX8_17 cI g0 o0, cX8_18 cI g0 o0, cX8_22 cB g0 o0, cX8_27 cI g0 o0, cX8_28 cI g0 o0, cX8_29 cI g0 o0, cX8_30 cI g0 o0, cX8_31 cI g0 o0, cX8_32 cI g0 o0, cX8_33 cI g0 o0])) hx hb hml hown hts hKK hP hD hS hA (c_X8_in l dC dI cB cI cZ cO (v1.toInt64) (0 : Int64) (1 : Int64) hq1) [] (atAll_map trivial) (by decide +kernel) (sameAd_map trivial) (atAll_map trivial) (agr_refl _ _ _) (va_cwS 3 hts gX8_shifts_X8_in rfl rfl rfl dsc_X8_in ⟨Nat.le_of_ble_eq_true rfl, Nat.le_of_ble_eq_true rfl⟩) rfl hl.1 rfl (Nat.le_of_ble_eq_true rfl) dX8_shifts_4 ⟨Nat.zero_le _, Nat.zero_le _⟩ (fun H locs hP hD hS => ?_)
  refine lv_if_ne (tgt := 12) hx hb dX8_shifts_7 (by decide) (fun k2 => ?_) (fun k2 => ?_)
  · have h := ite_f k2 h
    refine lv_iconst (v := (0 : Int32)) hx hb dX8_shifts_12 (by decide) ?_
    refine lv_istore_n (lv' := [(2, .int (0 : Int32)), (0, .ref a0), (1, .int v1)]) hx hb dX8_shifts_13 rfl hl (by decide) rfl (fun ls hl => ?_)
    refine lv_bipush (v := (-4 : Int32)) hx hb dX8_shifts_14 (by decide) ?_
    refine lv_istore_n (lv' := [(3, .int (-4 : Int32)), (2, .int (0 : Int32)), (0, .ref a0), (1, .int v1)]) hx hb dX8_shifts_16 rfl hl (by decide) rfl (fun ls hl => ?_)
    refine lv_bipush (v := (40 : Int32)) hx hb dX8_shifts_17 (by decide) ?_
    refine lv_istore (lv' := [(4, .int (40 : Int32)), (3, .int (-4 : Int32)), (2, .int (0 : Int32)), (0, .ref a0), (1, .int v1)]) hx hb dX8_shifts_19 hl (by decide) rfl (fun ls hl => ?_)
    have lp21 : ∀ (nn21 : Nat) (x21_2 : Int32) (x21_3 : Int32) (x21_4 : Int32), f_X8_shifts_21 o0 v1 nn21 x21_2 x21_3 x21_4 = some r → ∀ (H : Heap) (locs : List Loc) (ls : Array Slot), va_P (dC, dI) vwCl ([cX8 a0 g0 o0, cX8_0 cI g0 o0, cX8_1 cI g0 o0, cX8_3 cI g0 o0, cX8_4 cI g0 o0, cX8_6 cI g0 o0, cX8_8 cI g0 o0, cX8_9 cI g0 o0, cX8_10 cI g0 o0, cX8_12 cI g0 o0, cX8_13 cI g0 o0, cX8_15 cI g0 o0, cX8_17 cI g0 o0, cX8_18 cI g0 o0, cX8_22 cB g0 o0, cX8_27 cI g0 o0, cX8_28 cI g0 o0, cX8_29 cI g0 o0, cX8_30 cI g0 o0, cX8_31 cI g0 o0, cX8_32 cI g0 o0, cX8_33 cI g0 o0]) H → va_D A ([cX8 a0 g0 o0, cX8_0 cI g0 o0, cX8_1 cI g0 o0, cX8_3 cI g0 o0, cX8_4 cI g0 o0, cX8_6 cI g0 o0, cX8_8 cI g0 o0, cX8_9 cI g0 o0, cX8_10 cI g0 o0, cX8_12 cI g0 o0, cX8_13 cI g0 o0, cX8_15 cI g0 o0, cX8_17 cI g0 o0, cX8_18 cI g0 o0, cX8_22 cB g0 o0, cX8_27 cI g0 o0, cX8_28 cI g0 o0, cX8_29 cI g0 o0, cX8_30 cI g0 o0, cX8_31 cI g0 o0, cX8_32 cI g0 o0, cX8_33 cI g0 o0]) → va_S A s.heap H locs → lv_has ls 5 [(0, .ref a0), (1, .int v1), (2, .int x21_2), (3, .int x21_3), (4, .int x21_4)] → W p l e (headSpec wsX8_shifts rmX8_shifts).room s m ([.ref a0, .int v1] : List Value).toArray below meth c H locs 0 0 Q (F0 m 21 ls []) := by
      intro nn21
      induction nn21 with
      | zero => intro x21_2 x21_3 x21_4 h; rw [f_X8_shifts_21] at h; cases h
      | succ nn21 ih21 =>
        intro x21_2 x21_3 x21_4 h H locs ls hP hD hS hl
        rw [f_X8_shifts_21] at h
        refine lv_iload hx hb dX8_shifts_21 (lv_at hl 4 rfl) ?_
        refine lv_bipush (v := (-40 : Int32)) hx hb dX8_shifts_23 (by decide) ?_
        refine lv_icmp_lt (tgt := 74) hx hb dX8_shifts_25 (by decide) (fun k3 => ?_) (fun k3 => ?_)
        · have h := ite_t k3 h
          refine lv_iload_n hx hb dX8_shifts_74 rfl (lv_at hl 1 rfl) ?_
          refine lv_if_ne (tgt := 82) hx hb dX8_shifts_75 (by decide) (fun k4 => ?_) (fun k4 => ?_)
          · have h := ite_f k4 h
            refine lv_iload_n hx hb dX8_shifts_82 rfl (lv_at hl 3 rfl) ?_
            have h := Option.some.inj h
            subst h
            subst hQ
            exact W.iret (v := x21_3) hx hb hr (fun t ht hW => ⟨⟨rfl, by rw [ht]; exact hP, hD⟩, hS.F ht⟩) hS.2.2 dX8_shifts_83
          · have h := ite_t k4 h
            refine lv_iload_n hx hb dX8_shifts_78 rfl (lv_at hl 2 rfl) ?_
            refine lv_goto (tgt := 83) hx hb dX8_shifts_79 (by decide) ?_
            have h := Option.some.inj h
            subst h
            subst hQ
            exact W.iret (v := x21_2) hx hb hr (fun t ht hW => ⟨⟨rfl, by rw [ht]; exact hP, hD⟩, hS.F ht⟩) hS.2.2 dX8_shifts_83
        · have h := ite_f k3 h
          refine lv_iload_n hx hb dX8_shifts_28 rfl (lv_at hl 2 rfl) ?_
          refine lv_aload_n hx hb dX8_shifts_29 rfl (lv_at hl 0 rfl) ?_
          refine lv_iload hx hb dX8_shifts_30 (lv_at hl 4 rfl) ?_
          refine lv_iload hx hb dX8_shifts_32 (lv_at hl 4 rfl) ?_
          obtain ⟨q5, hq5, h⟩ := obd_e h
          refine kcV (rest := [.int x21_2]) (w2 := ([cX8 a0 g0 o0, cX8_0 cI g0 o0, cX8_1 cI g0 o0, cX8_3 cI g0 o0, cX8_4 cI g0 o0, cX8_6 cI g0 o0, cX8_8 cI g0 o0, cX8_9 cI g0 o0, cX8_10 cI g0 o0, cX8_12 cI g0 o0, cX8_13 cI g0 o0, cX8_15 cI g0 o0, cX8_17 cI g0 o0, cX8_18 cI g0 o0, cX8_22 cB g0 o0, cX8_27 cI g0 o0, cX8_28 cI g0 o0, cX8_29 cI g0 o0, cX8_30 cI g0 o0, cX8_31 cI g0 o0, cX8_32 cI g0 o0, cX8_33 cI g0 o0])) hx hb hml hown hts hKK hP hD hS hA (c_X8_isSo l dC dI cB cI cZ cO a0 g0 o0 x21_4 x21_4 hq5) [0, 1, 2, 3, 4, 5, 6, 7, 8, 9, 10, 11, 12, 13, 14, 15, 16, 17, 18, 19, 20, 21] (atAll_map ⟨rfl, rfl, rfl, rfl, rfl, rfl, rfl, rfl, rfl, rfl, rfl, rfl, rfl, rfl, rfl, rfl, rfl, rfl, rfl, rfl, rfl, rfl, trivial⟩) (by decide +kernel) (sameAd_map ⟨rfl, rfl, rfl, rfl, rfl, rfl, rfl, rfl, rfl, rfl, rfl, rfl, rfl, rfl, rfl, rfl, rfl, rfl, rfl, rfl, rfl, rfl, trivial⟩) (atAll_map ⟨rfl, rfl, rfl, rfl, rfl, rfl, rfl, rfl, rfl, rfl, rfl, rfl, rfl, rfl, rfl, rfl, rfl, rfl, rfl, rfl, rfl, rfl, trivial⟩) (agr_refl _ _ _) (cwV 2 hts gX8_shifts_X8_isSo rfl rfl rfl ⟨rfl, dsc_X8_isSo⟩ ⟨Nat.le_of_ble_eq_true rfl, Nat.le_of_ble_eq_true rfl⟩) (va_recv hKK.1 hP (ci := 8) (q0 := 0) rfl rfl) rfl hl.1 rfl (Nat.le_of_ble_eq_true rfl) dX8_shifts_34 ⟨Nat.zero_le _, Nat.zero_le _⟩ (fun H locs hP hD hS => ?_)
          have jn45 : ∀ (y45_1 : Bool), f_X8_shifts_45 o0 x21_2 x21_3 x21_4 (f_X8_shifts_21 o0 v1 nn21) y45_1 = some r → ∀ (H : Heap) (locs : List Loc) (ls : Array Slot), va_P (dC, dI) vwCl ([cX8 a0 g0 o0, cX8_0 cI g0 o0, cX8_1 cI g0 o0, cX8_3 cI g0 o0, cX8_4 cI g0 o0, cX8_6 cI g0 o0, cX8_8 cI g0 o0, cX8_9 cI g0 o0, cX8_10 cI g0 o0, cX8_12 cI g0 o0, cX8_13 cI g0 o0, cX8_15 cI g0 o0, cX8_17 cI g0 o0, cX8_18 cI g0 o0, cX8_22 cB g0 o0, cX8_27 cI g0 o0, cX8_28 cI g0 o0, cX8_29 cI g0 o0, cX8_30 cI g0 o0, cX8_31 cI g0 o0, cX8_32 cI g0 o0, cX8_33 cI g0 o0]) H → va_D A ([cX8 a0 g0 o0, cX8_0 cI g0 o0, cX8_1 cI g0 o0, cX8_3 cI g0 o0, cX8_4 cI g0 o0, cX8_6 cI g0 o0, cX8_8 cI g0 o0, cX8_9 cI g0 o0, cX8_10 cI g0 o0, cX8_12 cI g0 o0, cX8_13 cI g0 o0, cX8_15 cI g0 o0, cX8_17 cI g0 o0, cX8_18 cI g0 o0, cX8_22 cB g0 o0, cX8_27 cI g0 o0, cX8_28 cI g0 o0, cX8_29 cI g0 o0, cX8_30 cI g0 o0, cX8_31 cI g0 o0, cX8_32 cI g0 o0, cX8_33 cI g0 o0]) → va_S A s.heap H locs → lv_has ls 5 [(0, .ref a0), (1, .int v1), (3, .int x21_3), (4, .int x21_4)] → W p l e (headSpec wsX8_shifts rmX8_shifts).room s m ([.ref a0, .int v1] : List Value).toArray below meth c H locs 0 0 Q (F0 m 45 ls [.int (b2i y45_1), .int x21_2]) := by
            intro y45_1 h H locs ls hP hD hS hl
            rw [f_X8_shifts_45] at h
            refine lv_iadd hx hb dX8_shifts_45 ?_
            obtain ⟨x6, hx6, h⟩ := bnd_e h
            refine lv_topE hx6 ?_
            refine lv_istore_n (lv' := [(2, .int x6), (0, .ref a0), (1, .int v1), (3, .int x21_3), (4, .int x21_4)]) hx hb dX8_shifts_46 rfl hl (by decide) rfl (fun ls hl => ?_)
            refine lv_aload_n hx hb dX8_shifts_47 rfl (lv_at hl 1 rfl) ?_
            refine lv_iload hx hb dX8_shifts_48 (lv_at hl 4 rfl) ?_
            refine lv_iload hx hb dX8_shifts_50 (lv_at hl 4 rfl) ?_
            obtain ⟨q7, hq7, h⟩ := obd_e h
            refine kcV (rest := []) (w2 := ([cX8 a0 g0 o0, cX8_0 cI g0 o0, cX8_1 cI g0 o0, cX8_3 cI g0 o0, cX8_4 cI g0 o0, cX8_6 cI g0 o0, cX8_8 cI g0 o0, cX8_9 cI g0 o0, cX8_10 cI g0 o0, cX8_12 cI g0 o0, cX8_13 cI g0 o0, cX8_15 cI g0 o0, cX8_17 cI g0 o0, cX8_18 cI g0 o0, cX8_22 cB g0 o0, cX8_27 cI g0 o0, cX8_28 cI g0 o0, cX8_29 cI g0 o0, cX8_30 cI g0 o0, cX8_31 cI g0 o0, cX8_32 cI g0 o0, cX8_33 cI g0 o0])) hx hb hml hown hts hKK hP hD hS hA (c_X8_isSo l dC dI cB cI cZ cO a0 g0 o0 x21_4 x21_4 hq7) [0, 1, 2, 3, 4, 5, 6, 7, 8, 9, 10, 11, 12, 13, 14, 15, 16, 17, 18, 19, 20, 21] (atAll_map ⟨rfl, rfl, rfl, rfl, rfl, rfl, rfl, rfl, rfl, rfl, rfl, rfl, rfl, rfl, rfl, rfl, rfl, rfl, rfl, rfl, rfl, rfl, trivial⟩) (by decide +kernel) (sameAd_map ⟨rfl, rfl, rfl, rfl, rfl, rfl, rfl, rfl, rfl, rfl, rfl, rfl, rfl, rfl, rfl, rfl, rfl, rfl, rfl, rfl, rfl, rfl, trivial⟩) (atAll_map ⟨rfl, rfl, rfl, rfl, rfl, rfl, rfl, rfl, rfl, rfl, rfl, rfl, rfl, rfl, rfl, rfl, rfl, rfl, rfl, rfl, rfl, rfl, trivial⟩) (agr_refl _ _ _) (cwV 2 hts gX8_shifts_X8_isSo rfl rfl rfl ⟨rfl, dsc_X8_isSo⟩ ⟨Nat.le_of_ble_eq_true rfl, Nat.le_of_ble_eq_true rfl⟩) (va_recv hKK.1 hP (ci := 8) (q0 := 0) rfl rfl) rfl hl.1 rfl (Nat.le_of_ble_eq_true rfl) dX8_shifts_52 ⟨Nat.zero_le _, Nat.zero_le _⟩ (fun H locs hP hD hS => ?_)
            have jn67 : ∀ (y67_0 : Int32), f_X8_shifts_67 x21_4 (f_X8_shifts_21 o0 v1 nn21) x6 y67_0 = some r → ∀ (H : Heap) (locs : List Loc) (ls : Array Slot), va_P (dC, dI) vwCl ([cX8 a0 g0 o0, cX8_0 cI g0 o0, cX8_1 cI g0 o0, cX8_3 cI g0 o0, cX8_4 cI g0 o0, cX8_6 cI g0 o0, cX8_8 cI g0 o0, cX8_9 cI g0 o0, cX8_10 cI g0 o0, cX8_12 cI g0 o0, cX8_13 cI g0 o0, cX8_15 cI g0 o0, cX8_17 cI g0 o0, cX8_18 cI g0 o0, cX8_22 cB g0 o0, cX8_27 cI g0 o0, cX8_28 cI g0 o0, cX8_29 cI g0 o0, cX8_30 cI g0 o0, cX8_31 cI g0 o0, cX8_32 cI g0 o0, cX8_33 cI g0 o0]) H → va_D A ([cX8 a0 g0 o0, cX8_0 cI g0 o0, cX8_1 cI g0 o0, cX8_3 cI g0 o0, cX8_4 cI g0 o0, cX8_6 cI g0 o0, cX8_8 cI g0 o0, cX8_9 cI g0 o0, cX8_10 cI g0 o0, cX8_12 cI g0 o0, cX8_13 cI g0 o0, cX8_15 cI g0 o0, cX8_17 cI g0 o0, cX8_18 cI g0 o0, cX8_22 cB g0 o0, cX8_27 cI g0 o0, cX8_28 cI g0 o0, cX8_29 cI g0 o0, cX8_30 cI g0 o0, cX8_31 cI g0 o0, cX8_32 cI g0 o0, cX8_33 cI g0 o0]) → va_S A s.heap H locs → lv_has ls 5 [(0, .ref a0), (1, .int v1), (2, .int x6), (4, .int x21_4)] → W p l e (headSpec wsX8_shifts rmX8_shifts).room s m ([.ref a0, .int v1] : List Value).toArray below meth c H locs 0 0 Q (F0 m 67 ls [.int y67_0]) := by
              intro y67_0 h H locs ls hP hD hS hl
              rw [f_X8_shifts_67] at h
              refine lv_istore_n (lv' := [(3, .int y67_0), (0, .ref a0), (1, .int v1), (2, .int x6), (4, .int x21_4)]) hx hb dX8_shifts_67 rfl hl (by decide) rfl (fun ls hl => ?_)
              obtain ⟨x8, hx8, h⟩ := bnd_e h
              refine lv_iinc (v := x8) (lv' := [(4, .int x8), (3, .int y67_0), (0, .ref a0), (1, .int v1), (2, .int x6)]) hx hb dX8_shifts_68 hl (k := 4) rfl (by rw [← hx8]; rfl) (by decide) rfl (fun ls hl => ?_)
              refine lv_goto (tgt := 21) hx hb dX8_shifts_71 (by decide) ?_
              exact ih21 x6 y67_0 x8 h _ _ _ hP hD hS (lv_sub hl [2, 3, 4, 1, 0] rfl)
            refine lv_if_eq (tgt := 66) hx hb dX8_shifts_55 (by decide) (fun k9 => ?_) (fun k9 => ?_)
            · have h := ite_t k9 h
              refine lv_iload_n hx hb dX8_shifts_66 rfl (lv_at hl 3 rfl) ?_
              exact jn67 x21_3 h _ _ _ hP hD hS (lv_sub hl [1, 2, 0, 4] rfl)
            · have h := ite_f k9 h
              refine lv_iload hx hb dX8_shifts_58 (lv_at hl 4 rfl) ?_
              refine lv_bipush (v := (40 : Int32)) hx hb dX8_shifts_60 (by decide) ?_
              refine lv_iadd hx hb dX8_shifts_62 ?_
              refine lv_goto (tgt := 67) hx hb dX8_shifts_63 (by decide) ?_
              exact jn67 (x21_4 + (40 : Int32)) h _ _ _ hP hD hS (lv_sub hl [1, 2, 0, 4] rfl)
          refine lv_if_eq (tgt := 44) hx hb dX8_shifts_37 (by decide) (fun k10 => ?_) (fun k10 => ?_)
          · have h := ite_t k10 h
            refine lv_iconst (v := (0 : Int32)) hx hb dX8_shifts_44 (by decide) ?_
            exact jn45 false h _ _ _ hP hD hS (lv_sub hl [0, 1, 3, 4] rfl)
          · have h := ite_f k10 h
            refine lv_iconst (v := (1 : Int32)) hx hb dX8_shifts_40 (by decide) ?_
            refine lv_goto (tgt := 45) hx hb dX8_shifts_41 (by decide) ?_
            exact jn45 true h _ _ _ hP hD hS (lv_sub hl [0, 1, 3, 4] rfl)
    exact lp21 FU (0 : Int32) (-4 : Int32) (40 : Int32) h _ _ _ hP hD hS (lv_sub hl [3, 4, 2, 1, 0] rfl)
  · have h := ite_t k2 h
    refine lv_iconst (v := (-1 : Int32)) hx hb dX8_shifts_10 (by decide) ?_
    have h := Option.some.inj h
    subst h
    subst hQ
    exact W.iret (v := (-1 : Int32)) hx hb hr (fun t ht hW => ⟨⟨rfl, by rw [ht]; exact hP, hD⟩, hS.F ht⟩) hS.2.2 dX8_shifts_11
def f_X8_pairs_5 (o0 : Ob) (v1 : Int32) (v2 : Int32) : Nat → Int32 → Int32 → Option (Int32)
  | 0, _, _ => none
  | nn5+1, x5_3, x5_4 => if (o0.1 2) ≤ x5_4 then (some x5_3) else ((f_X8_dampOf o0 ((o0.2 18) (3 : Int32).toNatClampNeg)).bind fun q2 : Int32 => (f_X8_againstBy o0 x5_4 v1 v2 q2).bind fun q3 : Int32 => (f_X8_bits q3).bind fun q4 : Int32 => bnd (x5_3 + q4) fun x5 : Int32 => bnd (x5_4 + (1 : Int32)) fun x6 : Int32 => (f_X8_pairs_5 o0 v1 v2 nn5) x5 x6)
def f_X8_pairs (o0 : Ob) (v1 : Int32) (v2 : Int32) : Option (Int32) := f_X8_pairs_5 o0 v1 v2 FU (0 : Int32) (0 : Int32)
abbrev rmX8_pairs : Room := { frames := 3, cells := 0, slots := 0, locals := 76 }
theorem dsc_X8_pairs : yX8_pairs.cls ≠ "java/lang/invoke/MethodHandle" ∧ yX8_pairs.cls ≠ "java/lang/invoke/VarHandle" ∧ (parseMethodDescriptor yX8_pairs.desc).map (fun d => d.parameters.length) = some 2 := by decide +kernel
set_option maxHeartbeats 4000000 in
set_option maxRecDepth 100000 in
theorem c_X8_pairs (l : Launch) (dC : Nat → ClassId) (dI : Nat → Nat → Nat) (cB cI cZ cO : ClassId) (a0 : Nat) (g0 : Nat → Nat) (o0 : Ob) (v1 : Int32) (v2 : Int32) {r : Int32} (h : f_X8_pairs o0 v1 v2 = some r) : Ct dC dI cB cI cZ cO l yX8_pairs wsX8_pairs rmX8_pairs [.ref a0, .int v1, .int v2] ([cX8 a0 g0 o0, cX8_0 cI g0 o0, cX8_1 cI g0 o0, cX8_3 cI g0 o0, cX8_4 cI g0 o0, cX8_6 cI g0 o0, cX8_8 cI g0 o0, cX8_9 cI g0 o0, cX8_10 cI g0 o0, cX8_12 cI g0 o0, cX8_13 cI g0 o0, cX8_15 cI g0 o0, cX8_17 cI g0 o0, cX8_18 cI g0 o0, cX8_22 cB g0 o0, cX8_27 cI g0 o0, cX8_28 cI g0 o0, cX8_29 cI g0 o0, cX8_30 cI g0 o0, cX8_31 cI g0 o0, cX8_32 cI g0 o0, cX8_33 cI g0 o0]) (some (.int r)) ([cX8 a0 g0 o0, cX8_0 cI g0 o0, cX8_1 cI g0 o0, cX8_3 cI g0 o0, cX8_4 cI g0 o0, cX8_6 cI g0 o0, cX8_8 cI g0 o0, cX8_9 cI g0 o0, cX8_10 cI g0 o0, cX8_12 cI g0 o0, cX8_13 cI g0 o0, cX8_15 cI g0 o0, cX8_17 cI g0 o0, cX8_18 cI g0 o0, cX8_22 cB g0 o0, cX8_27 cI g0 o0, cX8_28 cI g0 o0, cX8_29 cI g0 o0, cX8_30 cI g0 o0, cX8_31 cI g0 o0, cX8_32 cI g0 o0, cX8_33 cI g0 o0]) := by
  intro sz
  refine Met.ofW (cc := cX8_pairs) (maxL := 5) (ret := (some .int)) (by decide) rfl ?_
  intro p e s m args below meth c s₁ B hml hv
  obtain ⟨rfl, hsz, hP, hKK, hD0⟩ := hv
  have hx := B.exec
  have hb := B.bytes
  have hr := B.returns
  have hts := atoms_spec (ws := wsX8_pairs) B.pre
  have hown : s.vm.findClass RX8 = some m.cls := findClass_of_methodNamed B.named
  have hlocks := B.notSynchronized
  have hiX8 : ∀ w ∈ u_ws RX8 TX8 36, w ∈ wsX8_pairs := fun w h => List.mem_cons_of_mem _ (List.mem_append_right _ h)
  subst hsz
  have hD := hD0.self (sz := s.heap.size)
  generalize hAe : va_A ([cX8 a0 g0 o0, cX8_0 cI g0 o0, cX8_1 cI g0 o0, cX8_3 cI g0 o0, cX8_4 cI g0 o0, cX8_6 cI g0 o0, cX8_8 cI g0 o0, cX8_9 cI g0 o0, cX8_10 cI g0 o0, cX8_12 cI g0 o0, cX8_13 cI g0 o0, cX8_15 cI g0 o0, cX8_17 cI g0 o0, cX8_18 cI g0 o0, cX8_22 cB g0 o0, cX8_27 cI g0 o0, cX8_28 cI g0 o0, cX8_29 cI g0 o0, cX8_30 cI g0 o0, cX8_31 cI g0 o0, cX8_32 cI g0 o0, cX8_33 cI g0 o0]) s.heap.size = A at hD ⊢
  have hA : ∀ q : Nat, s.heap.size ≤ q → A q := fun q h => by rw [← hAe]; exact Or.inr h
  have hS : va_S A s.heap s.heap [] := va_S.rf
  have hP : va_P (dC, dI) vwCl ([cX8 a0 g0 o0, cX8_0 cI g0 o0, cX8_1 cI g0 o0, cX8_3 cI g0 o0, cX8_4 cI g0 o0, cX8_6 cI g0 o0, cX8_8 cI g0 o0, cX8_9 cI g0 o0, cX8_10 cI g0 o0, cX8_12 cI g0 o0, cX8_13 cI g0 o0, cX8_15 cI g0 o0, cX8_17 cI g0 o0, cX8_18 cI g0 o0, cX8_22 cB g0 o0, cX8_27 cI g0 o0, cX8_28 cI g0 o0, cX8_29 cI g0 o0, cX8_30 cI g0 o0, cX8_31 cI g0 o0, cX8_32 cI g0 o0, cX8_33 cI g0 o0]) s.heap := hP
  have hD : va_D A ([cX8 a0 g0 o0, cX8_0 cI g0 o0, cX8_1 cI g0 o0, cX8_3 cI g0 o0, cX8_4 cI g0 o0, cX8_6 cI g0 o0, cX8_8 cI g0 o0, cX8_9 cI g0 o0, cX8_10 cI g0 o0, cX8_12 cI g0 o0, cX8_13 cI g0 o0, cX8_15 cI g0 o0, cX8_17 cI g0 o0, cX8_18 cI g0 o0, cX8_22 cB g0 o0, cX8_27 cI g0 o0, cX8_28 cI g0 o0, cX8_29 cI g0 o0, cX8_30 cI g0 o0, cX8_31 cI g0 o0, cX8_32 cI g0 o0, cX8_33 cI g0 o0]) := hD
  have hl := lv_entry ([.ref a0, .int v1, .int v2]) (n := 5) (Nat.le_of_ble_eq_true rfl)
  rw [lg_entry_eq]
  generalize (lg_sl ([.ref a0, .int v1, .int v2]) ++ List.replicate (5 - (lg_sl ([.ref a0, .int v1, .int v2])).length) Slot.unset).toArray = ls at hl ⊢
  have hl : lv_has ls 5 [(0, .ref a0), (1, .int v1), (2, .int v2)] := hl
  obtain ⟨Q, hQ⟩ : ∃ Q, Q = MQ below (Qq dC dI (some (.int r)) ([cX8 a0 g0 o0, cX8_0 cI g0 o0, cX8_1 cI g0 o0, cX8_3 cI g0 o0, cX8_4 cI g0 o0, cX8_6 cI g0 o0, cX8_8 cI g0 o0, cX8_9 cI g0 o0, cX8_10 cI g0 o0, cX8_12 cI g0 o0, cX8_13 cI g0 o0, cX8_15 cI g0 o0, cX8_17 cI g0 o0, cX8_18 cI g0 o0, cX8_22 cB g0 o0, cX8_27 cI g0 o0, cX8_28 cI g0 o0, cX8_29 cI g0 o0, cX8_30 cI g0 o0, cX8_31 cI g0 o0, cX8_32 cI g0 o0, cX8_33 cI g0 o0]) A) ([.ref a0, .int v1, .int v2] : List Value).toArray s 0 0 A := ⟨_, rfl⟩
  rw [← hQ]
  rw [f_X8_pairs] at h
  clear hAe hD0
  refine lv_iconst (v := (0 : Int32)) hx hb dX8_pairs_0 (by decide) ?_
  refine lv_istore_n (lv' := [(3, .int (0 : Int32)), (0, .ref a0), (1, .int v1), (2, .int v2)]) hx hb dX8_pairs_1 rfl hl (by decide) rfl (fun ls hl => ?_)
  refine lv_iconst (v := (0 : Int32)) hx hb dX8_pairs_2 (by decide) ?_
  refine lv_istore (lv' := [(4, .int (0 : Int32)), (3, .int (0 : Int32)), (0, .ref a0), (1, .int v1), (2, .int v2)]) hx hb dX8_pairs_3 hl (by decide) rfl (fun ls hl => ?_)
  have lp5 : ∀ (nn5 : Nat) (x5_3 : Int32) (x5_4 : Int32), f_X8_pairs_5 o0 v1 v2 nn5 x5_3 x5_4 = some r → ∀ (H : Heap) (locs : List Loc) (ls : Array Slot), va_P (dC, dI) vwCl ([cX8 a0 g0 o0, cX8_0 cI g0 o0, cX8_1 cI g0 o0, cX8_3 cI g0 o0, cX8_4 cI g0 o0, cX8_6 cI g0 o0, cX8_8 cI g0 o0, cX8_9 cI g0 o0, cX8_10 cI g0 o0, cX8_12 cI g0 o0, cX8_13 cI g0 o0, cX8_15 cI g0 o0, cX8_17 cI g0 o0, cX8_18 cI g0 o0, cX8_22 cB g0 o0, cX8_27 cI g0 o0, cX8_28 cI g0 o0, cX8_29 cI g0 o0, cX8_30 cI g0 o0, cX8_31 cI g0 o0, cX8_32 cI g0 o0, cX8_33 cI g0 o0]) H → va_D A ([cX8 a0 g0 o0, cX8_0 cI g0 o0, cX8_1 cI g0 o0, cX8_3 cI g0 o0, cX8_4 cI g0 o0, cX8_6 cI g0 o0, cX8_8 cI g0 o0, cX8_9 cI g0 o0, cX8_10 cI g0 o0, cX8_12 cI g0 o0, cX8_13 cI g0 o0, cX8_15 cI g0 o0, cX8_17 cI g0 o0, cX8_18 cI g0 o0, cX8_22 cB g0 o0, cX8_27 cI g0 o0, cX8_28 cI g0 o0, cX8_29 cI g0 o0, cX8_30 cI g0 o0, cX8_31 cI g0 o0, cX8_32 cI g0 o0, cX8_33 cI g0 o0]) → va_S A s.heap H locs → lv_has ls 5 [(0, .ref a0), (1, .int v1), (2, .int v2), (3, .int x5_3), (4, .int x5_4)] → W p l e (headSpec wsX8_pairs rmX8_pairs).room s m ([.ref a0, .int v1, .int v2] : List Value).toArray below meth c H locs 0 0 Q (F0 m 5 ls []) := by
    intro nn5
    induction nn5 with
    | zero => intro x5_3 x5_4 h; rw [f_X8_pairs_5] at h; cases h
    | succ nn5 ih5 =>
      intro x5_3 x5_4 h H locs ls hP hD hS hl
      rw [f_X8_pairs_5] at h
      refine lv_iload hx hb dX8_pairs_5 (lv_at hl 4 rfl) ?_
      refine lv_aload_n hx hb dX8_pairs_7 rfl (lv_at hl 0 rfl) ?_
      refine va_get (D := (dC, dI)) (ci := 8) (v := .int (o0.1 2)) (C := RX8) (T := TX8) (N := 36) hx hb hts hiX8 hown hKK.1 hP 0 rfl rfl 2 (by decide) (hts (.fieldLink RX8 98 "SlideLandModel" "strips" "I") (List.mem_of_getElem? (i := 1) rfl)) (fun _ h9 => h9) rfl dX8_pairs_8 ?_
      refine lv_icmp_ge (tgt := 44) hx hb dX8_pairs_11 (by decide) (fun k1 => ?_) (fun k1 => ?_)
      · have h := ite_t k1 h
        refine lv_iload_n hx hb dX8_pairs_44 rfl (lv_at hl 3 rfl) ?_
        have h := Option.some.inj h
        subst h
        subst hQ
        exact W.iret (v := x5_3) hx hb hr (fun t ht hW => ⟨⟨rfl, by rw [ht]; exact hP, hD⟩, hS.F ht⟩) hS.2.2 dX8_pairs_45
      · have h := ite_f k1 h
        refine lv_iload_n hx hb dX8_pairs_14 rfl (lv_at hl 3 rfl) ?_
        refine lv_aload_n hx hb dX8_pairs_15 rfl (lv_at hl 0 rfl) ?_
        refine lv_iload hx hb dX8_pairs_16 (lv_at hl 4 rfl) ?_
        refine lv_iload_n hx hb dX8_pairs_18 rfl (lv_at hl 1 rfl) ?_
        refine lv_iload_n hx hb dX8_pairs_19 rfl (lv_at hl 2 rfl) ?_
        refine lv_aload_n hx hb dX8_pairs_20 rfl (lv_at hl 0 rfl) ?_
        refine lv_aload_n hx hb dX8_pairs_21 rfl (lv_at hl 0 rfl) ?_
        refine va_get (D := (dC, dI)) (ci := 8) (v := .ref (g0 18)) (C := RX8) (T := TX8) (N := 36) hx hb hts hiX8 hown hKK.1 hP 0 rfl rfl 18 (by decide) (hts (.fieldLink RX8 46 "SlideLandModel" "slot" "[I") (List.mem_of_getElem? (i := 2) rfl)) (fun _ h9 => h9) rfl dX8_pairs_22 ?_
        refine lv_iconst (v := (3 : Int32)) hx hb dX8_pairs_25 (by decide) ?_
        refine va_iald hx hb hKK.1 hP 13 1 rfl rfl (show ¬ ((3 : Int32) < 0 ∨ 312 ≤ (3 : Int32).toNatClampNeg) from by decide) dX8_pairs_26 ?_
        obtain ⟨q2, hq2, h⟩ := obd_e h
        refine kcV (rest := [.int v2, .int v1, .int x5_4, .ref a0, .int x5_3]) (w2 := ([cX8 a0 g0 o0, cX8_0 cI g0 o0, cX8_1 cI g0 o0, cX8_3 cI g0 o0, cX8_4 cI g0 o0, cX8_6 cI g0 o0, cX8_8 cI g0 o0, cX8_9 cI g0 o0, cX8_10 cI g0 o0, cX8_12 cI g0 o0, cX8_13 cI g0 o0, cX8_15 cI g0 o0, cX8_17 cI g0 o0, cX8_18 cI g0 o0, cX8_22 cB g0 o0, cX8_27 cI g0 o0, cX8_28 cI g0 o0, cX8_29 cI g0 o0, cX8_30 cI g0 o0, cX8_31 cI g0 o0, cX8_32 cI g0 o0, cX8_33 cI g0 o0])) hx hb hml hown hts hKK hP hD hS hA (c_X8_dampOf l dC dI cB cI cZ cO a0 g0 o0 ((o0.2 18) (3 : Int32).toNatClampNeg) hq2) [0, 1, 2, 3, 4, 5, 6, 7, 8, 9, 10, 11, 12, 13, 14, 15, 16, 17, 18, 19, 20, 21] (atAll_map ⟨rfl, rfl, rfl, rfl, rfl, rfl, rfl, rfl, rfl, rfl, rfl, rfl, rfl, rfl, rfl, rfl, rfl, rfl, rfl, rfl, rfl, rfl, trivial⟩) (by decide +kernel) (sameAd_map ⟨rfl, rfl, rfl, rfl, rfl, rfl, rfl, rfl, rfl, rfl, rfl, rfl, rfl, rfl, rfl, rfl, rfl, rfl, rfl, rfl, rfl, rfl, trivial⟩) (atAll_map ⟨rfl, rfl, rfl, rfl, rfl, rfl, rfl, rfl, rfl, rfl, rfl, rfl, rfl, rfl, rfl, rfl, rfl, rfl, rfl, rfl, rfl, rfl, trivial⟩) (agr_refl _ _ _) (cwV 1 hts gX8_pairs_X8_dampOf rfl rfl rfl ⟨rfl, dsc_X8_dampOf⟩ ⟨Nat.le_of_ble_eq_true rfl, Nat.le_of_ble_eq_true rfl⟩) (va_recv hKK.1 hP (ci := 8) (q0 := 0) rfl rfl) rfl hl.1 rfl (Nat.le_of_ble_eq_true rfl) dX8_pairs_27 ⟨Nat.zero_le _, Nat.zero_le _⟩ (fun H locs hP hD hS => ?_)
        obtain ⟨q3, hq3, h⟩ := obd_e h
        refine kcV (rest := [.int x5_3]) (w2 := ([cX8 a0 g0 o0, cX8_0 cI g0 o0, cX8_1 cI g0 o0, cX8_3 cI g0 o0, cX8_4 cI g0 o0, cX8_6 cI g0 o0, cX8_8 cI g0 o0, cX8_9 cI g0 o0, cX8_10 cI g0 o0, cX8_12 cI g0 o0, cX8_13 cI g0 o0, cX8_15 cI g0 o0, cX8_17 cI g0 o0, cX8_18 cI g0 o0, cX8_22 cB g0 o0, cX8_27 cI g0 o0, cX8_28 cI g0 o0, cX8_29 cI g0 o0, cX8_30 cI g0 o0, cX8_31 cI g0 o0, cX8_32 cI g0 o0, cX8_33 cI g0 o0])) hx hb hml hown hts hKK hP hD hS hA (c_X8_againstBy l dC dI cB cI cZ cO a0 g0 o0 x5_4 v1 v2 q2 hq3) [0, 1, 2, 3, 4, 5, 6, 7, 8, 9, 10, 11, 12, 13, 14, 15, 16, 17, 18, 19, 20, 21] (atAll_map ⟨rfl, rfl, rfl, rfl, rfl, rfl, rfl, rfl, rfl, rfl, rfl, rfl, rfl, rfl, rfl, rfl, rfl, rfl, rfl, rfl, rfl, rfl, trivial⟩) (by decide +kernel) (sameAd_map ⟨rfl, rfl, rfl, rfl, rfl, rfl, rfl, rfl, rfl, rfl, rfl, rfl, rfl, rfl, rfl, rfl, rfl, rfl, rfl, rfl, rfl, rfl, trivial⟩) (atAll_map ⟨rfl, rfl, rfl, rfl, rfl, rfl, rfl, rfl, rfl, rfl, rfl, rfl, rfl, rfl, rfl, rfl, rfl, rfl, rfl, rfl, rfl, rfl, trivial⟩) (agr_refl _ _ _) (cwV 4 hts gX8_pairs_X8_againstBy rfl rfl rfl ⟨rfl, dsc_X8_againstBy⟩ ⟨Nat.le_of_ble_eq_true rfl, Nat.le_of_ble_eq_true rfl⟩) (va_recv hKK.1 hP (ci := 8) (q0 := 0) rfl rfl) rfl hl.1 rfl (Nat.le_of_ble_eq_true rfl) dX8_pairs_30 ⟨Nat.zero_le _, Nat.zero_le _⟩ (fun H locs hP hD hS => ?_)
        obtain ⟨q4, hq4, h⟩ := obd_e h
        refine kcS (rest := [.int x5_3]) (w2 := ([cX8 a0 g0 o0, cX8_0 cI g0 o0, cX8_1 cI g0 o0, cX8_3 cI g0 o0, cX8_4 cI g0 o0, cX8_6 cI g0 o0, cX8_8 cI g0 o0, cX8_9 cI g0 o0, cX8_10 cI g0 o0, cX8_12 cI g0 o0, cX8_13 cI g0 o0, cX8_15 cI g0 o0, cX8_17 cI g0 o0, cX8_18 cI g0 o0, cX8_22 cB g0 o0, cX8_27 cI g0 o0, cX8_28 cI g0 o0, cX8_29 cI g0 o0, cX8_30 cI g0 o0, cX8_31 cI g0 o0, cX8_32 cI g0 o0, cX8_33 cI g0 o0])) hx hb hml hown hts hKK hP hD hS hA (c_X8_bits l dC dI cB cI cZ cO q3 hq4) [] (atAll_map trivial) (by decide +kernel) (sameAd_map trivial) (atAll_map trivial) (agr_refl _ _ _) (va_cwS 1 hts gX8_pairs_X8_bits rfl rfl rfl dsc_X8_bits ⟨Nat.le_of_ble_eq_true rfl, Nat.le_of_ble_eq_true rfl⟩) rfl hl.1 rfl (Nat.le_of_ble_eq_true rfl) dX8_pairs_33 ⟨Nat.zero_le _, Nat.zero_le _⟩ (fun H locs hP hD hS => ?_)
        refine lv_iadd hx hb dX8_pairs_36 ?_
        obtain ⟨x5, hx5, h⟩ := bnd_e h
        refine lv_topE hx5 ?_
        refine lv_istore_n (lv' := [(3, .int x5), (0, .ref a0), (1, .int v1), (2, .int v2), (4, .int x5_4)]) hx hb dX8_pairs_37 rfl hl (by decide) rfl (fun ls hl => ?_)
        obtain ⟨x6, hx6, h⟩ := bnd_e h
        refine lv_iinc (v := x6) (lv' := [(4, .int x6), (3, .int x5), (0, .ref a0), (1, .int v1), (2, .int v2)]) hx hb dX8_pairs_38 hl (k := 4) rfl (by rw [← hx6]; rfl) (by decide) rfl (fun ls hl => ?_)
        refine lv_goto (tgt := 5) hx hb dX8_pairs_41 (by decide) ?_
        exact ih5 x5 x6 h _ _ _ hP hD hS (lv_sub hl [2, 3, 4, 1, 0] rfl)
  exact lp5 FU (0 : Int32) (0 : Int32) h _ _ _ hP hD hS (lv_sub hl [2, 3, 4, 1, 0] rfl)
def f_X8_most_44 (x18_3 : Int32) (kL18 : (Int32 → Int32 → Option (Int32))) (y44_0 : Int32) : Option (Int32) := bnd (x18_3 + (1 : Int32)) fun x8 : Int32 => kL18 y44_0 x8
def f_X8_most_18 (o0 : Ob) (v1 : Int32) : Nat → Int32 → Int32 → Option (Int32)
  | 0, _, _ => none
  | nn18+1, x18_2, x18_3 => if (40 : Int32) < x18_3 then (if v1 = 0 then ((f_X8_pairs o0 x18_2 x18_2).bind fun q5 : Int32 => some q5) else (some (x18_2 + (40 : Int32)))) else ((f_X8_pairs o0 x18_3 x18_3).bind fun q6 : Int32 => (f_X8_pairs o0 x18_2 x18_2).bind fun q7 : Int32 => if q6 ≤ q7 then (f_X8_most_44 x18_3 (f_X8_most_18 o0 v1 nn18) x18_2) else (f_X8_most_44 x18_3 (f_X8_most_18 o0 v1 nn18) x18_3))
def f_X8_most (o0 : Ob) (v1 : Int32) : Option (Int32) := bnd (f_X8_in (v1.toInt64) (0 : Int64) (1 : Int64)) fun q1 : Bool => if (b2i q1) = 0 then (some (-1 : Int32)) else (f_X8_most_18 o0 v1 FU (-40 : Int32) (-39 : Int32))
abbrev rmX8_most : Room := { frames := 4, cells := 0, slots := 0, locals := 100 }
theorem dsc_X8_most : yX8_most.cls ≠ "java/lang/invoke/MethodHandle" ∧ yX8_most.cls ≠ "java/lang/invoke/VarHandle" ∧ (parseMethodDescriptor yX8_most.desc).map (fun d => d.parameters.length) = some 1 := by decide +kernel
set_option maxHeartbeats 4000000 in
set_option maxRecDepth 100000 in
theorem c_X8_most (l : Launch) (dC : Nat → ClassId) (dI : Nat → Nat → Nat) (cB cI cZ cO : ClassId) (a0 : Nat) (g0 : Nat → Nat) (o0 : Ob) (v1 : Int32) {r : Int32} (h : f_X8_most o0 v1 = some r) : Ct dC dI cB cI cZ cO l yX8_most wsX8_most rmX8_most [.ref a0, .int v1] ([cX8 a0 g0 o0, cX8_0 cI g0 o0, cX8_1 cI g0 o0, cX8_3 cI g0 o0, cX8_4 cI g0 o0, cX8_6 cI g0 o0, cX8_8 cI g0 o0, cX8_9 cI g0 o0, cX8_10 cI g0 o0, cX8_12 cI g0 o0, cX8_13 cI g0 o0, cX8_15 cI g0 o0, cX8_17 cI g0 o0, cX8_18 cI g0 o0, cX8_22 cB g0 o0, cX8_27 cI g0 o0, cX8_28 cI g0 o0, cX8_29 cI g0 o0, cX8_30 cI g0 o0, cX8_31 cI g0 o0, cX8_32 cI g0 o0, cX8_33 cI g0 o0]) (some (.int r)) ([cX8 a0 g0 o0, cX8_0 cI g0 o0, cX8_1 cI g0 o0, cX8_3 cI g0 o0, cX8_4 cI g0 o0, cX8_6 cI g0 o0, cX8_8 cI g0 o0, cX8_9 cI g0 o0, cX8_10 cI g0 o0, cX8_12 cI g0 o0, cX8_13 cI g0 o0, cX8_15 cI g0 o0, cX8_17 cI g0 o0, cX8_18 cI g0 o0, cX8_22 cB g0 o0, cX8_27 cI g0 o0, cX8_28 cI g0 o0, cX8_29 cI g0 o0, cX8_30 cI g0 o0, cX8_31 cI g0 o0, cX8_32 cI g0 o0, cX8_33 cI g0 o0]) := by
  intro sz
  refine Met.ofW (cc := cX8_most) (maxL := 4) (ret := (some .int)) (by decide) rfl ?_
  intro p e s m args below meth c s₁ B hml hv
  obtain ⟨rfl, hsz, hP, hKK, hD0⟩ := hv
  have hx := B.exec
  have hb := B.bytes
  have hr := B.returns
  have hts := atoms_spec (ws := wsX8_most) B.pre
  have hown : s.vm.findClass RX8 = some m.cls := findClass_of_methodNamed B.named
  have hlocks := B.notSynchronized
  subst hsz
  have hD := hD0.self (sz := s.heap.size)
  generalize hAe : va_A ([cX8 a0 g0 o0, cX8_0 cI g0 o0, cX8_1 cI g0 o0, cX8_3 cI g0 o0, cX8_4 cI g0 o0, cX8_6 cI g0 o0, cX8_8 cI g0 o0, cX8_9 cI g0 o0, cX8_10 cI g0 o0, cX8_12 cI g0 o0, cX8_13 cI g0 o0, cX8_15 cI g0 o0, cX8_17 cI g0 o0, cX8_18 cI g0 o0, cX8_22 cB g0 o0, cX8_27 cI g0 o0, cX8_28 cI g0 o0, cX8_29 cI g0 o0, cX8_30 cI g0 o0, cX8_31 cI g0 o0, cX8_32 cI g0 o0, cX8_33 cI g0 o0]) s.heap.size = A at hD ⊢
  have hA : ∀ q : Nat, s.heap.size ≤ q → A q := fun q h => by rw [← hAe]; exact Or.inr h
  have hS : va_S A s.heap s.heap [] := va_S.rf
  have hP : va_P (dC, dI) vwCl ([cX8 a0 g0 o0, cX8_0 cI g0 o0, cX8_1 cI g0 o0, cX8_3 cI g0 o0, cX8_4 cI g0 o0, cX8_6 cI g0 o0, cX8_8 cI g0 o0, cX8_9 cI g0 o0, cX8_10 cI g0 o0, cX8_12 cI g0 o0, cX8_13 cI g0 o0, cX8_15 cI g0 o0, cX8_17 cI g0 o0, cX8_18 cI g0 o0, cX8_22 cB g0 o0, cX8_27 cI g0 o0, cX8_28 cI g0 o0, cX8_29 cI g0 o0, cX8_30 cI g0 o0, cX8_31 cI g0 o0, cX8_32 cI g0 o0, cX8_33 cI g0 o0]) s.heap := hP
  have hD : va_D A ([cX8 a0 g0 o0, cX8_0 cI g0 o0, cX8_1 cI g0 o0, cX8_3 cI g0 o0, cX8_4 cI g0 o0, cX8_6 cI g0 o0, cX8_8 cI g0 o0, cX8_9 cI g0 o0, cX8_10 cI g0 o0, cX8_12 cI g0 o0, cX8_13 cI g0 o0, cX8_15 cI g0 o0, cX8_17 cI g0 o0, cX8_18 cI g0 o0, cX8_22 cB g0 o0, cX8_27 cI g0 o0, cX8_28 cI g0 o0, cX8_29 cI g0 o0, cX8_30 cI g0 o0, cX8_31 cI g0 o0, cX8_32 cI g0 o0, cX8_33 cI g0 o0]) := hD
  have hl := lv_entry ([.ref a0, .int v1]) (n := 4) (Nat.le_of_ble_eq_true rfl)
  rw [lg_entry_eq]
  generalize (lg_sl ([.ref a0, .int v1]) ++ List.replicate (4 - (lg_sl ([.ref a0, .int v1])).length) Slot.unset).toArray = ls at hl ⊢
  have hl : lv_has ls 4 [(0, .ref a0), (1, .int v1)] := hl
  obtain ⟨Q, hQ⟩ : ∃ Q, Q = MQ below (Qq dC dI (some (.int r)) ([cX8 a0 g0 o0, cX8_0 cI g0 o0, cX8_1 cI g0 o0, cX8_3 cI g0 o0, cX8_4 cI g0 o0, cX8_6 cI g0 o0, cX8_8 cI g0 o0, cX8_9 cI g0 o0, cX8_10 cI g0 o0, cX8_12 cI g0 o0, cX8_13 cI g0 o0, cX8_15 cI g0 o0, cX8_17 cI g0 o0, cX8_18 cI g0 o0, cX8_22 cB g0 o0, cX8_27 cI g0 o0, cX8_28 cI g0 o0, cX8_29 cI g0 o0, cX8_30 cI g0 o0, cX8_31 cI g0 o0, cX8_32 cI g0 o0, cX8_33 cI g0 o0]) A) ([.ref a0, .int v1] : List Value).toArray s 0 0 A := ⟨_, rfl⟩
  rw [← hQ]
  rw [f_X8_most] at h
  clear hAe hD0
  refine lv_iload_n hx hb dX8_most_0 rfl (lv_at hl 1 rfl) ?_
  refine lv_i2l hx hb dX8_most_1 rfl ?_
  refine lv_lconst (v := 0) hx hb dX8_most_2 (by decide) ?_
  refine lv_lconst (v := 1) hx hb dX8_most_3 (by decide) ?_
  obtain ⟨q1, hq1, h⟩ := bnd_e h
  refine kcS (rest := []) (w2 := ([cX8 a0 g0 o0, cX8_0 cI g0 o0, cX8_1 cI g0 o0, cX8_3 cI g0 o0, cX8_4 cI g0 o0, cX8_6 cI g0 o0, cX8_8 cI g0 o0, cX8_9 cI g0 o0, cX8_10 cI g0 o0, cX8_12 cI g0 o0, cX8_13 cI g0 o0, cX8_15 cI g0 o0, cX8_17 cI g0 o0, cX8_18 cI g0 o0, cX8_22 cB g0 o0, cX8_27 cI g0 o0, cX8_28 cI g0 o0, cX8_29 cI g0 o0, cX8_30 cI g0 o0, cX8_31 cI g0 o0, cX8_32 cI g0 o0, cX8_33 cI g0 o0])) hx hb hml hown hts hKK hP hD hS hA (c_X8_in l dC dI cB cI cZ cO (v1.toInt64) (0 : Int64) (1 : Int64) hq1) [] (atAll_map trivial) (by decide +kernel) (sameAd_map trivial) (atAll_map trivial) (agr_refl _ _ _) (va_cwS 3 hts gX8_most_X8_in rfl rfl rfl dsc_X8_in ⟨Nat.le_of_ble_eq_true rfl, Nat.le_of_ble_eq_true rfl⟩) rfl hl.1 rfl (Nat.le_of_ble_eq_true rfl) dX8_most_4 ⟨Nat.zero_le _, Nat.zero_le _⟩ (fun H locs hP hD hS => ?_)
  refine lv_if_ne (tgt := 12) hx hb dX8_most_7 (by decide) (fun k2 => ?_) (fun k2 => ?_)
  · have h := ite_f k2 h
    refine lv_bipush (v := (-40 : Int32)) hx hb dX8_most_12 (by decide) ?_
    refine lv_istore_n (lv' := [(2, .int (-40 : Int32)), (0, .ref a0), (1, .int v1)]) hx hb dX8_most_14 rfl hl (by decide) rfl (fun ls hl => ?_)
    refine lv_bipush (v := (-39 : Int32)) hx hb dX8_most_15 (by decide) ?_
    refine lv_istore_n (lv' := [(3, .int (-39 : Int32)), (2, .int (-40 : Int32)), (0, .ref a0), (1, .int v1)]) hx hb dX8_most_17 rfl hl (by decide) rfl (fun ls hl => ?_)
    have lp18 : ∀ (nn18 : Nat) (x18_2 : Int32) (x18_3 : Int32), f_X8_most_18 o0 v1 nn18 x18_2 x18_3 = some r → ∀ (H : Heap) (locs : List Loc) (ls : Array Slot), va_P (dC, dI) vwCl ([cX8 a0 g0 o0, cX8_0 cI g0 o0, cX8_1 cI g0 o0, cX8_3 cI g0 o0, cX8_4 cI g0 o0, cX8_6 cI g0 o0, cX8_8 cI g0 o0, cX8_9 cI g0 o0, cX8_10 cI g0 o0, cX8_12 cI g0 o0, cX8_13 cI g0 o0, cX8_15 cI g0 o0, cX8_17 cI g0 o0, cX8_18 cI g0 o0, cX8_22 cB g0 o0, cX8_27 cI g0 o0, cX8_28 cI g0 o0, cX8_29 cI g0 o0, cX8_30 cI g0 o0, cX8_31 cI g0 o0, cX8_32 cI g0 o0, cX8_33 cI g0 o0]) H → va_D A ([cX8 a0 g0 o0, cX8_0 cI g0 o0, cX8_1 cI g0 o0, cX8_3 cI g0 o0, cX8_4 cI g0 o0, cX8_6 cI g0 o0, cX8_8 cI g0 o0, cX8_9 cI g0 o0, cX8_10 cI g0 o0, cX8_12 cI g0 o0, cX8_13 cI g0 o0, cX8_15 cI g0 o0, cX8_17 cI g0 o0, cX8_18 cI g0 o0, cX8_22 cB g0 o0, cX8_27 cI g0 o0, cX8_28 cI g0 o0, cX8_29 cI g0 o0, cX8_30 cI g0 o0, cX8_31 cI g0 o0, cX8_32 cI g0 o0, cX8_33 cI g0 o0]) → va_S A s.heap H locs → lv_has ls 4 [(0, .ref a0), (1, .int v1), (2, .int x18_2), (3, .int x18_3)] → W p l e (headSpec wsX8_most rmX8_most).room s m ([.ref a0, .int v1] : List Value).toArray below meth c H locs 0 0 Q (F0 m 18 ls []) := by
      intro nn18
      induction nn18 with
      | zero => intro x18_2 x18_3 h; rw [f_X8_most_18] at h; cases h
      | succ nn18 ih18 =>
        intro x18_2 x18_3 h H locs ls hP hD hS hl
        rw [f_X8_most_18] at h
        refine lv_iload_n hx hb dX8_most_18 rfl (lv_at hl 3 rfl) ?_
        refine lv_bipush (v := (40 : Int32)) hx hb dX8_most_19 (by decide) ?_
        refine lv_icmp_gt (tgt := 51) hx hb dX8_most_21 (by decide) (fun k3 => ?_) (fun k3 => ?_)
        · have h := ite_t k3 h
          refine lv_iload_n hx hb dX8_most_51 rfl (lv_at hl 1 rfl) ?_
          refine lv_if_ne (tgt := 64) hx hb dX8_most_52 (by decide) (fun k4 => ?_) (fun k4 => ?_)
          · have h := ite_f k4 h
            refine lv_iload_n hx hb dX8_most_64 rfl (lv_at hl 2 rfl) ?_
            refine lv_bipush (v := (40 : Int32)) hx hb dX8_most_65 (by decide) ?_
            refine lv_iadd hx hb dX8_most_67 ?_
            have h := Option.some.inj h
            subst h
            subst hQ
            exact W.iret (v := (x18_2 + (40 : Int32))) hx hb hr (fun t ht hW => ⟨⟨rfl, by rw [ht]; exact hP, hD⟩, hS.F ht⟩) hS.2.2 dX8_most_68
          · have h := ite_t k4 h
            refine lv_aload_n hx hb dX8_most_55 rfl (lv_at hl 0 rfl) ?_
            refine lv_iload_n hx hb dX8_most_56 rfl (lv_at hl 2 rfl) ?_
            refine lv_iload_n hx hb dX8_most_57 rfl (lv_at hl 2 rfl) ?_
            obtain ⟨q5, hq5, h⟩ := obd_e h
            refine kcV (rest := []) (w2 := ([cX8 a0 g0 o0, cX8_0 cI g0 o0, cX8_1 cI g0 o0, cX8_3 cI g0 o0, cX8_4 cI g0 o0, cX8_6 cI g0 o0, cX8_8 cI g0 o0, cX8_9 cI g0 o0, cX8_10 cI g0 o0, cX8_12 cI g0 o0, cX8_13 cI g0 o0, cX8_15 cI g0 o0, cX8_17 cI g0 o0, cX8_18 cI g0 o0, cX8_22 cB g0 o0, cX8_27 cI g0 o0, cX8_28 cI g0 o0, cX8_29 cI g0 o0, cX8_30 cI g0 o0, cX8_31 cI g0 o0, cX8_32 cI g0 o0, cX8_33 cI g0 o0])) hx hb hml hown hts hKK hP hD hS hA (c_X8_pairs l dC dI cB cI cZ cO a0 g0 o0 x18_2 x18_2 hq5) [0, 1, 2, 3, 4, 5, 6, 7, 8, 9, 10, 11, 12, 13, 14, 15, 16, 17, 18, 19, 20, 21] (atAll_map ⟨rfl, rfl, rfl, rfl, rfl, rfl, rfl, rfl, rfl, rfl, rfl, rfl, rfl, rfl, rfl, rfl, rfl, rfl, rfl, rfl, rfl, rfl, trivial⟩) (by decide +kernel) (sameAd_map ⟨rfl, rfl, rfl, rfl, rfl, rfl, rfl, rfl, rfl, rfl, rfl, rfl, rfl, rfl, rfl, rfl, rfl, rfl, rfl, rfl, rfl, rfl, trivial⟩) (atAll_map ⟨rfl, rfl, rfl, rfl, rfl, rfl, rfl, rfl, rfl, rfl, rfl, rfl, rfl, rfl, rfl, rfl, rfl, rfl, rfl, rfl, rfl, rfl, trivial⟩) (agr_refl _ _ _) (cwV 2 hts gX8_most_X8_pairs rfl rfl rfl ⟨rfl, dsc_X8_pairs⟩ ⟨Nat.le_of_ble_eq_true rfl, Nat.le_of_ble_eq_true rfl⟩) (va_recv hKK.1 hP (ci := 8) (q0 := 0) rfl rfl) rfl hl.1 rfl (Nat.le_of_ble_eq_true rfl) dX8_most_58 ⟨Nat.zero_le _, Nat.zero_le _⟩ (fun H locs hP hD hS => ?_)
            refine lv_goto (tgt := 68) hx hb dX8_most_61 (by decide) ?_
            have h := Option.some.inj h
            subst h
            subst hQ
            exact W.iret (v := q5) hx hb hr (fun t ht hW => ⟨⟨rfl, by rw [ht]; exact hP, hD⟩, hS.F ht⟩) hS.2.2 dX8_most_68
        · have h := ite_f k3 h
          refine lv_aload_n hx hb dX8_most_24 rfl (lv_at hl 0 rfl) ?_
          refine lv_iload_n hx hb dX8_most_25 rfl (lv_at hl 3 rfl) ?_
          refine lv_iload_n hx hb dX8_most_26 rfl (lv_at hl 3 rfl) ?_
          obtain ⟨q6, hq6, h⟩ := obd_e h
          refine kcV (rest := []) (w2 := ([cX8 a0 g0 o0, cX8_0 cI g0 o0, cX8_1 cI g0 o0, cX8_3 cI g0 o0, cX8_4 cI g0 o0, cX8_6 cI g0 o0, cX8_8 cI g0 o0, cX8_9 cI g0 o0, cX8_10 cI g0 o0, cX8_12 cI g0 o0, cX8_13 cI g0 o0, cX8_15 cI g0 o0, cX8_17 cI g0 o0, cX8_18 cI g0 o0, cX8_22 cB g0 o0, cX8_27 cI g0 o0, cX8_28 cI g0 o0, cX8_29 cI g0 o0, cX8_30 cI g0 o0, cX8_31 cI g0 o0, cX8_32 cI g0 o0, cX8_33 cI g0 o0])) hx hb hml hown hts hKK hP hD hS hA (c_X8_pairs l dC dI cB cI cZ cO a0 g0 o0 x18_3 x18_3 hq6) [0, 1, 2, 3, 4, 5, 6, 7, 8, 9, 10, 11, 12, 13, 14, 15, 16, 17, 18, 19, 20, 21] (atAll_map ⟨rfl, rfl, rfl, rfl, rfl, rfl, rfl, rfl, rfl, rfl, rfl, rfl, rfl, rfl, rfl, rfl, rfl, rfl, rfl, rfl, rfl, rfl, trivial⟩) (by decide +kernel) (sameAd_map ⟨rfl, rfl, rfl, rfl, rfl, rfl, rfl, rfl, rfl, rfl, rfl, rfl, rfl, rfl, rfl, rfl, rfl, rfl, rfl, rfl, rfl, rfl, trivial⟩) (atAll_map ⟨rfl, rfl, rfl, rfl, rfl, rfl, rfl, rfl, rfl, rfl, rfl, rfl, rfl, rfl, rfl, rfl, rfl, rfl, rfl, rfl, rfl, rfl, trivial⟩) (agr_refl _ _ _) (cwV 2 hts gX8_most_X8_pairs rfl rfl rfl ⟨rfl, dsc_X8_pairs⟩ ⟨Nat.le_of_ble_eq_true rfl, Nat.le_of_ble_eq_true rfl⟩) (va_recv hKK.1 hP (ci := 8) (q0 := 0) rfl rfl) rfl hl.1 rfl (Nat.le_of_ble_eq_true rfl) dX8_most_27 ⟨Nat.zero_le _, Nat.zero_le _⟩ (fun H locs hP hD hS => ?_)
          refine lv_aload_n hx hb dX8_most_30 rfl (lv_at hl 0 rfl) ?_
          refine lv_iload_n hx hb dX8_most_31 rfl (lv_at hl 2 rfl) ?_
          refine lv_iload_n hx hb dX8_most_32 rfl (lv_at hl 2 rfl) ?_
          obtain ⟨q7, hq7, h⟩ := obd_e h
          refine kcV (rest := [.int q6]) (w2 := ([cX8 a0 g0 o0, cX8_0 cI g0 o0, cX8_1 cI g0 o0, cX8_3 cI g0 o0, cX8_4 cI g0 o0, cX8_6 cI g0 o0, cX8_8 cI g0 o0, cX8_9 cI g0 o0, cX8_10 cI g0 o0, cX8_12 cI g0 o0, cX8_13 cI g0 o0, cX8_15 cI g0 o0, cX8_17 cI g0 o0, cX8_18 cI g0 o0, cX8_22 cB g0 o0, cX8_27 cI g0 o0, cX8_28 cI g0 o0, cX8_29 cI g0 o0, cX8_30 cI g0 o0, cX8_31 cI g0 o0, cX8_32 cI g0 o0, cX8_33 cI g0 o0])) hx hb hml hown hts hKK hP hD hS hA (c_X8_pairs l dC dI cB cI cZ cO a0 g0 o0 x18_2 x18_2 hq7) [0, 1, 2, 3, 4, 5, 6, 7, 8, 9, 10, 11, 12, 13, 14, 15, 16, 17, 18, 19, 20, 21] (atAll_map ⟨rfl, rfl, rfl, rfl, rfl, rfl, rfl, rfl, rfl, rfl, rfl, rfl, rfl, rfl, rfl, rfl, rfl, rfl, rfl, rfl, rfl, rfl, trivial⟩) (by decide +kernel) (sameAd_map ⟨rfl, rfl, rfl, rfl, rfl, rfl, rfl, rfl, rfl, rfl, rfl, rfl, rfl, rfl, rfl, rfl, rfl, rfl, rfl, rfl, rfl, rfl, trivial⟩) (atAll_map ⟨rfl, rfl, rfl, rfl, rfl, rfl, rfl, rfl, rfl, rfl, rfl, rfl, rfl, rfl, rfl, rfl, rfl, rfl, rfl, rfl, rfl, rfl, trivial⟩) (agr_refl _ _ _) (cwV 2 hts gX8_most_X8_pairs rfl rfl rfl ⟨rfl, dsc_X8_pairs⟩ ⟨Nat.le_of_ble_eq_true rfl, Nat.le_of_ble_eq_true rfl⟩) (va_recv hKK.1 hP (ci := 8) (q0 := 0) rfl rfl) rfl hl.1 rfl (Nat.le_of_ble_eq_true rfl) dX8_most_33 ⟨Nat.zero_le _, Nat.zero_le _⟩ (fun H locs hP hD hS => ?_)
          have jn44 : ∀ (y44_0 : Int32), f_X8_most_44 x18_3 (f_X8_most_18 o0 v1 nn18) y44_0 = some r → ∀ (H : Heap) (locs : List Loc) (ls : Array Slot), va_P (dC, dI) vwCl ([cX8 a0 g0 o0, cX8_0 cI g0 o0, cX8_1 cI g0 o0, cX8_3 cI g0 o0, cX8_4 cI g0 o0, cX8_6 cI g0 o0, cX8_8 cI g0 o0, cX8_9 cI g0 o0, cX8_10 cI g0 o0, cX8_12 cI g0 o0, cX8_13 cI g0 o0, cX8_15 cI g0 o0, cX8_17 cI g0 o0, cX8_18 cI g0 o0, cX8_22 cB g0 o0, cX8_27 cI g0 o0, cX8_28 cI g0 o0, cX8_29 cI g0 o0, cX8_30 cI g0 o0, cX8_31 cI g0 o0, cX8_32 cI g0 o0, cX8_33 cI g0 o0]) H → va_D A ([cX8 a0 g0 o0, cX8_0 cI g0 o0, cX8_1 cI g0 o0, cX8_3 cI g0 o0, cX8_4 cI g0 o0, cX8_6 cI g0 o0, cX8_8 cI g0 o0, cX8_9 cI g0 o0, cX8_10 cI g0 o0, cX8_12 cI g0 o0, cX8_13 cI g0 o0, cX8_15 cI g0 o0, cX8_17 cI g0 o0, cX8_18 cI g0 o0, cX8_22 cB g0 o0, cX8_27 cI g0 o0, cX8_28 cI g0 o0, cX8_29 cI g0 o0, cX8_30 cI g0 o0, cX8_31 cI g0 o0, cX8_32 cI g0 o0, cX8_33 cI g0 o0]) → va_S A s.heap H locs → lv_has ls 4 [(0, .ref a0), (1, .int v1), (3, .int x18_3)] → W p l e (headSpec wsX8_most rmX8_most).room s m ([.ref a0, .int v1] : List Value).toArray below meth c H locs 0 0 Q (F0 m 44 ls [.int y44_0]) := by
            intro y44_0 h H locs ls hP hD hS hl
            rw [f_X8_most_44] at h
            refine lv_istore_n (lv' := [(2, .int y44_0), (0, .ref a0), (1, .int v1), (3, .int x18_3)]) hx hb dX8_most_44 rfl hl (by decide) rfl (fun ls hl => ?_)
            obtain ⟨x8, hx8, h⟩ := bnd_e h
            refine lv_iinc (v := x8) (lv' := [(3, .int x8), (2, .int y44_0), (0, .ref a0), (1, .int v1)]) hx hb dX8_most_45 hl (k := 3) rfl (by rw [← hx8]; rfl) (by decide) rfl (fun ls hl => ?_)
            refine lv_goto (tgt := 18) hx hb dX8_most_48 (by decide) ?_
            exact ih18 y44_0 x8 h _ _ _ hP hD hS (lv_sub hl [2, 3, 1, 0] rfl)
          refine lv_icmp_le (tgt := 43) hx hb dX8_most_36 (by decide) (fun k9 => ?_) (fun k9 => ?_)
          · have h := ite_t k9 h
            refine lv_iload_n hx hb dX8_most_43 rfl (lv_at hl 2 rfl) ?_
            exact jn44 x18_2 h _ _ _ hP hD hS (lv_sub hl [0, 1, 3] rfl)
          · have h := ite_f k9 h
            refine lv_iload_n hx hb dX8_most_39 rfl (lv_at hl 3 rfl) ?_
            refine lv_goto (tgt := 44) hx hb dX8_most_40 (by decide) ?_
            exact jn44 x18_3 h _ _ _ hP hD hS (lv_sub hl [0, 1, 3] rfl)
    exact lp18 FU (-40 : Int32) (-39 : Int32) h _ _ _ hP hD hS (lv_sub hl [2, 3, 1, 0] rfl)
  · have h := ite_t k2 h
    refine lv_iconst (v := (-1 : Int32)) hx hb dX8_most_10 (by decide) ?_
    have h := Option.some.inj h
    subst h
    subst hQ
    exact W.iret (v := (-1 : Int32)) hx hb hr (fun t ht hW => ⟨⟨rfl, by rw [ht]; exact hP, hD⟩, hS.F ht⟩) hS.2.2 dX8_most_11
def f_X8_meetsAll_74 (x14_2 : Int32) (x14_4 : Int32) (kL14 : (Int32 → Int32 → Option (Int32))) (y74_1 : Bool) : Option (Int32) := bnd (x14_2 + (b2i y74_1)) fun x5 : Int32 => bnd (x14_4 + (1 : Int32)) fun x6 : Int32 => kL14 x5 x6
def f_X8_meetsAll_73 (x14_2 : Int32) (x14_4 : Int32) (kL14 : (Int32 → Int32 → Option (Int32))) : Option (Int32) := f_X8_meetsAll_74 x14_2 x14_4 kL14 false
def f_X8_meetsAll_14 (o0 : Ob) (v1 : Int32) (x5_3 : Int32) (kL5 : (Int32 → Int32 → Option (Int32))) : Nat → Int32 → Int32 → Option (Int32)
  | 0, _, _ => none
  | nn14+1, x14_2, x14_4 => if (12 : Int32) ≤ x14_4 then (bnd (x5_3 + (1 : Int32)) fun x3 : Int32 => kL5 x14_2 x3) else (if (x14_4 / (6 : Int32)) < 0 ∨ 2 ≤ (x14_4 / (6 : Int32)).toNatClampNeg then none else if ((o0.2 0) (x14_4 / (6 : Int32)).toNatClampNeg) ≤ (x14_4 - x14_4 / (6 : Int32) * (6 : Int32)) then (f_X8_meetsAll_73 x14_2 x14_4 (f_X8_meetsAll_14 o0 v1 x5_3 kL5 nn14)) else ((f_X8_dampOf o0 ((o0.2 18) (3 : Int32).toNatClampNeg)).bind fun q8 : Int32 => if x14_4 < 0 ∨ 12 ≤ x14_4.toNatClampNeg then none else if ((v1 + ((v1 * q8) / (10 : Int32))) + x5_3) = ((o0.2 1) x14_4.toNatClampNeg) then (f_X8_meetsAll_74 x14_2 x14_4 (f_X8_meetsAll_14 o0 v1 x5_3 kL5 nn14) true) else (f_X8_meetsAll_73 x14_2 x14_4 (f_X8_meetsAll_14 o0 v1 x5_3 kL5 nn14))))
def f_X8_meetsAll_5 (o0 : Ob) (v1 : Int32) : Nat → Int32 → Int32 → Option (Int32)
  | 0, _, _ => none
  | nn5+1, x5_2, x5_3 => if (40 : Int32) < x5_3 then (some x5_2) else (f_X8_meetsAll_14 o0 v1 x5_3 (f_X8_meetsAll_5 o0 v1 nn5) FU x5_2 (0 : Int32))
def f_X8_meetsAll (o0 : Ob) (v1 : Int32) : Option (Int32) := f_X8_meetsAll_5 o0 v1 FU (0 : Int32) (-40 : Int32)
abbrev rmX8_meetsAll : Room := { frames := 1, cells := 0, slots := 0, locals := 21 }
theorem dsc_X8_meetsAll : yX8_meetsAll.cls ≠ "java/lang/invoke/MethodHandle" ∧ yX8_meetsAll.cls ≠ "java/lang/invoke/VarHandle" ∧ (parseMethodDescriptor yX8_meetsAll.desc).map (fun d => d.parameters.length) = some 1 := by decide +kernel
set_option maxHeartbeats 4000000 in
set_option maxRecDepth 100000 in
theorem c_X8_meetsAll (l : Launch) (dC : Nat → ClassId) (dI : Nat → Nat → Nat) (cB cI cZ cO : ClassId) (a0 : Nat) (g0 : Nat → Nat) (o0 : Ob) (v1 : Int32) {r : Int32} (h : f_X8_meetsAll o0 v1 = some r) : Ct dC dI cB cI cZ cO l yX8_meetsAll wsX8_meetsAll rmX8_meetsAll [.ref a0, .int v1] ([cX8 a0 g0 o0, cX8_0 cI g0 o0, cX8_1 cI g0 o0, cX8_3 cI g0 o0, cX8_4 cI g0 o0, cX8_6 cI g0 o0, cX8_8 cI g0 o0, cX8_9 cI g0 o0, cX8_10 cI g0 o0, cX8_12 cI g0 o0, cX8_13 cI g0 o0, cX8_15 cI g0 o0, cX8_17 cI g0 o0, cX8_18 cI g0 o0, cX8_22 cB g0 o0, cX8_27 cI g0 o0, cX8_28 cI g0 o0, cX8_29 cI g0 o0, cX8_30 cI g0 o0, cX8_31 cI g0 o0, cX8_32 cI g0 o0, cX8_33 cI g0 o0]) (some (.int r)) ([cX8 a0 g0 o0, cX8_0 cI g0 o0, cX8_1 cI g0 o0, cX8_3 cI g0 o0, cX8_4 cI g0 o0, cX8_6 cI g0 o0, cX8_8 cI g0 o0, cX8_9 cI g0 o0, cX8_10 cI g0 o0, cX8_12 cI g0 o0, cX8_13 cI g0 o0, cX8_15 cI g0 o0, cX8_17 cI g0 o0, cX8_18 cI g0 o0, cX8_22 cB g0 o0, cX8_27 cI g0 o0, cX8_28 cI g0 o0, cX8_29 cI g0 o0, cX8_30 cI g0 o0, cX8_31 cI g0 o0, cX8_32 cI g0 o0, cX8_33 cI g0 o0]) := by
  intro sz
  refine Met.ofW (cc := cX8_meetsAll) (maxL := 5) (ret := (some .int)) (by decide) rfl ?_
  intro p e s m args below meth c s₁ B hml hv
  obtain ⟨rfl, hsz, hP, hKK, hD0⟩ := hv
  have hx := B.exec
  have hb := B.bytes
  have hr := B.returns
  have hts := atoms_spec (ws := wsX8_meetsAll) B.pre
  have hown : s.vm.findClass RX8 = some m.cls := findClass_of_methodNamed B.named
  have hlocks := B.notSynchronized
  have hiX8 : ∀ w ∈ u_ws RX8 TX8 36, w ∈ wsX8_meetsAll := fun w h => List.mem_cons_of_mem _ (List.mem_append_right _ h)
  subst hsz
  have hD := hD0.self (sz := s.heap.size)
  generalize hAe : va_A ([cX8 a0 g0 o0, cX8_0 cI g0 o0, cX8_1 cI g0 o0, cX8_3 cI g0 o0, cX8_4 cI g0 o0, cX8_6 cI g0 o0, cX8_8 cI g0 o0, cX8_9 cI g0 o0, cX8_10 cI g0 o0, cX8_12 cI g0 o0, cX8_13 cI g0 o0, cX8_15 cI g0 o0, cX8_17 cI g0 o0, cX8_18 cI g0 o0, cX8_22 cB g0 o0, cX8_27 cI g0 o0, cX8_28 cI g0 o0, cX8_29 cI g0 o0, cX8_30 cI g0 o0, cX8_31 cI g0 o0, cX8_32 cI g0 o0, cX8_33 cI g0 o0]) s.heap.size = A at hD ⊢
  have hA : ∀ q : Nat, s.heap.size ≤ q → A q := fun q h => by rw [← hAe]; exact Or.inr h
  have hS : va_S A s.heap s.heap [] := va_S.rf
  have hP : va_P (dC, dI) vwCl ([cX8 a0 g0 o0, cX8_0 cI g0 o0, cX8_1 cI g0 o0, cX8_3 cI g0 o0, cX8_4 cI g0 o0, cX8_6 cI g0 o0, cX8_8 cI g0 o0, cX8_9 cI g0 o0, cX8_10 cI g0 o0, cX8_12 cI g0 o0, cX8_13 cI g0 o0, cX8_15 cI g0 o0, cX8_17 cI g0 o0, cX8_18 cI g0 o0, cX8_22 cB g0 o0, cX8_27 cI g0 o0, cX8_28 cI g0 o0, cX8_29 cI g0 o0, cX8_30 cI g0 o0, cX8_31 cI g0 o0, cX8_32 cI g0 o0, cX8_33 cI g0 o0]) s.heap := hP
  have hD : va_D A ([cX8 a0 g0 o0, cX8_0 cI g0 o0, cX8_1 cI g0 o0, cX8_3 cI g0 o0, cX8_4 cI g0 o0, cX8_6 cI g0 o0, cX8_8 cI g0 o0, cX8_9 cI g0 o0, cX8_10 cI g0 o0, cX8_12 cI g0 o0, cX8_13 cI g0 o0, cX8_15 cI g0 o0, cX8_17 cI g0 o0, cX8_18 cI g0 o0, cX8_22 cB g0 o0, cX8_27 cI g0 o0, cX8_28 cI g0 o0, cX8_29 cI g0 o0, cX8_30 cI g0 o0, cX8_31 cI g0 o0, cX8_32 cI g0 o0, cX8_33 cI g0 o0]) := hD
  have hl := lv_entry ([.ref a0, .int v1]) (n := 5) (Nat.le_of_ble_eq_true rfl)
  rw [lg_entry_eq]
  generalize (lg_sl ([.ref a0, .int v1]) ++ List.replicate (5 - (lg_sl ([.ref a0, .int v1])).length) Slot.unset).toArray = ls at hl ⊢
  have hl : lv_has ls 5 [(0, .ref a0), (1, .int v1)] := hl
  obtain ⟨Q, hQ⟩ : ∃ Q, Q = MQ below (Qq dC dI (some (.int r)) ([cX8 a0 g0 o0, cX8_0 cI g0 o0, cX8_1 cI g0 o0, cX8_3 cI g0 o0, cX8_4 cI g0 o0, cX8_6 cI g0 o0, cX8_8 cI g0 o0, cX8_9 cI g0 o0, cX8_10 cI g0 o0, cX8_12 cI g0 o0, cX8_13 cI g0 o0, cX8_15 cI g0 o0, cX8_17 cI g0 o0, cX8_18 cI g0 o0, cX8_22 cB g0 o0, cX8_27 cI g0 o0, cX8_28 cI g0 o0, cX8_29 cI g0 o0, cX8_30 cI g0 o0, cX8_31 cI g0 o0, cX8_32 cI g0 o0, cX8_33 cI g0 o0]) A) ([.ref a0, .int v1] : List Value).toArray s 0 0 A := ⟨_, rfl⟩
  rw [← hQ]
  rw [f_X8_meetsAll] at h
  clear hAe hD0
  refine lv_iconst (v := (0 : Int32)) hx hb dX8_meetsAll_0 (by decide) ?_
  refine lv_istore_n (lv' := [(2, .int (0 : Int32)), (0, .ref a0), (1, .int v1)]) hx hb dX8_meetsAll_1 rfl hl (by decide) rfl (fun ls hl => ?_)
  refine lv_bipush (v := (-40 : Int32)) hx hb dX8_meetsAll_2 (by decide) ?_
  refine lv_istore_n (lv' := [(3, .int (-40 : Int32)), (2, .int (0 : Int32)), (0, .ref a0), (1, .int v1)]) hx hb dX8_meetsAll_4 rfl hl (by decide) rfl (fun ls hl => ?_)
  have lp5 : ∀ (nn5 : Nat) (x5_2 : Int32) (x5_3 : Int32), f_X8_meetsAll_5 o0 v1 nn5 x5_2 x5_3 = some r → ∀ (H : Heap) (locs : List Loc) (ls : Array Slot), va_P (dC, dI) vwCl ([cX8 a0 g0 o0, cX8_0 cI g0 o0, cX8_1 cI g0 o0, cX8_3 cI g0 o0, cX8_4 cI g0 o0, cX8_6 cI g0 o0, cX8_8 cI g0 o0, cX8_9 cI g0 o0, cX8_10 cI g0 o0, cX8_12 cI g0 o0, cX8_13 cI g0 o0, cX8_15 cI g0 o0, cX8_17 cI g0 o0, cX8_18 cI g0 o0, cX8_22 cB g0 o0, cX8_27 cI g0 o0, cX8_28 cI g0 o0, cX8_29 cI g0 o0, cX8_30 cI g0 o0, cX8_31 cI g0 o0, cX8_32 cI g0 o0, cX8_33 cI g0 o0]) H → va_D A ([cX8 a0 g0 o0, cX8_0 cI g0 o0, cX8_1 cI g0 o0, cX8_3 cI g0 o0, cX8_4 cI g0 o0, cX8_6 cI g0 o0, cX8_8 cI g0 o0, cX8_9 cI g0 o0, cX8_10 cI g0 o0, cX8_12 cI g0 o0, cX8_13 cI g0 o0, cX8_15 cI g0 o0, cX8_17 cI g0 o0, cX8_18 cI g0 o0, cX8_22 cB g0 o0, cX8_27 cI g0 o0, cX8_28 cI g0 o0, cX8_29 cI g0 o0, cX8_30 cI g0 o0, cX8_31 cI g0 o0, cX8_32 cI g0 o0, cX8_33 cI g0 o0]) → va_S A s.heap H locs → lv_has ls 5 [(0, .ref a0), (1, .int v1), (2, .int x5_2), (3, .int x5_3)] → W p l e (headSpec wsX8_meetsAll rmX8_meetsAll).room s m ([.ref a0, .int v1] : List Value).toArray below meth c H locs 0 0 Q (F0 m 5 ls []) := by
    intro nn5
    induction nn5 with
    | zero => intro x5_2 x5_3 h; rw [f_X8_meetsAll_5] at h; cases h
    | succ nn5 ih5 =>
      intro x5_2 x5_3 h H locs ls hP hD hS hl
      rw [f_X8_meetsAll_5] at h
      refine lv_iload_n hx hb dX8_meetsAll_5 rfl (lv_at hl 3 rfl) ?_
      refine lv_bipush (v := (40 : Int32)) hx hb dX8_meetsAll_6 (by decide) ?_
      refine lv_icmp_gt (tgt := 88) hx hb dX8_meetsAll_8 (by decide) (fun k1 => ?_) (fun k1 => ?_)
      · have h := ite_t k1 h
        refine lv_iload_n hx hb dX8_meetsAll_88 rfl (lv_at hl 2 rfl) ?_
        have h := Option.some.inj h
        subst h
        subst hQ
        exact W.iret (v := x5_2) hx hb hr (fun t ht hW => ⟨⟨rfl, by rw [ht]; exact hP, hD⟩, hS.F ht⟩) hS.2.2 dX8_meetsAll_89
      · have h := ite_f k1 h
        refine lv_iconst (v := (0 : Int32)) hx hb dX8_meetsAll_11 (by decide) ?_
        refine lv_istore (lv' := [(4, .int (0 : Int32)), (0, .ref a0), (1, .int v1), (2, .int x5_2), (3, .int x5_3)]) hx hb dX8_meetsAll_12 hl (by decide) rfl (fun ls hl => ?_)
        have lp14 : ∀ (nn14 : Nat) (x14_2 : Int32) (x14_4 : Int32), f_X8_meetsAll_14 o0 v1 x5_3 (f_X8_meetsAll_5 o0 v1 nn5) nn14 x14_2 x14_4 = some r → ∀ (H : Heap) (locs : List Loc) (ls : Array Slot), va_P (dC, dI) vwCl ([cX8 a0 g0 o0, cX8_0 cI g0 o0, cX8_1 cI g0 o0, cX8_3 cI g0 o0, cX8_4 cI g0 o0, cX8_6 cI g0 o0, cX8_8 cI g0 o0, cX8_9 cI g0 o0, cX8_10 cI g0 o0, cX8_12 cI g0 o0, cX8_13 cI g0 o0, cX8_15 cI g0 o0, cX8_17 cI g0 o0, cX8_18 cI g0 o0, cX8_22 cB g0 o0, cX8_27 cI g0 o0, cX8_28 cI g0 o0, cX8_29 cI g0 o0, cX8_30 cI g0 o0, cX8_31 cI g0 o0, cX8_32 cI g0 o0, cX8_33 cI g0 o0]) H → va_D A ([cX8 a0 g0 o0, cX8_0 cI g0 o0, cX8_1 cI g0 o0, cX8_3 cI g0 o0, cX8_4 cI g0 o0, cX8_6 cI g0 o0, cX8_8 cI g0 o0, cX8_9 cI g0 o0, cX8_10 cI g0 o0, cX8_12 cI g0 o0, cX8_13 cI g0 o0, cX8_15 cI g0 o0, cX8_17 cI g0 o0, cX8_18 cI g0 o0, cX8_22 cB g0 o0, cX8_27 cI g0 o0, cX8_28 cI g0 o0, cX8_29 cI g0 o0, cX8_30 cI g0 o0, cX8_31 cI g0 o0, cX8_32 cI g0 o0, cX8_33 cI g0 o0]) → va_S A s.heap H locs → lv_has ls 5 [(0, .ref a0), (1, .int v1), (2, .int x14_2), (3, .int x5_3), (4, .int x14_4)] → W p l e (headSpec wsX8_meetsAll rmX8_meetsAll).room s m ([.ref a0, .int v1] : List Value).toArray below meth c H locs 0 0 Q (F0 m 14 ls []) := by
          intro nn14
          induction nn14 with
          | zero => intro x14_2 x14_4 h; rw [f_X8_meetsAll_14] at h; cases h
          | succ nn14 ih14 =>
            intro x14_2 x14_4 h H locs ls hP hD hS hl
            rw [f_X8_meetsAll_14] at h
            refine lv_iload hx hb dX8_meetsAll_14 (lv_at hl 4 rfl) ?_
            refine lv_bipush (v := (12 : Int32)) hx hb dX8_meetsAll_16 (by decide) ?_
            refine lv_icmp_ge (tgt := 82) hx hb dX8_meetsAll_18 (by decide) (fun k2 => ?_) (fun k2 => ?_)
            · have h := ite_t k2 h
              obtain ⟨x3, hx3, h⟩ := bnd_e h
              refine lv_iinc (v := x3) (lv' := [(3, .int x3), (0, .ref a0), (1, .int v1), (2, .int x14_2), (4, .int x14_4)]) hx hb dX8_meetsAll_82 hl (k := 3) rfl (by rw [← hx3]; rfl) (by decide) rfl (fun ls hl => ?_)
              refine lv_goto (tgt := 5) hx hb dX8_meetsAll_85 (by decide) ?_
              exact ih5 x14_2 x3 h _ _ _ hP hD hS (lv_sub hl [1, 2, 3, 0] rfl)
            · have h := ite_f k2 h
              refine lv_iload_n hx hb dX8_meetsAll_21 rfl (lv_at hl 2 rfl) ?_
              refine lv_iload hx hb dX8_meetsAll_22 (lv_at hl 4 rfl) ?_
              refine lv_bipush (v := (6 : Int32)) hx hb dX8_meetsAll_24 (by decide) ?_
              refine lv_irem hx hb dX8_meetsAll_26 (by decide) ?_
              refine lv_aload_n hx hb dX8_meetsAll_27 rfl (lv_at hl 0 rfl) ?_
              refine va_get (D := (dC, dI)) (ci := 8) (v := .ref (g0 0)) (C := RX8) (T := TX8) (N := 36) hx hb hts hiX8 hown hKK.1 hP 0 rfl rfl 0 (by decide) (hts (.fieldLink RX8 7 "SlideLandModel" "many" "[I") (List.mem_of_getElem? (i := 1) rfl)) (fun _ h9 => h9) rfl dX8_meetsAll_28 ?_
              refine lv_iload hx hb dX8_meetsAll_31 (lv_at hl 4 rfl) ?_
              refine lv_bipush (v := (6 : Int32)) hx hb dX8_meetsAll_33 (by decide) ?_
              refine lv_idiv hx hb dX8_meetsAll_35 (by decide) ?_
              obtain ⟨k4, h⟩ := ite_n h
              refine va_iald hx hb hKK.1 hP 1 1 rfl rfl k4 dX8_meetsAll_36 ?_
              have jn74 : ∀ (y74_1 : Bool), f_X8_meetsAll_74 x14_2 x14_4 (f_X8_meetsAll_14 o0 v1 x5_3 (f_X8_meetsAll_5 o0 v1 nn5) nn14) y74_1 = some r → ∀ (H : Heap) (locs : List Loc) (ls : Array Slot), va_P (dC, dI) vwCl ([cX8 a0 g0 o0, cX8_0 cI g0 o0, cX8_1 cI g0 o0, cX8_3 cI g0 o0, cX8_4 cI g0 o0, cX8_6 cI g0 o0, cX8_8 cI g0 o0, cX8_9 cI g0 o0, cX8_10 cI g0 o0, cX8_12 cI g0 o0, cX8_13 cI g0 o0, cX8_15 cI g0 o0, cX8_17 cI g0 o0, cX8_18 cI g0 o0, cX8_22 cB g0 o0, cX8_27 cI g0 o0, cX8_28 cI g0 o0, cX8_29 cI g0 o0, cX8_30 cI g0 o0, cX8_31 cI g0 o0, cX8_32 cI g0 o0, cX8_33 cI g0 o0]) H → va_D A ([cX8 a0 g0 o0, cX8_0 cI g0 o0, cX8_1 cI g0 o0, cX8_3 cI g0 o0, cX8_4 cI g0 o0, cX8_6 cI g0 o0, cX8_8 cI g0 o0, cX8_9 cI g0 o0, cX8_10 cI g0 o0, cX8_12 cI g0 o0, cX8_13 cI g0 o0, cX8_15 cI g0 o0, cX8_17 cI g0 o0, cX8_18 cI g0 o0, cX8_22 cB g0 o0, cX8_27 cI g0 o0, cX8_28 cI g0 o0, cX8_29 cI g0 o0, cX8_30 cI g0 o0, cX8_31 cI g0 o0, cX8_32 cI g0 o0, cX8_33 cI g0 o0]) → va_S A s.heap H locs → lv_has ls 5 [(0, .ref a0), (1, .int v1), (3, .int x5_3), (4, .int x14_4)] → W p l e (headSpec wsX8_meetsAll rmX8_meetsAll).room s m ([.ref a0, .int v1] : List Value).toArray below meth c H locs 0 0 Q (F0 m 74 ls [.int (b2i y74_1), .int x14_2]) := by
                intro y74_1 h H locs ls hP hD hS hl
                rw [f_X8_meetsAll_74] at h
                refine lv_iadd hx hb dX8_meetsAll_74 ?_
                obtain ⟨x5, hx5, h⟩ := bnd_e h
                refine lv_topE hx5 ?_
                refine lv_istore_n (lv' := [(2, .int x5), (0, .ref a0), (1, .int v1), (3, .int x5_3), (4, .int x14_4)]) hx hb dX8_meetsAll_75 rfl hl (by decide) rfl (fun ls hl => ?_)
                obtain ⟨x6, hx6, h⟩ := bnd_e h
                refine lv_iinc (v := x6) (lv' := [(4, .int x6), (2, .int x5), (0, .ref a0), (1, .int v1), (3, .int x5_3)]) hx hb dX8_meetsAll_76 hl (k := 4) rfl (by rw [← hx6]; rfl) (by decide) rfl (fun ls hl => ?_)
                refine lv_goto (tgt := 14) hx hb dX8_meetsAll_79 (by decide) ?_
                exact ih14 x5 x6 h _ _ _ hP hD hS (lv_sub hl [2, 3, 1, 4, 0] rfl)
              have jn73 : f_X8_meetsAll_73 x14_2 x14_4 (f_X8_meetsAll_14 o0 v1 x5_3 (f_X8_meetsAll_5 o0 v1 nn5) nn14) = some r → ∀ (H : Heap) (locs : List Loc) (ls : Array Slot), va_P (dC, dI) vwCl ([cX8 a0 g0 o0, cX8_0 cI g0 o0, cX8_1 cI g0 o0, cX8_3 cI g0 o0, cX8_4 cI g0 o0, cX8_6 cI g0 o0, cX8_8 cI g0 o0, cX8_9 cI g0 o0, cX8_10 cI g0 o0, cX8_12 cI g0 o0, cX8_13 cI g0 o0, cX8_15 cI g0 o0, cX8_17 cI g0 o0, cX8_18 cI g0 o0, cX8_22 cB g0 o0, cX8_27 cI g0 o0, cX8_28 cI g0 o0, cX8_29 cI g0 o0, cX8_30 cI g0 o0, cX8_31 cI g0 o0, cX8_32 cI g0 o0, cX8_33 cI g0 o0]) H → va_D A ([cX8 a0 g0 o0, cX8_0 cI g0 o0, cX8_1 cI g0 o0, cX8_3 cI g0 o0, cX8_4 cI g0 o0, cX8_6 cI g0 o0, cX8_8 cI g0 o0, cX8_9 cI g0 o0, cX8_10 cI g0 o0, cX8_12 cI g0 o0, cX8_13 cI g0 o0, cX8_15 cI g0 o0, cX8_17 cI g0 o0, cX8_18 cI g0 o0, cX8_22 cB g0 o0, cX8_27 cI g0 o0, cX8_28 cI g0 o0, cX8_29 cI g0 o0, cX8_30 cI g0 o0, cX8_31 cI g0 o0, cX8_32 cI g0 o0, cX8_33 cI g0 o0]) → va_S A s.heap H locs → lv_has ls 5 [(0, .ref a0), (1, .int v1), (3, .int x5_3), (4, .int x14_4)] → W p l e (headSpec wsX8_meetsAll rmX8_meetsAll).room s m ([.ref a0, .int v1] : List Value).toArray below meth c H locs 0 0 Q (F0 m 73 ls [.int x14_2]) := by
                intro h H locs ls hP hD hS hl
                rw [f_X8_meetsAll_73] at h
                refine lv_iconst (v := (0 : Int32)) hx hb dX8_meetsAll_73 (by decide) ?_
                exact jn74 false h _ _ _ hP hD hS (lv_sub hl [0, 1, 2, 3] rfl)
              refine lv_icmp_ge (tgt := 73) hx hb dX8_meetsAll_37 (by decide) (fun k7 => ?_) (fun k7 => ?_)
              · have h := ite_t k7 h
                exact jn73 h _ _ _ hP hD hS (lv_sub hl [0, 1, 3, 4] rfl)
              · have h := ite_f k7 h
                refine lv_iload_n hx hb dX8_meetsAll_40 rfl (lv_at hl 1 rfl) ?_
                refine lv_iload_n hx hb dX8_meetsAll_41 rfl (lv_at hl 1 rfl) ?_
                refine lv_aload_n hx hb dX8_meetsAll_42 rfl (lv_at hl 0 rfl) ?_
                refine lv_aload_n hx hb dX8_meetsAll_43 rfl (lv_at hl 0 rfl) ?_
                refine va_get (D := (dC, dI)) (ci := 8) (v := .ref (g0 18)) (C := RX8) (T := TX8) (N := 36) hx hb hts hiX8 hown hKK.1 hP 0 rfl rfl 18 (by decide) (hts (.fieldLink RX8 46 "SlideLandModel" "slot" "[I") (List.mem_of_getElem? (i := 2) rfl)) (fun _ h9 => h9) rfl dX8_meetsAll_44 ?_
                refine lv_iconst (v := (3 : Int32)) hx hb dX8_meetsAll_47 (by decide) ?_
                refine va_iald hx hb hKK.1 hP 13 1 rfl rfl (show ¬ ((3 : Int32) < 0 ∨ 312 ≤ (3 : Int32).toNatClampNeg) from by decide) dX8_meetsAll_48 ?_
                obtain ⟨q8, hq8, h⟩ := obd_e h
                refine kcV (rest := [.int v1, .int v1, .int x14_2]) (w2 := ([cX8 a0 g0 o0, cX8_0 cI g0 o0, cX8_1 cI g0 o0, cX8_3 cI g0 o0, cX8_4 cI g0 o0, cX8_6 cI g0 o0, cX8_8 cI g0 o0, cX8_9 cI g0 o0, cX8_10 cI g0 o0, cX8_12 cI g0 o0, cX8_13 cI g0 o0, cX8_15 cI g0 o0, cX8_17 cI g0 o0, cX8_18 cI g0 o0, cX8_22 cB g0 o0, cX8_27 cI g0 o0, cX8_28 cI g0 o0, cX8_29 cI g0 o0, cX8_30 cI g0 o0, cX8_31 cI g0 o0, cX8_32 cI g0 o0, cX8_33 cI g0 o0])) hx hb hml hown hts hKK hP hD hS hA (c_X8_dampOf l dC dI cB cI cZ cO a0 g0 o0 ((o0.2 18) (3 : Int32).toNatClampNeg) hq8) [0, 1, 2, 3, 4, 5, 6, 7, 8, 9, 10, 11, 12, 13, 14, 15, 16, 17, 18, 19, 20, 21] (atAll_map ⟨rfl, rfl, rfl, rfl, rfl, rfl, rfl, rfl, rfl, rfl, rfl, rfl, rfl, rfl, rfl, rfl, rfl, rfl, rfl, rfl, rfl, rfl, trivial⟩) (by decide +kernel) (sameAd_map ⟨rfl, rfl, rfl, rfl, rfl, rfl, rfl, rfl, rfl, rfl, rfl, rfl, rfl, rfl, rfl, rfl, rfl, rfl, rfl, rfl, rfl, rfl, trivial⟩) (atAll_map ⟨rfl, rfl, rfl, rfl, rfl, rfl, rfl, rfl, rfl, rfl, rfl, rfl, rfl, rfl, rfl, rfl, rfl, rfl, rfl, rfl, rfl, rfl, trivial⟩) (agr_refl _ _ _) (cwV 1 hts gX8_meetsAll_X8_dampOf rfl rfl rfl ⟨rfl, dsc_X8_dampOf⟩ ⟨Nat.le_of_ble_eq_true rfl, Nat.le_of_ble_eq_true rfl⟩) (va_recv hKK.1 hP (ci := 8) (q0 := 0) rfl rfl) rfl hl.1 rfl (Nat.le_of_ble_eq_true rfl) dX8_meetsAll_49 ⟨Nat.zero_le _, Nat.zero_le _⟩ (fun H locs hP hD hS => ?_)
                refine lv_imul hx hb dX8_meetsAll_52 ?_
                refine lv_bipush (v := (10 : Int32)) hx hb dX8_meetsAll_53 (by decide) ?_
                refine lv_idiv hx hb dX8_meetsAll_55 (by decide) ?_
                refine lv_iadd hx hb dX8_meetsAll_56 ?_
                refine lv_iload_n hx hb dX8_meetsAll_57 rfl (lv_at hl 3 rfl) ?_
                refine lv_iadd hx hb dX8_meetsAll_58 ?_
                refine lv_aload_n hx hb dX8_meetsAll_59 rfl (lv_at hl 0 rfl) ?_
                refine va_get (D := (dC, dI)) (ci := 8) (v := .ref (g0 1)) (C := RX8) (T := TX8) (N := 36) hx hb hts hiX8 hown hKK.1 hP 0 rfl rfl 1 (by decide) (hts (.fieldLink RX8 13 "SlideLandModel" "inch" "[I") (List.mem_of_getElem? (i := 3) rfl)) (fun _ h9 => h9) rfl dX8_meetsAll_60 ?_
                refine lv_iload hx hb dX8_meetsAll_63 (lv_at hl 4 rfl) ?_
                obtain ⟨k9, h⟩ := ite_n h
                refine va_iald hx hb hKK.1 hP 2 1 rfl rfl k9 dX8_meetsAll_65 ?_
                refine lv_icmp_ne (tgt := 73) hx hb dX8_meetsAll_66 (by decide) (fun k10 => ?_) (fun k10 => ?_)
                · have h := ite_f k10 h
                  exact jn73 h _ _ _ hP hD hS (lv_sub hl [0, 1, 3, 4] rfl)
                · have h := ite_t k10 h
                  refine lv_iconst (v := (1 : Int32)) hx hb dX8_meetsAll_69 (by decide) ?_
                  refine lv_goto (tgt := 74) hx hb dX8_meetsAll_70 (by decide) ?_
                  exact jn74 true h _ _ _ hP hD hS (lv_sub hl [0, 1, 3, 4] rfl)
        exact lp14 FU x5_2 (0 : Int32) h _ _ _ hP hD hS (lv_sub hl [1, 2, 3, 4, 0] rfl)
  exact lp5 FU (0 : Int32) (-40 : Int32) h _ _ _ hP hD hS (lv_sub hl [2, 3, 1, 0] rfl)
def f_X8_hut_40 (x16_3 : Int32) (kL16 : (Int32 → Int32 → Option (Int32))) (y40_0 : Int32) : Option (Int32) := bnd (x16_3 + (1 : Int32)) fun x8 : Int32 => kL16 y40_0 x8
def f_X8_hut_16 (o0 : Ob) (v1 : Int32) : Nat → Int32 → Int32 → Option (Int32)
  | 0, _, _ => none
  | nn16+1, x16_2, x16_3 => if (60 : Int32) < x16_3 then (if v1 = 0 then ((f_X8_meetsAll o0 x16_2).bind fun q5 : Int32 => some q5) else (some x16_2)) else ((f_X8_meetsAll o0 x16_3).bind fun q6 : Int32 => (f_X8_meetsAll o0 x16_2).bind fun q7 : Int32 => if q6 ≤ q7 then (f_X8_hut_40 x16_3 (f_X8_hut_16 o0 v1 nn16) x16_2) else (f_X8_hut_40 x16_3 (f_X8_hut_16 o0 v1 nn16) x16_3))
def f_X8_hut (o0 : Ob) (v1 : Int32) : Option (Int32) := bnd (f_X8_in (v1.toInt64) (0 : Int64) (1 : Int64)) fun q1 : Bool => if (b2i q1) = 0 then (some (-1 : Int32)) else (f_X8_hut_16 o0 v1 FU (0 : Int32) (1 : Int32))
abbrev rmX8_hut : Room := { frames := 2, cells := 0, slots := 0, locals := 45 }
theorem dsc_X8_hut : yX8_hut.cls ≠ "java/lang/invoke/MethodHandle" ∧ yX8_hut.cls ≠ "java/lang/invoke/VarHandle" ∧ (parseMethodDescriptor yX8_hut.desc).map (fun d => d.parameters.length) = some 1 := by decide +kernel
set_option maxHeartbeats 4000000 in
set_option maxRecDepth 100000 in
theorem c_X8_hut (l : Launch) (dC : Nat → ClassId) (dI : Nat → Nat → Nat) (cB cI cZ cO : ClassId) (a0 : Nat) (g0 : Nat → Nat) (o0 : Ob) (v1 : Int32) {r : Int32} (h : f_X8_hut o0 v1 = some r) : Ct dC dI cB cI cZ cO l yX8_hut wsX8_hut rmX8_hut [.ref a0, .int v1] ([cX8 a0 g0 o0, cX8_0 cI g0 o0, cX8_1 cI g0 o0, cX8_3 cI g0 o0, cX8_4 cI g0 o0, cX8_6 cI g0 o0, cX8_8 cI g0 o0, cX8_9 cI g0 o0, cX8_10 cI g0 o0, cX8_12 cI g0 o0, cX8_13 cI g0 o0, cX8_15 cI g0 o0, cX8_17 cI g0 o0, cX8_18 cI g0 o0, cX8_22 cB g0 o0, cX8_27 cI g0 o0, cX8_28 cI g0 o0, cX8_29 cI g0 o0, cX8_30 cI g0 o0, cX8_31 cI g0 o0, cX8_32 cI g0 o0, cX8_33 cI g0 o0]) (some (.int r)) ([cX8 a0 g0 o0, cX8_0 cI g0 o0, cX8_1 cI g0 o0, cX8_3 cI g0 o0, cX8_4 cI g0 o0, cX8_6 cI g0 o0, cX8_8 cI g0 o0, cX8_9 cI g0 o0, cX8_10 cI g0 o0, cX8_12 cI g0 o0, cX8_13 cI g0 o0, cX8_15 cI g0 o0, cX8_17 cI g0 o0, cX8_18 cI g0 o0, cX8_22 cB g0 o0, cX8_27 cI g0 o0, cX8_28 cI g0 o0, cX8_29 cI g0 o0, cX8_30 cI g0 o0, cX8_31 cI g0 o0, cX8_32 cI g0 o0, cX8_33 cI g0 o0]) := by
  intro sz
  refine Met.ofW (cc := cX8_hut) (maxL := 4) (ret := (some .int)) (by decide) rfl ?_
  intro p e s m args below meth c s₁ B hml hv
  obtain ⟨rfl, hsz, hP, hKK, hD0⟩ := hv
  have hx := B.exec
  have hb := B.bytes
  have hr := B.returns
  have hts := atoms_spec (ws := wsX8_hut) B.pre
  have hown : s.vm.findClass RX8 = some m.cls := findClass_of_methodNamed B.named
  have hlocks := B.notSynchronized
  subst hsz
  have hD := hD0.self (sz := s.heap.size)
  generalize hAe : va_A ([cX8 a0 g0 o0, cX8_0 cI g0 o0, cX8_1 cI g0 o0, cX8_3 cI g0 o0, cX8_4 cI g0 o0, cX8_6 cI g0 o0, cX8_8 cI g0 o0, cX8_9 cI g0 o0, cX8_10 cI g0 o0, cX8_12 cI g0 o0, cX8_13 cI g0 o0, cX8_15 cI g0 o0, cX8_17 cI g0 o0, cX8_18 cI g0 o0, cX8_22 cB g0 o0, cX8_27 cI g0 o0, cX8_28 cI g0 o0, cX8_29 cI g0 o0, cX8_30 cI g0 o0, cX8_31 cI g0 o0, cX8_32 cI g0 o0, cX8_33 cI g0 o0]) s.heap.size = A at hD ⊢
  have hA : ∀ q : Nat, s.heap.size ≤ q → A q := fun q h => by rw [← hAe]; exact Or.inr h
  have hS : va_S A s.heap s.heap [] := va_S.rf
  have hP : va_P (dC, dI) vwCl ([cX8 a0 g0 o0, cX8_0 cI g0 o0, cX8_1 cI g0 o0, cX8_3 cI g0 o0, cX8_4 cI g0 o0, cX8_6 cI g0 o0, cX8_8 cI g0 o0, cX8_9 cI g0 o0, cX8_10 cI g0 o0, cX8_12 cI g0 o0, cX8_13 cI g0 o0, cX8_15 cI g0 o0, cX8_17 cI g0 o0, cX8_18 cI g0 o0, cX8_22 cB g0 o0, cX8_27 cI g0 o0, cX8_28 cI g0 o0, cX8_29 cI g0 o0, cX8_30 cI g0 o0, cX8_31 cI g0 o0, cX8_32 cI g0 o0, cX8_33 cI g0 o0]) s.heap := hP
  have hD : va_D A ([cX8 a0 g0 o0, cX8_0 cI g0 o0, cX8_1 cI g0 o0, cX8_3 cI g0 o0, cX8_4 cI g0 o0, cX8_6 cI g0 o0, cX8_8 cI g0 o0, cX8_9 cI g0 o0, cX8_10 cI g0 o0, cX8_12 cI g0 o0, cX8_13 cI g0 o0, cX8_15 cI g0 o0, cX8_17 cI g0 o0, cX8_18 cI g0 o0, cX8_22 cB g0 o0, cX8_27 cI g0 o0, cX8_28 cI g0 o0, cX8_29 cI g0 o0, cX8_30 cI g0 o0, cX8_31 cI g0 o0, cX8_32 cI g0 o0, cX8_33 cI g0 o0]) := hD
  have hl := lv_entry ([.ref a0, .int v1]) (n := 4) (Nat.le_of_ble_eq_true rfl)
  rw [lg_entry_eq]
  generalize (lg_sl ([.ref a0, .int v1]) ++ List.replicate (4 - (lg_sl ([.ref a0, .int v1])).length) Slot.unset).toArray = ls at hl ⊢
  have hl : lv_has ls 4 [(0, .ref a0), (1, .int v1)] := hl
  obtain ⟨Q, hQ⟩ : ∃ Q, Q = MQ below (Qq dC dI (some (.int r)) ([cX8 a0 g0 o0, cX8_0 cI g0 o0, cX8_1 cI g0 o0, cX8_3 cI g0 o0, cX8_4 cI g0 o0, cX8_6 cI g0 o0, cX8_8 cI g0 o0, cX8_9 cI g0 o0, cX8_10 cI g0 o0, cX8_12 cI g0 o0, cX8_13 cI g0 o0, cX8_15 cI g0 o0, cX8_17 cI g0 o0, cX8_18 cI g0 o0, cX8_22 cB g0 o0, cX8_27 cI g0 o0, cX8_28 cI g0 o0, cX8_29 cI g0 o0, cX8_30 cI g0 o0, cX8_31 cI g0 o0, cX8_32 cI g0 o0, cX8_33 cI g0 o0]) A) ([.ref a0, .int v1] : List Value).toArray s 0 0 A := ⟨_, rfl⟩
  rw [← hQ]
  rw [f_X8_hut] at h
  clear hAe hD0
  refine lv_iload_n hx hb dX8_hut_0 rfl (lv_at hl 1 rfl) ?_
  refine lv_i2l hx hb dX8_hut_1 rfl ?_
  refine lv_lconst (v := 0) hx hb dX8_hut_2 (by decide) ?_
  refine lv_lconst (v := 1) hx hb dX8_hut_3 (by decide) ?_
  obtain ⟨q1, hq1, h⟩ := bnd_e h
  refine kcS (rest := []) (w2 := ([cX8 a0 g0 o0, cX8_0 cI g0 o0, cX8_1 cI g0 o0, cX8_3 cI g0 o0, cX8_4 cI g0 o0, cX8_6 cI g0 o0, cX8_8 cI g0 o0, cX8_9 cI g0 o0, cX8_10 cI g0 o0, cX8_12 cI g0 o0, cX8_13 cI g0 o0, cX8_15 cI g0 o0, cX8_17 cI g0 o0, cX8_18 cI g0 o0, cX8_22 cB g0 o0, cX8_27 cI g0 o0, cX8_28 cI g0 o0, cX8_29 cI g0 o0, cX8_30 cI g0 o0, cX8_31 cI g0 o0, cX8_32 cI g0 o0, cX8_33 cI g0 o0])) hx hb hml hown hts hKK hP hD hS hA (c_X8_in l dC dI cB cI cZ cO (v1.toInt64) (0 : Int64) (1 : Int64) hq1) [] (atAll_map trivial) (by decide +kernel) (sameAd_map trivial) (atAll_map trivial) (agr_refl _ _ _) (va_cwS 3 hts gX8_hut_X8_in rfl rfl rfl dsc_X8_in ⟨Nat.le_of_ble_eq_true rfl, Nat.le_of_ble_eq_true rfl⟩) rfl hl.1 rfl (Nat.le_of_ble_eq_true rfl) dX8_hut_4 ⟨Nat.zero_le _, Nat.zero_le _⟩ (fun H locs hP hD hS => ?_)
  refine lv_if_ne (tgt := 12) hx hb dX8_hut_7 (by decide) (fun k2 => ?_) (fun k2 => ?_)
  · have h := ite_f k2 h
    refine lv_iconst (v := (0 : Int32)) hx hb dX8_hut_12 (by decide) ?_
    refine lv_istore_n (lv' := [(2, .int (0 : Int32)), (0, .ref a0), (1, .int v1)]) hx hb dX8_hut_13 rfl hl (by decide) rfl (fun ls hl => ?_)
    refine lv_iconst (v := (1 : Int32)) hx hb dX8_hut_14 (by decide) ?_
    refine lv_istore_n (lv' := [(3, .int (1 : Int32)), (2, .int (0 : Int32)), (0, .ref a0), (1, .int v1)]) hx hb dX8_hut_15 rfl hl (by decide) rfl (fun ls hl => ?_)
    have lp16 : ∀ (nn16 : Nat) (x16_2 : Int32) (x16_3 : Int32), f_X8_hut_16 o0 v1 nn16 x16_2 x16_3 = some r → ∀ (H : Heap) (locs : List Loc) (ls : Array Slot), va_P (dC, dI) vwCl ([cX8 a0 g0 o0, cX8_0 cI g0 o0, cX8_1 cI g0 o0, cX8_3 cI g0 o0, cX8_4 cI g0 o0, cX8_6 cI g0 o0, cX8_8 cI g0 o0, cX8_9 cI g0 o0, cX8_10 cI g0 o0, cX8_12 cI g0 o0, cX8_13 cI g0 o0, cX8_15 cI g0 o0, cX8_17 cI g0 o0, cX8_18 cI g0 o0, cX8_22 cB g0 o0, cX8_27 cI g0 o0, cX8_28 cI g0 o0, cX8_29 cI g0 o0, cX8_30 cI g0 o0, cX8_31 cI g0 o0, cX8_32 cI g0 o0, cX8_33 cI g0 o0]) H → va_D A ([cX8 a0 g0 o0, cX8_0 cI g0 o0, cX8_1 cI g0 o0, cX8_3 cI g0 o0, cX8_4 cI g0 o0, cX8_6 cI g0 o0, cX8_8 cI g0 o0, cX8_9 cI g0 o0, cX8_10 cI g0 o0, cX8_12 cI g0 o0, cX8_13 cI g0 o0, cX8_15 cI g0 o0, cX8_17 cI g0 o0, cX8_18 cI g0 o0, cX8_22 cB g0 o0, cX8_27 cI g0 o0, cX8_28 cI g0 o0, cX8_29 cI g0 o0, cX8_30 cI g0 o0, cX8_31 cI g0 o0, cX8_32 cI g0 o0, cX8_33 cI g0 o0]) → va_S A s.heap H locs → lv_has ls 4 [(0, .ref a0), (1, .int v1), (2, .int x16_2), (3, .int x16_3)] → W p l e (headSpec wsX8_hut rmX8_hut).room s m ([.ref a0, .int v1] : List Value).toArray below meth c H locs 0 0 Q (F0 m 16 ls []) := by
      intro nn16
      induction nn16 with
      | zero => intro x16_2 x16_3 h; rw [f_X8_hut_16] at h; cases h
      | succ nn16 ih16 =>
        intro x16_2 x16_3 h H locs ls hP hD hS hl
        rw [f_X8_hut_16] at h
        refine lv_iload_n hx hb dX8_hut_16 rfl (lv_at hl 3 rfl) ?_
        refine lv_bipush (v := (60 : Int32)) hx hb dX8_hut_17 (by decide) ?_
        refine lv_icmp_gt (tgt := 47) hx hb dX8_hut_19 (by decide) (fun k3 => ?_) (fun k3 => ?_)
        · have h := ite_t k3 h
          refine lv_iload_n hx hb dX8_hut_47 rfl (lv_at hl 1 rfl) ?_
          refine lv_if_ne (tgt := 59) hx hb dX8_hut_48 (by decide) (fun k4 => ?_) (fun k4 => ?_)
          · have h := ite_f k4 h
            refine lv_iload_n hx hb dX8_hut_59 rfl (lv_at hl 2 rfl) ?_
            have h := Option.some.inj h
            subst h
            subst hQ
            exact W.iret (v := x16_2) hx hb hr (fun t ht hW => ⟨⟨rfl, by rw [ht]; exact hP, hD⟩, hS.F ht⟩) hS.2.2 dX8_hut_60
          · have h := ite_t k4 h
            refine lv_aload_n hx hb dX8_hut_51 rfl (lv_at hl 0 rfl) ?_
            refine lv_iload_n hx hb dX8_hut_52 rfl (lv_at hl 2 rfl) ?_
            obtain ⟨q5, hq5, h⟩ := obd_e h
            refine kcV (rest := []) (w2 := ([cX8 a0 g0 o0, cX8_0 cI g0 o0, cX8_1 cI g0 o0, cX8_3 cI g0 o0, cX8_4 cI g0 o0, cX8_6 cI g0 o0, cX8_8 cI g0 o0, cX8_9 cI g0 o0, cX8_10 cI g0 o0, cX8_12 cI g0 o0, cX8_13 cI g0 o0, cX8_15 cI g0 o0, cX8_17 cI g0 o0, cX8_18 cI g0 o0, cX8_22 cB g0 o0, cX8_27 cI g0 o0, cX8_28 cI g0 o0, cX8_29 cI g0 o0, cX8_30 cI g0 o0, cX8_31 cI g0 o0, cX8_32 cI g0 o0, cX8_33 cI g0 o0])) hx hb hml hown hts hKK hP hD hS hA (c_X8_meetsAll l dC dI cB cI cZ cO a0 g0 o0 x16_2 hq5) [0, 1, 2, 3, 4, 5, 6, 7, 8, 9, 10, 11, 12, 13, 14, 15, 16, 17, 18, 19, 20, 21] (atAll_map ⟨rfl, rfl, rfl, rfl, rfl, rfl, rfl, rfl, rfl, rfl, rfl, rfl, rfl, rfl, rfl, rfl, rfl, rfl, rfl, rfl, rfl, rfl, trivial⟩) (by decide +kernel) (sameAd_map ⟨rfl, rfl, rfl, rfl, rfl, rfl, rfl, rfl, rfl, rfl, rfl, rfl, rfl, rfl, rfl, rfl, rfl, rfl, rfl, rfl, rfl, rfl, trivial⟩) (atAll_map ⟨rfl, rfl, rfl, rfl, rfl, rfl, rfl, rfl, rfl, rfl, rfl, rfl, rfl, rfl, rfl, rfl, rfl, rfl, rfl, rfl, rfl, rfl, trivial⟩) (agr_refl _ _ _) (cwV 1 hts gX8_hut_X8_meetsAll rfl rfl rfl ⟨rfl, dsc_X8_meetsAll⟩ ⟨Nat.le_of_ble_eq_true rfl, Nat.le_of_ble_eq_true rfl⟩) (va_recv hKK.1 hP (ci := 8) (q0 := 0) rfl rfl) rfl hl.1 rfl (Nat.le_of_ble_eq_true rfl) dX8_hut_53 ⟨Nat.zero_le _, Nat.zero_le _⟩ (fun H locs hP hD hS => ?_)
            refine lv_goto (tgt := 60) hx hb dX8_hut_56 (by decide) ?_
            have h := Option.some.inj h
            subst h
            subst hQ
            exact W.iret (v := q5) hx hb hr (fun t ht hW => ⟨⟨rfl, by rw [ht]; exact hP, hD⟩, hS.F ht⟩) hS.2.2 dX8_hut_60
        · have h := ite_f k3 h
          refine lv_aload_n hx hb dX8_hut_22 rfl (lv_at hl 0 rfl) ?_
          refine lv_iload_n hx hb dX8_hut_23 rfl (lv_at hl 3 rfl) ?_
          obtain ⟨q6, hq6, h⟩ := obd_e h
          refine kcV (rest := []) (w2 := ([cX8 a0 g0 o0, cX8_0 cI g0 o0, cX8_1 cI g0 o0, cX8_3 cI g0 o0, cX8_4 cI g0 o0, cX8_6 cI g0 o0, cX8_8 cI g0 o0, cX8_9 cI g0 o0, cX8_10 cI g0 o0, cX8_12 cI g0 o0, cX8_13 cI g0 o0, cX8_15 cI g0 o0, cX8_17 cI g0 o0, cX8_18 cI g0 o0, cX8_22 cB g0 o0, cX8_27 cI g0 o0, cX8_28 cI g0 o0, cX8_29 cI g0 o0, cX8_30 cI g0 o0, cX8_31 cI g0 o0, cX8_32 cI g0 o0, cX8_33 cI g0 o0])) hx hb hml hown hts hKK hP hD hS hA (c_X8_meetsAll l dC dI cB cI cZ cO a0 g0 o0 x16_3 hq6) [0, 1, 2, 3, 4, 5, 6, 7, 8, 9, 10, 11, 12, 13, 14, 15, 16, 17, 18, 19, 20, 21] (atAll_map ⟨rfl, rfl, rfl, rfl, rfl, rfl, rfl, rfl, rfl, rfl, rfl, rfl, rfl, rfl, rfl, rfl, rfl, rfl, rfl, rfl, rfl, rfl, trivial⟩) (by decide +kernel) (sameAd_map ⟨rfl, rfl, rfl, rfl, rfl, rfl, rfl, rfl, rfl, rfl, rfl, rfl, rfl, rfl, rfl, rfl, rfl, rfl, rfl, rfl, rfl, rfl, trivial⟩) (atAll_map ⟨rfl, rfl, rfl, rfl, rfl, rfl, rfl, rfl, rfl, rfl, rfl, rfl, rfl, rfl, rfl, rfl, rfl, rfl, rfl, rfl, rfl, rfl, trivial⟩) (agr_refl _ _ _) (cwV 1 hts gX8_hut_X8_meetsAll rfl rfl rfl ⟨rfl, dsc_X8_meetsAll⟩ ⟨Nat.le_of_ble_eq_true rfl, Nat.le_of_ble_eq_true rfl⟩) (va_recv hKK.1 hP (ci := 8) (q0 := 0) rfl rfl) rfl hl.1 rfl (Nat.le_of_ble_eq_true rfl) dX8_hut_24 ⟨Nat.zero_le _, Nat.zero_le _⟩ (fun H locs hP hD hS => ?_)
          refine lv_aload_n hx hb dX8_hut_27 rfl (lv_at hl 0 rfl) ?_
          refine lv_iload_n hx hb dX8_hut_28 rfl (lv_at hl 2 rfl) ?_
          obtain ⟨q7, hq7, h⟩ := obd_e h
          refine kcV (rest := [.int q6]) (w2 := ([cX8 a0 g0 o0, cX8_0 cI g0 o0, cX8_1 cI g0 o0, cX8_3 cI g0 o0, cX8_4 cI g0 o0, cX8_6 cI g0 o0, cX8_8 cI g0 o0, cX8_9 cI g0 o0, cX8_10 cI g0 o0, cX8_12 cI g0 o0, cX8_13 cI g0 o0, cX8_15 cI g0 o0, cX8_17 cI g0 o0, cX8_18 cI g0 o0, cX8_22 cB g0 o0, cX8_27 cI g0 o0, cX8_28 cI g0 o0, cX8_29 cI g0 o0, cX8_30 cI g0 o0, cX8_31 cI g0 o0, cX8_32 cI g0 o0, cX8_33 cI g0 o0])) hx hb hml hown hts hKK hP hD hS hA (c_X8_meetsAll l dC dI cB cI cZ cO a0 g0 o0 x16_2 hq7) [0, 1, 2, 3, 4, 5, 6, 7, 8, 9, 10, 11, 12, 13, 14, 15, 16, 17, 18, 19, 20, 21] (atAll_map ⟨rfl, rfl, rfl, rfl, rfl, rfl, rfl, rfl, rfl, rfl, rfl, rfl, rfl, rfl, rfl, rfl, rfl, rfl, rfl, rfl, rfl, rfl, trivial⟩) (by decide +kernel) (sameAd_map ⟨rfl, rfl, rfl, rfl, rfl, rfl, rfl, rfl, rfl, rfl, rfl, rfl, rfl, rfl, rfl, rfl, rfl, rfl, rfl, rfl, rfl, rfl, trivial⟩) (atAll_map ⟨rfl, rfl, rfl, rfl, rfl, rfl, rfl, rfl, rfl, rfl, rfl, rfl, rfl, rfl, rfl, rfl, rfl, rfl, rfl, rfl, rfl, rfl, trivial⟩) (agr_refl _ _ _) (cwV 1 hts gX8_hut_X8_meetsAll rfl rfl rfl ⟨rfl, dsc_X8_meetsAll⟩ ⟨Nat.le_of_ble_eq_true rfl, Nat.le_of_ble_eq_true rfl⟩) (va_recv hKK.1 hP (ci := 8) (q0 := 0) rfl rfl) rfl hl.1 rfl (Nat.le_of_ble_eq_true rfl) dX8_hut_29 ⟨Nat.zero_le _, Nat.zero_le _⟩ (fun H locs hP hD hS => ?_)
          have jn40 : ∀ (y40_0 : Int32), f_X8_hut_40 x16_3 (f_X8_hut_16 o0 v1 nn16) y40_0 = some r → ∀ (H : Heap) (locs : List Loc) (ls : Array Slot), va_P (dC, dI) vwCl ([cX8 a0 g0 o0, cX8_0 cI g0 o0, cX8_1 cI g0 o0, cX8_3 cI g0 o0, cX8_4 cI g0 o0, cX8_6 cI g0 o0, cX8_8 cI g0 o0, cX8_9 cI g0 o0, cX8_10 cI g0 o0, cX8_12 cI g0 o0, cX8_13 cI g0 o0, cX8_15 cI g0 o0, cX8_17 cI g0 o0, cX8_18 cI g0 o0, cX8_22 cB g0 o0, cX8_27 cI g0 o0, cX8_28 cI g0 o0, cX8_29 cI g0 o0, cX8_30 cI g0 o0, cX8_31 cI g0 o0, cX8_32 cI g0 o0, cX8_33 cI g0 o0]) H → va_D A ([cX8 a0 g0 o0, cX8_0 cI g0 o0, cX8_1 cI g0 o0, cX8_3 cI g0 o0, cX8_4 cI g0 o0, cX8_6 cI g0 o0, cX8_8 cI g0 o0, cX8_9 cI g0 o0, cX8_10 cI g0 o0, cX8_12 cI g0 o0, cX8_13 cI g0 o0, cX8_15 cI g0 o0, cX8_17 cI g0 o0, cX8_18 cI g0 o0, cX8_22 cB g0 o0, cX8_27 cI g0 o0, cX8_28 cI g0 o0, cX8_29 cI g0 o0, cX8_30 cI g0 o0, cX8_31 cI g0 o0, cX8_32 cI g0 o0, cX8_33 cI g0 o0]) → va_S A s.heap H locs → lv_has ls 4 [(0, .ref a0), (1, .int v1), (3, .int x16_3)] → W p l e (headSpec wsX8_hut rmX8_hut).room s m ([.ref a0, .int v1] : List Value).toArray below meth c H locs 0 0 Q (F0 m 40 ls [.int y40_0]) := by
            intro y40_0 h H locs ls hP hD hS hl
            rw [f_X8_hut_40] at h
            refine lv_istore_n (lv' := [(2, .int y40_0), (0, .ref a0), (1, .int v1), (3, .int x16_3)]) hx hb dX8_hut_40 rfl hl (by decide) rfl (fun ls hl => ?_)
            obtain ⟨x8, hx8, h⟩ := bnd_e h
            refine lv_iinc (v := x8) (lv' := [(3, .int x8), (2, .int y40_0), (0, .ref a0), (1, .int v1)]) hx hb dX8_hut_41 hl (k := 3) rfl (by rw [← hx8]; rfl) (by decide) rfl (fun ls hl => ?_)
            refine lv_goto (tgt := 16) hx hb dX8_hut_44 (by decide) ?_
            exact ih16 y40_0 x8 h _ _ _ hP hD hS (lv_sub hl [2, 3, 1, 0] rfl)
          refine lv_icmp_le (tgt := 39) hx hb dX8_hut_32 (by decide) (fun k9 => ?_) (fun k9 => ?_)
          · have h := ite_t k9 h
            refine lv_iload_n hx hb dX8_hut_39 rfl (lv_at hl 2 rfl) ?_
            exact jn40 x16_2 h _ _ _ hP hD hS (lv_sub hl [0, 1, 3] rfl)
          · have h := ite_f k9 h
            refine lv_iload_n hx hb dX8_hut_35 rfl (lv_at hl 3 rfl) ?_
            refine lv_goto (tgt := 40) hx hb dX8_hut_36 (by decide) ?_
            exact jn40 x16_3 h _ _ _ hP hD hS (lv_sub hl [0, 1, 3] rfl)
    exact lp16 FU (0 : Int32) (1 : Int32) h _ _ _ hP hD hS (lv_sub hl [2, 3, 1, 0] rfl)
  · have h := ite_t k2 h
    refine lv_iconst (v := (-1 : Int32)) hx hb dX8_hut_10 (by decide) ?_
    have h := Option.some.inj h
    subst h
    subst hQ
    exact W.iret (v := (-1 : Int32)) hx hb hr (fun t ht hW => ⟨⟨rfl, by rw [ht]; exact hP, hD⟩, hS.F ht⟩) hS.2.2 dX8_hut_11
def f_X8_behind_32 (v1 : Int32) (v2 : Int32) : Nat → Int32 → Ob → Option (Int32 × Ob)
  | 0, _, _ => none
  | nn32+1, x32_3, o32_0 => if v1 ≤ x32_3 then (if ((290 : Int32) + v2) < 0 ∨ 312 ≤ ((290 : Int32) + v2).toNatClampNeg then none else some (((o32_0.2 18) ((290 : Int32) + v2).toNatClampNeg), o32_0)) else ((f_X8_trades o32_0 (286 : Int32)).bind fun q8 : Ob => bnd (x32_3 + (1 : Int32)) fun x9 : Int32 => (f_X8_behind_32 v1 v2 nn32) x9 q8)
def f_X8_behind (o0 : Ob) (v1 : Int32) (v2 : Int32) : Option (Int32 × Ob) := bnd (f_X8_in (v1.toInt64) (0 : Int64) (40 : Int64)) fun q1 : Bool => if (b2i q1) = 0 then (some ((-1 : Int32), o0)) else (bnd (f_X8_isStrip o0 v2) fun q3 : Bool => if (b2i q3) = 0 then (some ((-1 : Int32), o0)) else ((f_X8_copies o0 (0 : Int32) (286 : Int32)).bind fun q5 : Ob => f_X8_behind_32 v1 v2 FU (0 : Int32) q5))
abbrev rmX8_behind : Room := { frames := 5, cells := 0, slots := 0, locals := 122 }
theorem dsc_X8_behind : yX8_behind.cls ≠ "java/lang/invoke/MethodHandle" ∧ yX8_behind.cls ≠ "java/lang/invoke/VarHandle" ∧ (parseMethodDescriptor yX8_behind.desc).map (fun d => d.parameters.length) = some 2 := by decide +kernel
set_option maxHeartbeats 4000000 in
set_option maxRecDepth 100000 in
theorem c_X8_behind (l : Launch) (dC : Nat → ClassId) (dI : Nat → Nat → Nat) (cB cI cZ cO : ClassId) (a0 : Nat) (g0 : Nat → Nat) (o0 : Ob) (v1 : Int32) (v2 : Int32) {r : Int32 × Ob} (h : f_X8_behind o0 v1 v2 = some r) : Ct dC dI cB cI cZ cO l yX8_behind wsX8_behind rmX8_behind [.ref a0, .int v1, .int v2] ([cX8 a0 g0 o0, cX8_0 cI g0 o0, cX8_1 cI g0 o0, cX8_3 cI g0 o0, cX8_4 cI g0 o0, cX8_6 cI g0 o0, cX8_8 cI g0 o0, cX8_9 cI g0 o0, cX8_10 cI g0 o0, cX8_12 cI g0 o0, cX8_13 cI g0 o0, cX8_15 cI g0 o0, cX8_17 cI g0 o0, cX8_18 cI g0 o0, cX8_22 cB g0 o0, cX8_27 cI g0 o0, cX8_28 cI g0 o0, cX8_29 cI g0 o0, cX8_30 cI g0 o0, cX8_31 cI g0 o0, cX8_32 cI g0 o0, cX8_33 cI g0 o0]) (some (.int r.1)) ([cX8 a0 g0 r.2, cX8_0 cI g0 r.2, cX8_1 cI g0 r.2, cX8_3 cI g0 r.2, cX8_4 cI g0 r.2, cX8_6 cI g0 r.2, cX8_8 cI g0 r.2, cX8_9 cI g0 r.2, cX8_10 cI g0 r.2, cX8_12 cI g0 r.2, cX8_13 cI g0 r.2, cX8_15 cI g0 r.2, cX8_17 cI g0 r.2, cX8_18 cI g0 r.2, cX8_22 cB g0 r.2, cX8_27 cI g0 r.2, cX8_28 cI g0 r.2, cX8_29 cI g0 r.2, cX8_30 cI g0 r.2, cX8_31 cI g0 r.2, cX8_32 cI g0 r.2, cX8_33 cI g0 r.2]) := by
  intro sz
  refine Met.ofW (cc := cX8_behind) (maxL := 4) (ret := (some .int)) (by decide) rfl ?_
  intro p e s m args below meth c s₁ B hml hv
  obtain ⟨rfl, hsz, hP, hKK, hD0⟩ := hv
  have hx := B.exec
  have hb := B.bytes
  have hr := B.returns
  have hts := atoms_spec (ws := wsX8_behind) B.pre
  have hown : s.vm.findClass RX8 = some m.cls := findClass_of_methodNamed B.named
  have hlocks := B.notSynchronized
  have hiX8 : ∀ w ∈ u_ws RX8 TX8 36, w ∈ wsX8_behind := fun w h => List.mem_cons_of_mem _ (List.mem_append_right _ h)
  subst hsz
  have hD := hD0.self (sz := s.heap.size)
  generalize hAe : va_A ([cX8 a0 g0 o0, cX8_0 cI g0 o0, cX8_1 cI g0 o0, cX8_3 cI g0 o0, cX8_4 cI g0 o0, cX8_6 cI g0 o0, cX8_8 cI g0 o0, cX8_9 cI g0 o0, cX8_10 cI g0 o0, cX8_12 cI g0 o0, cX8_13 cI g0 o0, cX8_15 cI g0 o0, cX8_17 cI g0 o0, cX8_18 cI g0 o0, cX8_22 cB g0 o0, cX8_27 cI g0 o0, cX8_28 cI g0 o0, cX8_29 cI g0 o0, cX8_30 cI g0 o0, cX8_31 cI g0 o0, cX8_32 cI g0 o0, cX8_33 cI g0 o0]) s.heap.size = A at hD ⊢
  have hA : ∀ q : Nat, s.heap.size ≤ q → A q := fun q h => by rw [← hAe]; exact Or.inr h
  have hS : va_S A s.heap s.heap [] := va_S.rf
  have hP : va_P (dC, dI) vwCl ([cX8 a0 g0 o0, cX8_0 cI g0 o0, cX8_1 cI g0 o0, cX8_3 cI g0 o0, cX8_4 cI g0 o0, cX8_6 cI g0 o0, cX8_8 cI g0 o0, cX8_9 cI g0 o0, cX8_10 cI g0 o0, cX8_12 cI g0 o0, cX8_13 cI g0 o0, cX8_15 cI g0 o0, cX8_17 cI g0 o0, cX8_18 cI g0 o0, cX8_22 cB g0 o0, cX8_27 cI g0 o0, cX8_28 cI g0 o0, cX8_29 cI g0 o0, cX8_30 cI g0 o0, cX8_31 cI g0 o0, cX8_32 cI g0 o0, cX8_33 cI g0 o0]) s.heap := hP
  have hD : va_D A ([cX8 a0 g0 o0, cX8_0 cI g0 o0, cX8_1 cI g0 o0, cX8_3 cI g0 o0, cX8_4 cI g0 o0, cX8_6 cI g0 o0, cX8_8 cI g0 o0, cX8_9 cI g0 o0, cX8_10 cI g0 o0, cX8_12 cI g0 o0, cX8_13 cI g0 o0, cX8_15 cI g0 o0, cX8_17 cI g0 o0, cX8_18 cI g0 o0, cX8_22 cB g0 o0, cX8_27 cI g0 o0, cX8_28 cI g0 o0, cX8_29 cI g0 o0, cX8_30 cI g0 o0, cX8_31 cI g0 o0, cX8_32 cI g0 o0, cX8_33 cI g0 o0]) := hD
  have hl := lv_entry ([.ref a0, .int v1, .int v2]) (n := 4) (Nat.le_of_ble_eq_true rfl)
  rw [lg_entry_eq]
  generalize (lg_sl ([.ref a0, .int v1, .int v2]) ++ List.replicate (4 - (lg_sl ([.ref a0, .int v1, .int v2])).length) Slot.unset).toArray = ls at hl ⊢
  have hl : lv_has ls 4 [(0, .ref a0), (1, .int v1), (2, .int v2)] := hl
  obtain ⟨Q, hQ⟩ : ∃ Q, Q = MQ below (Qq dC dI (some (.int r.1)) ([cX8 a0 g0 r.2, cX8_0 cI g0 r.2, cX8_1 cI g0 r.2, cX8_3 cI g0 r.2, cX8_4 cI g0 r.2, cX8_6 cI g0 r.2, cX8_8 cI g0 r.2, cX8_9 cI g0 r.2, cX8_10 cI g0 r.2, cX8_12 cI g0 r.2, cX8_13 cI g0 r.2, cX8_15 cI g0 r.2, cX8_17 cI g0 r.2, cX8_18 cI g0 r.2, cX8_22 cB g0 r.2, cX8_27 cI g0 r.2, cX8_28 cI g0 r.2, cX8_29 cI g0 r.2, cX8_30 cI g0 r.2, cX8_31 cI g0 r.2, cX8_32 cI g0 r.2, cX8_33 cI g0 r.2]) A) ([.ref a0, .int v1, .int v2] : List Value).toArray s 0 0 A := ⟨_, rfl⟩
  rw [← hQ]
  rw [f_X8_behind] at h
  clear hAe hD0
  refine lv_iload_n hx hb dX8_behind_0 rfl (lv_at hl 1 rfl) ?_
  refine lv_i2l hx hb dX8_behind_1 rfl ?_
  refine lv_lconst (v := 0) hx hb dX8_behind_2 (by decide) ?_
  refine lv_ldc2 hx hb hown (hts (.constantLong RX8 271 (40)) (List.mem_of_getElem? (i := 1) rfl)) dX8_behind_3 ?_
  obtain ⟨q1, hq1, h⟩ := bnd_e h
  refine kcS (rest := []) (w2 := ([cX8 a0 g0 o0, cX8_0 cI g0 o0, cX8_1 cI g0 o0, cX8_3 cI g0 o0, cX8_4 cI g0 o0, cX8_6 cI g0 o0, cX8_8 cI g0 o0, cX8_9 cI g0 o0, cX8_10 cI g0 o0, cX8_12 cI g0 o0, cX8_13 cI g0 o0, cX8_15 cI g0 o0, cX8_17 cI g0 o0, cX8_18 cI g0 o0, cX8_22 cB g0 o0, cX8_27 cI g0 o0, cX8_28 cI g0 o0, cX8_29 cI g0 o0, cX8_30 cI g0 o0, cX8_31 cI g0 o0, cX8_32 cI g0 o0, cX8_33 cI g0 o0])) hx hb hml hown hts hKK hP hD hS hA (c_X8_in l dC dI cB cI cZ cO (v1.toInt64) (0 : Int64) (40 : Int64) hq1) [] (atAll_map trivial) (by decide +kernel) (sameAd_map trivial) (atAll_map trivial) (agr_refl _ _ _) (va_cwS 3 hts gX8_behind_X8_in rfl rfl rfl dsc_X8_in ⟨Nat.le_of_ble_eq_true rfl, Nat.le_of_ble_eq_true rfl⟩) rfl hl.1 rfl (Nat.le_of_ble_eq_true rfl) dX8_behind_6 ⟨Nat.zero_le _, Nat.zero_le _⟩ (fun H locs hP hD hS => ?_)
  refine lv_if_eq (tgt := 20) hx hb dX8_behind_9 (by decide) (fun k2 => ?_) (fun k2 => ?_)
  · have h := ite_t k2 h
    refine lv_iconst (v := (-1 : Int32)) hx hb dX8_behind_20 (by decide) ?_
    have h := Option.some.inj h
    subst h
    subst hQ
    exact W.iret (v := (-1 : Int32)) hx hb hr (fun t ht hW => ⟨⟨rfl, by rw [ht]; exact hP, hD⟩, hS.F ht⟩) hS.2.2 dX8_behind_21
  · have h := ite_f k2 h
    refine lv_aload_n hx hb dX8_behind_12 rfl (lv_at hl 0 rfl) ?_
    refine lv_iload_n hx hb dX8_behind_13 rfl (lv_at hl 2 rfl) ?_
    obtain ⟨q3, hq3, h⟩ := bnd_e h
    refine kcV (rest := []) (w2 := ([cX8 a0 g0 o0, cX8_0 cI g0 o0, cX8_1 cI g0 o0, cX8_3 cI g0 o0, cX8_4 cI g0 o0, cX8_6 cI g0 o0, cX8_8 cI g0 o0, cX8_9 cI g0 o0, cX8_10 cI g0 o0, cX8_12 cI g0 o0, cX8_13 cI g0 o0, cX8_15 cI g0 o0, cX8_17 cI g0 o0, cX8_18 cI g0 o0, cX8_22 cB g0 o0, cX8_27 cI g0 o0, cX8_28 cI g0 o0, cX8_29 cI g0 o0, cX8_30 cI g0 o0, cX8_31 cI g0 o0, cX8_32 cI g0 o0, cX8_33 cI g0 o0])) hx hb hml hown hts hKK hP hD hS hA (c_X8_isStrip l dC dI cB cI cZ cO a0 g0 o0 v2 hq3) [0, 1, 2, 3, 4, 5, 6, 7, 8, 9, 10, 11, 12, 13, 14, 15, 16, 17, 18, 19, 20, 21] (atAll_map ⟨rfl, rfl, rfl, rfl, rfl, rfl, rfl, rfl, rfl, rfl, rfl, rfl, rfl, rfl, rfl, rfl, rfl, rfl, rfl, rfl, rfl, rfl, trivial⟩) (by decide +kernel) (sameAd_map ⟨rfl, rfl, rfl, rfl, rfl, rfl, rfl, rfl, rfl, rfl, rfl, rfl, rfl, rfl, rfl, rfl, rfl, rfl, rfl, rfl, rfl, rfl, trivial⟩) (atAll_map ⟨rfl, rfl, rfl, rfl, rfl, rfl, rfl, rfl, rfl, rfl, rfl, rfl, rfl, rfl, rfl, rfl, rfl, rfl, rfl, rfl, rfl, rfl, trivial⟩) (agr_refl _ _ _) (cwV 1 hts gX8_behind_X8_isStrip rfl rfl rfl ⟨rfl, dsc_X8_isStrip⟩ ⟨Nat.le_of_ble_eq_true rfl, Nat.le_of_ble_eq_true rfl⟩) (va_recv hKK.1 hP (ci := 8) (q0 := 0) rfl rfl) rfl hl.1 rfl (Nat.le_of_ble_eq_true rfl) dX8_behind_14 ⟨Nat.zero_le _, Nat.zero_le _⟩ (fun H locs hP hD hS => ?_)
    refine lv_if_ne (tgt := 22) hx hb dX8_behind_17 (by decide) (fun k4 => ?_) (fun k4 => ?_)
    · have h := ite_f k4 h
      refine lv_aload_n hx hb dX8_behind_22 rfl (lv_at hl 0 rfl) ?_
      refine lv_iconst (v := (0 : Int32)) hx hb dX8_behind_23 (by decide) ?_
      refine lv_sipush (v := (286 : Int32)) hx hb dX8_behind_24 (by decide) ?_
      obtain ⟨q5, hq5, h⟩ := obd_e h
      refine kcV (rest := []) (w2 := ([cX8 a0 g0 q5, cX8_0 cI g0 q5, cX8_1 cI g0 q5, cX8_3 cI g0 q5, cX8_4 cI g0 q5, cX8_6 cI g0 q5, cX8_8 cI g0 q5, cX8_9 cI g0 q5, cX8_10 cI g0 q5, cX8_12 cI g0 q5, cX8_13 cI g0 q5, cX8_15 cI g0 q5, cX8_17 cI g0 q5, cX8_18 cI g0 q5, cX8_22 cB g0 q5, cX8_27 cI g0 q5, cX8_28 cI g0 q5, cX8_29 cI g0 q5, cX8_30 cI g0 q5, cX8_31 cI g0 q5, cX8_32 cI g0 q5, cX8_33 cI g0 q5])) hx hb hml hown hts hKK hP hD hS hA (c_X8_copies l dC dI cB cI cZ cO a0 g0 o0 (0 : Int32) (286 : Int32) hq5) [0, 1, 2, 3, 4, 5, 6, 7, 8, 9, 10, 11, 12, 13, 14, 15, 16, 17, 18, 19, 20, 21] (atAll_map ⟨rfl, rfl, rfl, rfl, rfl, rfl, rfl, rfl, rfl, rfl, rfl, rfl, rfl, rfl, rfl, rfl, rfl, rfl, rfl, rfl, rfl, rfl, trivial⟩) (by decide +kernel) (sameAd_map ⟨rfl, rfl, rfl, rfl, rfl, rfl, rfl, rfl, rfl, rfl, rfl, rfl, rfl, rfl, rfl, rfl, rfl, rfl, rfl, rfl, rfl, rfl, trivial⟩) (atAll_map ⟨rfl, rfl, rfl, rfl, rfl, rfl, rfl, rfl, rfl, rfl, rfl, rfl, rfl, rfl, rfl, rfl, rfl, rfl, rfl, rfl, rfl, rfl, trivial⟩) ⟨Or.inr (by decide), Or.inr (by decide), Or.inr (by decide), Or.inr (by decide), Or.inr (by decide), Or.inr (by decide), Or.inr (by decide), Or.inr (by decide), Or.inr (by decide), Or.inr (by decide), Or.inr (by decide), Or.inr (by decide), Or.inr (by decide), Or.inr (by decide), Or.inr (by decide), Or.inr (by decide), Or.inr (by decide), Or.inr (by decide), Or.inr (by decide), Or.inr (by decide), Or.inr (by decide), Or.inr (by decide), trivial⟩ (cwV 2 hts gX8_behind_X8_copies rfl rfl rfl ⟨rfl, dsc_X8_copies⟩ ⟨Nat.le_of_ble_eq_true rfl, Nat.le_of_ble_eq_true rfl⟩) (va_recv hKK.1 hP (ci := 8) (q0 := 0) rfl rfl) rfl hl.1 rfl (Nat.le_of_ble_eq_true rfl) dX8_behind_27 ⟨Nat.zero_le _, Nat.zero_le _⟩ (fun H locs hP hD hS => ?_)
      refine lv_iconst (v := (0 : Int32)) hx hb dX8_behind_30 (by decide) ?_
      refine lv_istore_n (lv' := [(3, .int (0 : Int32)), (0, .ref a0), (1, .int v1), (2, .int v2)]) hx hb dX8_behind_31 rfl hl (by decide) rfl (fun ls hl => ?_)
      have lp32 : ∀ (nn32 : Nat) (x32_3 : Int32) (o32_0 : Ob), f_X8_behind_32 v1 v2 nn32 x32_3 o32_0 = some r → ∀ (H : Heap) (locs : List Loc) (ls : Array Slot), va_P (dC, dI) vwCl ([cX8 a0 g0 o32_0, cX8_0 cI g0 o32_0, cX8_1 cI g0 o32_0, cX8_3 cI g0 o32_0, cX8_4 cI g0 o32_0, cX8_6 cI g0 o32_0, cX8_8 cI g0 o32_0, cX8_9 cI g0 o32_0, cX8_10 cI g0 o32_0, cX8_12 cI g0 o32_0, cX8_13 cI g0 o32_0, cX8_15 cI g0 o32_0, cX8_17 cI g0 o32_0, cX8_18 cI g0 o32_0, cX8_22 cB g0 o32_0, cX8_27 cI g0 o32_0, cX8_28 cI g0 o32_0, cX8_29 cI g0 o32_0, cX8_30 cI g0 o32_0, cX8_31 cI g0 o32_0, cX8_32 cI g0 o32_0, cX8_33 cI g0 o32_0]) H → va_D A ([cX8 a0 g0 o32_0, cX8_0 cI g0 o32_0, cX8_1 cI g0 o32_0, cX8_3 cI g0 o32_0, cX8_4 cI g0 o32_0, cX8_6 cI g0 o32_0, cX8_8 cI g0 o32_0, cX8_9 cI g0 o32_0, cX8_10 cI g0 o32_0, cX8_12 cI g0 o32_0, cX8_13 cI g0 o32_0, cX8_15 cI g0 o32_0, cX8_17 cI g0 o32_0, cX8_18 cI g0 o32_0, cX8_22 cB g0 o32_0, cX8_27 cI g0 o32_0, cX8_28 cI g0 o32_0, cX8_29 cI g0 o32_0, cX8_30 cI g0 o32_0, cX8_31 cI g0 o32_0, cX8_32 cI g0 o32_0, cX8_33 cI g0 o32_0]) → va_S A s.heap H locs → lv_has ls 4 [(0, .ref a0), (1, .int v1), (2, .int v2), (3, .int x32_3)] → W p l e (headSpec wsX8_behind rmX8_behind).room s m ([.ref a0, .int v1, .int v2] : List Value).toArray below meth c H locs 0 0 Q (F0 m 32 ls []) := by
        intro nn32
        induction nn32 with
        | zero => intro x32_3 o32_0 h; rw [f_X8_behind_32] at h; cases h
        | succ nn32 ih32 =>
          intro x32_3 o32_0 h H locs ls hP hD hS hl
          rw [f_X8_behind_32] at h
          refine lv_iload_n hx hb dX8_behind_32 rfl (lv_at hl 3 rfl) ?_
          refine lv_iload_n hx hb dX8_behind_33 rfl (lv_at hl 1 rfl) ?_
          refine lv_icmp_ge (tgt := 50) hx hb dX8_behind_34 (by decide) (fun k6 => ?_) (fun k6 => ?_)
          · have h := ite_t k6 h
            refine lv_aload_n hx hb dX8_behind_50 rfl (lv_at hl 0 rfl) ?_
            refine va_get (D := (dC, dI)) (ci := 8) (v := .ref (g0 18)) (C := RX8) (T := TX8) (N := 36) hx hb hts hiX8 hown hKK.1 hP 0 rfl rfl 18 (by decide) (hts (.fieldLink RX8 46 "SlideLandModel" "slot" "[I") (List.mem_of_getElem? (i := 2) rfl)) (fun _ h9 => h9) rfl dX8_behind_51 ?_
            refine lv_sipush (v := (290 : Int32)) hx hb dX8_behind_54 (by decide) ?_
            refine lv_iload_n hx hb dX8_behind_57 rfl (lv_at hl 2 rfl) ?_
            refine lv_iadd hx hb dX8_behind_58 ?_
            obtain ⟨k7, h⟩ := ite_n h
            refine va_iald hx hb hKK.1 hP 13 1 rfl rfl k7 dX8_behind_59 ?_
            have h := Option.some.inj h
            subst h
            subst hQ
            exact W.iret (v := ((o32_0.2 18) ((290 : Int32) + v2).toNatClampNeg)) hx hb hr (fun t ht hW => ⟨⟨rfl, by rw [ht]; exact hP, hD⟩, hS.F ht⟩) hS.2.2 dX8_behind_60
          · have h := ite_f k6 h
            refine lv_aload_n hx hb dX8_behind_37 rfl (lv_at hl 0 rfl) ?_
            refine lv_sipush (v := (286 : Int32)) hx hb dX8_behind_38 (by decide) ?_
            obtain ⟨q8, hq8, h⟩ := obd_e h
            refine kcV (rest := []) (w2 := ([cX8 a0 g0 q8, cX8_0 cI g0 q8, cX8_1 cI g0 q8, cX8_3 cI g0 q8, cX8_4 cI g0 q8, cX8_6 cI g0 q8, cX8_8 cI g0 q8, cX8_9 cI g0 q8, cX8_10 cI g0 q8, cX8_12 cI g0 q8, cX8_13 cI g0 q8, cX8_15 cI g0 q8, cX8_17 cI g0 q8, cX8_18 cI g0 q8, cX8_22 cB g0 q8, cX8_27 cI g0 q8, cX8_28 cI g0 q8, cX8_29 cI g0 q8, cX8_30 cI g0 q8, cX8_31 cI g0 q8, cX8_32 cI g0 q8, cX8_33 cI g0 q8])) hx hb hml hown hts hKK hP hD hS hA (c_X8_trades l dC dI cB cI cZ cO a0 g0 o32_0 (286 : Int32) hq8) [0, 1, 2, 3, 4, 5, 6, 7, 8, 9, 10, 11, 12, 13, 14, 15, 16, 17, 18, 19, 20, 21] (atAll_map ⟨rfl, rfl, rfl, rfl, rfl, rfl, rfl, rfl, rfl, rfl, rfl, rfl, rfl, rfl, rfl, rfl, rfl, rfl, rfl, rfl, rfl, rfl, trivial⟩) (by decide +kernel) (sameAd_map ⟨rfl, rfl, rfl, rfl, rfl, rfl, rfl, rfl, rfl, rfl, rfl, rfl, rfl, rfl, rfl, rfl, rfl, rfl, rfl, rfl, rfl, rfl, trivial⟩) (atAll_map ⟨rfl, rfl, rfl, rfl, rfl, rfl, rfl, rfl, rfl, rfl, rfl, rfl, rfl, rfl, rfl, rfl, rfl, rfl, rfl, rfl, rfl, rfl, trivial⟩) ⟨Or.inr (by decide), Or.inr (by decide), Or.inr (by decide), Or.inr (by decide), Or.inr (by decide), Or.inr (by decide), Or.inr (by decide), Or.inr (by decide), Or.inr (by decide), Or.inr (by decide), Or.inr (by decide), Or.inr (by decide), Or.inr (by decide), Or.inr (by decide), Or.inr (by decide), Or.inr (by decide), Or.inr (by decide), Or.inr (by decide), Or.inr (by decide), Or.inr (by decide), Or.inr (by decide), Or.inr (by decide), trivial⟩ (cwV 1 hts gX8_behind_X8_trades rfl rfl rfl ⟨rfl, dsc_X8_trades⟩ ⟨Nat.le_of_ble_eq_true rfl, Nat.le_of_ble_eq_true rfl⟩) (va_recv hKK.1 hP (ci := 8) (q0 := 0) rfl rfl) rfl hl.1 rfl (Nat.le_of_ble_eq_true rfl) dX8_behind_41 ⟨Nat.zero_le _, Nat.zero_le _⟩ (fun H locs hP hD hS => ?_)
            obtain ⟨x9, hx9, h⟩ := bnd_e h
            refine lv_iinc (v := x9) (lv' := [(3, .int x9), (0, .ref a0), (1, .int v1), (2, .int v2)]) hx hb dX8_behind_44 hl (k := 3) rfl (by rw [← hx9]; rfl) (by decide) rfl (fun ls hl => ?_)
            refine lv_goto (tgt := 32) hx hb dX8_behind_47 (by decide) ?_
            exact ih32 x9 q8 h _ _ _ hP hD hS (lv_sub hl [1, 2, 3, 0] rfl)
      exact lp32 FU (0 : Int32) q5 h _ _ _ hP hD hS (lv_sub hl [1, 2, 3, 0] rfl)
    · have h := ite_t k4 h
      refine lv_iconst (v := (-1 : Int32)) hx hb dX8_behind_20 (by decide) ?_
      have h := Option.some.inj h
      subst h
      subst hQ
      exact W.iret (v := (-1 : Int32)) hx hb hr (fun t ht hW => ⟨⟨rfl, by rw [ht]; exact hP, hD⟩, hS.F ht⟩) hS.2.2 dX8_behind_21
def f_X8_goods_4 (o0 : Ob) (v1 : Int32) : Nat → Int32 → Int32 → Option (Int32)
  | 0, _, _ => none
  | nn4+1, x4_2, x4_3 => if (o0.1 2) ≤ x4_3 then (some x4_2) else (if ((v1 + (4 : Int32)) + x4_3) < 0 ∨ 312 ≤ ((v1 + (4 : Int32)) + x4_3).toNatClampNeg then none else bnd (x4_2 + ((o0.2 18) ((v1 + (4 : Int32)) + x4_3).toNatClampNeg)) fun x3 : Int32 => bnd (x4_3 + (1 : Int32)) fun x4 : Int32 => (f_X8_goods_4 o0 v1 nn4) x3 x4)
def f_X8_goods (o0 : Ob) (v1 : Int32) : Option (Int32) := f_X8_goods_4 o0 v1 FU (0 : Int32) (0 : Int32)
abbrev rmX8_goods : Room := { frames := 0, cells := 0, slots := 0, locals := 0 }
theorem dsc_X8_goods : yX8_goods.cls ≠ "java/lang/invoke/MethodHandle" ∧ yX8_goods.cls ≠ "java/lang/invoke/VarHandle" ∧ (parseMethodDescriptor yX8_goods.desc).map (fun d => d.parameters.length) = some 1 := by decide +kernel
set_option maxHeartbeats 4000000 in
set_option maxRecDepth 100000 in
theorem c_X8_goods (l : Launch) (dC : Nat → ClassId) (dI : Nat → Nat → Nat) (cB cI cZ cO : ClassId) (a0 : Nat) (g0 : Nat → Nat) (o0 : Ob) (v1 : Int32) {r : Int32} (h : f_X8_goods o0 v1 = some r) : Ct dC dI cB cI cZ cO l yX8_goods wsX8_goods rmX8_goods [.ref a0, .int v1] ([cX8 a0 g0 o0, cX8_0 cI g0 o0, cX8_1 cI g0 o0, cX8_3 cI g0 o0, cX8_4 cI g0 o0, cX8_6 cI g0 o0, cX8_8 cI g0 o0, cX8_9 cI g0 o0, cX8_10 cI g0 o0, cX8_12 cI g0 o0, cX8_13 cI g0 o0, cX8_15 cI g0 o0, cX8_17 cI g0 o0, cX8_18 cI g0 o0, cX8_22 cB g0 o0, cX8_27 cI g0 o0, cX8_28 cI g0 o0, cX8_29 cI g0 o0, cX8_30 cI g0 o0, cX8_31 cI g0 o0, cX8_32 cI g0 o0, cX8_33 cI g0 o0]) (some (.int r)) ([cX8 a0 g0 o0, cX8_0 cI g0 o0, cX8_1 cI g0 o0, cX8_3 cI g0 o0, cX8_4 cI g0 o0, cX8_6 cI g0 o0, cX8_8 cI g0 o0, cX8_9 cI g0 o0, cX8_10 cI g0 o0, cX8_12 cI g0 o0, cX8_13 cI g0 o0, cX8_15 cI g0 o0, cX8_17 cI g0 o0, cX8_18 cI g0 o0, cX8_22 cB g0 o0, cX8_27 cI g0 o0, cX8_28 cI g0 o0, cX8_29 cI g0 o0, cX8_30 cI g0 o0, cX8_31 cI g0 o0, cX8_32 cI g0 o0, cX8_33 cI g0 o0]) := by
  intro sz
  refine Met.ofW (cc := cX8_goods) (maxL := 4) (ret := (some .int)) (by decide) rfl ?_
  intro p e s m args below meth c s₁ B hml hv
  obtain ⟨rfl, hsz, hP, hKK, hD0⟩ := hv
  have hx := B.exec
  have hb := B.bytes
  have hr := B.returns
  have hts := atoms_spec (ws := wsX8_goods) B.pre
  have hown : s.vm.findClass RX8 = some m.cls := findClass_of_methodNamed B.named
  have hlocks := B.notSynchronized
  have hiX8 : ∀ w ∈ u_ws RX8 TX8 36, w ∈ wsX8_goods := fun w h => List.mem_cons_of_mem _ (List.mem_append_right _ h)
  subst hsz
  have hD := hD0.self (sz := s.heap.size)
  generalize hAe : va_A ([cX8 a0 g0 o0, cX8_0 cI g0 o0, cX8_1 cI g0 o0, cX8_3 cI g0 o0, cX8_4 cI g0 o0, cX8_6 cI g0 o0, cX8_8 cI g0 o0, cX8_9 cI g0 o0, cX8_10 cI g0 o0, cX8_12 cI g0 o0, cX8_13 cI g0 o0, cX8_15 cI g0 o0, cX8_17 cI g0 o0, cX8_18 cI g0 o0, cX8_22 cB g0 o0, cX8_27 cI g0 o0, cX8_28 cI g0 o0, cX8_29 cI g0 o0, cX8_30 cI g0 o0, cX8_31 cI g0 o0, cX8_32 cI g0 o0, cX8_33 cI g0 o0]) s.heap.size = A at hD ⊢
  have hA : ∀ q : Nat, s.heap.size ≤ q → A q := fun q h => by rw [← hAe]; exact Or.inr h
  have hS : va_S A s.heap s.heap [] := va_S.rf
  have hP : va_P (dC, dI) vwCl ([cX8 a0 g0 o0, cX8_0 cI g0 o0, cX8_1 cI g0 o0, cX8_3 cI g0 o0, cX8_4 cI g0 o0, cX8_6 cI g0 o0, cX8_8 cI g0 o0, cX8_9 cI g0 o0, cX8_10 cI g0 o0, cX8_12 cI g0 o0, cX8_13 cI g0 o0, cX8_15 cI g0 o0, cX8_17 cI g0 o0, cX8_18 cI g0 o0, cX8_22 cB g0 o0, cX8_27 cI g0 o0, cX8_28 cI g0 o0, cX8_29 cI g0 o0, cX8_30 cI g0 o0, cX8_31 cI g0 o0, cX8_32 cI g0 o0, cX8_33 cI g0 o0]) s.heap := hP
  have hD : va_D A ([cX8 a0 g0 o0, cX8_0 cI g0 o0, cX8_1 cI g0 o0, cX8_3 cI g0 o0, cX8_4 cI g0 o0, cX8_6 cI g0 o0, cX8_8 cI g0 o0, cX8_9 cI g0 o0, cX8_10 cI g0 o0, cX8_12 cI g0 o0, cX8_13 cI g0 o0, cX8_15 cI g0 o0, cX8_17 cI g0 o0, cX8_18 cI g0 o0, cX8_22 cB g0 o0, cX8_27 cI g0 o0, cX8_28 cI g0 o0, cX8_29 cI g0 o0, cX8_30 cI g0 o0, cX8_31 cI g0 o0, cX8_32 cI g0 o0, cX8_33 cI g0 o0]) := hD
  have hl := lv_entry ([.ref a0, .int v1]) (n := 4) (Nat.le_of_ble_eq_true rfl)
  rw [lg_entry_eq]
  generalize (lg_sl ([.ref a0, .int v1]) ++ List.replicate (4 - (lg_sl ([.ref a0, .int v1])).length) Slot.unset).toArray = ls at hl ⊢
  have hl : lv_has ls 4 [(0, .ref a0), (1, .int v1)] := hl
  obtain ⟨Q, hQ⟩ : ∃ Q, Q = MQ below (Qq dC dI (some (.int r)) ([cX8 a0 g0 o0, cX8_0 cI g0 o0, cX8_1 cI g0 o0, cX8_3 cI g0 o0, cX8_4 cI g0 o0, cX8_6 cI g0 o0, cX8_8 cI g0 o0, cX8_9 cI g0 o0, cX8_10 cI g0 o0, cX8_12 cI g0 o0, cX8_13 cI g0 o0, cX8_15 cI g0 o0, cX8_17 cI g0 o0, cX8_18 cI g0 o0, cX8_22 cB g0 o0, cX8_27 cI g0 o0, cX8_28 cI g0 o0, cX8_29 cI g0 o0, cX8_30 cI g0 o0, cX8_31 cI g0 o0, cX8_32 cI g0 o0, cX8_33 cI g0 o0]) A) ([.ref a0, .int v1] : List Value).toArray s 0 0 A := ⟨_, rfl⟩
  rw [← hQ]
  rw [f_X8_goods] at h
  clear hAe hD0
  refine lv_iconst (v := (0 : Int32)) hx hb dX8_goods_0 (by decide) ?_
  refine lv_istore_n (lv' := [(2, .int (0 : Int32)), (0, .ref a0), (1, .int v1)]) hx hb dX8_goods_1 rfl hl (by decide) rfl (fun ls hl => ?_)
  refine lv_iconst (v := (0 : Int32)) hx hb dX8_goods_2 (by decide) ?_
  refine lv_istore_n (lv' := [(3, .int (0 : Int32)), (2, .int (0 : Int32)), (0, .ref a0), (1, .int v1)]) hx hb dX8_goods_3 rfl hl (by decide) rfl (fun ls hl => ?_)
  have lp4 : ∀ (nn4 : Nat) (x4_2 : Int32) (x4_3 : Int32), f_X8_goods_4 o0 v1 nn4 x4_2 x4_3 = some r → ∀ (H : Heap) (locs : List Loc) (ls : Array Slot), va_P (dC, dI) vwCl ([cX8 a0 g0 o0, cX8_0 cI g0 o0, cX8_1 cI g0 o0, cX8_3 cI g0 o0, cX8_4 cI g0 o0, cX8_6 cI g0 o0, cX8_8 cI g0 o0, cX8_9 cI g0 o0, cX8_10 cI g0 o0, cX8_12 cI g0 o0, cX8_13 cI g0 o0, cX8_15 cI g0 o0, cX8_17 cI g0 o0, cX8_18 cI g0 o0, cX8_22 cB g0 o0, cX8_27 cI g0 o0, cX8_28 cI g0 o0, cX8_29 cI g0 o0, cX8_30 cI g0 o0, cX8_31 cI g0 o0, cX8_32 cI g0 o0, cX8_33 cI g0 o0]) H → va_D A ([cX8 a0 g0 o0, cX8_0 cI g0 o0, cX8_1 cI g0 o0, cX8_3 cI g0 o0, cX8_4 cI g0 o0, cX8_6 cI g0 o0, cX8_8 cI g0 o0, cX8_9 cI g0 o0, cX8_10 cI g0 o0, cX8_12 cI g0 o0, cX8_13 cI g0 o0, cX8_15 cI g0 o0, cX8_17 cI g0 o0, cX8_18 cI g0 o0, cX8_22 cB g0 o0, cX8_27 cI g0 o0, cX8_28 cI g0 o0, cX8_29 cI g0 o0, cX8_30 cI g0 o0, cX8_31 cI g0 o0, cX8_32 cI g0 o0, cX8_33 cI g0 o0]) → va_S A s.heap H locs → lv_has ls 4 [(0, .ref a0), (1, .int v1), (2, .int x4_2), (3, .int x4_3)] → W p l e (headSpec wsX8_goods rmX8_goods).room s m ([.ref a0, .int v1] : List Value).toArray below meth c H locs 0 0 Q (F0 m 4 ls []) := by
    intro nn4
    induction nn4 with
    | zero => intro x4_2 x4_3 h; rw [f_X8_goods_4] at h; cases h
    | succ nn4 ih4 =>
      intro x4_2 x4_3 h H locs ls hP hD hS hl
      rw [f_X8_goods_4] at h
      refine lv_iload_n hx hb dX8_goods_4 rfl (lv_at hl 3 rfl) ?_
      refine lv_aload_n hx hb dX8_goods_5 rfl (lv_at hl 0 rfl) ?_
      refine va_get (D := (dC, dI)) (ci := 8) (v := .int (o0.1 2)) (C := RX8) (T := TX8) (N := 36) hx hb hts hiX8 hown hKK.1 hP 0 rfl rfl 2 (by decide) (hts (.fieldLink RX8 98 "SlideLandModel" "strips" "I") (List.mem_of_getElem? (i := 1) rfl)) (fun _ h9 => h9) rfl dX8_goods_6 ?_
      refine lv_icmp_ge (tgt := 31) hx hb dX8_goods_9 (by decide) (fun k1 => ?_) (fun k1 => ?_)
      · have h := ite_t k1 h
        refine lv_iload_n hx hb dX8_goods_31 rfl (lv_at hl 2 rfl) ?_
        have h := Option.some.inj h
        subst h
        subst hQ
        exact W.iret (v := x4_2) hx hb hr (fun t ht hW => ⟨⟨rfl, by rw [ht]; exact hP, hD⟩, hS.F ht⟩) hS.2.2 dX8_goods_32
      · have h := ite_f k1 h
        refine lv_iload_n hx hb dX8_goods_12 rfl (lv_at hl 2 rfl) ?_
        refine lv_aload_n hx hb dX8_goods_13 rfl (lv_at hl 0 rfl) ?_
        refine va_get (D := (dC, dI)) (ci := 8) (v := .ref (g0 18)) (C := RX8) (T := TX8) (N := 36) hx hb hts hiX8 hown hKK.1 hP 0 rfl rfl 18 (by decide) (hts (.fieldLink RX8 46 "SlideLandModel" "slot" "[I") (List.mem_of_getElem? (i := 2) rfl)) (fun _ h9 => h9) rfl dX8_goods_14 ?_
        refine lv_iload_n hx hb dX8_goods_17 rfl (lv_at hl 1 rfl) ?_
        refine lv_iconst (v := (4 : Int32)) hx hb dX8_goods_18 (by decide) ?_
        refine lv_iadd hx hb dX8_goods_19 ?_
        refine lv_iload_n hx hb dX8_goods_20 rfl (lv_at hl 3 rfl) ?_
        refine lv_iadd hx hb dX8_goods_21 ?_
        obtain ⟨k2, h⟩ := ite_n h
        refine va_iald hx hb hKK.1 hP 13 1 rfl rfl k2 dX8_goods_22 ?_
        refine lv_iadd hx hb dX8_goods_23 ?_
        obtain ⟨x3, hx3, h⟩ := bnd_e h
        refine lv_topE hx3 ?_
        refine lv_istore_n (lv' := [(2, .int x3), (0, .ref a0), (1, .int v1), (3, .int x4_3)]) hx hb dX8_goods_24 rfl hl (by decide) rfl (fun ls hl => ?_)
        obtain ⟨x4, hx4, h⟩ := bnd_e h
        refine lv_iinc (v := x4) (lv' := [(3, .int x4), (2, .int x3), (0, .ref a0), (1, .int v1)]) hx hb dX8_goods_25 hl (k := 3) rfl (by rw [← hx4]; rfl) (by decide) rfl (fun ls hl => ?_)
        refine lv_goto (tgt := 4) hx hb dX8_goods_28 (by decide) ?_
        exact ih4 x3 x4 h _ _ _ hP hD hS (lv_sub hl [2, 3, 1, 0] rfl)
  exact lp4 FU (0 : Int32) (0 : Int32) h _ _ _ hP hD hS (lv_sub hl [2, 3, 1, 0] rfl)
def f_X8_goodsBy_27 (v2 : Int32) : Nat → Int32 → Ob → Option (Int32 × Ob)
  | 0, _, _ => none
  | nn27+1, x27_3, o27_0 => if v2 ≤ x27_3 then ((f_X8_goods o27_0 (286 : Int32)).bind fun q3 : Int32 => some (q3, o27_0)) else ((f_X8_trades o27_0 (286 : Int32)).bind fun q4 : Ob => bnd (x27_3 + (1 : Int32)) fun x5 : Int32 => (f_X8_goodsBy_27 v2 nn27) x5 q4)
def f_X8_goodsBy_25 (v2 : Int32) (o25_0 : Ob) : Option (Int32 × Ob) := f_X8_goodsBy_27 v2 FU (0 : Int32) o25_0
def f_X8_goodsBy (o0 : Ob) (v1 : Int32) (v2 : Int32) : Option (Int32 × Ob) := (f_X8_copies o0 (0 : Int32) (286 : Int32)).bind fun q1 : Ob => if v1 < 0 then (f_X8_goodsBy_25 v2 q1) else ((f_X8_gives q1 (286 : Int32) (v1 / (2 : Int32)) (v1 - v1 / (2 : Int32) * (2 : Int32))).bind fun q7 : Ob => f_X8_goodsBy_25 v2 q7)
abbrev rmX8_goodsBy : Room := { frames := 5, cells := 0, slots := 0, locals := 122 }
theorem dsc_X8_goodsBy : yX8_goodsBy.cls ≠ "java/lang/invoke/MethodHandle" ∧ yX8_goodsBy.cls ≠ "java/lang/invoke/VarHandle" ∧ (parseMethodDescriptor yX8_goodsBy.desc).map (fun d => d.parameters.length) = some 2 := by decide +kernel
set_option maxHeartbeats 4000000 in
set_option maxRecDepth 100000 in
theorem c_X8_goodsBy (l : Launch) (dC : Nat → ClassId) (dI : Nat → Nat → Nat) (cB cI cZ cO : ClassId) (a0 : Nat) (g0 : Nat → Nat) (o0 : Ob) (v1 : Int32) (v2 : Int32) {r : Int32 × Ob} (h : f_X8_goodsBy o0 v1 v2 = some r) : Ct dC dI cB cI cZ cO l yX8_goodsBy wsX8_goodsBy rmX8_goodsBy [.ref a0, .int v1, .int v2] ([cX8 a0 g0 o0, cX8_0 cI g0 o0, cX8_1 cI g0 o0, cX8_3 cI g0 o0, cX8_4 cI g0 o0, cX8_6 cI g0 o0, cX8_8 cI g0 o0, cX8_9 cI g0 o0, cX8_10 cI g0 o0, cX8_12 cI g0 o0, cX8_13 cI g0 o0, cX8_15 cI g0 o0, cX8_17 cI g0 o0, cX8_18 cI g0 o0, cX8_22 cB g0 o0, cX8_27 cI g0 o0, cX8_28 cI g0 o0, cX8_29 cI g0 o0, cX8_30 cI g0 o0, cX8_31 cI g0 o0, cX8_32 cI g0 o0, cX8_33 cI g0 o0]) (some (.int r.1)) ([cX8 a0 g0 r.2, cX8_0 cI g0 r.2, cX8_1 cI g0 r.2, cX8_3 cI g0 r.2, cX8_4 cI g0 r.2, cX8_6 cI g0 r.2, cX8_8 cI g0 r.2, cX8_9 cI g0 r.2, cX8_10 cI g0 r.2, cX8_12 cI g0 r.2, cX8_13 cI g0 r.2, cX8_15 cI g0 r.2, cX8_17 cI g0 r.2, cX8_18 cI g0 r.2, cX8_22 cB g0 r.2, cX8_27 cI g0 r.2, cX8_28 cI g0 r.2, cX8_29 cI g0 r.2, cX8_30 cI g0 r.2, cX8_31 cI g0 r.2, cX8_32 cI g0 r.2, cX8_33 cI g0 r.2]) := by
  intro sz
  refine Met.ofW (cc := cX8_goodsBy) (maxL := 4) (ret := (some .int)) (by decide) rfl ?_
  intro p e s m args below meth c s₁ B hml hv
  obtain ⟨rfl, hsz, hP, hKK, hD0⟩ := hv
  have hx := B.exec
  have hb := B.bytes
  have hr := B.returns
  have hts := atoms_spec (ws := wsX8_goodsBy) B.pre
  have hown : s.vm.findClass RX8 = some m.cls := findClass_of_methodNamed B.named
  have hlocks := B.notSynchronized
  subst hsz
  have hD := hD0.self (sz := s.heap.size)
  generalize hAe : va_A ([cX8 a0 g0 o0, cX8_0 cI g0 o0, cX8_1 cI g0 o0, cX8_3 cI g0 o0, cX8_4 cI g0 o0, cX8_6 cI g0 o0, cX8_8 cI g0 o0, cX8_9 cI g0 o0, cX8_10 cI g0 o0, cX8_12 cI g0 o0, cX8_13 cI g0 o0, cX8_15 cI g0 o0, cX8_17 cI g0 o0, cX8_18 cI g0 o0, cX8_22 cB g0 o0, cX8_27 cI g0 o0, cX8_28 cI g0 o0, cX8_29 cI g0 o0, cX8_30 cI g0 o0, cX8_31 cI g0 o0, cX8_32 cI g0 o0, cX8_33 cI g0 o0]) s.heap.size = A at hD ⊢
  have hA : ∀ q : Nat, s.heap.size ≤ q → A q := fun q h => by rw [← hAe]; exact Or.inr h
  have hS : va_S A s.heap s.heap [] := va_S.rf
  have hP : va_P (dC, dI) vwCl ([cX8 a0 g0 o0, cX8_0 cI g0 o0, cX8_1 cI g0 o0, cX8_3 cI g0 o0, cX8_4 cI g0 o0, cX8_6 cI g0 o0, cX8_8 cI g0 o0, cX8_9 cI g0 o0, cX8_10 cI g0 o0, cX8_12 cI g0 o0, cX8_13 cI g0 o0, cX8_15 cI g0 o0, cX8_17 cI g0 o0, cX8_18 cI g0 o0, cX8_22 cB g0 o0, cX8_27 cI g0 o0, cX8_28 cI g0 o0, cX8_29 cI g0 o0, cX8_30 cI g0 o0, cX8_31 cI g0 o0, cX8_32 cI g0 o0, cX8_33 cI g0 o0]) s.heap := hP
  have hD : va_D A ([cX8 a0 g0 o0, cX8_0 cI g0 o0, cX8_1 cI g0 o0, cX8_3 cI g0 o0, cX8_4 cI g0 o0, cX8_6 cI g0 o0, cX8_8 cI g0 o0, cX8_9 cI g0 o0, cX8_10 cI g0 o0, cX8_12 cI g0 o0, cX8_13 cI g0 o0, cX8_15 cI g0 o0, cX8_17 cI g0 o0, cX8_18 cI g0 o0, cX8_22 cB g0 o0, cX8_27 cI g0 o0, cX8_28 cI g0 o0, cX8_29 cI g0 o0, cX8_30 cI g0 o0, cX8_31 cI g0 o0, cX8_32 cI g0 o0, cX8_33 cI g0 o0]) := hD
  have hl := lv_entry ([.ref a0, .int v1, .int v2]) (n := 4) (Nat.le_of_ble_eq_true rfl)
  rw [lg_entry_eq]
  generalize (lg_sl ([.ref a0, .int v1, .int v2]) ++ List.replicate (4 - (lg_sl ([.ref a0, .int v1, .int v2])).length) Slot.unset).toArray = ls at hl ⊢
  have hl : lv_has ls 4 [(0, .ref a0), (1, .int v1), (2, .int v2)] := hl
  obtain ⟨Q, hQ⟩ : ∃ Q, Q = MQ below (Qq dC dI (some (.int r.1)) ([cX8 a0 g0 r.2, cX8_0 cI g0 r.2, cX8_1 cI g0 r.2, cX8_3 cI g0 r.2, cX8_4 cI g0 r.2, cX8_6 cI g0 r.2, cX8_8 cI g0 r.2, cX8_9 cI g0 r.2, cX8_10 cI g0 r.2, cX8_12 cI g0 r.2, cX8_13 cI g0 r.2, cX8_15 cI g0 r.2, cX8_17 cI g0 r.2, cX8_18 cI g0 r.2, cX8_22 cB g0 r.2, cX8_27 cI g0 r.2, cX8_28 cI g0 r.2, cX8_29 cI g0 r.2, cX8_30 cI g0 r.2, cX8_31 cI g0 r.2, cX8_32 cI g0 r.2, cX8_33 cI g0 r.2]) A) ([.ref a0, .int v1, .int v2] : List Value).toArray s 0 0 A := ⟨_, rfl⟩
  rw [← hQ]
  rw [f_X8_goodsBy] at h
  clear hAe hD0
  refine lv_aload_n hx hb dX8_goodsBy_0 rfl (lv_at hl 0 rfl) ?_
  refine lv_iconst (v := (0 : Int32)) hx hb dX8_goodsBy_1 (by decide) ?_
  refine lv_sipush (v := (286 : Int32)) hx hb dX8_goodsBy_2 (by decide) ?_
  obtain ⟨q1, hq1, h⟩ := obd_e h
  refine kcV (rest := []) (w2 := ([cX8 a0 g0 q1, cX8_0 cI g0 q1, cX8_1 cI g0 q1, cX8_3 cI g0 q1, cX8_4 cI g0 q1, cX8_6 cI g0 q1, cX8_8 cI g0 q1, cX8_9 cI g0 q1, cX8_10 cI g0 q1, cX8_12 cI g0 q1, cX8_13 cI g0 q1, cX8_15 cI g0 q1, cX8_17 cI g0 q1, cX8_18 cI g0 q1, cX8_22 cB g0 q1, cX8_27 cI g0 q1, cX8_28 cI g0 q1, cX8_29 cI g0 q1, cX8_30 cI g0 q1, cX8_31 cI g0 q1, cX8_32 cI g0 q1, cX8_33 cI g0 q1])) hx hb hml hown hts hKK hP hD hS hA (c_X8_copies l dC dI cB cI cZ cO a0 g0 o0 (0 : Int32) (286 : Int32) hq1) [0, 1, 2, 3, 4, 5, 6, 7, 8, 9, 10, 11, 12, 13, 14, 15, 16, 17, 18, 19, 20, 21] (atAll_map ⟨rfl, rfl, rfl, rfl, rfl, rfl, rfl, rfl, rfl, rfl, rfl, rfl, rfl, rfl, rfl, rfl, rfl, rfl, rfl, rfl, rfl, rfl, trivial⟩) (by decide +kernel) (sameAd_map ⟨rfl, rfl, rfl, rfl, rfl, rfl, rfl, rfl, rfl, rfl, rfl, rfl, rfl, rfl, rfl, rfl, rfl, rfl, rfl, rfl, rfl, rfl, trivial⟩) (atAll_map ⟨rfl, rfl, rfl, rfl, rfl, rfl, rfl, rfl, rfl, rfl, rfl, rfl, rfl, rfl, rfl, rfl, rfl, rfl, rfl, rfl, rfl, rfl, trivial⟩) ⟨Or.inr (by decide), Or.inr (by decide), Or.inr (by decide), Or.inr (by decide), Or.inr (by decide), Or.inr (by decide), Or.inr (by decide), Or.inr (by decide), Or.inr (by decide), Or.inr (by decide), Or.inr (by decide), Or.inr (by decide), Or.inr (by decide), Or.inr (by decide), Or.inr (by decide), Or.inr (by decide), Or.inr (by decide), Or.inr (by decide), Or.inr (by decide), Or.inr (by decide), Or.inr (by decide), Or.inr (by decide), trivial⟩ (cwV 2 hts gX8_goodsBy_X8_copies rfl rfl rfl ⟨rfl, dsc_X8_copies⟩ ⟨Nat.le_of_ble_eq_true rfl, Nat.le_of_ble_eq_true rfl⟩) (va_recv hKK.1 hP (ci := 8) (q0 := 0) rfl rfl) rfl hl.1 rfl (Nat.le_of_ble_eq_true rfl) dX8_goodsBy_5 ⟨Nat.zero_le _, Nat.zero_le _⟩ (fun H locs hP hD hS => ?_)
  refine lv_iload_n hx hb dX8_goodsBy_8 rfl (lv_at hl 1 rfl) ?_
  have jn25 : ∀ (o25_0 : Ob), f_X8_goodsBy_25 v2 o25_0 = some r → ∀ (H : Heap) (locs : List Loc) (ls : Array Slot), va_P (dC, dI) vwCl ([cX8 a0 g0 o25_0, cX8_0 cI g0 o25_0, cX8_1 cI g0 o25_0, cX8_3 cI g0 o25_0, cX8_4 cI g0 o25_0, cX8_6 cI g0 o25_0, cX8_8 cI g0 o25_0, cX8_9 cI g0 o25_0, cX8_10 cI g0 o25_0, cX8_12 cI g0 o25_0, cX8_13 cI g0 o25_0, cX8_15 cI g0 o25_0, cX8_17 cI g0 o25_0, cX8_18 cI g0 o25_0, cX8_22 cB g0 o25_0, cX8_27 cI g0 o25_0, cX8_28 cI g0 o25_0, cX8_29 cI g0 o25_0, cX8_30 cI g0 o25_0, cX8_31 cI g0 o25_0, cX8_32 cI g0 o25_0, cX8_33 cI g0 o25_0]) H → va_D A ([cX8 a0 g0 o25_0, cX8_0 cI g0 o25_0, cX8_1 cI g0 o25_0, cX8_3 cI g0 o25_0, cX8_4 cI g0 o25_0, cX8_6 cI g0 o25_0, cX8_8 cI g0 o25_0, cX8_9 cI g0 o25_0, cX8_10 cI g0 o25_0, cX8_12 cI g0 o25_0, cX8_13 cI g0 o25_0, cX8_15 cI g0 o25_0, cX8_17 cI g0 o25_0, cX8_18 cI g0 o25_0, cX8_22 cB g0 o25_0, cX8_27 cI g0 o25_0, cX8_28 cI g0 o25_0, cX8_29 cI g0 o25_0, cX8_30 cI g0 o25_0, cX8_31 cI g0 o25_0, cX8_32 cI g0 o25_0, cX8_33 cI g0 o25_0]) → va_S A s.heap H locs → lv_has ls 4 [(0, .ref a0), (2, .int v2)] → W p l e (headSpec wsX8_goodsBy rmX8_goodsBy).room s m ([.ref a0, .int v1, .int v2] : List Value).toArray below meth c H locs 0 0 Q (F0 m 25 ls []) := by
    intro o25_0 h H locs ls hP hD hS hl
    rw [f_X8_goodsBy_25] at h
    refine lv_iconst (v := (0 : Int32)) hx hb dX8_goodsBy_25 (by decide) ?_
    refine lv_istore_n (lv' := [(3, .int (0 : Int32)), (0, .ref a0), (2, .int v2)]) hx hb dX8_goodsBy_26 rfl hl (by decide) rfl (fun ls hl => ?_)
    have lp27 : ∀ (nn27 : Nat) (x27_3 : Int32) (o27_0 : Ob), f_X8_goodsBy_27 v2 nn27 x27_3 o27_0 = some r → ∀ (H : Heap) (locs : List Loc) (ls : Array Slot), va_P (dC, dI) vwCl ([cX8 a0 g0 o27_0, cX8_0 cI g0 o27_0, cX8_1 cI g0 o27_0, cX8_3 cI g0 o27_0, cX8_4 cI g0 o27_0, cX8_6 cI g0 o27_0, cX8_8 cI g0 o27_0, cX8_9 cI g0 o27_0, cX8_10 cI g0 o27_0, cX8_12 cI g0 o27_0, cX8_13 cI g0 o27_0, cX8_15 cI g0 o27_0, cX8_17 cI g0 o27_0, cX8_18 cI g0 o27_0, cX8_22 cB g0 o27_0, cX8_27 cI g0 o27_0, cX8_28 cI g0 o27_0, cX8_29 cI g0 o27_0, cX8_30 cI g0 o27_0, cX8_31 cI g0 o27_0, cX8_32 cI g0 o27_0, cX8_33 cI g0 o27_0]) H → va_D A ([cX8 a0 g0 o27_0, cX8_0 cI g0 o27_0, cX8_1 cI g0 o27_0, cX8_3 cI g0 o27_0, cX8_4 cI g0 o27_0, cX8_6 cI g0 o27_0, cX8_8 cI g0 o27_0, cX8_9 cI g0 o27_0, cX8_10 cI g0 o27_0, cX8_12 cI g0 o27_0, cX8_13 cI g0 o27_0, cX8_15 cI g0 o27_0, cX8_17 cI g0 o27_0, cX8_18 cI g0 o27_0, cX8_22 cB g0 o27_0, cX8_27 cI g0 o27_0, cX8_28 cI g0 o27_0, cX8_29 cI g0 o27_0, cX8_30 cI g0 o27_0, cX8_31 cI g0 o27_0, cX8_32 cI g0 o27_0, cX8_33 cI g0 o27_0]) → va_S A s.heap H locs → lv_has ls 4 [(0, .ref a0), (2, .int v2), (3, .int x27_3)] → W p l e (headSpec wsX8_goodsBy rmX8_goodsBy).room s m ([.ref a0, .int v1, .int v2] : List Value).toArray below meth c H locs 0 0 Q (F0 m 27 ls []) := by
      intro nn27
      induction nn27 with
      | zero => intro x27_3 o27_0 h; rw [f_X8_goodsBy_27] at h; cases h
      | succ nn27 ih27 =>
        intro x27_3 o27_0 h H locs ls hP hD hS hl
        rw [f_X8_goodsBy_27] at h
        refine lv_iload_n hx hb dX8_goodsBy_27 rfl (lv_at hl 2 rfl) ?_
        refine lv_iload_n hx hb dX8_goodsBy_28 rfl (lv_at hl 1 rfl) ?_
        refine lv_icmp_ge (tgt := 45) hx hb dX8_goodsBy_29 (by decide) (fun k2 => ?_) (fun k2 => ?_)
        · have h := ite_t k2 h
          refine lv_aload_n hx hb dX8_goodsBy_45 rfl (lv_at hl 0 rfl) ?_
          refine lv_sipush (v := (286 : Int32)) hx hb dX8_goodsBy_46 (by decide) ?_
          obtain ⟨q3, hq3, h⟩ := obd_e h
          refine kcV (rest := []) (w2 := ([cX8 a0 g0 o27_0, cX8_0 cI g0 o27_0, cX8_1 cI g0 o27_0, cX8_3 cI g0 o27_0, cX8_4 cI g0 o27_0, cX8_6 cI g0 o27_0, cX8_8 cI g0 o27_0, cX8_9 cI g0 o27_0, cX8_10 cI g0 o27_0, cX8_12 cI g0 o27_0, cX8_13 cI g0 o27_0, cX8_15 cI g0 o27_0, cX8_17 cI g0 o27_0, cX8_18 cI g0 o27_0, cX8_22 cB g0 o27_0, cX8_27 cI g0 o27_0, cX8_28 cI g0 o27_0, cX8_29 cI g0 o27_0, cX8_30 cI g0 o27_0, cX8_31 cI g0 o27_0, cX8_32 cI g0 o27_0, cX8_33 cI g0 o27_0])) hx hb hml hown hts hKK hP hD hS hA (c_X8_goods l dC dI cB cI cZ cO a0 g0 o27_0 (286 : Int32) hq3) [0, 1, 2, 3, 4, 5, 6, 7, 8, 9, 10, 11, 12, 13, 14, 15, 16, 17, 18, 19, 20, 21] (atAll_map ⟨rfl, rfl, rfl, rfl, rfl, rfl, rfl, rfl, rfl, rfl, rfl, rfl, rfl, rfl, rfl, rfl, rfl, rfl, rfl, rfl, rfl, rfl, trivial⟩) (by decide +kernel) (sameAd_map ⟨rfl, rfl, rfl, rfl, rfl, rfl, rfl, rfl, rfl, rfl, rfl, rfl, rfl, rfl, rfl, rfl, rfl, rfl, rfl, rfl, rfl, rfl, trivial⟩) (atAll_map ⟨rfl, rfl, rfl, rfl, rfl, rfl, rfl, rfl, rfl, rfl, rfl, rfl, rfl, rfl, rfl, rfl, rfl, rfl, rfl, rfl, rfl, rfl, trivial⟩) (agr_refl _ _ _) (cwV 1 hts gX8_goodsBy_X8_goods rfl rfl rfl ⟨rfl, dsc_X8_goods⟩ ⟨Nat.le_of_ble_eq_true rfl, Nat.le_of_ble_eq_true rfl⟩) (va_recv hKK.1 hP (ci := 8) (q0 := 0) rfl rfl) rfl hl.1 rfl (Nat.le_of_ble_eq_true rfl) dX8_goodsBy_49 ⟨Nat.zero_le _, Nat.zero_le _⟩ (fun H locs hP hD hS => ?_)
          have h := Option.some.inj h
          subst h
          subst hQ
          exact W.iret (v := q3) hx hb hr (fun t ht hW => ⟨⟨rfl, by rw [ht]; exact hP, hD⟩, hS.F ht⟩) hS.2.2 dX8_goodsBy_52
        · have h := ite_f k2 h
          refine lv_aload_n hx hb dX8_goodsBy_32 rfl (lv_at hl 0 rfl) ?_
          refine lv_sipush (v := (286 : Int32)) hx hb dX8_goodsBy_33 (by decide) ?_
          obtain ⟨q4, hq4, h⟩ := obd_e h
          refine kcV (rest := []) (w2 := ([cX8 a0 g0 q4, cX8_0 cI g0 q4, cX8_1 cI g0 q4, cX8_3 cI g0 q4, cX8_4 cI g0 q4, cX8_6 cI g0 q4, cX8_8 cI g0 q4, cX8_9 cI g0 q4, cX8_10 cI g0 q4, cX8_12 cI g0 q4, cX8_13 cI g0 q4, cX8_15 cI g0 q4, cX8_17 cI g0 q4, cX8_18 cI g0 q4, cX8_22 cB g0 q4, cX8_27 cI g0 q4, cX8_28 cI g0 q4, cX8_29 cI g0 q4, cX8_30 cI g0 q4, cX8_31 cI g0 q4, cX8_32 cI g0 q4, cX8_33 cI g0 q4])) hx hb hml hown hts hKK hP hD hS hA (c_X8_trades l dC dI cB cI cZ cO a0 g0 o27_0 (286 : Int32) hq4) [0, 1, 2, 3, 4, 5, 6, 7, 8, 9, 10, 11, 12, 13, 14, 15, 16, 17, 18, 19, 20, 21] (atAll_map ⟨rfl, rfl, rfl, rfl, rfl, rfl, rfl, rfl, rfl, rfl, rfl, rfl, rfl, rfl, rfl, rfl, rfl, rfl, rfl, rfl, rfl, rfl, trivial⟩) (by decide +kernel) (sameAd_map ⟨rfl, rfl, rfl, rfl, rfl, rfl, rfl, rfl, rfl, rfl, rfl, rfl, rfl, rfl, rfl, rfl, rfl, rfl, rfl, rfl, rfl, rfl, trivial⟩) (atAll_map ⟨rfl, rfl, rfl, rfl, rfl, rfl, rfl, rfl, rfl, rfl, rfl, rfl, rfl, rfl, rfl, rfl, rfl, rfl, rfl, rfl, rfl, rfl, trivial⟩) ⟨Or.inr (by decide), Or.inr (by decide), Or.inr (by decide), Or.inr (by decide), Or.inr (by decide), Or.inr (by decide), Or.inr (by decide), Or.inr (by decide), Or.inr (by decide), Or.inr (by decide), Or.inr (by decide), Or.inr (by decide), Or.inr (by decide), Or.inr (by decide), Or.inr (by decide), Or.inr (by decide), Or.inr (by decide), Or.inr (by decide), Or.inr (by decide), Or.inr (by decide), Or.inr (by decide), Or.inr (by decide), trivial⟩ (cwV 1 hts gX8_goodsBy_X8_trades rfl rfl rfl ⟨rfl, dsc_X8_trades⟩ ⟨Nat.le_of_ble_eq_true rfl, Nat.le_of_ble_eq_true rfl⟩) (va_recv hKK.1 hP (ci := 8) (q0 := 0) rfl rfl) rfl hl.1 rfl (Nat.le_of_ble_eq_true rfl) dX8_goodsBy_36 ⟨Nat.zero_le _, Nat.zero_le _⟩ (fun H locs hP hD hS => ?_)
          obtain ⟨x5, hx5, h⟩ := bnd_e h
          refine lv_iinc (v := x5) (lv' := [(3, .int x5), (0, .ref a0), (2, .int v2)]) hx hb dX8_goodsBy_39 hl (k := 2) rfl (by rw [← hx5]; rfl) (by decide) rfl (fun ls hl => ?_)
          refine lv_goto (tgt := 27) hx hb dX8_goodsBy_42 (by decide) ?_
          exact ih27 x5 q4 h _ _ _ hP hD hS (lv_sub hl [1, 2, 0] rfl)
    exact lp27 FU (0 : Int32) o25_0 h _ _ _ hP hD hS (lv_sub hl [1, 2, 0] rfl)
  refine lv_if_lt (tgt := 25) hx hb dX8_goodsBy_9 (by decide) (fun k6 => ?_) (fun k6 => ?_)
  · have h := ite_t k6 h
    exact jn25 q1 h _ _ _ hP hD hS (lv_sub hl [0, 2] rfl)
  · have h := ite_f k6 h
    refine lv_aload_n hx hb dX8_goodsBy_12 rfl (lv_at hl 0 rfl) ?_
    refine lv_sipush (v := (286 : Int32)) hx hb dX8_goodsBy_13 (by decide) ?_
    refine lv_iload_n hx hb dX8_goodsBy_16 rfl (lv_at hl 1 rfl) ?_
    refine lv_iconst (v := (2 : Int32)) hx hb dX8_goodsBy_17 (by decide) ?_
    refine lv_idiv hx hb dX8_goodsBy_18 (by decide) ?_
    refine lv_iload_n hx hb dX8_goodsBy_19 rfl (lv_at hl 1 rfl) ?_
    refine lv_iconst (v := (2 : Int32)) hx hb dX8_goodsBy_20 (by decide) ?_
    refine lv_irem hx hb dX8_goodsBy_21 (by decide) ?_
    obtain ⟨q7, hq7, h⟩ := obd_e h
    refine kcV (rest := []) (w2 := ([cX8 a0 g0 q7, cX8_0 cI g0 q7, cX8_1 cI g0 q7, cX8_3 cI g0 q7, cX8_4 cI g0 q7, cX8_6 cI g0 q7, cX8_8 cI g0 q7, cX8_9 cI g0 q7, cX8_10 cI g0 q7, cX8_12 cI g0 q7, cX8_13 cI g0 q7, cX8_15 cI g0 q7, cX8_17 cI g0 q7, cX8_18 cI g0 q7, cX8_22 cB g0 q7, cX8_27 cI g0 q7, cX8_28 cI g0 q7, cX8_29 cI g0 q7, cX8_30 cI g0 q7, cX8_31 cI g0 q7, cX8_32 cI g0 q7, cX8_33 cI g0 q7])) hx hb hml hown hts hKK hP hD hS hA (c_X8_gives l dC dI cB cI cZ cO a0 g0 q1 (286 : Int32) (v1 / (2 : Int32)) (v1 - v1 / (2 : Int32) * (2 : Int32)) hq7) [0, 1, 2, 3, 4, 5, 6, 7, 8, 9, 10, 11, 12, 13, 14, 15, 16, 17, 18, 19, 20, 21] (atAll_map ⟨rfl, rfl, rfl, rfl, rfl, rfl, rfl, rfl, rfl, rfl, rfl, rfl, rfl, rfl, rfl, rfl, rfl, rfl, rfl, rfl, rfl, rfl, trivial⟩) (by decide +kernel) (sameAd_map ⟨rfl, rfl, rfl, rfl, rfl, rfl, rfl, rfl, rfl, rfl, rfl, rfl, rfl, rfl, rfl, rfl, rfl, rfl, rfl, rfl, rfl, rfl, trivial⟩) (atAll_map ⟨rfl, rfl, rfl, rfl, rfl, rfl, rfl, rfl, rfl, rfl, rfl, rfl, rfl, rfl, rfl, rfl, rfl, rfl, rfl, rfl, rfl, rfl, trivial⟩) ⟨Or.inr (by decide), Or.inr (by decide), Or.inr (by decide), Or.inr (by decide), Or.inr (by decide), Or.inr (by decide), Or.inr (by decide), Or.inr (by decide), Or.inr (by decide), Or.inr (by decide), Or.inr (by decide), Or.inr (by decide), Or.inr (by decide), Or.inr (by decide), Or.inr (by decide), Or.inr (by decide), Or.inr (by decide), Or.inr (by decide), Or.inr (by decide), Or.inr (by decide), Or.inr (by decide), Or.inr (by decide), trivial⟩ (cwV 3 hts gX8_goodsBy_X8_gives rfl rfl rfl ⟨rfl, dsc_X8_gives⟩ ⟨Nat.le_of_ble_eq_true rfl, Nat.le_of_ble_eq_true rfl⟩) (va_recv hKK.1 hP (ci := 8) (q0 := 0) rfl rfl) rfl hl.1 rfl (Nat.le_of_ble_eq_true rfl) dX8_goodsBy_22 ⟨Nat.zero_le _, Nat.zero_le _⟩ (fun H locs hP hD hS => ?_)
    exact jn25 q7 h _ _ _ hP hD hS (lv_sub hl [0, 2] rfl)
