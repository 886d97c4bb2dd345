def f_X8_worth_62 (x29_4 : Int32) (kL29 : (Int32 → Int32 → Ob → Option (Int32 × Ob))) (q10 : Int32 × Ob) (y62_0 : Int32) : Option (Int32 × Ob) := bnd (x29_4 + (1 : Int32)) fun x11 : Int32 => kL29 y62_0 x11 q10.2
def f_X8_worth_29 (v1 : Int32) (v2 : Int32) : Nat → Int32 → Int32 → Ob → Option (Int32 × Ob)
  | 0, _, _, _ => none
  | nn29+1, x29_3, x29_4, o29_0 => if ((2 : Int32) * (o29_0.1 5)) ≤ x29_4 then (if v2 = (1 : Int32) then ((f_X8_goodsBy o29_0 x29_3 v1).bind fun q8 : Int32 × Ob => some (q8.1, q8.2)) else (if 0 ≤ x29_3 then (some ((((10 : Int32) * (x29_3 / (2 : Int32))) + (x29_3 - x29_3 / (2 : Int32) * (2 : Int32))), o29_0)) else (some ((99 : Int32), o29_0)))) else ((f_X8_goodsBy o29_0 x29_4 v1).bind fun q9 : Int32 × Ob => (f_X8_goodsBy q9.2 x29_3 v1).bind fun q10 : Int32 × Ob => if q9.1 ≤ q10.1 then (f_X8_worth_62 x29_4 (f_X8_worth_29 v1 v2 nn29) q10 x29_3) else (f_X8_worth_62 x29_4 (f_X8_worth_29 v1 v2 nn29) q10 x29_4))
def f_X8_worth (o0 : Ob) (v1 : Int32) (v2 : Int32) : Option (Int32 × Ob) := bnd (f_X8_in (v1.toInt64) (1 : Int64) (20 : Int64)) fun q1 : Bool => if (b2i q1) = 0 then (some ((-1 : Int32), o0)) else (bnd (f_X8_in (v2.toInt64) (0 : Int64) (1 : Int64)) fun q3 : Bool => if (b2i q3) = 0 then (some ((-1 : Int32), o0)) else (f_X8_worth_29 v1 v2 FU (-1 : Int32) (0 : Int32) o0))
abbrev rmX8_worth : Room := { frames := 6, cells := 0, slots := 0, locals := 145 }
theorem dsc_X8_worth : yX8_worth.cls ≠ "java/lang/invoke/MethodHandle" ∧ yX8_worth.cls ≠ "java/lang/invoke/VarHandle" ∧ (parseMethodDescriptor yX8_worth.desc).map (fun d => d.parameters.length) = some 2 := by decide +kernel
set_option maxHeartbeats 4000000 in
set_option maxRecDepth 100000 in
theorem c_X8_worth (l : Launch) (dC : Nat → ClassId) (dI : Nat → Nat → Nat) (cB cI cZ cO : ClassId) (a0 : Nat) (g0 : Nat → Nat) (o0 : Ob) (v1 : Int32) (v2 : Int32) {r : Int32 × Ob} (h : f_X8_worth o0 v1 v2 = some r) : Ct dC dI cB cI cZ cO l yX8_worth wsX8_worth rmX8_worth [.ref a0, .int v1, .int v2] ([cX8 a0 g0 o0, cX8_0 cI g0 o0, cX8_1 cI g0 o0, cX8_3 cI g0 o0, cX8_4 cI g0 o0, cX8_6 cI g0 o0, cX8_8 cI g0 o0, cX8_9 cI g0 o0, cX8_10 cI g0 o0, cX8_12 cI g0 o0, cX8_13 cI g0 o0, cX8_15 cI g0 o0, cX8_17 cI g0 o0, cX8_18 cI g0 o0, cX8_22 cB g0 o0, cX8_27 cI g0 o0, cX8_28 cI g0 o0, cX8_29 cI g0 o0, cX8_30 cI g0 o0, cX8_31 cI g0 o0, cX8_32 cI g0 o0, cX8_33 cI g0 o0]) (some (.int r.1)) ([cX8 a0 g0 r.2, cX8_0 cI g0 r.2, cX8_1 cI g0 r.2, cX8_3 cI g0 r.2, cX8_4 cI g0 r.2, cX8_6 cI g0 r.2, cX8_8 cI g0 r.2, cX8_9 cI g0 r.2, cX8_10 cI g0 r.2, cX8_12 cI g0 r.2, cX8_13 cI g0 r.2, cX8_15 cI g0 r.2, cX8_17 cI g0 r.2, cX8_18 cI g0 r.2, cX8_22 cB g0 r.2, cX8_27 cI g0 r.2, cX8_28 cI g0 r.2, cX8_29 cI g0 r.2, cX8_30 cI g0 r.2, cX8_31 cI g0 r.2, cX8_32 cI g0 r.2, cX8_33 cI g0 r.2]) := by
  intro sz
  refine Met.ofW (cc := cX8_worth) (maxL := 5) (ret := (some .int)) (by decide) rfl ?_
  intro p e s m args below meth c s₁ B hml hv
  obtain ⟨rfl, hsz, hP, hKK, hD0⟩ := hv
  have hx := B.exec
  have hb := B.bytes
  have hr := B.returns
  have hts := atoms_spec (ws := wsX8_worth) B.pre
  have hown : s.vm.findClass RX8 = some m.cls := findClass_of_methodNamed B.named
  have hlocks := B.notSynchronized
  have hiX8 : ∀ w ∈ u_ws RX8 TX8 36, w ∈ wsX8_worth := fun w h => List.mem_cons_of_mem _ (List.mem_append_right _ h)
  subst hsz
  have hD := hD0.self (sz := s.heap.size)
  generalize hAe : va_A ([cX8 a0 g0 o0, cX8_0 cI g0 o0, cX8_1 cI g0 o0, cX8_3 cI g0 o0, cX8_4 cI g0 o0, cX8_6 cI g0 o0, cX8_8 cI g0 o0, cX8_9 cI g0 o0, cX8_10 cI g0 o0, cX8_12 cI g0 o0, cX8_13 cI g0 o0, cX8_15 cI g0 o0, cX8_17 cI g0 o0, cX8_18 cI g0 o0, cX8_22 cB g0 o0, cX8_27 cI g0 o0, cX8_28 cI g0 o0, cX8_29 cI g0 o0, cX8_30 cI g0 o0, cX8_31 cI g0 o0, cX8_32 cI g0 o0, cX8_33 cI g0 o0]) s.heap.size = A at hD ⊢
  have hA : ∀ q : Nat, s.heap.size ≤ q → A q := fun q h => by rw [← hAe]; exact Or.inr h
  have hS : va_S A s.heap s.heap [] := va_S.rf
  have hP : va_P (dC, dI) vwCl ([cX8 a0 g0 o0, cX8_0 cI g0 o0, cX8_1 cI g0 o0, cX8_3 cI g0 o0, cX8_4 cI g0 o0, cX8_6 cI g0 o0, cX8_8 cI g0 o0, cX8_9 cI g0 o0, cX8_10 cI g0 o0, cX8_12 cI g0 o0, cX8_13 cI g0 o0, cX8_15 cI g0 o0, cX8_17 cI g0 o0, cX8_18 cI g0 o0, cX8_22 cB g0 o0, cX8_27 cI g0 o0, cX8_28 cI g0 o0, cX8_29 cI g0 o0, cX8_30 cI g0 o0, cX8_31 cI g0 o0, cX8_32 cI g0 o0, cX8_33 cI g0 o0]) s.heap := hP
  have hD : va_D A ([cX8 a0 g0 o0, cX8_0 cI g0 o0, cX8_1 cI g0 o0, cX8_3 cI g0 o0, cX8_4 cI g0 o0, cX8_6 cI g0 o0, cX8_8 cI g0 o0, cX8_9 cI g0 o0, cX8_10 cI g0 o0, cX8_12 cI g0 o0, cX8_13 cI g0 o0, cX8_15 cI g0 o0, cX8_17 cI g0 o0, cX8_18 cI g0 o0, cX8_22 cB g0 o0, cX8_27 cI g0 o0, cX8_28 cI g0 o0, cX8_29 cI g0 o0, cX8_30 cI g0 o0, cX8_31 cI g0 o0, cX8_32 cI g0 o0, cX8_33 cI g0 o0]) := hD
  have hl := lv_entry ([.ref a0, .int v1, .int v2]) (n := 5) (Nat.le_of_ble_eq_true rfl)
  rw [lg_entry_eq]
  generalize (lg_sl ([.ref a0, .int v1, .int v2]) ++ List.replicate (5 - (lg_sl ([.ref a0, .int v1, .int v2])).length) Slot.unset).toArray = ls at hl ⊢
  have hl : lv_has ls 5 [(0, .ref a0), (1, .int v1), (2, .int v2)] := hl
  obtain ⟨Q, hQ⟩ : ∃ Q, Q = MQ below (Qq dC dI (some (.int r.1)) ([cX8 a0 g0 r.2, cX8_0 cI g0 r.2, cX8_1 cI g0 r.2, cX8_3 cI g0 r.2, cX8_4 cI g0 r.2, cX8_6 cI g0 r.2, cX8_8 cI g0 r.2, cX8_9 cI g0 r.2, cX8_10 cI g0 r.2, cX8_12 cI g0 r.2, cX8_13 cI g0 r.2, cX8_15 cI g0 r.2, cX8_17 cI g0 r.2, cX8_18 cI g0 r.2, cX8_22 cB g0 r.2, cX8_27 cI g0 r.2, cX8_28 cI g0 r.2, cX8_29 cI g0 r.2, cX8_30 cI g0 r.2, cX8_31 cI g0 r.2, cX8_32 cI g0 r.2, cX8_33 cI g0 r.2]) A) ([.ref a0, .int v1, .int v2] : List Value).toArray s 0 0 A := ⟨_, rfl⟩
  rw [← hQ]
  rw [f_X8_worth] at h
  clear hAe hD0
  refine lv_iload_n hx hb dX8_worth_0 rfl (lv_at hl 1 rfl) ?_
  refine lv_i2l hx hb dX8_worth_1 rfl ?_
  refine lv_lconst (v := 1) hx hb dX8_worth_2 (by decide) ?_
  refine lv_ldc2 hx hb hown (hts (.constantLong RX8 231 (20)) (List.mem_of_getElem? (i := 1) rfl)) dX8_worth_3 ?_
  obtain ⟨q1, hq1, h⟩ := bnd_e h
  refine kcS (rest := []) (w2 := ([cX8 a0 g0 o0, cX8_0 cI g0 o0, cX8_1 cI g0 o0, cX8_3 cI g0 o0, cX8_4 cI g0 o0, cX8_6 cI g0 o0, cX8_8 cI g0 o0, cX8_9 cI g0 o0, cX8_10 cI g0 o0, cX8_12 cI g0 o0, cX8_13 cI g0 o0, cX8_15 cI g0 o0, cX8_17 cI g0 o0, cX8_18 cI g0 o0, cX8_22 cB g0 o0, cX8_27 cI g0 o0, cX8_28 cI g0 o0, cX8_29 cI g0 o0, cX8_30 cI g0 o0, cX8_31 cI g0 o0, cX8_32 cI g0 o0, cX8_33 cI g0 o0])) hx hb hml hown hts hKK hP hD hS hA (c_X8_in l dC dI cB cI cZ cO (v1.toInt64) (1 : Int64) (20 : Int64) hq1) [] (atAll_map trivial) (by decide +kernel) (sameAd_map trivial) (atAll_map trivial) (agr_refl _ _ _) (va_cwS 3 hts gX8_worth_X8_in rfl rfl rfl dsc_X8_in ⟨Nat.le_of_ble_eq_true rfl, Nat.le_of_ble_eq_true rfl⟩) rfl hl.1 rfl (Nat.le_of_ble_eq_true rfl) dX8_worth_6 ⟨Nat.zero_le _, Nat.zero_le _⟩ (fun H locs hP hD hS => ?_)
  refine lv_if_eq (tgt := 22) hx hb dX8_worth_9 (by decide) (fun k2 => ?_) (fun k2 => ?_)
  · have h := ite_t k2 h
    refine lv_iconst (v := (-1 : Int32)) hx hb dX8_worth_22 (by decide) ?_
    have h := Option.some.inj h
    subst h
    subst hQ
    exact W.iret (v := (-1 : Int32)) hx hb hr (fun t ht hW => ⟨⟨rfl, by rw [ht]; exact hP, hD⟩, hS.F ht⟩) hS.2.2 dX8_worth_23
  · have h := ite_f k2 h
    refine lv_iload_n hx hb dX8_worth_12 rfl (lv_at hl 2 rfl) ?_
    refine lv_i2l hx hb dX8_worth_13 rfl ?_
    refine lv_lconst (v := 0) hx hb dX8_worth_14 (by decide) ?_
    refine lv_lconst (v := 1) hx hb dX8_worth_15 (by decide) ?_
    obtain ⟨q3, hq3, h⟩ := bnd_e h
    refine kcS (rest := []) (w2 := ([cX8 a0 g0 o0, cX8_0 cI g0 o0, cX8_1 cI g0 o0, cX8_3 cI g0 o0, cX8_4 cI g0 o0, cX8_6 cI g0 o0, cX8_8 cI g0 o0, cX8_9 cI g0 o0, cX8_10 cI g0 o0, cX8_12 cI g0 o0, cX8_13 cI g0 o0, cX8_15 cI g0 o0, cX8_17 cI g0 o0, cX8_18 cI g0 o0, cX8_22 cB g0 o0, cX8_27 cI g0 o0, cX8_28 cI g0 o0, cX8_29 cI g0 o0, cX8_30 cI g0 o0, cX8_31 cI g0 o0, cX8_32 cI g0 o0, cX8_33 cI g0 o0])) hx hb hml hown hts hKK hP hD hS hA (c_X8_in l dC dI cB cI cZ cO (v2.toInt64) (0 : Int64) (1 : Int64) hq3) [] (atAll_map trivial) (by decide +kernel) (sameAd_map trivial) (atAll_map trivial) (agr_refl _ _ _) (va_cwS 3 hts gX8_worth_X8_in rfl rfl rfl dsc_X8_in ⟨Nat.le_of_ble_eq_true rfl, Nat.le_of_ble_eq_true rfl⟩) rfl hl.1 rfl (Nat.le_of_ble_eq_true rfl) dX8_worth_16 ⟨Nat.zero_le _, Nat.zero_le _⟩ (fun H locs hP hD hS => ?_)
    refine lv_if_ne (tgt := 24) hx hb dX8_worth_19 (by decide) (fun k4 => ?_) (fun k4 => ?_)
    · have h := ite_f k4 h
      refine lv_iconst (v := (-1 : Int32)) hx hb dX8_worth_24 (by decide) ?_
      refine lv_istore_n (lv' := [(3, .int (-1 : Int32)), (0, .ref a0), (1, .int v1), (2, .int v2)]) hx hb dX8_worth_25 rfl hl (by decide) rfl (fun ls hl => ?_)
      refine lv_iconst (v := (0 : Int32)) hx hb dX8_worth_26 (by decide) ?_
      refine lv_istore (lv' := [(4, .int (0 : Int32)), (3, .int (-1 : Int32)), (0, .ref a0), (1, .int v1), (2, .int v2)]) hx hb dX8_worth_27 hl (by decide) rfl (fun ls hl => ?_)
      have lp29 : ∀ (nn29 : Nat) (x29_3 : Int32) (x29_4 : Int32) (o29_0 : Ob), f_X8_worth_29 v1 v2 nn29 x29_3 x29_4 o29_0 = some r → ∀ (H : Heap) (locs : List Loc) (ls : Array Slot), va_P (dC, dI) vwCl ([cX8 a0 g0 o29_0, cX8_0 cI g0 o29_0, cX8_1 cI g0 o29_0, cX8_3 cI g0 o29_0, cX8_4 cI g0 o29_0, cX8_6 cI g0 o29_0, cX8_8 cI g0 o29_0, cX8_9 cI g0 o29_0, cX8_10 cI g0 o29_0, cX8_12 cI g0 o29_0, cX8_13 cI g0 o29_0, cX8_15 cI g0 o29_0, cX8_17 cI g0 o29_0, cX8_18 cI g0 o29_0, cX8_22 cB g0 o29_0, cX8_27 cI g0 o29_0, cX8_28 cI g0 o29_0, cX8_29 cI g0 o29_0, cX8_30 cI g0 o29_0, cX8_31 cI g0 o29_0, cX8_32 cI g0 o29_0, cX8_33 cI g0 o29_0]) H → va_D A ([cX8 a0 g0 o29_0, cX8_0 cI g0 o29_0, cX8_1 cI g0 o29_0, cX8_3 cI g0 o29_0, cX8_4 cI g0 o29_0, cX8_6 cI g0 o29_0, cX8_8 cI g0 o29_0, cX8_9 cI g0 o29_0, cX8_10 cI g0 o29_0, cX8_12 cI g0 o29_0, cX8_13 cI g0 o29_0, cX8_15 cI g0 o29_0, cX8_17 cI g0 o29_0, cX8_18 cI g0 o29_0, cX8_22 cB g0 o29_0, cX8_27 cI g0 o29_0, cX8_28 cI g0 o29_0, cX8_29 cI g0 o29_0, cX8_30 cI g0 o29_0, cX8_31 cI g0 o29_0, cX8_32 cI g0 o29_0, cX8_33 cI g0 o29_0]) → va_S A s.heap H locs → lv_has ls 5 [(0, .ref a0), (1, .int v1), (2, .int v2), (3, .int x29_3), (4, .int x29_4)] → W p l e (headSpec wsX8_worth rmX8_worth).room s m ([.ref a0, .int v1, .int v2] : List Value).toArray below meth c H locs 0 0 Q (F0 m 29 ls []) := by
        intro nn29
        induction nn29 with
        | zero => intro x29_3 x29_4 o29_0 h; rw [f_X8_worth_29] at h; cases h
        | succ nn29 ih29 =>
          intro x29_3 x29_4 o29_0 h H locs ls hP hD hS hl
          rw [f_X8_worth_29] at h
          refine lv_iload hx hb dX8_worth_29 (lv_at hl 4 rfl) ?_
          refine lv_iconst (v := (2 : Int32)) hx hb dX8_worth_31 (by decide) ?_
          refine lv_aload_n hx hb dX8_worth_32 rfl (lv_at hl 0 rfl) ?_
          refine va_get (D := (dC, dI)) (ci := 8) (v := .int (o29_0.1 5)) (C := RX8) (T := TX8) (N := 36) hx hb hts hiX8 hown hKK.1 hP 0 rfl rfl 5 (by decide) (hts (.fieldLink RX8 101 "SlideLandModel" "pushes" "I") (List.mem_of_getElem? (i := 2) rfl)) (fun _ h9 => h9) rfl dX8_worth_33 ?_
          refine lv_imul hx hb dX8_worth_36 ?_
          refine lv_icmp_ge (tgt := 69) hx hb dX8_worth_37 (by decide) (fun k5 => ?_) (fun k5 => ?_)
          · have h := ite_t k5 h
            refine lv_iload_n hx hb dX8_worth_69 rfl (lv_at hl 2 rfl) ?_
            refine lv_iconst (v := (1 : Int32)) hx hb dX8_worth_70 (by decide) ?_
            refine lv_icmp_ne (tgt := 83) hx hb dX8_worth_71 (by decide) (fun k6 => ?_) (fun k6 => ?_)
            · have h := ite_f k6 h
              refine lv_iload_n hx hb dX8_worth_83 rfl (lv_at hl 3 rfl) ?_
              refine lv_if_ge (tgt := 92) hx hb dX8_worth_84 (by decide) (fun k7 => ?_) (fun k7 => ?_)
              · have h := ite_t k7 h
                refine lv_bipush (v := (10 : Int32)) hx hb dX8_worth_92 (by decide) ?_
                refine lv_iload_n hx hb dX8_worth_94 rfl (lv_at hl 3 rfl) ?_
                refine lv_iconst (v := (2 : Int32)) hx hb dX8_worth_95 (by decide) ?_
                refine lv_idiv hx hb dX8_worth_96 (by decide) ?_
                refine lv_imul hx hb dX8_worth_97 ?_
                refine lv_iload_n hx hb dX8_worth_98 rfl (lv_at hl 3 rfl) ?_
                refine lv_iconst (v := (2 : Int32)) hx hb dX8_worth_99 (by decide) ?_
                refine lv_irem hx hb dX8_worth_100 (by decide) ?_
                refine lv_iadd hx hb dX8_worth_101 ?_
                have h := Option.some.inj h
                subst h
                subst hQ
                exact W.iret (v := (((10 : Int32) * (x29_3 / (2 : Int32))) + (x29_3 - x29_3 / (2 : Int32) * (2 : Int32)))) hx hb hr (fun t ht hW => ⟨⟨rfl, by rw [ht]; exact hP, hD⟩, hS.F ht⟩) hS.2.2 dX8_worth_102
              · have h := ite_f k7 h
                refine lv_bipush (v := (99 : Int32)) hx hb dX8_worth_87 (by decide) ?_
                refine lv_goto (tgt := 102) hx hb dX8_worth_89 (by decide) ?_
                have h := Option.some.inj h
                subst h
                subst hQ
                exact W.iret (v := (99 : Int32)) hx hb hr (fun t ht hW => ⟨⟨rfl, by rw [ht]; exact hP, hD⟩, hS.F ht⟩) hS.2.2 dX8_worth_102
            · have h := ite_t k6 h
              refine lv_aload_n hx hb dX8_worth_74 rfl (lv_at hl 0 rfl) ?_
              refine lv_iload_n hx hb dX8_worth_75 rfl (lv_at hl 3 rfl) ?_
              refine lv_iload_n hx hb dX8_worth_76 rfl (lv_at hl 1 rfl) ?_
              obtain ⟨q8, hq8, h⟩ := obd_e h
              refine kcV (rest := []) (w2 := ([cX8 a0 g0 q8.2, cX8_0 cI g0 q8.2, cX8_1 cI g0 q8.2, cX8_3 cI g0 q8.2, cX8_4 cI g0 q8.2, cX8_6 cI g0 q8.2, cX8_8 cI g0 q8.2, cX8_9 cI g0 q8.2, cX8_10 cI g0 q8.2, cX8_12 cI g0 q8.2, cX8_13 cI g0 q8.2, cX8_15 cI g0 q8.2, cX8_17 cI g0 q8.2, cX8_18 cI g0 q8.2, cX8_22 cB g0 q8.2, cX8_27 cI g0 q8.2, cX8_28 cI g0 q8.2, cX8_29 cI g0 q8.2, cX8_30 cI g0 q8.2, cX8_31 cI g0 q8.2, cX8_32 cI g0 q8.2, cX8_33 cI g0 q8.2])) hx hb hml hown hts hKK hP hD hS hA (c_X8_goodsBy l dC dI cB cI cZ cO a0 g0 o29_0 x29_3 v1 hq8) [0, 1, 2, 3, 4, 5, 6, 7, 8, 9, 10, 11, 12, 13, 14, 15, 16, 17, 18, 19, 20, 21] (atAll_map ⟨rfl, rfl, rfl, rfl, rfl, rfl, rfl, rfl, rfl, rfl, rfl, rfl, rfl, rfl, rfl, rfl, rfl, rfl, rfl, rfl, rfl, rfl, trivial⟩) (by decide +kernel) (sameAd_map ⟨rfl, rfl, rfl, rfl, rfl, rfl, rfl, rfl, rfl, rfl, rfl, rfl, rfl, rfl, rfl, rfl, rfl, rfl, rfl, rfl, rfl, rfl, trivial⟩) (atAll_map ⟨rfl, rfl, rfl, rfl, rfl, rfl, rfl, rfl, rfl, rfl, rfl, rfl, rfl, rfl, rfl, rfl, rfl, rfl, rfl, rfl, rfl, rfl, trivial⟩) ⟨Or.inr (by decide), Or.inr (by decide), Or.inr (by decide), Or.inr (by decide), Or.inr (by decide), Or.inr (by decide), Or.inr (by decide), Or.inr (by decide), Or.inr (by decide), Or.inr (by decide), Or.inr (by decide), Or.inr (by decide), Or.inr (by decide), Or.inr (by decide), Or.inr (by decide), Or.inr (by decide), Or.inr (by decide), Or.inr (by decide), Or.inr (by decide), Or.inr (by decide), Or.inr (by decide), Or.inr (by decide), trivial⟩ (cwV 2 hts gX8_worth_X8_goodsBy rfl rfl rfl ⟨rfl, dsc_X8_goodsBy⟩ ⟨Nat.le_of_ble_eq_true rfl, Nat.le_of_ble_eq_true rfl⟩) (va_recv hKK.1 hP (ci := 8) (q0 := 0) rfl rfl) rfl hl.1 rfl (Nat.le_of_ble_eq_true rfl) dX8_worth_77 ⟨Nat.zero_le _, Nat.zero_le _⟩ (fun H locs hP hD hS => ?_)
              refine lv_goto (tgt := 102) hx hb dX8_worth_80 (by decide) ?_
              have h := Option.some.inj h
              subst h
              subst hQ
              exact W.iret (v := q8.1) hx hb hr (fun t ht hW => ⟨⟨rfl, by rw [ht]; exact hP, hD⟩, hS.F ht⟩) hS.2.2 dX8_worth_102
          · have h := ite_f k5 h
            refine lv_aload_n hx hb dX8_worth_40 rfl (lv_at hl 0 rfl) ?_
            refine lv_iload hx hb dX8_worth_41 (lv_at hl 4 rfl) ?_
            refine lv_iload_n hx hb dX8_worth_43 rfl (lv_at hl 1 rfl) ?_
            obtain ⟨q9, hq9, h⟩ := obd_e h
            refine kcV (rest := []) (w2 := ([cX8 a0 g0 q9.2, cX8_0 cI g0 q9.2, cX8_1 cI g0 q9.2, cX8_3 cI g0 q9.2, cX8_4 cI g0 q9.2, cX8_6 cI g0 q9.2, cX8_8 cI g0 q9.2, cX8_9 cI g0 q9.2, cX8_10 cI g0 q9.2, cX8_12 cI g0 q9.2, cX8_13 cI g0 q9.2, cX8_15 cI g0 q9.2, cX8_17 cI g0 q9.2, cX8_18 cI g0 q9.2, cX8_22 cB g0 q9.2, cX8_27 cI g0 q9.2, cX8_28 cI g0 q9.2, cX8_29 cI g0 q9.2, cX8_30 cI g0 q9.2, cX8_31 cI g0 q9.2, cX8_32 cI g0 q9.2, cX8_33 cI g0 q9.2])) hx hb hml hown hts hKK hP hD hS hA (c_X8_goodsBy l dC dI cB cI cZ cO a0 g0 o29_0 x29_4 v1 hq9) [0, 1, 2, 3, 4, 5, 6, 7, 8, 9, 10, 11, 12, 13, 14, 15, 16, 17, 18, 19, 20, 21] (atAll_map ⟨rfl, rfl, rfl, rfl, rfl, rfl, rfl, rfl, rfl, rfl, rfl, rfl, rfl, rfl, rfl, rfl, rfl, rfl, rfl, rfl, rfl, rfl, trivial⟩) (by decide +kernel) (sameAd_map ⟨rfl, rfl, rfl, rfl, rfl, rfl, rfl, rfl, rfl, rfl, rfl, rfl, rfl, rfl, rfl, rfl, rfl, rfl, rfl, rfl, rfl, rfl, trivial⟩) (atAll_map ⟨rfl, rfl, rfl, rfl, rfl, rfl, rfl, rfl, rfl, rfl, rfl, rfl, rfl, rfl, rfl, rfl, rfl, rfl, rfl, rfl, rfl, rfl, trivial⟩) ⟨Or.inr (by decide), Or.inr (by decide), Or.inr (by decide), Or.inr (by decide), Or.inr (by decide), Or.inr (by decide), Or.inr (by decide), Or.inr (by decide), Or.inr (by decide), Or.inr (by decide), Or.inr (by decide), Or.inr (by decide), Or.inr (by decide), Or.inr (by decide), Or.inr (by decide), Or.inr (by decide), Or.inr (by decide), Or.inr (by decide), Or.inr (by decide), Or.inr (by decide), Or.inr (by decide), Or.inr (by decide), trivial⟩ (cwV 2 hts gX8_worth_X8_goodsBy rfl rfl rfl ⟨rfl, dsc_X8_goodsBy⟩ ⟨Nat.le_of_ble_eq_true rfl, Nat.le_of_ble_eq_true rfl⟩) (va_recv hKK.1 hP (ci := 8) (q0 := 0) rfl rfl) rfl hl.1 rfl (Nat.le_of_ble_eq_true rfl) dX8_worth_44 ⟨Nat.zero_le _, Nat.zero_le _⟩ (fun H locs hP hD hS => ?_)
            refine lv_aload_n hx hb dX8_worth_47 rfl (lv_at hl 0 rfl) ?_
            refine lv_iload_n hx hb dX8_worth_48 rfl (lv_at hl 3 rfl) ?_
            refine lv_iload_n hx hb dX8_worth_49 rfl (lv_at hl 1 rfl) ?_
            obtain ⟨q10, hq10, h⟩ := obd_e h
            refine kcV (rest := [.int q9.1]) (w2 := ([cX8 a0 g0 q10.2, cX8_0 cI g0 q10.2, cX8_1 cI g0 q10.2, cX8_3 cI g0 q10.2, cX8_4 cI g0 q10.2, cX8_6 cI g0 q10.2, cX8_8 cI g0 q10.2, cX8_9 cI g0 q10.2, cX8_10 cI g0 q10.2, cX8_12 cI g0 q10.2, cX8_13 cI g0 q10.2, cX8_15 cI g0 q10.2, cX8_17 cI g0 q10.2, cX8_18 cI g0 q10.2, cX8_22 cB g0 q10.2, cX8_27 cI g0 q10.2, cX8_28 cI g0 q10.2, cX8_29 cI g0 q10.2, cX8_30 cI g0 q10.2, cX8_31 cI g0 q10.2, cX8_32 cI g0 q10.2, cX8_33 cI g0 q10.2])) hx hb hml hown hts hKK hP hD hS hA (c_X8_goodsBy l dC dI cB cI cZ cO a0 g0 q9.2 x29_3 v1 hq10) [0, 1, 2, 3, 4, 5, 6, 7, 8, 9, 10, 11, 12, 13, 14, 15, 16, 17, 18, 19, 20, 21] (atAll_map ⟨rfl, rfl, rfl, rfl, rfl, rfl, rfl, rfl, rfl, rfl, rfl, rfl, rfl, rfl, rfl, rfl, rfl, rfl, rfl, rfl, rfl, rfl, trivial⟩) (by decide +kernel) (sameAd_map ⟨rfl, rfl, rfl, rfl, rfl, rfl, rfl, rfl, rfl, rfl, rfl, rfl, rfl, rfl, rfl, rfl, rfl, rfl, rfl, rfl, rfl, rfl, trivial⟩) (atAll_map ⟨rfl, rfl, rfl, rfl, rfl, rfl, rfl, rfl, rfl, rfl, rfl, rfl, rfl, rfl, rfl, rfl, rfl, rfl, rfl, rfl, rfl, rfl, trivial⟩) ⟨Or.inr (by decide), Or.inr (by decide), Or.inr (by decide), Or.inr (by decide), Or.inr (by decide), Or.inr (by decide), Or.inr (by decide), Or.inr (by decide), Or.inr (by decide), Or.inr (by decide), Or.inr (by decide), Or.inr (by decide), Or.inr (by decide), Or.inr (by decide), Or.inr (by decide), Or.inr (by decide), Or.inr (by decide), Or.inr (by decide), Or.inr (by decide), Or.inr (by decide), Or.inr (by decide), Or.inr (by decide), trivial⟩ (cwV 2 hts gX8_worth_X8_goodsBy rfl rfl rfl ⟨rfl, dsc_X8_goodsBy⟩ ⟨Nat.le_of_ble_eq_true rfl, Nat.le_of_ble_eq_true rfl⟩) (va_recv hKK.1 hP (ci := 8) (q0 := 0) rfl rfl) rfl hl.1 rfl (Nat.le_of_ble_eq_true rfl) dX8_worth_50 ⟨Nat.zero_le _, Nat.zero_le _⟩ (fun H locs hP hD hS => ?_)
            have jn62 : ∀ (y62_0 : Int32), f_X8_worth_62 x29_4 (f_X8_worth_29 v1 v2 nn29) q10 y62_0 = some r → ∀ (H : Heap) (locs : List Loc) (ls : Array Slot), va_P (dC, dI) vwCl ([cX8 a0 g0 q10.2, cX8_0 cI g0 q10.2, cX8_1 cI g0 q10.2, cX8_3 cI g0 q10.2, cX8_4 cI g0 q10.2, cX8_6 cI g0 q10.2, cX8_8 cI g0 q10.2, cX8_9 cI g0 q10.2, cX8_10 cI g0 q10.2, cX8_12 cI g0 q10.2, cX8_13 cI g0 q10.2, cX8_15 cI g0 q10.2, cX8_17 cI g0 q10.2, cX8_18 cI g0 q10.2, cX8_22 cB g0 q10.2, cX8_27 cI g0 q10.2, cX8_28 cI g0 q10.2, cX8_29 cI g0 q10.2, cX8_30 cI g0 q10.2, cX8_31 cI g0 q10.2, cX8_32 cI g0 q10.2, cX8_33 cI g0 q10.2]) H → va_D A ([cX8 a0 g0 q10.2, cX8_0 cI g0 q10.2, cX8_1 cI g0 q10.2, cX8_3 cI g0 q10.2, cX8_4 cI g0 q10.2, cX8_6 cI g0 q10.2, cX8_8 cI g0 q10.2, cX8_9 cI g0 q10.2, cX8_10 cI g0 q10.2, cX8_12 cI g0 q10.2, cX8_13 cI g0 q10.2, cX8_15 cI g0 q10.2, cX8_17 cI g0 q10.2, cX8_18 cI g0 q10.2, cX8_22 cB g0 q10.2, cX8_27 cI g0 q10.2, cX8_28 cI g0 q10.2, cX8_29 cI g0 q10.2, cX8_30 cI g0 q10.2, cX8_31 cI g0 q10.2, cX8_32 cI g0 q10.2, cX8_33 cI g0 q10.2]) → va_S A s.heap H locs → lv_has ls 5 [(0, .ref a0), (1, .int v1), (2, .int v2), (4, .int x29_4)] → W p l e (headSpec wsX8_worth rmX8_worth).room s m ([.ref a0, .int v1, .int v2] : List Value).toArray below meth c H locs 0 0 Q (F0 m 62 ls [.int y62_0]) := by
              intro y62_0 h H locs ls hP hD hS hl
              rw [f_X8_worth_62] at h
              refine lv_istore_n (lv' := [(3, .int y62_0), (0, .ref a0), (1, .int v1), (2, .int v2), (4, .int x29_4)]) hx hb dX8_worth_62 rfl hl (by decide) rfl (fun ls hl => ?_)
              obtain ⟨x11, hx11, h⟩ := bnd_e h
              refine lv_iinc (v := x11) (lv' := [(4, .int x11), (3, .int y62_0), (0, .ref a0), (1, .int v1), (2, .int v2)]) hx hb dX8_worth_63 hl (k := 4) rfl (by rw [← hx11]; rfl) (by decide) rfl (fun ls hl => ?_)
              refine lv_goto (tgt := 29) hx hb dX8_worth_66 (by decide) ?_
              exact ih29 y62_0 x11 q10.2 h _ _ _ hP hD hS (lv_sub hl [2, 3, 4, 1, 0] rfl)
            refine lv_icmp_le (tgt := 61) hx hb dX8_worth_53 (by decide) (fun k12 => ?_) (fun k12 => ?_)
            · have h := ite_t k12 h
              refine lv_iload_n hx hb dX8_worth_61 rfl (lv_at hl 3 rfl) ?_
              exact jn62 x29_3 h _ _ _ hP hD hS (lv_sub hl [0, 1, 2, 4] rfl)
            · have h := ite_f k12 h
              refine lv_iload hx hb dX8_worth_56 (lv_at hl 4 rfl) ?_
              refine lv_goto (tgt := 62) hx hb dX8_worth_58 (by decide) ?_
              exact jn62 x29_4 h _ _ _ hP hD hS (lv_sub hl [0, 1, 2, 4] rfl)
      exact lp29 FU (-1 : Int32) (0 : Int32) o0 h _ _ _ hP hD hS (lv_sub hl [2, 3, 4, 1, 0] rfl)
    · have h := ite_t k4 h
      refine lv_iconst (v := (-1 : Int32)) hx hb dX8_worth_22 (by decide) ?_
      have h := Option.some.inj h
      subst h
      subst hQ
      exact W.iret (v := (-1 : Int32)) hx hb hr (fun t ht hW => ⟨⟨rfl, by rw [ht]; exact hP, hD⟩, hS.F ht⟩) hS.2.2 dX8_worth_23
def f_X8_isAsked_58 (x6_5 : Int32) (kL6 : (Bool → Int32 → Option (Bool))) (y58_0 : Bool) : Option (Bool) := bnd (x6_5 + (1 : Int32)) fun x2 : Int32 => kL6 y58_0 x2
def f_X8_isAsked_53 (x6_5 : Int32) (kL6 : (Bool → Int32 → Option (Bool))) : Option (Bool) := f_X8_isAsked_58 x6_5 kL6 true
def f_X8_isAsked_57 (x6_5 : Int32) (kL6 : (Bool → Int32 → Option (Bool))) : Option (Bool) := f_X8_isAsked_58 x6_5 kL6 false
def f_X8_isAsked_6 (o0 : Ob) (v1 : Int32) (v2 : Int32) (v3 : Int32) : Nat → Bool → Int32 → Option (Bool)
  | 0, _, _ => none
  | nn6+1, x6_4, x6_5 => if (o0.1 26) ≤ x6_5 then (some x6_4) else (if (b2i x6_4) = 0 then (if x6_5 < 0 ∨ 6 ≤ x6_5.toNatClampNeg then none else if ((o0.2 27) x6_5.toNatClampNeg) = v1 then (if x6_5 < 0 ∨ 6 ≤ x6_5.toNatClampNeg then none else if ((o0.2 28) x6_5.toNatClampNeg) = v2 then (if x6_5 < 0 ∨ 6 ≤ x6_5.toNatClampNeg then none else if ((o0.2 29) x6_5.toNatClampNeg) = v3 then (f_X8_isAsked_53 x6_5 (f_X8_isAsked_6 o0 v1 v2 v3 nn6)) else (f_X8_isAsked_57 x6_5 (f_X8_isAsked_6 o0 v1 v2 v3 nn6))) else (f_X8_isAsked_57 x6_5 (f_X8_isAsked_6 o0 v1 v2 v3 nn6))) else (f_X8_isAsked_57 x6_5 (f_X8_isAsked_6 o0 v1 v2 v3 nn6))) else (f_X8_isAsked_53 x6_5 (f_X8_isAsked_6 o0 v1 v2 v3 nn6)))
def f_X8_isAsked (o0 : Ob) (v1 : Int32) (v2 : Int32) (v3 : Int32) : Option (Bool) := f_X8_isAsked_6 o0 v1 v2 v3 FU false (0 : Int32)
abbrev rmX8_isAsked : Room := { frames := 0, cells := 0, slots := 0, locals := 0 }
theorem dsc_X8_isAsked : yX8_isAsked.cls ≠ "java/lang/invoke/MethodHandle" ∧ yX8_isAsked.cls ≠ "java/lang/invoke/VarHandle" ∧ (parseMethodDescriptor yX8_isAsked.desc).map (fun d => d.parameters.length) = some 3 := by decide +kernel
set_option maxHeartbeats 4000000 in
set_option maxRecDepth 100000 in
theorem c_X8_isAsked (l : Launch) (dC : Nat → ClassId) (dI : Nat → Nat → Nat) (cB cI cZ cO : ClassId) (a0 : Nat) (g0 : Nat → Nat) (o0 : Ob) (v1 : Int32) (v2 : Int32) (v3 : Int32) {r : Bool} (h : f_X8_isAsked o0 v1 v2 v3 = some r) : Ct dC dI cB cI cZ cO l yX8_isAsked wsX8_isAsked rmX8_isAsked [.ref a0, .int v1, .int v2, .int v3] ([cX8 a0 g0 o0, cX8_0 cI g0 o0, cX8_1 cI g0 o0, cX8_3 cI g0 o0, cX8_4 cI g0 o0, cX8_6 cI g0 o0, cX8_8 cI g0 o0, cX8_9 cI g0 o0, cX8_10 cI g0 o0, cX8_12 cI g0 o0, cX8_13 cI g0 o0, cX8_15 cI g0 o0, cX8_17 cI g0 o0, cX8_18 cI g0 o0, cX8_22 cB g0 o0, cX8_27 cI g0 o0, cX8_28 cI g0 o0, cX8_29 cI g0 o0, cX8_30 cI g0 o0, cX8_31 cI g0 o0, cX8_32 cI g0 o0, cX8_33 cI g0 o0]) (some (.int (b2i r))) ([cX8 a0 g0 o0, cX8_0 cI g0 o0, cX8_1 cI g0 o0, cX8_3 cI g0 o0, cX8_4 cI g0 o0, cX8_6 cI g0 o0, cX8_8 cI g0 o0, cX8_9 cI g0 o0, cX8_10 cI g0 o0, cX8_12 cI g0 o0, cX8_13 cI g0 o0, cX8_15 cI g0 o0, cX8_17 cI g0 o0, cX8_18 cI g0 o0, cX8_22 cB g0 o0, cX8_27 cI g0 o0, cX8_28 cI g0 o0, cX8_29 cI g0 o0, cX8_30 cI g0 o0, cX8_31 cI g0 o0, cX8_32 cI g0 o0, cX8_33 cI g0 o0]) := by
  intro sz
  refine Met.ofW (cc := cX8_isAsked) (maxL := 6) (ret := (some .boolean)) (by decide) rfl ?_
  intro p e s m args below meth c s₁ B hml hv
  obtain ⟨rfl, hsz, hP, hKK, hD0⟩ := hv
  have hx := B.exec
  have hb := B.bytes
  have hr := B.returns
  have hts := atoms_spec (ws := wsX8_isAsked) B.pre
  have hown : s.vm.findClass RX8 = some m.cls := findClass_of_methodNamed B.named
  have hlocks := B.notSynchronized
  have hiX8 : ∀ w ∈ u_ws RX8 TX8 36, w ∈ wsX8_isAsked := fun w h => List.mem_cons_of_mem _ (List.mem_append_right _ h)
  subst hsz
  have hD := hD0.self (sz := s.heap.size)
  generalize hAe : va_A ([cX8 a0 g0 o0, cX8_0 cI g0 o0, cX8_1 cI g0 o0, cX8_3 cI g0 o0, cX8_4 cI g0 o0, cX8_6 cI g0 o0, cX8_8 cI g0 o0, cX8_9 cI g0 o0, cX8_10 cI g0 o0, cX8_12 cI g0 o0, cX8_13 cI g0 o0, cX8_15 cI g0 o0, cX8_17 cI g0 o0, cX8_18 cI g0 o0, cX8_22 cB g0 o0, cX8_27 cI g0 o0, cX8_28 cI g0 o0, cX8_29 cI g0 o0, cX8_30 cI g0 o0, cX8_31 cI g0 o0, cX8_32 cI g0 o0, cX8_33 cI g0 o0]) s.heap.size = A at hD ⊢
  have hA : ∀ q : Nat, s.heap.size ≤ q → A q := fun q h => by rw [← hAe]; exact Or.inr h
  have hS : va_S A s.heap s.heap [] := va_S.rf
  have hP : va_P (dC, dI) vwCl ([cX8 a0 g0 o0, cX8_0 cI g0 o0, cX8_1 cI g0 o0, cX8_3 cI g0 o0, cX8_4 cI g0 o0, cX8_6 cI g0 o0, cX8_8 cI g0 o0, cX8_9 cI g0 o0, cX8_10 cI g0 o0, cX8_12 cI g0 o0, cX8_13 cI g0 o0, cX8_15 cI g0 o0, cX8_17 cI g0 o0, cX8_18 cI g0 o0, cX8_22 cB g0 o0, cX8_27 cI g0 o0, cX8_28 cI g0 o0, cX8_29 cI g0 o0, cX8_30 cI g0 o0, cX8_31 cI g0 o0, cX8_32 cI g0 o0, cX8_33 cI g0 o0]) s.heap := hP
  have hD : va_D A ([cX8 a0 g0 o0, cX8_0 cI g0 o0, cX8_1 cI g0 o0, cX8_3 cI g0 o0, cX8_4 cI g0 o0, cX8_6 cI g0 o0, cX8_8 cI g0 o0, cX8_9 cI g0 o0, cX8_10 cI g0 o0, cX8_12 cI g0 o0, cX8_13 cI g0 o0, cX8_15 cI g0 o0, cX8_17 cI g0 o0, cX8_18 cI g0 o0, cX8_22 cB g0 o0, cX8_27 cI g0 o0, cX8_28 cI g0 o0, cX8_29 cI g0 o0, cX8_30 cI g0 o0, cX8_31 cI g0 o0, cX8_32 cI g0 o0, cX8_33 cI g0 o0]) := hD
  have hl := lv_entry ([.ref a0, .int v1, .int v2, .int v3]) (n := 6) (Nat.le_of_ble_eq_true rfl)
  rw [lg_entry_eq]
  generalize (lg_sl ([.ref a0, .int v1, .int v2, .int v3]) ++ List.replicate (6 - (lg_sl ([.ref a0, .int v1, .int v2, .int v3])).length) Slot.unset).toArray = ls at hl ⊢
  have hl : lv_has ls 6 [(0, .ref a0), (1, .int v1), (2, .int v2), (3, .int v3)] := hl
  obtain ⟨Q, hQ⟩ : ∃ Q, Q = MQ below (Qq dC dI (some (.int (b2i r))) ([cX8 a0 g0 o0, cX8_0 cI g0 o0, cX8_1 cI g0 o0, cX8_3 cI g0 o0, cX8_4 cI g0 o0, cX8_6 cI g0 o0, cX8_8 cI g0 o0, cX8_9 cI g0 o0, cX8_10 cI g0 o0, cX8_12 cI g0 o0, cX8_13 cI g0 o0, cX8_15 cI g0 o0, cX8_17 cI g0 o0, cX8_18 cI g0 o0, cX8_22 cB g0 o0, cX8_27 cI g0 o0, cX8_28 cI g0 o0, cX8_29 cI g0 o0, cX8_30 cI g0 o0, cX8_31 cI g0 o0, cX8_32 cI g0 o0, cX8_33 cI g0 o0]) A) ([.ref a0, .int v1, .int v2, .int v3] : List Value).toArray s 0 0 A := ⟨_, rfl⟩
  rw [← hQ]
  rw [f_X8_isAsked] at h
  clear hAe hD0
  refine lv_iconst (v := (0 : Int32)) hx hb dX8_isAsked_0 (by decide) ?_
  refine lv_istore (lv' := [(4, .int (0 : Int32)), (0, .ref a0), (1, .int v1), (2, .int v2), (3, .int v3)]) hx hb dX8_isAsked_1 hl (by decide) rfl (fun ls hl => ?_)
  refine lv_iconst (v := (0 : Int32)) hx hb dX8_isAsked_3 (by decide) ?_
  refine lv_istore (lv' := [(5, .int (0 : Int32)), (4, .int (0 : Int32)), (0, .ref a0), (1, .int v1), (2, .int v2), (3, .int v3)]) hx hb dX8_isAsked_4 hl (by decide) rfl (fun ls hl => ?_)
  have lp6 : ∀ (nn6 : Nat) (x6_4 : Bool) (x6_5 : Int32), f_X8_isAsked_6 o0 v1 v2 v3 nn6 x6_4 x6_5 = some r → ∀ (H : Heap) (locs : List Loc) (ls : Array Slot), va_P (dC, dI) vwCl ([cX8 a0 g0 o0, cX8_0 cI g0 o0, cX8_1 cI g0 o0, cX8_3 cI g0 o0, cX8_4 cI g0 o0, cX8_6 cI g0 o0, cX8_8 cI g0 o0, cX8_9 cI g0 o0, cX8_10 cI g0 o0, cX8_12 cI g0 o0, cX8_13 cI g0 o0, cX8_15 cI g0 o0, cX8_17 cI g0 o0, cX8_18 cI g0 o0, cX8_22 cB g0 o0, cX8_27 cI g0 o0, cX8_28 cI g0 o0, cX8_29 cI g0 o0, cX8_30 cI g0 o0, cX8_31 cI g0 o0, cX8_32 cI g0 o0, cX8_33 cI g0 o0]) H → va_D A ([cX8 a0 g0 o0, cX8_0 cI g0 o0, cX8_1 cI g0 o0, cX8_3 cI g0 o0, cX8_4 cI g0 o0, cX8_6 cI g0 o0, cX8_8 cI g0 o0, cX8_9 cI g0 o0, cX8_10 cI g0 o0, cX8_12 cI g0 o0, cX8_13 cI g0 o0, cX8_15 cI g0 o0, cX8_17 cI g0 o0, cX8_18 cI g0 o0, cX8_22 cB g0 o0, cX8_27 cI g0 o0, cX8_28 cI g0 o0, cX8_29 cI g0 o0, cX8_30 cI g0 o0, cX8_31 cI g0 o0, cX8_32 cI g0 o0, cX8_33 cI g0 o0]) → va_S A s.heap H locs → lv_has ls 6 [(0, .ref a0), (1, .int v1), (2, .int v2), (3, .int v3), (4, .int (b2i x6_4)), (5, .int x6_5)] → W p l e (headSpec wsX8_isAsked rmX8_isAsked).room s m ([.ref a0, .int v1, .int v2, .int v3] : List Value).toArray below meth c H locs 0 0 Q (F0 m 6 ls []) := by
    intro nn6
    induction nn6 with
    | zero => intro x6_4 x6_5 h; rw [f_X8_isAsked_6] at h; cases h
    | succ nn6 ih6 =>
      intro x6_4 x6_5 h H locs ls hP hD hS hl
      rw [f_X8_isAsked_6] at h
      refine lv_iload hx hb dX8_isAsked_6 (lv_at hl 5 rfl) ?_
      refine lv_aload_n hx hb dX8_isAsked_8 rfl (lv_at hl 0 rfl) ?_
      refine va_get (D := (dC, dI)) (ci := 8) (v := .int (o0.1 26)) (C := RX8) (T := TX8) (N := 36) hx hb hts hiX8 hown hKK.1 hP 0 rfl rfl 26 (by decide) (hts (.fieldLink RX8 166 "SlideLandModel" "asks" "I") (List.mem_of_getElem? (i := 1) rfl)) (fun _ h9 => h9) rfl dX8_isAsked_9 ?_
      refine lv_icmp_ge (tgt := 66) hx hb dX8_isAsked_12 (by decide) (fun k1 => ?_) (fun k1 => ?_)
      · have h := ite_t k1 h
        refine lv_iload hx hb dX8_isAsked_66 (lv_at hl 4 rfl) ?_
        have h := Option.some.inj h
        subst h
        subst hQ
        exact W.zret (v := (b2i x6_4)) hx hb hr (b2i_nar _) (fun t ht hW => ⟨⟨rfl, by rw [ht]; exact hP, hD⟩, hS.F ht⟩) hS.2.2 dX8_isAsked_68
      · have h := ite_f k1 h
        refine lv_iload hx hb dX8_isAsked_15 (lv_at hl 4 rfl) ?_
        have jn58 : ∀ (y58_0 : Bool), f_X8_isAsked_58 x6_5 (f_X8_isAsked_6 o0 v1 v2 v3 nn6) y58_0 = some r → ∀ (H : Heap) (locs : List Loc) (ls : Array Slot), va_P (dC, dI) vwCl ([cX8 a0 g0 o0, cX8_0 cI g0 o0, cX8_1 cI g0 o0, cX8_3 cI g0 o0, cX8_4 cI g0 o0, cX8_6 cI g0 o0, cX8_8 cI g0 o0, cX8_9 cI g0 o0, cX8_10 cI g0 o0, cX8_12 cI g0 o0, cX8_13 cI g0 o0, cX8_15 cI g0 o0, cX8_17 cI g0 o0, cX8_18 cI g0 o0, cX8_22 cB g0 o0, cX8_27 cI g0 o0, cX8_28 cI g0 o0, cX8_29 cI g0 o0, cX8_30 cI g0 o0, cX8_31 cI g0 o0, cX8_32 cI g0 o0, cX8_33 cI g0 o0]) H → va_D A ([cX8 a0 g0 o0, cX8_0 cI g0 o0, cX8_1 cI g0 o0, cX8_3 cI g0 o0, cX8_4 cI g0 o0, cX8_6 cI g0 o0, cX8_8 cI g0 o0, cX8_9 cI g0 o0, cX8_10 cI g0 o0, cX8_12 cI g0 o0, cX8_13 cI g0 o0, cX8_15 cI g0 o0, cX8_17 cI g0 o0, cX8_18 cI g0 o0, cX8_22 cB g0 o0, cX8_27 cI g0 o0, cX8_28 cI g0 o0, cX8_29 cI g0 o0, cX8_30 cI g0 o0, cX8_31 cI g0 o0, cX8_32 cI g0 o0, cX8_33 cI g0 o0]) → va_S A s.heap H locs → lv_has ls 6 [(0, .ref a0), (1, .int v1), (2, .int v2), (3, .int v3), (5, .int x6_5)] → W p l e (headSpec wsX8_isAsked rmX8_isAsked).room s m ([.ref a0, .int v1, .int v2, .int v3] : List Value).toArray below meth c H locs 0 0 Q (F0 m 58 ls [.int (b2i y58_0)]) := by
          intro y58_0 h H locs ls hP hD hS hl
          rw [f_X8_isAsked_58] at h
          refine lv_istore (lv' := [(4, .int (b2i y58_0)), (0, .ref a0), (1, .int v1), (2, .int v2), (3, .int v3), (5, .int x6_5)]) hx hb dX8_isAsked_58 hl (by decide) rfl (fun ls hl => ?_)
          obtain ⟨x2, hx2, h⟩ := bnd_e h
          refine lv_iinc (v := x2) (lv' := [(5, .int x2), (4, .int (b2i y58_0)), (0, .ref a0), (1, .int v1), (2, .int v2), (3, .int v3)]) hx hb dX8_isAsked_60 hl (k := 5) rfl (by rw [← hx2]; rfl) (by decide) rfl (fun ls hl => ?_)
          refine lv_goto (tgt := 6) hx hb dX8_isAsked_63 (by decide) ?_
          exact ih6 y58_0 x2 h _ _ _ hP hD hS (lv_sub hl [2, 3, 4, 5, 1, 0] rfl)
        have jn53 : f_X8_isAsked_53 x6_5 (f_X8_isAsked_6 o0 v1 v2 v3 nn6) = some r → ∀ (H : Heap) (locs : List Loc) (ls : Array Slot), va_P (dC, dI) vwCl ([cX8 a0 g0 o0, cX8_0 cI g0 o0, cX8_1 cI g0 o0, cX8_3 cI g0 o0, cX8_4 cI g0 o0, cX8_6 cI g0 o0, cX8_8 cI g0 o0, cX8_9 cI g0 o0, cX8_10 cI g0 o0, cX8_12 cI g0 o0, cX8_13 cI g0 o0, cX8_15 cI g0 o0, cX8_17 cI g0 o0, cX8_18 cI g0 o0, cX8_22 cB g0 o0, cX8_27 cI g0 o0, cX8_28 cI g0 o0, cX8_29 cI g0 o0, cX8_30 cI g0 o0, cX8_31 cI g0 o0, cX8_32 cI g0 o0, cX8_33 cI g0 o0]) H → va_D A ([cX8 a0 g0 o0, cX8_0 cI g0 o0, cX8_1 cI g0 o0, cX8_3 cI g0 o0, cX8_4 cI g0 o0, cX8_6 cI g0 o0, cX8_8 cI g0 o0, cX8_9 cI g0 o0, cX8_10 cI g0 o0, cX8_12 cI g0 o0, cX8_13 cI g0 o0, cX8_15 cI g0 o0, cX8_17 cI g0 o0, cX8_18 cI g0 o0, cX8_22 cB g0 o0, cX8_27 cI g0 o0, cX8_28 cI g0 o0, cX8_29 cI g0 o0, cX8_30 cI g0 o0, cX8_31 cI g0 o0, cX8_32 cI g0 o0, cX8_33 cI g0 o0]) → va_S A s.heap H locs → lv_has ls 6 [(0, .ref a0), (1, .int v1), (2, .int v2), (3, .int v3), (5, .int x6_5)] → W p l e (headSpec wsX8_isAsked rmX8_isAsked).room s m ([.ref a0, .int v1, .int v2, .int v3] : List Value).toArray below meth c H locs 0 0 Q (F0 m 53 ls []) := by
          intro h H locs ls hP hD hS hl
          rw [f_X8_isAsked_53] at h
          refine lv_iconst (v := (1 : Int32)) hx hb dX8_isAsked_53 (by decide) ?_
          refine lv_goto (tgt := 58) hx hb dX8_isAsked_54 (by decide) ?_
          exact jn58 true h _ _ _ hP hD hS (lv_sub hl [0, 1, 2, 3, 4] rfl)
        refine lv_if_ne (tgt := 53) hx hb dX8_isAsked_17 (by decide) (fun k3 => ?_) (fun k3 => ?_)
        · have h := ite_f k3 h
          exact jn53 h _ _ _ hP hD hS (lv_sub hl [0, 1, 2, 3, 5] rfl)
        · have h := ite_t k3 h
          refine lv_aload_n hx hb dX8_isAsked_20 rfl (lv_at hl 0 rfl) ?_
          refine va_get (D := (dC, dI)) (ci := 8) (v := .ref (g0 27)) (C := RX8) (T := TX8) (N := 36) hx hb hts hiX8 hown hKK.1 hP 0 rfl rfl 27 (by decide) (hts (.fieldLink RX8 53 "SlideLandModel" "askedStrip" "[I") (List.mem_of_getElem? (i := 2) rfl)) (fun _ h9 => h9) rfl dX8_isAsked_21 ?_
          refine lv_iload hx hb dX8_isAsked_24 (lv_at hl 5 rfl) ?_
          obtain ⟨k4, h⟩ := ite_n h
          refine va_iald hx hb hKK.1 hP 15 1 rfl rfl k4 dX8_isAsked_26 ?_
          refine lv_iload_n hx hb dX8_isAsked_27 rfl (lv_at hl 1 rfl) ?_
          have jn57 : f_X8_isAsked_57 x6_5 (f_X8_isAsked_6 o0 v1 v2 v3 nn6) = some r → ∀ (H : Heap) (locs : List Loc) (ls : Array Slot), va_P (dC, dI) vwCl ([cX8 a0 g0 o0, cX8_0 cI g0 o0, cX8_1 cI g0 o0, cX8_3 cI g0 o0, cX8_4 cI g0 o0, cX8_6 cI g0 o0, cX8_8 cI g0 o0, cX8_9 cI g0 o0, cX8_10 cI g0 o0, cX8_12 cI g0 o0, cX8_13 cI g0 o0, cX8_15 cI g0 o0, cX8_17 cI g0 o0, cX8_18 cI g0 o0, cX8_22 cB g0 o0, cX8_27 cI g0 o0, cX8_28 cI g0 o0, cX8_29 cI g0 o0, cX8_30 cI g0 o0, cX8_31 cI g0 o0, cX8_32 cI g0 o0, cX8_33 cI g0 o0]) H → va_D A ([cX8 a0 g0 o0, cX8_0 cI g0 o0, cX8_1 cI g0 o0, cX8_3 cI g0 o0, cX8_4 cI g0 o0, cX8_6 cI g0 o0, cX8_8 cI g0 o0, cX8_9 cI g0 o0, cX8_10 cI g0 o0, cX8_12 cI g0 o0, cX8_13 cI g0 o0, cX8_15 cI g0 o0, cX8_17 cI g0 o0, cX8_18 cI g0 o0, cX8_22 cB g0 o0, cX8_27 cI g0 o0, cX8_28 cI g0 o0, cX8_29 cI g0 o0, cX8_30 cI g0 o0, cX8_31 cI g0 o0, cX8_32 cI g0 o0, cX8_33 cI g0 o0]) → va_S A s.heap H locs → lv_has ls 6 [(0, .ref a0), (1, .int v1), (2, .int v2), (3, .int v3), (5, .int x6_5)] → W p l e (headSpec wsX8_isAsked rmX8_isAsked).room s m ([.ref a0, .int v1, .int v2, .int v3] : List Value).toArray below meth c H locs 0 0 Q (F0 m 57 ls []) := by
            intro h H locs ls hP hD hS hl
            rw [f_X8_isAsked_57] at h
            refine lv_iconst (v := (0 : Int32)) hx hb dX8_isAsked_57 (by decide) ?_
            exact jn58 false h _ _ _ hP hD hS (lv_sub hl [0, 1, 2, 3, 4] rfl)
          refine lv_icmp_ne (tgt := 57) hx hb dX8_isAsked_28 (by decide) (fun k5 => ?_) (fun k5 => ?_)
          · have h := ite_f k5 h
            exact jn57 h _ _ _ hP hD hS (lv_sub hl [0, 1, 2, 3, 5] rfl)
          · have h := ite_t k5 h
            refine lv_aload_n hx hb dX8_isAsked_31 rfl (lv_at hl 0 rfl) ?_
            refine va_get (D := (dC, dI)) (ci := 8) (v := .ref (g0 28)) (C := RX8) (T := TX8) (N := 36) hx hb hts hiX8 hown hKK.1 hP 0 rfl rfl 28 (by decide) (hts (.fieldLink RX8 56 "SlideLandModel" "askedLand" "[I") (List.mem_of_getElem? (i := 3) rfl)) (fun _ h9 => h9) rfl dX8_isAsked_32 ?_
            refine lv_iload hx hb dX8_isAsked_35 (lv_at hl 5 rfl) ?_
            obtain ⟨k6, h⟩ := ite_n h
            refine va_iald hx hb hKK.1 hP 16 1 rfl rfl k6 dX8_isAsked_37 ?_
            refine lv_iload_n hx hb dX8_isAsked_38 rfl (lv_at hl 2 rfl) ?_
            refine lv_icmp_ne (tgt := 57) hx hb dX8_isAsked_39 (by decide) (fun k7 => ?_) (fun k7 => ?_)
            · have h := ite_f k7 h
              exact jn57 h _ _ _ hP hD hS (lv_sub hl [0, 1, 2, 3, 5] rfl)
            · have h := ite_t k7 h
              refine lv_aload_n hx hb dX8_isAsked_42 rfl (lv_at hl 0 rfl) ?_
              refine va_get (D := (dC, dI)) (ci := 8) (v := .ref (g0 29)) (C := RX8) (T := TX8) (N := 36) hx hb hts hiX8 hown hKK.1 hP 0 rfl rfl 29 (by decide) (hts (.fieldLink RX8 59 "SlideLandModel" "askedWho" "[I") (List.mem_of_getElem? (i := 4) rfl)) (fun _ h9 => h9) rfl dX8_isAsked_43 ?_
              refine lv_iload hx hb dX8_isAsked_46 (lv_at hl 5 rfl) ?_
              obtain ⟨k8, h⟩ := ite_n h
              refine va_iald hx hb hKK.1 hP 17 1 rfl rfl k8 dX8_isAsked_48 ?_
              refine lv_iload_n hx hb dX8_isAsked_49 rfl (lv_at hl 3 rfl) ?_
              refine lv_icmp_ne (tgt := 57) hx hb dX8_isAsked_50 (by decide) (fun k9 => ?_) (fun k9 => ?_)
              · have h := ite_f k9 h
                exact jn57 h _ _ _ hP hD hS (lv_sub hl [0, 1, 2, 3, 5] rfl)
              · have h := ite_t k9 h
                exact jn53 h _ _ _ hP hD hS (lv_sub hl [0, 1, 2, 3, 5] rfl)
  exact lp6 FU false (0 : Int32) h _ _ _ hP hD hS (lv_sub hl [2, 3, 4, 5, 1, 0] rfl)
def f_X8_tells_212 (v1 : Int32) (x28_2 : Int32) (x28_3 : Int32) : Option (Int32) := if x28_2 < 0 then (some x28_2) else (if v1 = 0 then (some x28_2) else (some x28_3))
def f_X8_tells_206 (x28_5 : Int32) (kL28 : (Int32 → Int32 → Int32 → Option (Int32))) (x206_2 : Int32) (x206_3 : Int32) : Option (Int32) := bnd (x28_5 + (1 : Int32)) fun x12 : Int32 => kL28 x206_2 x206_3 x12
def f_X8_tells_198 (x28_3 : Int32) (x28_5 : Int32) (kL28 : (Int32 → Int32 → Int32 → Option (Int32))) (q17 : Int32) (y198_0 : Int32) : Option (Int32) := bnd (f_X8_smaller q17 x28_3) fun q18 : Int32 => f_X8_tells_206 x28_5 kL28 y198_0 q18
def f_X8_tells_153 (x101_9 : Int32) (x101_10 : Int32) (kL101 : (Int32 → Int32 → Option (Int32))) (y153_1 : Bool) : Option (Int32) := bnd (x101_9 + (b2i y153_1)) fun x21 : Int32 => bnd (x101_10 + (1 : Int32)) fun x22 : Int32 => kL101 x21 x22
def f_X8_tells_152 (x101_9 : Int32) (x101_10 : Int32) (kL101 : (Int32 → Int32 → Option (Int32))) : Option (Int32) := f_X8_tells_153 x101_9 x101_10 kL101 false
def f_X8_tells_101 (o0 : Ob) (q3 : Int32) (x28_2 : Int32) (x28_3 : Int32) (x28_5 : Int32) (kL28 : (Int32 → Int32 → Int32 → Option (Int32))) (x8 : Int32) (x9 : Int32) (x10 : Int32) : Nat → Int32 → Int32 → Option (Int32)
  | 0, _, _ => none
  | nn101+1, x101_9, x101_10 => if (40 : Int32) < x101_10 then (bnd (f_X8_larger x101_9 (q3 - x101_9)) fun q17 : Int32 => if x28_3 ≤ q17 then (f_X8_tells_198 x28_3 x28_5 kL28 q17 x28_2) else (f_X8_tells_198 x28_3 x28_5 kL28 q17 ((((100 : Int32) * x8) + ((10 : Int32) * x9)) + x10))) else ((f_X8_isSo o0 x101_10 x101_10).bind fun q20 : Bool => if (b2i q20) = 0 then (f_X8_tells_152 x101_9 x101_10 (f_X8_tells_101 o0 q3 x28_2 x28_3 x28_5 kL28 x8 x9 x10 nn101)) else ((f_X8_dampOf o0 ((o0.2 18) (3 : Int32).toNatClampNeg)).bind fun q24 : Int32 => (f_X8_meets o0 x8 x9 x10 x101_10 x101_10 q24).bind fun q25 : Bool => if (b2i q25) = 0 then (f_X8_tells_152 x101_9 x101_10 (f_X8_tells_101 o0 q3 x28_2 x28_3 x28_5 kL28 x8 x9 x10 nn101)) else (f_X8_tells_153 x101_9 x101_10 (f_X8_tells_101 o0 q3 x28_2 x28_3 x28_5 kL28 x8 x9 x10 nn101) true)))
def f_X8_tells_28 (o0 : Ob) (v1 : Int32) (q3 : Int32) : Nat → Int32 → Int32 → Int32 → Option (Int32)
  | 0, _, _, _ => none
  | nn28+1, x28_2, x28_3, x28_5 => if ((12 : Int32) * (o0.1 2)) ≤ x28_5 then (f_X8_tells_212 v1 x28_2 x28_3) else (if q3 ≤ 0 then (f_X8_tells_212 v1 x28_2 x28_3) else (bnd (x28_5 / (12 : Int32)) fun x8 : Int32 => bnd ((x28_5 - x28_5 / (12 : Int32) * (12 : Int32)) / (6 : Int32)) fun x9 : Int32 => bnd (x28_5 - x28_5 / (6 : Int32) * (6 : Int32)) fun x10 : Int32 => if x9 < 0 ∨ 2 ≤ x9.toNatClampNeg then none else if ((o0.2 0) x9.toNatClampNeg) ≤ x10 then (f_X8_tells_206 x28_5 (f_X8_tells_28 o0 v1 q3 nn28) x28_2 x28_3) else ((f_X8_isAsked o0 x8 x9 x10).bind fun q14 : Bool => if (b2i q14) = 0 then (f_X8_tells_101 o0 q3 x28_2 x28_3 x28_5 (f_X8_tells_28 o0 v1 q3 nn28) x8 x9 x10 FU (0 : Int32) (-40 : Int32)) else (f_X8_tells_206 x28_5 (f_X8_tells_28 o0 v1 q3 nn28) x28_2 x28_3))))
def f_X8_tells (o0 : Ob) (v1 : Int32) : Option (Int32) := bnd (f_X8_in (v1.toInt64) (0 : Int64) (1 : Int64)) fun q1 : Bool => if (b2i q1) = 0 then (some (-1 : Int32)) else ((f_X8_shifts o0 (0 : Int32)).bind fun q3 : Int32 => f_X8_tells_28 o0 v1 q3 FU (-4 : Int32) (99 : Int32) (0 : Int32))
abbrev rmX8_tells : Room := { frames := 4, cells := 0, slots := 0, locals := 98 }
theorem dsc_X8_tells : yX8_tells.cls ≠ "java/lang/invoke/MethodHandle" ∧ yX8_tells.cls ≠ "java/lang/invoke/VarHandle" ∧ (parseMethodDescriptor yX8_tells.desc).map (fun d => d.parameters.length) = some 1 := by decide +kernel
set_option maxHeartbeats 4000000 in
set_option maxRecDepth 100000 in
theorem c_X8_tells (l : Launch) (dC : Nat → ClassId) (dI : Nat → Nat → Nat) (cB cI cZ cO : ClassId) (a0 : Nat) (g0 : Nat → Nat) (o0 : Ob) (v1 : Int32) {r : Int32} (h : f_X8_tells o0 v1 = some r) : Ct dC dI cB cI cZ cO l yX8_tells wsX8_tells rmX8_tells [.ref a0, .int v1] ([cX8 a0 g0 o0, cX8_0 cI g0 o0, cX8_1 cI g0 o0, cX8_3 cI g0 o0, cX8_4 cI g0 o0, cX8_6 cI g0 o0, cX8_8 cI g0 o0, cX8_9 cI g0 o0, cX8_10 cI g0 o0, cX8_12 cI g0 o0, cX8_13 cI g0 o0, cX8_15 cI g0 o0, cX8_17 cI g0 o0, cX8_18 cI g0 o0, cX8_22 cB g0 o0, cX8_27 cI g0 o0, cX8_28 cI g0 o0, cX8_29 cI g0 o0, cX8_30 cI g0 o0, cX8_31 cI g0 o0, cX8_32 cI g0 o0, cX8_33 cI g0 o0]) (some (.int r)) ([cX8 a0 g0 o0, cX8_0 cI g0 o0, cX8_1 cI g0 o0, cX8_3 cI g0 o0, cX8_4 cI g0 o0, cX8_6 cI g0 o0, cX8_8 cI g0 o0, cX8_9 cI g0 o0, cX8_10 cI g0 o0, cX8_12 cI g0 o0, cX8_13 cI g0 o0, cX8_15 cI g0 o0, cX8_17 cI g0 o0, cX8_18 cI g0 o0, cX8_22 cB g0 o0, cX8_27 cI g0 o0, cX8_28 cI g0 o0, cX8_29 cI g0 o0, cX8_30 cI g0 o0, cX8_31 cI g0 o0, cX8_32 cI g0 o0, cX8_33 cI g0 o0]) := by
  intro sz
  refine Met.ofW (cc := cX8_tells) (maxL := 11) (ret := (some .int)) (by decide) rfl ?_
  intro p e s m args below meth c s₁ B hml hv
  obtain ⟨rfl, hsz, hP, hKK, hD0⟩ := hv
  have hx := B.exec
  have hb := B.bytes
  have hr := B.returns
  have hts := atoms_spec (ws := wsX8_tells) B.pre
  have hown : s.vm.findClass RX8 = some m.cls := findClass_of_methodNamed B.named
  have hlocks := B.notSynchronized
  have hiX8 : ∀ w ∈ u_ws RX8 TX8 36, w ∈ wsX8_tells := fun w h => List.mem_cons_of_mem _ (List.mem_append_right _ h)
  subst hsz
  have hD := hD0.self (sz := s.heap.size)
  generalize hAe : va_A ([cX8 a0 g0 o0, cX8_0 cI g0 o0, cX8_1 cI g0 o0, cX8_3 cI g0 o0, cX8_4 cI g0 o0, cX8_6 cI g0 o0, cX8_8 cI g0 o0, cX8_9 cI g0 o0, cX8_10 cI g0 o0, cX8_12 cI g0 o0, cX8_13 cI g0 o0, cX8_15 cI g0 o0, cX8_17 cI g0 o0, cX8_18 cI g0 o0, cX8_22 cB g0 o0, cX8_27 cI g0 o0, cX8_28 cI g0 o0, cX8_29 cI g0 o0, cX8_30 cI g0 o0, cX8_31 cI g0 o0, cX8_32 cI g0 o0, cX8_33 cI g0 o0]) s.heap.size = A at hD ⊢
  have hA : ∀ q : Nat, s.heap.size ≤ q → A q := fun q h => by rw [← hAe]; exact Or.inr h
  have hS : va_S A s.heap s.heap [] := va_S.rf
  have hP : va_P (dC, dI) vwCl ([cX8 a0 g0 o0, cX8_0 cI g0 o0, cX8_1 cI g0 o0, cX8_3 cI g0 o0, cX8_4 cI g0 o0, cX8_6 cI g0 o0, cX8_8 cI g0 o0, cX8_9 cI g0 o0, cX8_10 cI g0 o0, cX8_12 cI g0 o0, cX8_13 cI g0 o0, cX8_15 cI g0 o0, cX8_17 cI g0 o0, cX8_18 cI g0 o0, cX8_22 cB g0 o0, cX8_27 cI g0 o0, cX8_28 cI g0 o0, cX8_29 cI g0 o0, cX8_30 cI g0 o0, cX8_31 cI g0 o0, cX8_32 cI g0 o0, cX8_33 cI g0 o0]) s.heap := hP
  have hD : va_D A ([cX8 a0 g0 o0, cX8_0 cI g0 o0, cX8_1 cI g0 o0, cX8_3 cI g0 o0, cX8_4 cI g0 o0, cX8_6 cI g0 o0, cX8_8 cI g0 o0, cX8_9 cI g0 o0, cX8_10 cI g0 o0, cX8_12 cI g0 o0, cX8_13 cI g0 o0, cX8_15 cI g0 o0, cX8_17 cI g0 o0, cX8_18 cI g0 o0, cX8_22 cB g0 o0, cX8_27 cI g0 o0, cX8_28 cI g0 o0, cX8_29 cI g0 o0, cX8_30 cI g0 o0, cX8_31 cI g0 o0, cX8_32 cI g0 o0, cX8_33 cI g0 o0]) := hD
  have hl := lv_entry ([.ref a0, .int v1]) (n := 11) (Nat.le_of_ble_eq_true rfl)
  rw [lg_entry_eq]
  generalize (lg_sl ([.ref a0, .int v1]) ++ List.replicate (11 - (lg_sl ([.ref a0, .int v1])).length) Slot.unset).toArray = ls at hl ⊢
  have hl : lv_has ls 11 [(0, .ref a0), (1, .int v1)] := hl
  obtain ⟨Q, hQ⟩ : ∃ Q, Q = MQ below (Qq dC dI (some (.int r)) ([cX8 a0 g0 o0, cX8_0 cI g0 o0, cX8_1 cI g0 o0, cX8_3 cI g0 o0, cX8_4 cI g0 o0, cX8_6 cI g0 o0, cX8_8 cI g0 o0, cX8_9 cI g0 o0, cX8_10 cI g0 o0, cX8_12 cI g0 o0, cX8_13 cI g0 o0, cX8_15 cI g0 o0, cX8_17 cI g0 o0, cX8_18 cI g0 o0, cX8_22 cB g0 o0, cX8_27 cI g0 o0, cX8_28 cI g0 o0, cX8_29 cI g0 o0, cX8_30 cI g0 o0, cX8_31 cI g0 o0, cX8_32 cI g0 o0, cX8_33 cI g0 o0]) A) ([.ref a0, .int v1] : List Value).toArray s 0 0 A := ⟨_, rfl⟩
  rw [← hQ]
  rw [f_X8_tells] at h
  clear hAe hD0
  refine lv_iload_n hx hb dX8_tells_0 rfl (lv_at hl 1 rfl) ?_
  refine lv_i2l hx hb dX8_tells_1 rfl ?_
  refine lv_lconst (v := 0) hx hb dX8_tells_2 (by decide) ?_
  refine lv_lconst (v := 1) hx hb dX8_tells_3 (by decide) ?_
  obtain ⟨q1, hq1, h⟩ := bnd_e h
  refine kcS (rest := []) (w2 := ([cX8 a0 g0 o0, cX8_0 cI g0 o0, cX8_1 cI g0 o0, cX8_3 cI g0 o0, cX8_4 cI g0 o0, cX8_6 cI g0 o0, cX8_8 cI g0 o0, cX8_9 cI g0 o0, cX8_10 cI g0 o0, cX8_12 cI g0 o0, cX8_13 cI g0 o0, cX8_15 cI g0 o0, cX8_17 cI g0 o0, cX8_18 cI g0 o0, cX8_22 cB g0 o0, cX8_27 cI g0 o0, cX8_28 cI g0 o0, cX8_29 cI g0 o0, cX8_30 cI g0 o0, cX8_31 cI g0 o0, cX8_32 cI g0 o0, cX8_33 cI g0 o0])) hx hb hml hown hts hKK hP hD hS hA (c_X8_in l dC dI cB cI cZ cO (v1.toInt64) (0 : Int64) (1 : Int64) hq1) [] (atAll_map trivial) (by decide +kernel) (sameAd_map trivial) (atAll_map trivial) (agr_refl _ _ _) (va_cwS 3 hts gX8_tells_X8_in rfl rfl rfl dsc_X8_in ⟨Nat.le_of_ble_eq_true rfl, Nat.le_of_ble_eq_true rfl⟩) rfl hl.1 rfl (Nat.le_of_ble_eq_true rfl) dX8_tells_4 ⟨Nat.zero_le _, Nat.zero_le _⟩ (fun H locs hP hD hS => ?_)
  refine lv_if_ne (tgt := 12) hx hb dX8_tells_7 (by decide) (fun k2 => ?_) (fun k2 => ?_)
  · have h := ite_f k2 h
    refine lv_bipush (v := (-4 : Int32)) hx hb dX8_tells_12 (by decide) ?_
    refine lv_istore_n (lv' := [(2, .int (-4 : Int32)), (0, .ref a0), (1, .int v1)]) hx hb dX8_tells_14 rfl hl (by decide) rfl (fun ls hl => ?_)
    refine lv_bipush (v := (99 : Int32)) hx hb dX8_tells_15 (by decide) ?_
    refine lv_istore_n (lv' := [(3, .int (99 : Int32)), (2, .int (-4 : Int32)), (0, .ref a0), (1, .int v1)]) hx hb dX8_tells_17 rfl hl (by decide) rfl (fun ls hl => ?_)
    refine lv_aload_n hx hb dX8_tells_18 rfl (lv_at hl 2 rfl) ?_
    refine lv_iconst (v := (0 : Int32)) hx hb dX8_tells_19 (by decide) ?_
    obtain ⟨q3, hq3, h⟩ := obd_e h
    refine kcV (rest := []) (w2 := ([cX8 a0 g0 o0, cX8_0 cI g0 o0, cX8_1 cI g0 o0, cX8_3 cI g0 o0, cX8_4 cI g0 o0, cX8_6 cI g0 o0, cX8_8 cI g0 o0, cX8_9 cI g0 o0, cX8_10 cI g0 o0, cX8_12 cI g0 o0, cX8_13 cI g0 o0, cX8_15 cI g0 o0, cX8_17 cI g0 o0, cX8_18 cI g0 o0, cX8_22 cB g0 o0, cX8_27 cI g0 o0, cX8_28 cI g0 o0, cX8_29 cI g0 o0, cX8_30 cI g0 o0, cX8_31 cI g0 o0, cX8_32 cI g0 o0, cX8_33 cI g0 o0])) hx hb hml hown hts hKK hP hD hS hA (c_X8_shifts l dC dI cB cI cZ cO a0 g0 o0 (0 : Int32) hq3) [0, 1, 2, 3, 4, 5, 6, 7, 8, 9, 10, 11, 12, 13, 14, 15, 16, 17, 18, 19, 20, 21] (atAll_map ⟨rfl, rfl, rfl, rfl, rfl, rfl, rfl, rfl, rfl, rfl, rfl, rfl, rfl, rfl, rfl, rfl, rfl, rfl, rfl, rfl, rfl, rfl, trivial⟩) (by decide +kernel) (sameAd_map ⟨rfl, rfl, rfl, rfl, rfl, rfl, rfl, rfl, rfl, rfl, rfl, rfl, rfl, rfl, rfl, rfl, rfl, rfl, rfl, rfl, rfl, rfl, trivial⟩) (atAll_map ⟨rfl, rfl, rfl, rfl, rfl, rfl, rfl, rfl, rfl, rfl, rfl, rfl, rfl, rfl, rfl, rfl, rfl, rfl, rfl, rfl, rfl, rfl, trivial⟩) (agr_refl _ _ _) (cwV 1 hts gX8_tells_X8_shifts rfl rfl rfl ⟨rfl, dsc_X8_shifts⟩ ⟨Nat.le_of_ble_eq_true rfl, Nat.le_of_ble_eq_true rfl⟩) (va_recv hKK.1 hP (ci := 8) (q0 := 0) rfl rfl) rfl hl.1 rfl (Nat.le_of_ble_eq_true rfl) dX8_tells_20 ⟨Nat.zero_le _, Nat.zero_le _⟩ (fun H locs hP hD hS => ?_)
    refine lv_istore (lv' := [(4, .int q3), (3, .int (99 : Int32)), (2, .int (-4 : Int32)), (0, .ref a0), (1, .int v1)]) hx hb dX8_tells_23 hl (by decide) rfl (fun ls hl => ?_)
    refine lv_iconst (v := (0 : Int32)) hx hb dX8_tells_25 (by decide) ?_
    refine lv_istore (lv' := [(5, .int (0 : Int32)), (4, .int q3), (3, .int (99 : Int32)), (2, .int (-4 : Int32)), (0, .ref a0), (1, .int v1)]) hx hb dX8_tells_26 hl (by decide) rfl (fun ls hl => ?_)
    have lp28 : ∀ (nn28 : Nat) (x28_2 : Int32) (x28_3 : Int32) (x28_5 : Int32), f_X8_tells_28 o0 v1 q3 nn28 x28_2 x28_3 x28_5 = some r → ∀ (H : Heap) (locs : List Loc) (ls : Array Slot), va_P (dC, dI) vwCl ([cX8 a0 g0 o0, cX8_0 cI g0 o0, cX8_1 cI g0 o0, cX8_3 cI g0 o0, cX8_4 cI g0 o0, cX8_6 cI g0 o0, cX8_8 cI g0 o0, cX8_9 cI g0 o0, cX8_10 cI g0 o0, cX8_12 cI g0 o0, cX8_13 cI g0 o0, cX8_15 cI g0 o0, cX8_17 cI g0 o0, cX8_18 cI g0 o0, cX8_22 cB g0 o0, cX8_27 cI g0 o0, cX8_28 cI g0 o0, cX8_29 cI g0 o0, cX8_30 cI g0 o0, cX8_31 cI g0 o0, cX8_32 cI g0 o0, cX8_33 cI g0 o0]) H → va_D A ([cX8 a0 g0 o0, cX8_0 cI g0 o0, cX8_1 cI g0 o0, cX8_3 cI g0 o0, cX8_4 cI g0 o0, cX8_6 cI g0 o0, cX8_8 cI g0 o0, cX8_9 cI g0 o0, cX8_10 cI g0 o0, cX8_12 cI g0 o0, cX8_13 cI g0 o0, cX8_15 cI g0 o0, cX8_17 cI g0 o0, cX8_18 cI g0 o0, cX8_22 cB g0 o0, cX8_27 cI g0 o0, cX8_28 cI g0 o0, cX8_29 cI g0 o0, cX8_30 cI g0 o0, cX8_31 cI g0 o0, cX8_32 cI g0 o0, cX8_33 cI g0 o0]) → va_S A s.heap H locs → lv_has ls 11 [(0, .ref a0), (1, .int v1), (2, .int x28_2), (3, .int x28_3), (4, .int q3), (5, .int x28_5)] → W p l e (headSpec wsX8_tells rmX8_tells).room s m ([.ref a0, .int v1] : List Value).toArray below meth c H locs 0 0 Q (F0 m 28 ls []) := by
      intro nn28
      induction nn28 with
      | zero => intro x28_2 x28_3 x28_5 h; rw [f_X8_tells_28] at h; cases h
      | succ nn28 ih28 =>
        intro x28_2 x28_3 x28_5 h H locs ls hP hD hS hl
        rw [f_X8_tells_28] at h
        refine lv_iload hx hb dX8_tells_28 (lv_at hl 5 rfl) ?_
        refine lv_bipush (v := (12 : Int32)) hx hb dX8_tells_30 (by decide) ?_
        refine lv_aload_n hx hb dX8_tells_32 rfl (lv_at hl 0 rfl) ?_
        refine va_get (D := (dC, dI)) (ci := 8) (v := .int (o0.1 2)) (C := RX8) (T := TX8) (N := 36) hx hb hts hiX8 hown hKK.1 hP 0 rfl rfl 2 (by decide) (hts (.fieldLink RX8 98 "SlideLandModel" "strips" "I") (List.mem_of_getElem? (i := 1) rfl)) (fun _ h9 => h9) rfl dX8_tells_33 ?_
        refine lv_imul hx hb dX8_tells_36 ?_
        have jn212 : f_X8_tells_212 v1 x28_2 x28_3 = some r → ∀ (H : Heap) (locs : List Loc) (ls : Array Slot), va_P (dC, dI) vwCl ([cX8 a0 g0 o0, cX8_0 cI g0 o0, cX8_1 cI g0 o0, cX8_3 cI g0 o0, cX8_4 cI g0 o0, cX8_6 cI g0 o0, cX8_8 cI g0 o0, cX8_9 cI g0 o0, cX8_10 cI g0 o0, cX8_12 cI g0 o0, cX8_13 cI g0 o0, cX8_15 cI g0 o0, cX8_17 cI g0 o0, cX8_18 cI g0 o0, cX8_22 cB g0 o0, cX8_27 cI g0 o0, cX8_28 cI g0 o0, cX8_29 cI g0 o0, cX8_30 cI g0 o0, cX8_31 cI g0 o0, cX8_32 cI g0 o0, cX8_33 cI g0 o0]) H → va_D A ([cX8 a0 g0 o0, cX8_0 cI g0 o0, cX8_1 cI g0 o0, cX8_3 cI g0 o0, cX8_4 cI g0 o0, cX8_6 cI g0 o0, cX8_8 cI g0 o0, cX8_9 cI g0 o0, cX8_10 cI g0 o0, cX8_12 cI g0 o0, cX8_13 cI g0 o0, cX8_15 cI g0 o0, cX8_17 cI g0 o0, cX8_18 cI g0 o0, cX8_22 cB g0 o0, cX8_27 cI g0 o0, cX8_28 cI g0 o0, cX8_29 cI g0 o0, cX8_30 cI g0 o0, cX8_31 cI g0 o0, cX8_32 cI g0 o0, cX8_33 cI g0 o0]) → va_S A s.heap H locs → lv_has ls 11 [(1, .int v1), (2, .int x28_2), (3, .int x28_3)] → W p l e (headSpec wsX8_tells rmX8_tells).room s m ([.ref a0, .int v1] : List Value).toArray below meth c H locs 0 0 Q (F0 m 212 ls []) := by
          intro h H locs ls hP hD hS hl
          rw [f_X8_tells_212] at h
          refine lv_iload_n hx hb dX8_tells_212 rfl (lv_at hl 1 rfl) ?_
          refine lv_if_lt (tgt := 220) hx hb dX8_tells_213 (by decide) (fun k4 => ?_) (fun k4 => ?_)
          · have h := ite_t k4 h
            refine lv_iload_n hx hb dX8_tells_220 rfl (lv_at hl 1 rfl) ?_
            refine lv_goto (tgt := 225) hx hb dX8_tells_221 (by decide) ?_
            have h := Option.some.inj h
            subst h
            subst hQ
            exact W.iret (v := x28_2) hx hb hr (fun t ht hW => ⟨⟨rfl, by rw [ht]; exact hP, hD⟩, hS.F ht⟩) hS.2.2 dX8_tells_225
          · have h := ite_f k4 h
            refine lv_iload_n hx hb dX8_tells_216 rfl (lv_at hl 0 rfl) ?_
            refine lv_if_ne (tgt := 224) hx hb dX8_tells_217 (by decide) (fun k5 => ?_) (fun k5 => ?_)
            · have h := ite_f k5 h
              refine lv_iload_n hx hb dX8_tells_224 rfl (lv_at hl 2 rfl) ?_
              have h := Option.some.inj h
              subst h
              subst hQ
              exact W.iret (v := x28_3) hx hb hr (fun t ht hW => ⟨⟨rfl, by rw [ht]; exact hP, hD⟩, hS.F ht⟩) hS.2.2 dX8_tells_225
            · have h := ite_t k5 h
              refine lv_iload_n hx hb dX8_tells_220 rfl (lv_at hl 1 rfl) ?_
              refine lv_goto (tgt := 225) hx hb dX8_tells_221 (by decide) ?_
              have h := Option.some.inj h
              subst h
              subst hQ
              exact W.iret (v := x28_2) hx hb hr (fun t ht hW => ⟨⟨rfl, by rw [ht]; exact hP, hD⟩, hS.F ht⟩) hS.2.2 dX8_tells_225
        refine lv_icmp_ge (tgt := 212) hx hb dX8_tells_37 (by decide) (fun k6 => ?_) (fun k6 => ?_)
        · have h := ite_t k6 h
          exact jn212 h _ _ _ hP hD hS (lv_sub hl [1, 2, 3] rfl)
        · have h := ite_f k6 h
          refine lv_iload hx hb dX8_tells_40 (lv_at hl 4 rfl) ?_
          refine lv_if_le (tgt := 212) hx hb dX8_tells_42 (by decide) (fun k7 => ?_) (fun k7 => ?_)
          · have h := ite_t k7 h
            exact jn212 h _ _ _ hP hD hS (lv_sub hl [1, 2, 3] rfl)
          · have h := ite_f k7 h
            refine lv_iload hx hb dX8_tells_45 (lv_at hl 5 rfl) ?_
            refine lv_bipush (v := (12 : Int32)) hx hb dX8_tells_47 (by decide) ?_
            refine lv_idiv hx hb dX8_tells_49 (by decide) ?_
            obtain ⟨x8, hx8, h⟩ := bnd_e h
            refine lv_topE hx8 ?_
            refine lv_istore (lv' := [(6, .int x8), (0, .ref a0), (1, .int v1), (2, .int x28_2), (3, .int x28_3), (4, .int q3), (5, .int x28_5)]) hx hb dX8_tells_50 hl (by decide) rfl (fun ls hl => ?_)
            refine lv_iload hx hb dX8_tells_52 (lv_at hl 6 rfl) ?_
            refine lv_bipush (v := (12 : Int32)) hx hb dX8_tells_54 (by decide) ?_
            refine lv_irem hx hb dX8_tells_56 (by decide) ?_
            refine lv_bipush (v := (6 : Int32)) hx hb dX8_tells_57 (by decide) ?_
            refine lv_idiv hx hb dX8_tells_59 (by decide) ?_
            obtain ⟨x9, hx9, h⟩ := bnd_e h
            refine lv_topE hx9 ?_
            refine lv_istore (lv' := [(7, .int x9), (6, .int x8), (0, .ref a0), (1, .int v1), (2, .int x28_2), (3, .int x28_3), (4, .int q3), (5, .int x28_5)]) hx hb dX8_tells_60 hl (by decide) rfl (fun ls hl => ?_)
            refine lv_iload hx hb dX8_tells_62 (lv_at hl 7 rfl) ?_
            refine lv_bipush (v := (6 : Int32)) hx hb dX8_tells_64 (by decide) ?_
            refine lv_irem hx hb dX8_tells_66 (by decide) ?_
            obtain ⟨x10, hx10, h⟩ := bnd_e h
            refine lv_topE hx10 ?_
            refine lv_istore (lv' := [(8, .int x10), (7, .int x9), (6, .int x8), (0, .ref a0), (1, .int v1), (2, .int x28_2), (3, .int x28_3), (4, .int q3), (5, .int x28_5)]) hx hb dX8_tells_67 hl (by decide) rfl (fun ls hl => ?_)
            refine lv_iload hx hb dX8_tells_69 (lv_at hl 0 rfl) ?_
            refine lv_aload_n hx hb dX8_tells_71 rfl (lv_at hl 3 rfl) ?_
            refine va_get (D := (dC, dI)) (ci := 8) (v := .ref (g0 0)) (C := RX8) (T := TX8) (N := 36) hx hb hts hiX8 hown hKK.1 hP 0 rfl rfl 0 (by decide) (hts (.fieldLink RX8 7 "SlideLandModel" "many" "[I") (List.mem_of_getElem? (i := 2) rfl)) (fun _ h9 => h9) rfl dX8_tells_72 ?_
            refine lv_iload hx hb dX8_tells_75 (lv_at hl 1 rfl) ?_
            obtain ⟨k11, h⟩ := ite_n h
            refine va_iald hx hb hKK.1 hP 1 1 rfl rfl k11 dX8_tells_77 ?_
            have jn206 : ∀ (x206_2 : Int32) (x206_3 : Int32), f_X8_tells_206 x28_5 (f_X8_tells_28 o0 v1 q3 nn28) x206_2 x206_3 = some r → ∀ (H : Heap) (locs : List Loc) (ls : Array Slot), va_P (dC, dI) vwCl ([cX8 a0 g0 o0, cX8_0 cI g0 o0, cX8_1 cI g0 o0, cX8_3 cI g0 o0, cX8_4 cI g0 o0, cX8_6 cI g0 o0, cX8_8 cI g0 o0, cX8_9 cI g0 o0, cX8_10 cI g0 o0, cX8_12 cI g0 o0, cX8_13 cI g0 o0, cX8_15 cI g0 o0, cX8_17 cI g0 o0, cX8_18 cI g0 o0, cX8_22 cB g0 o0, cX8_27 cI g0 o0, cX8_28 cI g0 o0, cX8_29 cI g0 o0, cX8_30 cI g0 o0, cX8_31 cI g0 o0, cX8_32 cI g0 o0, cX8_33 cI g0 o0]) H → va_D A ([cX8 a0 g0 o0, cX8_0 cI g0 o0, cX8_1 cI g0 o0, cX8_3 cI g0 o0, cX8_4 cI g0 o0, cX8_6 cI g0 o0, cX8_8 cI g0 o0, cX8_9 cI g0 o0, cX8_10 cI g0 o0, cX8_12 cI g0 o0, cX8_13 cI g0 o0, cX8_15 cI g0 o0, cX8_17 cI g0 o0, cX8_18 cI g0 o0, cX8_22 cB g0 o0, cX8_27 cI g0 o0, cX8_28 cI g0 o0, cX8_29 cI g0 o0, cX8_30 cI g0 o0, cX8_31 cI g0 o0, cX8_32 cI g0 o0, cX8_33 cI g0 o0]) → va_S A s.heap H locs → lv_has ls 11 [(0, .ref a0), (1, .int v1), (2, .int x206_2), (3, .int x206_3), (4, .int q3), (5, .int x28_5)] → W p l e (headSpec wsX8_tells rmX8_tells).room s m ([.ref a0, .int v1] : List Value).toArray below meth c H locs 0 0 Q (F0 m 206 ls []) := by
              intro x206_2 x206_3 h H locs ls hP hD hS hl
              rw [f_X8_tells_206] at h
              obtain ⟨x12, hx12, h⟩ := bnd_e h
              refine lv_iinc (v := x12) (lv' := [(5, .int x12), (0, .ref a0), (1, .int v1), (2, .int x206_2), (3, .int x206_3), (4, .int q3)]) hx hb dX8_tells_206 hl (k := 5) rfl (by rw [← hx12]; rfl) (by decide) rfl (fun ls hl => ?_)
              refine lv_goto (tgt := 28) hx hb dX8_tells_209 (by decide) ?_
              exact ih28 x206_2 x206_3 x12 h _ _ _ hP hD hS (lv_sub hl [1, 2, 3, 4, 5, 0] rfl)
            refine lv_icmp_ge (tgt := 206) hx hb dX8_tells_78 (by decide) (fun k13 => ?_) (fun k13 => ?_)
            · have h := ite_t k13 h
              exact jn206 x28_2 x28_3 h _ _ _ hP hD hS (lv_sub hl [3, 4, 5, 6, 7, 8] rfl)
            · have h := ite_f k13 h
              refine lv_aload_n hx hb dX8_tells_81 rfl (lv_at hl 3 rfl) ?_
              refine lv_iload hx hb dX8_tells_82 (lv_at hl 2 rfl) ?_
              refine lv_iload hx hb dX8_tells_84 (lv_at hl 1 rfl) ?_
              refine lv_iload hx hb dX8_tells_86 (lv_at hl 0 rfl) ?_
              obtain ⟨q14, hq14, h⟩ := obd_e h
              refine kcV (rest := []) (w2 := ([cX8 a0 g0 o0, cX8_0 cI g0 o0, cX8_1 cI g0 o0, cX8_3 cI g0 o0, cX8_4 cI g0 o0, cX8_6 cI g0 o0, cX8_8 cI g0 o0, cX8_9 cI g0 o0, cX8_10 cI g0 o0, cX8_12 cI g0 o0, cX8_13 cI g0 o0, cX8_15 cI g0 o0, cX8_17 cI g0 o0, cX8_18 cI g0 o0, cX8_22 cB g0 o0, cX8_27 cI g0 o0, cX8_28 cI g0 o0, cX8_29 cI g0 o0, cX8_30 cI g0 o0, cX8_31 cI g0 o0, cX8_32 cI g0 o0, cX8_33 cI g0 o0])) hx hb hml hown hts hKK hP hD hS hA (c_X8_isAsked l dC dI cB cI cZ cO a0 g0 o0 x8 x9 x10 hq14) [0, 1, 2, 3, 4, 5, 6, 7, 8, 9, 10, 11, 12, 13, 14, 15, 16, 17, 18, 19, 20, 21] (atAll_map ⟨rfl, rfl, rfl, rfl, rfl, rfl, rfl, rfl, rfl, rfl, rfl, rfl, rfl, rfl, rfl, rfl, rfl, rfl, rfl, rfl, rfl, rfl, trivial⟩) (by decide +kernel) (sameAd_map ⟨rfl, rfl, rfl, rfl, rfl, rfl, rfl, rfl, rfl, rfl, rfl, rfl, rfl, rfl, rfl, rfl, rfl, rfl, rfl, rfl, rfl, rfl, trivial⟩) (atAll_map ⟨rfl, rfl, rfl, rfl, rfl, rfl, rfl, rfl, rfl, rfl, rfl, rfl, rfl, rfl, rfl, rfl, rfl, rfl, rfl, rfl, rfl, rfl, trivial⟩) (agr_refl _ _ _) (cwV 3 hts gX8_tells_X8_isAsked rfl rfl rfl ⟨rfl, dsc_X8_isAsked⟩ ⟨Nat.le_of_ble_eq_true rfl, Nat.le_of_ble_eq_true rfl⟩) (va_recv hKK.1 hP (ci := 8) (q0 := 0) rfl rfl) rfl hl.1 rfl (Nat.le_of_ble_eq_true rfl) dX8_tells_88 ⟨Nat.zero_le _, Nat.zero_le _⟩ (fun H locs hP hD hS => ?_)
              refine lv_if_ne (tgt := 206) hx hb dX8_tells_91 (by decide) (fun k15 => ?_) (fun k15 => ?_)
              · have h := ite_f k15 h
                exact jn206 x28_2 x28_3 h _ _ _ hP hD hS (lv_sub hl [3, 4, 5, 6, 7, 8] rfl)
              · have h := ite_t k15 h
                refine lv_iconst (v := (0 : Int32)) hx hb dX8_tells_94 (by decide) ?_
                refine lv_istore (lv' := [(9, .int (0 : Int32)), (8, .int x10), (7, .int x9), (6, .int x8), (0, .ref a0), (1, .int v1), (2, .int x28_2), (3, .int x28_3), (4, .int q3), (5, .int x28_5)]) hx hb dX8_tells_95 hl (by decide) rfl (fun ls hl => ?_)
                refine lv_bipush (v := (-40 : Int32)) hx hb dX8_tells_97 (by decide) ?_
                refine lv_istore (lv' := [(10, .int (-40 : Int32)), (9, .int (0 : Int32)), (8, .int x10), (7, .int x9), (6, .int x8), (0, .ref a0), (1, .int v1), (2, .int x28_2), (3, .int x28_3), (4, .int q3), (5, .int x28_5)]) hx hb dX8_tells_99 hl (by decide) rfl (fun ls hl => ?_)
                have lp101 : ∀ (nn101 : Nat) (x101_9 : Int32) (x101_10 : Int32), f_X8_tells_101 o0 q3 x28_2 x28_3 x28_5 (f_X8_tells_28 o0 v1 q3 nn28) x8 x9 x10 nn101 x101_9 x101_10 = some r → ∀ (H : Heap) (locs : List Loc) (ls : Array Slot), va_P (dC, dI) vwCl ([cX8 a0 g0 o0, cX8_0 cI g0 o0, cX8_1 cI g0 o0, cX8_3 cI g0 o0, cX8_4 cI g0 o0, cX8_6 cI g0 o0, cX8_8 cI g0 o0, cX8_9 cI g0 o0, cX8_10 cI g0 o0, cX8_12 cI g0 o0, cX8_13 cI g0 o0, cX8_15 cI g0 o0, cX8_17 cI g0 o0, cX8_18 cI g0 o0, cX8_22 cB g0 o0, cX8_27 cI g0 o0, cX8_28 cI g0 o0, cX8_29 cI g0 o0, cX8_30 cI g0 o0, cX8_31 cI g0 o0, cX8_32 cI g0 o0, cX8_33 cI g0 o0]) H → va_D A ([cX8 a0 g0 o0, cX8_0 cI g0 o0, cX8_1 cI g0 o0, cX8_3 cI g0 o0, cX8_4 cI g0 o0, cX8_6 cI g0 o0, cX8_8 cI g0 o0, cX8_9 cI g0 o0, cX8_10 cI g0 o0, cX8_12 cI g0 o0, cX8_13 cI g0 o0, cX8_15 cI g0 o0, cX8_17 cI g0 o0, cX8_18 cI g0 o0, cX8_22 cB g0 o0, cX8_27 cI g0 o0, cX8_28 cI g0 o0, cX8_29 cI g0 o0, cX8_30 cI g0 o0, cX8_31 cI g0 o0, cX8_32 cI g0 o0, cX8_33 cI g0 o0]) → va_S A s.heap H locs → lv_has ls 11 [(0, .ref a0), (1, .int v1), (2, .int x28_2), (3, .int x28_3), (4, .int q3), (5, .int x28_5), (6, .int x8), (7, .int x9), (8, .int x10), (9, .int x101_9), (10, .int x101_10)] → W p l e (headSpec wsX8_tells rmX8_tells).room s m ([.ref a0, .int v1] : List Value).toArray below meth c H locs 0 0 Q (F0 m 101 ls []) := by
                  intro nn101
                  induction nn101 with
                  | zero => intro x101_9 x101_10 h; rw [f_X8_tells_101] at h; cases h
                  | succ nn101 ih101 =>
                    intro x101_9 x101_10 h H locs ls hP hD hS hl
                    rw [f_X8_tells_101] at h
                    refine lv_iload hx hb dX8_tells_101 (lv_at hl 10 rfl) ?_
                    refine lv_bipush (v := (40 : Int32)) hx hb dX8_tells_103 (by decide) ?_
                    refine lv_icmp_gt (tgt := 162) hx hb dX8_tells_105 (by decide) (fun k16 => ?_) (fun k16 => ?_)
                    · have h := ite_t k16 h
                      refine lv_iload hx hb dX8_tells_162 (lv_at hl 9 rfl) ?_
                      refine lv_iload hx hb dX8_tells_164 (lv_at hl 4 rfl) ?_
                      refine lv_iload hx hb dX8_tells_166 (lv_at hl 9 rfl) ?_
                      refine lv_isub hx hb dX8_tells_168 ?_
                      obtain ⟨q17, hq17, h⟩ := bnd_e h
                      refine kcS (rest := []) (w2 := ([cX8 a0 g0 o0, cX8_0 cI g0 o0, cX8_1 cI g0 o0, cX8_3 cI g0 o0, cX8_4 cI g0 o0, cX8_6 cI g0 o0, cX8_8 cI g0 o0, cX8_9 cI g0 o0, cX8_10 cI g0 o0, cX8_12 cI g0 o0, cX8_13 cI g0 o0, cX8_15 cI g0 o0, cX8_17 cI g0 o0, cX8_18 cI g0 o0, cX8_22 cB g0 o0, cX8_27 cI g0 o0, cX8_28 cI g0 o0, cX8_29 cI g0 o0, cX8_30 cI g0 o0, cX8_31 cI g0 o0, cX8_32 cI g0 o0, cX8_33 cI g0 o0])) hx hb hml hown hts hKK hP hD hS hA (c_X8_larger l dC dI cB cI cZ cO x101_9 (q3 - x101_9) hq17) [] (atAll_map trivial) (by decide +kernel) (sameAd_map trivial) (atAll_map trivial) (agr_refl _ _ _) (va_cwS 2 hts gX8_tells_X8_larger rfl rfl rfl dsc_X8_larger ⟨Nat.le_of_ble_eq_true rfl, Nat.le_of_ble_eq_true rfl⟩) rfl hl.1 rfl (Nat.le_of_ble_eq_true rfl) dX8_tells_169 ⟨Nat.zero_le _, Nat.zero_le _⟩ (fun H locs hP hD hS => ?_)
                      refine lv_istore (lv' := [(10, .int q17), (0, .ref a0), (1, .int v1), (2, .int x28_2), (3, .int x28_3), (4, .int q3), (5, .int x28_5), (6, .int x8), (7, .int x9), (8, .int x10), (9, .int x101_9)]) hx hb dX8_tells_172 hl (by decide) rfl (fun ls hl => ?_)
                      refine lv_iload hx hb dX8_tells_174 (lv_at hl 0 rfl) ?_
                      refine lv_iload_n hx hb dX8_tells_176 rfl (lv_at hl 4 rfl) ?_
                      have jn198 : ∀ (y198_0 : Int32), f_X8_tells_198 x28_3 x28_5 (f_X8_tells_28 o0 v1 q3 nn28) q17 y198_0 = some r → ∀ (H : Heap) (locs : List Loc) (ls : Array Slot), va_P (dC, dI) vwCl ([cX8 a0 g0 o0, cX8_0 cI g0 o0, cX8_1 cI g0 o0, cX8_3 cI g0 o0, cX8_4 cI g0 o0, cX8_6 cI g0 o0, cX8_8 cI g0 o0, cX8_9 cI g0 o0, cX8_10 cI g0 o0, cX8_12 cI g0 o0, cX8_13 cI g0 o0, cX8_15 cI g0 o0, cX8_17 cI g0 o0, cX8_18 cI g0 o0, cX8_22 cB g0 o0, cX8_27 cI g0 o0, cX8_28 cI g0 o0, cX8_29 cI g0 o0, cX8_30 cI g0 o0, cX8_31 cI g0 o0, cX8_32 cI g0 o0, cX8_33 cI g0 o0]) H → va_D A ([cX8 a0 g0 o0, cX8_0 cI g0 o0, cX8_1 cI g0 o0, cX8_3 cI g0 o0, cX8_4 cI g0 o0, cX8_6 cI g0 o0, cX8_8 cI g0 o0, cX8_9 cI g0 o0, cX8_10 cI g0 o0, cX8_12 cI g0 o0, cX8_13 cI g0 o0, cX8_15 cI g0 o0, cX8_17 cI g0 o0, cX8_18 cI g0 o0, cX8_22 cB g0 o0, cX8_27 cI g0 o0, cX8_28 cI g0 o0, cX8_29 cI g0 o0, cX8_30 cI g0 o0, cX8_31 cI g0 o0, cX8_32 cI g0 o0, cX8_33 cI g0 o0]) → va_S A s.heap H locs → lv_has ls 11 [(0, .ref a0), (1, .int v1), (3, .int x28_3), (4, .int q3), (5, .int x28_5), (10, .int q17)] → W p l e (headSpec wsX8_tells rmX8_tells).room s m ([.ref a0, .int v1] : List Value).toArray below meth c H locs 0 0 Q (F0 m 198 ls [.int y198_0]) := by
                        intro y198_0 h H locs ls hP hD hS hl
                        rw [f_X8_tells_198] at h
                        refine lv_istore_n (lv' := [(2, .int y198_0), (0, .ref a0), (1, .int v1), (3, .int x28_3), (4, .int q3), (5, .int x28_5), (10, .int q17)]) hx hb dX8_tells_198 rfl hl (by decide) rfl (fun ls hl => ?_)
                        refine lv_iload hx hb dX8_tells_199 (lv_at hl 6 rfl) ?_
                        refine lv_iload_n hx hb dX8_tells_201 rfl (lv_at hl 3 rfl) ?_
                        obtain ⟨q18, hq18, h⟩ := bnd_e h
                        refine kcS (rest := []) (w2 := ([cX8 a0 g0 o0, cX8_0 cI g0 o0, cX8_1 cI g0 o0, cX8_3 cI g0 o0, cX8_4 cI g0 o0, cX8_6 cI g0 o0, cX8_8 cI g0 o0, cX8_9 cI g0 o0, cX8_10 cI g0 o0, cX8_12 cI g0 o0, cX8_13 cI g0 o0, cX8_15 cI g0 o0, cX8_17 cI g0 o0, cX8_18 cI g0 o0, cX8_22 cB g0 o0, cX8_27 cI g0 o0, cX8_28 cI g0 o0, cX8_29 cI g0 o0, cX8_30 cI g0 o0, cX8_31 cI g0 o0, cX8_32 cI g0 o0, cX8_33 cI g0 o0])) hx hb hml hown hts hKK hP hD hS hA (c_X8_smaller l dC dI cB cI cZ cO q17 x28_3 hq18) [] (atAll_map trivial) (by decide +kernel) (sameAd_map trivial) (atAll_map trivial) (agr_refl _ _ _) (va_cwS 2 hts gX8_tells_X8_smaller rfl rfl rfl dsc_X8_smaller ⟨Nat.le_of_ble_eq_true rfl, Nat.le_of_ble_eq_true rfl⟩) rfl hl.1 rfl (Nat.le_of_ble_eq_true rfl) dX8_tells_202 ⟨Nat.zero_le _, Nat.zero_le _⟩ (fun H locs hP hD hS => ?_)
                        refine lv_istore_n (lv' := [(3, .int q18), (2, .int y198_0), (0, .ref a0), (1, .int v1), (4, .int q3), (5, .int x28_5), (10, .int q17)]) hx hb dX8_tells_205 rfl hl (by decide) rfl (fun ls hl => ?_)
                        exact jn206 y198_0 q18 h _ _ _ hP hD hS (lv_sub hl [2, 3, 1, 0, 4, 5] rfl)
                      refine lv_icmp_ge (tgt := 197) hx hb dX8_tells_177 (by decide) (fun k19 => ?_) (fun k19 => ?_)
                      · have h := ite_t k19 h
                        refine lv_iload_n hx hb dX8_tells_197 rfl (lv_at hl 3 rfl) ?_
                        exact jn198 x28_2 h _ _ _ hP hD hS (lv_sub hl [1, 2, 4, 5, 6, 0] rfl)
                      · have h := ite_f k19 h
                        refine lv_bipush (v := (100 : Int32)) hx hb dX8_tells_180 (by decide) ?_
                        refine lv_iload hx hb dX8_tells_182 (lv_at hl 7 rfl) ?_
                        refine lv_imul hx hb dX8_tells_184 ?_
                        refine lv_bipush (v := (10 : Int32)) hx hb dX8_tells_185 (by decide) ?_
                        refine lv_iload hx hb dX8_tells_187 (lv_at hl 8 rfl) ?_
                        refine lv_imul hx hb dX8_tells_189 ?_
                        refine lv_iadd hx hb dX8_tells_190 ?_
                        refine lv_iload hx hb dX8_tells_191 (lv_at hl 9 rfl) ?_
                        refine lv_iadd hx hb dX8_tells_193 ?_
                        refine lv_goto (tgt := 198) hx hb dX8_tells_194 (by decide) ?_
                        exact jn198 ((((100 : Int32) * x8) + ((10 : Int32) * x9)) + x10) h _ _ _ hP hD hS (lv_sub hl [1, 2, 4, 5, 6, 0] rfl)
                    · have h := ite_f k16 h
                      refine lv_iload hx hb dX8_tells_108 (lv_at hl 9 rfl) ?_
                      refine lv_aload_n hx hb dX8_tells_110 rfl (lv_at hl 0 rfl) ?_
                      refine lv_iload hx hb dX8_tells_111 (lv_at hl 10 rfl) ?_
                      refine lv_iload hx hb dX8_tells_113 (lv_at hl 10 rfl) ?_
                      obtain ⟨q20, hq20, h⟩ := obd_e h
                      refine kcV (rest := [.int x101_9]) (w2 := ([cX8 a0 g0 o0, cX8_0 cI g0 o0, cX8_1 cI g0 o0, cX8_3 cI g0 o0, cX8_4 cI g0 o0, cX8_6 cI g0 o0, cX8_8 cI g0 o0, cX8_9 cI g0 o0, cX8_10 cI g0 o0, cX8_12 cI g0 o0, cX8_13 cI g0 o0, cX8_15 cI g0 o0, cX8_17 cI g0 o0, cX8_18 cI g0 o0, cX8_22 cB g0 o0, cX8_27 cI g0 o0, cX8_28 cI g0 o0, cX8_29 cI g0 o0, cX8_30 cI g0 o0, cX8_31 cI g0 o0, cX8_32 cI g0 o0, cX8_33 cI g0 o0])) hx hb hml hown hts hKK hP hD hS hA (c_X8_isSo l dC dI cB cI cZ cO a0 g0 o0 x101_10 x101_10 hq20) [0, 1, 2, 3, 4, 5, 6, 7, 8, 9, 10, 11, 12, 13, 14, 15, 16, 17, 18, 19, 20, 21] (atAll_map ⟨rfl, rfl, rfl, rfl, rfl, rfl, rfl, rfl, rfl, rfl, rfl, rfl, rfl, rfl, rfl, rfl, rfl, rfl, rfl, rfl, rfl, rfl, trivial⟩) (by decide +kernel) (sameAd_map ⟨rfl, rfl, rfl, rfl, rfl, rfl, rfl, rfl, rfl, rfl, rfl, rfl, rfl, rfl, rfl, rfl, rfl, rfl, rfl, rfl, rfl, rfl, trivial⟩) (atAll_map ⟨rfl, rfl, rfl, rfl, rfl, rfl, rfl, rfl, rfl, rfl, rfl, rfl, rfl, rfl, rfl, rfl, rfl, rfl, rfl, rfl, rfl, rfl, trivial⟩) (agr_refl _ _ _) (cwV 2 hts gX8_tells_X8_isSo rfl rfl rfl ⟨rfl, dsc_X8_isSo⟩ ⟨Nat.le_of_ble_eq_true rfl, Nat.le_of_ble_eq_true rfl⟩) (va_recv hKK.1 hP (ci := 8) (q0 := 0) rfl rfl) rfl hl.1 rfl (Nat.le_of_ble_eq_true rfl) dX8_tells_115 ⟨Nat.zero_le _, Nat.zero_le _⟩ (fun H locs hP hD hS => ?_)
                      have jn153 : ∀ (y153_1 : Bool), f_X8_tells_153 x101_9 x101_10 (f_X8_tells_101 o0 q3 x28_2 x28_3 x28_5 (f_X8_tells_28 o0 v1 q3 nn28) x8 x9 x10 nn101) y153_1 = some r → ∀ (H : Heap) (locs : List Loc) (ls : Array Slot), va_P (dC, dI) vwCl ([cX8 a0 g0 o0, cX8_0 cI g0 o0, cX8_1 cI g0 o0, cX8_3 cI g0 o0, cX8_4 cI g0 o0, cX8_6 cI g0 o0, cX8_8 cI g0 o0, cX8_9 cI g0 o0, cX8_10 cI g0 o0, cX8_12 cI g0 o0, cX8_13 cI g0 o0, cX8_15 cI g0 o0, cX8_17 cI g0 o0, cX8_18 cI g0 o0, cX8_22 cB g0 o0, cX8_27 cI g0 o0, cX8_28 cI g0 o0, cX8_29 cI g0 o0, cX8_30 cI g0 o0, cX8_31 cI g0 o0, cX8_32 cI g0 o0, cX8_33 cI g0 o0]) H → va_D A ([cX8 a0 g0 o0, cX8_0 cI g0 o0, cX8_1 cI g0 o0, cX8_3 cI g0 o0, cX8_4 cI g0 o0, cX8_6 cI g0 o0, cX8_8 cI g0 o0, cX8_9 cI g0 o0, cX8_10 cI g0 o0, cX8_12 cI g0 o0, cX8_13 cI g0 o0, cX8_15 cI g0 o0, cX8_17 cI g0 o0, cX8_18 cI g0 o0, cX8_22 cB g0 o0, cX8_27 cI g0 o0, cX8_28 cI g0 o0, cX8_29 cI g0 o0, cX8_30 cI g0 o0, cX8_31 cI g0 o0, cX8_32 cI g0 o0, cX8_33 cI g0 o0]) → va_S A s.heap H locs → lv_has ls 11 [(0, .ref a0), (1, .int v1), (2, .int x28_2), (3, .int x28_3), (4, .int q3), (5, .int x28_5), (6, .int x8), (7, .int x9), (8, .int x10), (10, .int x101_10)] → W p l e (headSpec wsX8_tells rmX8_tells).room s m ([.ref a0, .int v1] : List Value).toArray below meth c H locs 0 0 Q (F0 m 153 ls [.int (b2i y153_1), .int x101_9]) := by
                        intro y153_1 h H locs ls hP hD hS hl
                        rw [f_X8_tells_153] at h
                        refine lv_iadd hx hb dX8_tells_153 ?_
                        obtain ⟨x21, hx21, h⟩ := bnd_e h
                        refine lv_topE hx21 ?_
                        refine lv_istore (lv' := [(9, .int x21), (0, .ref a0), (1, .int v1), (2, .int x28_2), (3, .int x28_3), (4, .int q3), (5, .int x28_5), (6, .int x8), (7, .int x9), (8, .int x10), (10, .int x101_10)]) hx hb dX8_tells_154 hl (by decide) rfl (fun ls hl => ?_)
                        obtain ⟨x22, hx22, h⟩ := bnd_e h
                        refine lv_iinc (v := x22) (lv' := [(10, .int x22), (9, .int x21), (0, .ref a0), (1, .int v1), (2, .int x28_2), (3, .int x28_3), (4, .int q3), (5, .int x28_5), (6, .int x8), (7, .int x9), (8, .int x10)]) hx hb dX8_tells_156 hl (k := 10) rfl (by rw [← hx22]; rfl) (by decide) rfl (fun ls hl => ?_)
                        refine lv_goto (tgt := 101) hx hb dX8_tells_159 (by decide) ?_
                        exact ih101 x21 x22 h _ _ _ hP hD hS (lv_sub hl [2, 3, 4, 5, 6, 7, 8, 9, 10, 1, 0] rfl)
                      have jn152 : f_X8_tells_152 x101_9 x101_10 (f_X8_tells_101 o0 q3 x28_2 x28_3 x28_5 (f_X8_tells_28 o0 v1 q3 nn28) x8 x9 x10 nn101) = some r → ∀ (H : Heap) (locs : List Loc) (ls : Array Slot), va_P (dC, dI) vwCl ([cX8 a0 g0 o0, cX8_0 cI g0 o0, cX8_1 cI g0 o0, cX8_3 cI g0 o0, cX8_4 cI g0 o0, cX8_6 cI g0 o0, cX8_8 cI g0 o0, cX8_9 cI g0 o0, cX8_10 cI g0 o0, cX8_12 cI g0 o0, cX8_13 cI g0 o0, cX8_15 cI g0 o0, cX8_17 cI g0 o0, cX8_18 cI g0 o0, cX8_22 cB g0 o0, cX8_27 cI g0 o0, cX8_28 cI g0 o0, cX8_29 cI g0 o0, cX8_30 cI g0 o0, cX8_31 cI g0 o0, cX8_32 cI g0 o0, cX8_33 cI g0 o0]) H → va_D A ([cX8 a0 g0 o0, cX8_0 cI g0 o0, cX8_1 cI g0 o0, cX8_3 cI g0 o0, cX8_4 cI g0 o0, cX8_6 cI g0 o0, cX8_8 cI g0 o0, cX8_9 cI g0 o0, cX8_10 cI g0 o0, cX8_12 cI g0 o0, cX8_13 cI g0 o0, cX8_15 cI g0 o0, cX8_17 cI g0 o0, cX8_18 cI g0 o0, cX8_22 cB g0 o0, cX8_27 cI g0 o0, cX8_28 cI g0 o0, cX8_29 cI g0 o0, cX8_30 cI g0 o0, cX8_31 cI g0 o0, cX8_32 cI g0 o0, cX8_33 cI g0 o0]) → va_S A s.heap H locs → lv_has ls 11 [(0, .ref a0), (1, .int v1), (2, .int x28_2), (3, .int x28_3), (4, .int q3), (5, .int x28_5), (6, .int x8), (7, .int x9), (8, .int x10), (10, .int x101_10)] → W p l e (headSpec wsX8_tells rmX8_tells).room s m ([.ref a0, .int v1] : List Value).toArray below meth c H locs 0 0 Q (F0 m 152 ls [.int x101_9]) := by
                        intro h H locs ls hP hD hS hl
                        rw [f_X8_tells_152] at h
                        refine lv_iconst (v := (0 : Int32)) hx hb dX8_tells_152 (by decide) ?_
                        exact jn153 false h _ _ _ hP hD hS (lv_sub hl [0, 1, 2, 3, 4, 5, 6, 7, 8, 9] rfl)
                      refine lv_if_eq (tgt := 152) hx hb dX8_tells_118 (by decide) (fun k23 => ?_) (fun k23 => ?_)
                      · have h := ite_t k23 h
                        exact jn152 h _ _ _ hP hD hS (lv_sub hl [0, 1, 2, 3, 4, 5, 6, 7, 8, 10] rfl)
                      · have h := ite_f k23 h
                        refine lv_aload_n hx hb dX8_tells_121 rfl (lv_at hl 0 rfl) ?_
                        refine lv_iload hx hb dX8_tells_122 (lv_at hl 6 rfl) ?_
                        refine lv_iload hx hb dX8_tells_124 (lv_at hl 7 rfl) ?_
                        refine lv_iload hx hb dX8_tells_126 (lv_at hl 8 rfl) ?_
                        refine lv_iload hx hb dX8_tells_128 (lv_at hl 10 rfl) ?_
                        refine lv_iload hx hb dX8_tells_130 (lv_at hl 10 rfl) ?_
                        refine lv_aload_n hx hb dX8_tells_132 rfl (lv_at hl 0 rfl) ?_
                        refine lv_aload_n hx hb dX8_tells_133 rfl (lv_at hl 0 rfl) ?_
                        refine va_get (D := (dC, dI)) (ci := 8) (v := .ref (g0 18)) (C := RX8) (T := TX8) (N := 36) hx hb hts hiX8 hown hKK.1 hP 0 rfl rfl 18 (by decide) (hts (.fieldLink RX8 46 "SlideLandModel" "slot" "[I") (List.mem_of_getElem? (i := 3) rfl)) (fun _ h9 => h9) rfl dX8_tells_134 ?_
                        refine lv_iconst (v := (3 : Int32)) hx hb dX8_tells_137 (by decide) ?_
                        refine va_iald hx hb hKK.1 hP 13 1 rfl rfl (show ¬ ((3 : Int32) < 0 ∨ 312 ≤ (3 : Int32).toNatClampNeg) from by decide) dX8_tells_138 ?_
                        obtain ⟨q24, hq24, h⟩ := obd_e h
                        refine kcV (rest := [.int x101_10, .int x101_10, .int x10, .int x9, .int x8, .ref a0, .int x101_9]) (w2 := ([cX8 a0 g0 o0, cX8_0 cI g0 o0, cX8_1 cI g0 o0, cX8_3 cI g0 o0, cX8_4 cI g0 o0, cX8_6 cI g0 o0, cX8_8 cI g0 o0, cX8_9 cI g0 o0, cX8_10 cI g0 o0, cX8_12 cI g0 o0, cX8_13 cI g0 o0, cX8_15 cI g0 o0, cX8_17 cI g0 o0, cX8_18 cI g0 o0, cX8_22 cB g0 o0, cX8_27 cI g0 o0, cX8_28 cI g0 o0, cX8_29 cI g0 o0, cX8_30 cI g0 o0, cX8_31 cI g0 o0, cX8_32 cI g0 o0, cX8_33 cI g0 o0])) hx hb hml hown hts hKK hP hD hS hA (c_X8_dampOf l dC dI cB cI cZ cO a0 g0 o0 ((o0.2 18) (3 : Int32).toNatClampNeg) hq24) [0, 1, 2, 3, 4, 5, 6, 7, 8, 9, 10, 11, 12, 13, 14, 15, 16, 17, 18, 19, 20, 21] (atAll_map ⟨rfl, rfl, rfl, rfl, rfl, rfl, rfl, rfl, rfl, rfl, rfl, rfl, rfl, rfl, rfl, rfl, rfl, rfl, rfl, rfl, rfl, rfl, trivial⟩) (by decide +kernel) (sameAd_map ⟨rfl, rfl, rfl, rfl, rfl, rfl, rfl, rfl, rfl, rfl, rfl, rfl, rfl, rfl, rfl, rfl, rfl, rfl, rfl, rfl, rfl, rfl, trivial⟩) (atAll_map ⟨rfl, rfl, rfl, rfl, rfl, rfl, rfl, rfl, rfl, rfl, rfl, rfl, rfl, rfl, rfl, rfl, rfl, rfl, rfl, rfl, rfl, rfl, trivial⟩) (agr_refl _ _ _) (cwV 1 hts gX8_tells_X8_dampOf rfl rfl rfl ⟨rfl, dsc_X8_dampOf⟩ ⟨Nat.le_of_ble_eq_true rfl, Nat.le_of_ble_eq_true rfl⟩) (va_recv hKK.1 hP (ci := 8) (q0 := 0) rfl rfl) rfl hl.1 rfl (Nat.le_of_ble_eq_true rfl) dX8_tells_139 ⟨Nat.zero_le _, Nat.zero_le _⟩ (fun H locs hP hD hS => ?_)
                        obtain ⟨q25, hq25, h⟩ := obd_e h
                        refine kcV (rest := [.int x101_9]) (w2 := ([cX8 a0 g0 o0, cX8_0 cI g0 o0, cX8_1 cI g0 o0, cX8_3 cI g0 o0, cX8_4 cI g0 o0, cX8_6 cI g0 o0, cX8_8 cI g0 o0, cX8_9 cI g0 o0, cX8_10 cI g0 o0, cX8_12 cI g0 o0, cX8_13 cI g0 o0, cX8_15 cI g0 o0, cX8_17 cI g0 o0, cX8_18 cI g0 o0, cX8_22 cB g0 o0, cX8_27 cI g0 o0, cX8_28 cI g0 o0, cX8_29 cI g0 o0, cX8_30 cI g0 o0, cX8_31 cI g0 o0, cX8_32 cI g0 o0, cX8_33 cI g0 o0])) hx hb hml hown hts hKK hP hD hS hA (c_X8_meets l dC dI cB cI cZ cO a0 g0 o0 x8 x9 x10 x101_10 x101_10 q24 hq25) [0, 1, 2, 3, 4, 5, 6, 7, 8, 9, 10, 11, 12, 13, 14, 15, 16, 17, 18, 19, 20, 21] (atAll_map ⟨rfl, rfl, rfl, rfl, rfl, rfl, rfl, rfl, rfl, rfl, rfl, rfl, rfl, rfl, rfl, rfl, rfl, rfl, rfl, rfl, rfl, rfl, trivial⟩) (by decide +kernel) (sameAd_map ⟨rfl, rfl, rfl, rfl, rfl, rfl, rfl, rfl, rfl, rfl, rfl, rfl, rfl, rfl, rfl, rfl, rfl, rfl, rfl, rfl, rfl, rfl, trivial⟩) (atAll_map ⟨rfl, rfl, rfl, rfl, rfl, rfl, rfl, rfl, rfl, rfl, rfl, rfl, rfl, rfl, rfl, rfl, rfl, rfl, rfl, rfl, rfl, rfl, trivial⟩) (agr_refl _ _ _) (cwV 6 hts gX8_tells_X8_meets rfl rfl rfl ⟨rfl, dsc_X8_meets⟩ ⟨Nat.le_of_ble_eq_true rfl, Nat.le_of_ble_eq_true rfl⟩) (va_recv hKK.1 hP (ci := 8) (q0 := 0) rfl rfl) rfl hl.1 rfl (Nat.le_of_ble_eq_true rfl) dX8_tells_142 ⟨Nat.zero_le _, Nat.zero_le _⟩ (fun H locs hP hD hS => ?_)
                        refine lv_if_eq (tgt := 152) hx hb dX8_tells_145 (by decide) (fun k26 => ?_) (fun k26 => ?_)
                        · have h := ite_t k26 h
                          exact jn152 h _ _ _ hP hD hS (lv_sub hl [0, 1, 2, 3, 4, 5, 6, 7, 8, 10] rfl)
                        · have h := ite_f k26 h
                          refine lv_iconst (v := (1 : Int32)) hx hb dX8_tells_148 (by decide) ?_
                          refine lv_goto (tgt := 153) hx hb dX8_tells_149 (by decide) ?_
                          exact jn153 true h _ _ _ hP hD hS (lv_sub hl [0, 1, 2, 3, 4, 5, 6, 7, 8, 10] rfl)
                exact lp101 FU (0 : Int32) (-40 : Int32) h _ _ _ hP hD hS (lv_sub hl [5, 6, 7, 8, 9, 10, 4, 3, 2, 1, 0] rfl)
    exact lp28 FU (-4 : Int32) (99 : Int32) (0 : Int32) h _ _ _ hP hD hS (lv_sub hl [4, 5, 3, 2, 1, 0] rfl)
  · have h := ite_t k2 h
    refine lv_iconst (v := (-1 : Int32)) hx hb dX8_tells_10 (by decide) ?_
    have h := Option.some.inj h
    subst h
    subst hQ
    exact W.iret (v := (-1 : Int32)) hx hb hr (fun t ht hW => ⟨⟨rfl, by rw [ht]; exact hP, hD⟩, hS.F ht⟩) hS.2.2 dX8_tells_11
def f_X8_slips_189 (v5 : Int32) (x56_6 : Int32) (x56_7 : Int32) (o56_0 : Ob) : Nat → Int32 → Int32 → Option (Int32 × Ob)
  | 0, _, _ => none
  | nn189+1, x189_8, x189_9 => if x189_9 = 0 then (if v5 = 0 then (if x189_8 = 0 then none else some ((x56_6 / x189_8), o56_0)) else (if x189_8 = 0 then none else some ((x56_7 / x189_8), o56_0))) else (if x189_9 = 0 then none else bnd (x189_8 - x189_8 / x189_9 * x189_9) fun x15 : Int32 => (f_X8_slips_189 v5 x56_6 x56_7 o56_0 nn189) x189_9 x15)
def f_X8_slips_172 (x56_6 : Int32) (x56_8 : Int32) (kL56 : (Int32 → Int32 → Int32 → Ob → Option (Int32 × Ob))) (o78_0 : Ob) (x18 : Int32) (y172_1 : Int32) : Option (Int32 × Ob) := bnd (x56_6 + y172_1) fun x20 : Int32 => bnd (x56_8 + (1 : Int32)) fun x21 : Int32 => kL56 x20 x18 x21 o78_0
def f_X8_slips_128 (x78_10 : Int32) (kL78 : (Int32 → Int32 → Ob → Option (Int32 × Ob))) (x24 : Int32) (o128_0 : Ob) : Option (Int32 × Ob) := bnd (x78_10 + (1 : Int32)) fun x26 : Int32 => kL78 x24 x26 o128_0
def f_X8_slips_106 (v1 : Int32) (v2 : Int32) (x56_8 : Int32) (x78_9 : Int32) (x78_10 : Int32) (o78_0 : Ob) (kL78 : (Int32 → Int32 → Ob → Option (Int32 × Ob))) (y106_1 : Int32) : Option (Int32 × Ob) := bnd (x78_9 * y106_1) fun x24 : Int32 => bnd (f_X8_has x56_8 x78_10) fun q25 : Bool => if (b2i q25) = 0 then ((f_X8_gives o78_0 (286 : Int32) v1 v2).bind fun q28 : Ob => f_X8_slips_128 x78_10 kL78 x24 q28) else (f_X8_slips_128 x78_10 kL78 x24 o78_0)
def f_X8_slips_78 (v1 : Int32) (v2 : Int32) (v3 : Int32) (v4 : Int32) (x56_6 : Int32) (x56_7 : Int32) (x56_8 : Int32) (kL56 : (Int32 → Int32 → Int32 → Ob → Option (Int32 × Ob))) : Nat → Int32 → Int32 → Ob → Option (Int32 × Ob)
  | 0, _, _, _ => none
  | nn78+1, x78_9, x78_10, o78_0 => if v3 ≤ x78_10 then (bnd (x56_7 + x78_9) fun x18 : Int32 => (f_X8_isSo o78_0 ((o78_0.2 18) (286 : Int32).toNatClampNeg) ((o78_0.2 18) (287 : Int32).toNatClampNeg)).bind fun q19 : Bool => if (b2i q19) = 0 then (f_X8_slips_172 x56_6 x56_8 kL56 o78_0 x18 (0 : Int32)) else (f_X8_slips_172 x56_6 x56_8 kL56 o78_0 x18 x78_9)) else (bnd (f_X8_has x56_8 x78_10) fun q23 : Bool => if (b2i q23) = 0 then (f_X8_slips_106 v1 v2 x56_8 x78_9 x78_10 o78_0 (f_X8_slips_78 v1 v2 v3 v4 x56_6 x56_7 x56_8 kL56 nn78) ((10 : Int32) - v4)) else (f_X8_slips_106 v1 v2 x56_8 x78_9 x78_10 o78_0 (f_X8_slips_78 v1 v2 v3 v4 x56_6 x56_7 x56_8 kL56 nn78) v4))
def f_X8_slips_56 (v1 : Int32) (v2 : Int32) (v3 : Int32) (v4 : Int32) (v5 : Int32) : Nat → Int32 → Int32 → Int32 → Ob → Option (Int32 × Ob)
  | 0, _, _, _, _ => none
  | nn56+1, x56_6, x56_7, x56_8, o56_0 => if ((1 : Int32) <<< (v3 &&& 31)) ≤ x56_8 then (f_X8_slips_189 v5 x56_6 x56_7 o56_0 FU x56_6 x56_7) else ((f_X8_copies o56_0 (0 : Int32) (286 : Int32)).bind fun q16 : Ob => f_X8_slips_78 v1 v2 v3 v4 x56_6 x56_7 x56_8 (f_X8_slips_56 v1 v2 v3 v4 v5 nn56) FU (1 : Int32) (0 : Int32) q16)
def f_X8_slips (o0 : Ob) (v1 : Int32) (v2 : Int32) (v3 : Int32) (v4 : Int32) (v5 : Int32) : Option (Int32 × Ob) := bnd (f_X8_isPush o0 v1 v2) fun q1 : Bool => if (b2i q1) = 0 then (some ((-1 : Int32), o0)) else (bnd (f_X8_in (v3.toInt64) (0 : Int64) (8 : Int64)) fun q3 : Bool => if (b2i q3) = 0 then (some ((-1 : Int32), o0)) else (bnd (f_X8_in (v4.toInt64) (0 : Int64) (10 : Int64)) fun q5 : Bool => if (b2i q5) = 0 then (some ((-1 : Int32), o0)) else (bnd (f_X8_in (v5.toInt64) (0 : Int64) (1 : Int64)) fun q7 : Bool => if (b2i q7) = 0 then (some ((-1 : Int32), o0)) else (f_X8_slips_56 v1 v2 v3 v4 v5 FU (0 : Int32) (0 : Int32) (0 : Int32) o0))))
abbrev rmX8_slips : Room := { frames := 3, cells := 0, slots := 0, locals := 74 }
theorem dsc_X8_slips : yX8_slips.cls ≠ "java/lang/invoke/MethodHandle" ∧ yX8_slips.cls ≠ "java/lang/invoke/VarHandle" ∧ (parseMethodDescriptor yX8_slips.desc).map (fun d => d.parameters.length) = some 5 := by decide +kernel
set_option maxHeartbeats 4000000 in
set_option maxRecDepth 100000 in
theorem c_X8_slips (l : Launch) (dC : Nat → ClassId) (dI : Nat → Nat → Nat) (cB cI cZ cO : ClassId) (a0 : Nat) (g0 : Nat → Nat) (o0 : Ob) (v1 : Int32) (v2 : Int32) (v3 : Int32) (v4 : Int32) (v5 : Int32) {r : Int32 × Ob} (h : f_X8_slips o0 v1 v2 v3 v4 v5 = some r) : Ct dC dI cB cI cZ cO l yX8_slips wsX8_slips rmX8_slips [.ref a0, .int v1, .int v2, .int v3, .int v4, .int v5] ([cX8 a0 g0 o0, cX8_0 cI g0 o0, cX8_1 cI g0 o0, cX8_3 cI g0 o0, cX8_4 cI g0 o0, cX8_6 cI g0 o0, cX8_8 cI g0 o0, cX8_9 cI g0 o0, cX8_10 cI g0 o0, cX8_12 cI g0 o0, cX8_13 cI g0 o0, cX8_15 cI g0 o0, cX8_17 cI g0 o0, cX8_18 cI g0 o0, cX8_22 cB g0 o0, cX8_27 cI g0 o0, cX8_28 cI g0 o0, cX8_29 cI g0 o0, cX8_30 cI g0 o0, cX8_31 cI g0 o0, cX8_32 cI g0 o0, cX8_33 cI g0 o0]) (some (.int r.1)) ([cX8 a0 g0 r.2, cX8_0 cI g0 r.2, cX8_1 cI g0 r.2, cX8_3 cI g0 r.2, cX8_4 cI g0 r.2, cX8_6 cI g0 r.2, cX8_8 cI g0 r.2, cX8_9 cI g0 r.2, cX8_10 cI g0 r.2, cX8_12 cI g0 r.2, cX8_13 cI g0 r.2, cX8_15 cI g0 r.2, cX8_17 cI g0 r.2, cX8_18 cI g0 r.2, cX8_22 cB g0 r.2, cX8_27 cI g0 r.2, cX8_28 cI g0 r.2, cX8_29 cI g0 r.2, cX8_30 cI g0 r.2, cX8_31 cI g0 r.2, cX8_32 cI g0 r.2, cX8_33 cI g0 r.2]) := by
  intro sz
  refine Met.ofW (cc := cX8_slips) (maxL := 11) (ret := (some .int)) (by decide) rfl ?_
  intro p e s m args below meth c s₁ B hml hv
  obtain ⟨rfl, hsz, hP, hKK, hD0⟩ := hv
  have hx := B.exec
  have hb := B.bytes
  have hr := B.returns
  have hts := atoms_spec (ws := wsX8_slips) B.pre
  have hown : s.vm.findClass RX8 = some m.cls := findClass_of_methodNamed B.named
  have hlocks := B.notSynchronized
  have hiX8 : ∀ w ∈ u_ws RX8 TX8 36, w ∈ wsX8_slips := fun w h => List.mem_cons_of_mem _ (List.mem_append_right _ h)
  subst hsz
  have hD := hD0.self (sz := s.heap.size)
  generalize hAe : va_A ([cX8 a0 g0 o0, cX8_0 cI g0 o0, cX8_1 cI g0 o0, cX8_3 cI g0 o0, cX8_4 cI g0 o0, cX8_6 cI g0 o0, cX8_8 cI g0 o0, cX8_9 cI g0 o0, cX8_10 cI g0 o0, cX8_12 cI g0 o0, cX8_13 cI g0 o0, cX8_15 cI g0 o0, cX8_17 cI g0 o0, cX8_18 cI g0 o0, cX8_22 cB g0 o0, cX8_27 cI g0 o0, cX8_28 cI g0 o0, cX8_29 cI g0 o0, cX8_30 cI g0 o0, cX8_31 cI g0 o0, cX8_32 cI g0 o0, cX8_33 cI g0 o0]) s.heap.size = A at hD ⊢
  have hA : ∀ q : Nat, s.heap.size ≤ q → A q := fun q h => by rw [← hAe]; exact Or.inr h
  have hS : va_S A s.heap s.heap [] := va_S.rf
  have hP : va_P (dC, dI) vwCl ([cX8 a0 g0 o0, cX8_0 cI g0 o0, cX8_1 cI g0 o0, cX8_3 cI g0 o0, cX8_4 cI g0 o0, cX8_6 cI g0 o0, cX8_8 cI g0 o0, cX8_9 cI g0 o0, cX8_10 cI g0 o0, cX8_12 cI g0 o0, cX8_13 cI g0 o0, cX8_15 cI g0 o0, cX8_17 cI g0 o0, cX8_18 cI g0 o0, cX8_22 cB g0 o0, cX8_27 cI g0 o0, cX8_28 cI g0 o0, cX8_29 cI g0 o0, cX8_30 cI g0 o0, cX8_31 cI g0 o0, cX8_32 cI g0 o0, cX8_33 cI g0 o0]) s.heap := hP
  have hD : va_D A ([cX8 a0 g0 o0, cX8_0 cI g0 o0, cX8_1 cI g0 o0, cX8_3 cI g0 o0, cX8_4 cI g0 o0, cX8_6 cI g0 o0, cX8_8 cI g0 o0, cX8_9 cI g0 o0, cX8_10 cI g0 o0, cX8_12 cI g0 o0, cX8_13 cI g0 o0, cX8_15 cI g0 o0, cX8_17 cI g0 o0, cX8_18 cI g0 o0, cX8_22 cB g0 o0, cX8_27 cI g0 o0, cX8_28 cI g0 o0, cX8_29 cI g0 o0, cX8_30 cI g0 o0, cX8_31 cI g0 o0, cX8_32 cI g0 o0, cX8_33 cI g0 o0]) := hD
  have hl := lv_entry ([.ref a0, .int v1, .int v2, .int v3, .int v4, .int v5]) (n := 11) (Nat.le_of_ble_eq_true rfl)
  rw [lg_entry_eq]
  generalize (lg_sl ([.ref a0, .int v1, .int v2, .int v3, .int v4, .int v5]) ++ List.replicate (11 - (lg_sl ([.ref a0, .int v1, .int v2, .int v3, .int v4, .int v5])).length) Slot.unset).toArray = ls at hl ⊢
  have hl : lv_has ls 11 [(0, .ref a0), (1, .int v1), (2, .int v2), (3, .int v3), (4, .int v4), (5, .int v5)] := hl
  obtain ⟨Q, hQ⟩ : ∃ Q, Q = MQ below (Qq dC dI (some (.int r.1)) ([cX8 a0 g0 r.2, cX8_0 cI g0 r.2, cX8_1 cI g0 r.2, cX8_3 cI g0 r.2, cX8_4 cI g0 r.2, cX8_6 cI g0 r.2, cX8_8 cI g0 r.2, cX8_9 cI g0 r.2, cX8_10 cI g0 r.2, cX8_12 cI g0 r.2, cX8_13 cI g0 r.2, cX8_15 cI g0 r.2, cX8_17 cI g0 r.2, cX8_18 cI g0 r.2, cX8_22 cB g0 r.2, cX8_27 cI g0 r.2, cX8_28 cI g0 r.2, cX8_29 cI g0 r.2, cX8_30 cI g0 r.2, cX8_31 cI g0 r.2, cX8_32 cI g0 r.2, cX8_33 cI g0 r.2]) A) ([.ref a0, .int v1, .int v2, .int v3, .int v4, .int v5] : List Value).toArray s 0 0 A := ⟨_, rfl⟩
  rw [← hQ]
  rw [f_X8_slips] at h
  clear hAe hD0
  refine lv_aload_n hx hb dX8_slips_0 rfl (lv_at hl 0 rfl) ?_
  refine lv_iload_n hx hb dX8_slips_1 rfl (lv_at hl 1 rfl) ?_
  refine lv_iload_n hx hb dX8_slips_2 rfl (lv_at hl 2 rfl) ?_
  obtain ⟨q1, hq1, h⟩ := bnd_e h
  refine kcV (rest := []) (w2 := ([cX8 a0 g0 o0, cX8_0 cI g0 o0, cX8_1 cI g0 o0, cX8_3 cI g0 o0, cX8_4 cI g0 o0, cX8_6 cI g0 o0, cX8_8 cI g0 o0, cX8_9 cI g0 o0, cX8_10 cI g0 o0, cX8_12 cI g0 o0, cX8_13 cI g0 o0, cX8_15 cI g0 o0, cX8_17 cI g0 o0, cX8_18 cI g0 o0, cX8_22 cB g0 o0, cX8_27 cI g0 o0, cX8_28 cI g0 o0, cX8_29 cI g0 o0, cX8_30 cI g0 o0, cX8_31 cI g0 o0, cX8_32 cI g0 o0, cX8_33 cI g0 o0])) hx hb hml hown hts hKK hP hD hS hA (c_X8_isPush l dC dI cB cI cZ cO a0 g0 o0 v1 v2 hq1) [0, 1, 2, 3, 4, 5, 6, 7, 8, 9, 10, 11, 12, 13, 14, 15, 16, 17, 18, 19, 20, 21] (atAll_map ⟨rfl, rfl, rfl, rfl, rfl, rfl, rfl, rfl, rfl, rfl, rfl, rfl, rfl, rfl, rfl, rfl, rfl, rfl, rfl, rfl, rfl, rfl, trivial⟩) (by decide +kernel) (sameAd_map ⟨rfl, rfl, rfl, rfl, rfl, rfl, rfl, rfl, rfl, rfl, rfl, rfl, rfl, rfl, rfl, rfl, rfl, rfl, rfl, rfl, rfl, rfl, trivial⟩) (atAll_map ⟨rfl, rfl, rfl, rfl, rfl, rfl, rfl, rfl, rfl, rfl, rfl, rfl, rfl, rfl, rfl, rfl, rfl, rfl, rfl, rfl, rfl, rfl, trivial⟩) (agr_refl _ _ _) (cwV 2 hts gX8_slips_X8_isPush rfl rfl rfl ⟨rfl, dsc_X8_isPush⟩ ⟨Nat.le_of_ble_eq_true rfl, Nat.le_of_ble_eq_true rfl⟩) (va_recv hKK.1 hP (ci := 8) (q0 := 0) rfl rfl) rfl hl.1 rfl (Nat.le_of_ble_eq_true rfl) dX8_slips_3 ⟨Nat.zero_le _, Nat.zero_le _⟩ (fun H locs hP hD hS => ?_)
  refine lv_if_eq (tgt := 45) hx hb dX8_slips_6 (by decide) (fun k2 => ?_) (fun k2 => ?_)
  · have h := ite_t k2 h
    refine lv_iconst (v := (-1 : Int32)) hx hb dX8_slips_45 (by decide) ?_
    have h := Option.some.inj h
    subst h
    subst hQ
    exact W.iret (v := (-1 : Int32)) hx hb hr (fun t ht hW => ⟨⟨rfl, by rw [ht]; exact hP, hD⟩, hS.F ht⟩) hS.2.2 dX8_slips_46
  · have h := ite_f k2 h
    refine lv_iload_n hx hb dX8_slips_9 rfl (lv_at hl 3 rfl) ?_
    refine lv_i2l hx hb dX8_slips_10 rfl ?_
    refine lv_lconst (v := 0) hx hb dX8_slips_11 (by decide) ?_
    refine lv_ldc2 hx hb hown (hts (.constantLong RX8 286 (8)) (List.mem_of_getElem? (i := 1) rfl)) dX8_slips_12 ?_
    obtain ⟨q3, hq3, h⟩ := bnd_e h
    refine kcS (rest := []) (w2 := ([cX8 a0 g0 o0, cX8_0 cI g0 o0, cX8_1 cI g0 o0, cX8_3 cI g0 o0, cX8_4 cI g0 o0, cX8_6 cI g0 o0, cX8_8 cI g0 o0, cX8_9 cI g0 o0, cX8_10 cI g0 o0, cX8_12 cI g0 o0, cX8_13 cI g0 o0, cX8_15 cI g0 o0, cX8_17 cI g0 o0, cX8_18 cI g0 o0, cX8_22 cB g0 o0, cX8_27 cI g0 o0, cX8_28 cI g0 o0, cX8_29 cI g0 o0, cX8_30 cI g0 o0, cX8_31 cI g0 o0, cX8_32 cI g0 o0, cX8_33 cI g0 o0])) hx hb hml hown hts hKK hP hD hS hA (c_X8_in l dC dI cB cI cZ cO (v3.toInt64) (0 : Int64) (8 : Int64) hq3) [] (atAll_map trivial) (by decide +kernel) (sameAd_map trivial) (atAll_map trivial) (agr_refl _ _ _) (va_cwS 3 hts gX8_slips_X8_in rfl rfl rfl dsc_X8_in ⟨Nat.le_of_ble_eq_true rfl, Nat.le_of_ble_eq_true rfl⟩) rfl hl.1 rfl (Nat.le_of_ble_eq_true rfl) dX8_slips_15 ⟨Nat.zero_le _, Nat.zero_le _⟩ (fun H locs hP hD hS => ?_)
    refine lv_if_eq (tgt := 45) hx hb dX8_slips_18 (by decide) (fun k4 => ?_) (fun k4 => ?_)
    · have h := ite_t k4 h
      refine lv_iconst (v := (-1 : Int32)) hx hb dX8_slips_45 (by decide) ?_
      have h := Option.some.inj h
      subst h
      subst hQ
      exact W.iret (v := (-1 : Int32)) hx hb hr (fun t ht hW => ⟨⟨rfl, by rw [ht]; exact hP, hD⟩, hS.F ht⟩) hS.2.2 dX8_slips_46
    · have h := ite_f k4 h
      refine lv_iload hx hb dX8_slips_21 (lv_at hl 4 rfl) ?_
      refine lv_i2l hx hb dX8_slips_23 rfl ?_
      refine lv_lconst (v := 0) hx hb dX8_slips_24 (by decide) ?_
      refine lv_ldc2 hx hb hown (hts (.constantLong RX8 288 (10)) (List.mem_of_getElem? (i := 2) rfl)) dX8_slips_25 ?_
      obtain ⟨q5, hq5, h⟩ := bnd_e h
      refine kcS (rest := []) (w2 := ([cX8 a0 g0 o0, cX8_0 cI g0 o0, cX8_1 cI g0 o0, cX8_3 cI g0 o0, cX8_4 cI g0 o0, cX8_6 cI g0 o0, cX8_8 cI g0 o0, cX8_9 cI g0 o0, cX8_10 cI g0 o0, cX8_12 cI g0 o0, cX8_13 cI g0 o0, cX8_15 cI g0 o0, cX8_17 cI g0 o0, cX8_18 cI g0 o0, cX8_22 cB g0 o0, cX8_27 cI g0 o0, cX8_28 cI g0 o0, cX8_29 cI g0 o0, cX8_30 cI g0 o0, cX8_31 cI g0 o0, cX8_32 cI g0 o0, cX8_33 cI g0 o0])) hx hb hml hown hts hKK hP hD hS hA (c_X8_in l dC dI cB cI cZ cO (v4.toInt64) (0 : Int64) (10 : Int64) hq5) [] (atAll_map trivial) (by decide +kernel) (sameAd_map trivial) (atAll_map trivial) (agr_refl _ _ _) (va_cwS 3 hts gX8_slips_X8_in rfl rfl rfl dsc_X8_in ⟨Nat.le_of_ble_eq_true rfl, Nat.le_of_ble_eq_true rfl⟩) rfl hl.1 rfl (Nat.le_of_ble_eq_true rfl) dX8_slips_28 ⟨Nat.zero_le _, Nat.zero_le _⟩ (fun H locs hP hD hS => ?_)
      refine lv_if_eq (tgt := 45) hx hb dX8_slips_31 (by decide) (fun k6 => ?_) (fun k6 => ?_)
      · have h := ite_t k6 h
        refine lv_iconst (v := (-1 : Int32)) hx hb dX8_slips_45 (by decide) ?_
        have h := Option.some.inj h
        subst h
        subst hQ
        exact W.iret (v := (-1 : Int32)) hx hb hr (fun t ht hW => ⟨⟨rfl, by rw [ht]; exact hP, hD⟩, hS.F ht⟩) hS.2.2 dX8_slips_46
      · have h := ite_f k6 h
        refine lv_iload hx hb dX8_slips_34 (lv_at hl 5 rfl) ?_
        refine lv_i2l hx hb dX8_slips_36 rfl ?_
        refine lv_lconst (v := 0) hx hb dX8_slips_37 (by decide) ?_
        refine lv_lconst (v := 1) hx hb dX8_slips_38 (by decide) ?_
        obtain ⟨q7, hq7, h⟩ := bnd_e h
        refine kcS (rest := []) (w2 := ([cX8 a0 g0 o0, cX8_0 cI g0 o0, cX8_1 cI g0 o0, cX8_3 cI g0 o0, cX8_4 cI g0 o0, cX8_6 cI g0 o0, cX8_8 cI g0 o0, cX8_9 cI g0 o0, cX8_10 cI g0 o0, cX8_12 cI g0 o0, cX8_13 cI g0 o0, cX8_15 cI g0 o0, cX8_17 cI g0 o0, cX8_18 cI g0 o0, cX8_22 cB g0 o0, cX8_27 cI g0 o0, cX8_28 cI g0 o0, cX8_29 cI g0 o0, cX8_30 cI g0 o0, cX8_31 cI g0 o0, cX8_32 cI g0 o0, cX8_33 cI g0 o0])) hx hb hml hown hts hKK hP hD hS hA (c_X8_in l dC dI cB cI cZ cO (v5.toInt64) (0 : Int64) (1 : Int64) hq7) [] (atAll_map trivial) (by decide +kernel) (sameAd_map trivial) (atAll_map trivial) (agr_refl _ _ _) (va_cwS 3 hts gX8_slips_X8_in rfl rfl rfl dsc_X8_in ⟨Nat.le_of_ble_eq_true rfl, Nat.le_of_ble_eq_true rfl⟩) rfl hl.1 rfl (Nat.le_of_ble_eq_true rfl) dX8_slips_39 ⟨Nat.zero_le _, Nat.zero_le _⟩ (fun H locs hP hD hS => ?_)
        refine lv_if_ne (tgt := 47) hx hb dX8_slips_42 (by decide) (fun k8 => ?_) (fun k8 => ?_)
        · have h := ite_f k8 h
          refine lv_iconst (v := (0 : Int32)) hx hb dX8_slips_47 (by decide) ?_
          refine lv_istore (lv' := [(6, .int (0 : Int32)), (0, .ref a0), (1, .int v1), (2, .int v2), (3, .int v3), (4, .int v4), (5, .int v5)]) hx hb dX8_slips_48 hl (by decide) rfl (fun ls hl => ?_)
          refine lv_iconst (v := (0 : Int32)) hx hb dX8_slips_50 (by decide) ?_
          refine lv_istore (lv' := [(7, .int (0 : Int32)), (6, .int (0 : Int32)), (0, .ref a0), (1, .int v1), (2, .int v2), (3, .int v3), (4, .int v4), (5, .int v5)]) hx hb dX8_slips_51 hl (by decide) rfl (fun ls hl => ?_)
          refine lv_iconst (v := (0 : Int32)) hx hb dX8_slips_53 (by decide) ?_
          refine lv_istore (lv' := [(8, .int (0 : Int32)), (7, .int (0 : Int32)), (6, .int (0 : Int32)), (0, .ref a0), (1, .int v1), (2, .int v2), (3, .int v3), (4, .int v4), (5, .int v5)]) hx hb dX8_slips_54 hl (by decide) rfl (fun ls hl => ?_)
          have lp56 : ∀ (nn56 : Nat) (x56_6 : Int32) (x56_7 : Int32) (x56_8 : Int32) (o56_0 : Ob), f_X8_slips_56 v1 v2 v3 v4 v5 nn56 x56_6 x56_7 x56_8 o56_0 = some r → ∀ (H : Heap) (locs : List Loc) (ls : Array Slot), va_P (dC, dI) vwCl ([cX8 a0 g0 o56_0, cX8_0 cI g0 o56_0, cX8_1 cI g0 o56_0, cX8_3 cI g0 o56_0, cX8_4 cI g0 o56_0, cX8_6 cI g0 o56_0, cX8_8 cI g0 o56_0, cX8_9 cI g0 o56_0, cX8_10 cI g0 o56_0, cX8_12 cI g0 o56_0, cX8_13 cI g0 o56_0, cX8_15 cI g0 o56_0, cX8_17 cI g0 o56_0, cX8_18 cI g0 o56_0, cX8_22 cB g0 o56_0, cX8_27 cI g0 o56_0, cX8_28 cI g0 o56_0, cX8_29 cI g0 o56_0, cX8_30 cI g0 o56_0, cX8_31 cI g0 o56_0, cX8_32 cI g0 o56_0, cX8_33 cI g0 o56_0]) H → va_D A ([cX8 a0 g0 o56_0, cX8_0 cI g0 o56_0, cX8_1 cI g0 o56_0, cX8_3 cI g0 o56_0, cX8_4 cI g0 o56_0, cX8_6 cI g0 o56_0, cX8_8 cI g0 o56_0, cX8_9 cI g0 o56_0, cX8_10 cI g0 o56_0, cX8_12 cI g0 o56_0, cX8_13 cI g0 o56_0, cX8_15 cI g0 o56_0, cX8_17 cI g0 o56_0, cX8_18 cI g0 o56_0, cX8_22 cB g0 o56_0, cX8_27 cI g0 o56_0, cX8_28 cI g0 o56_0, cX8_29 cI g0 o56_0, cX8_30 cI g0 o56_0, cX8_31 cI g0 o56_0, cX8_32 cI g0 o56_0, cX8_33 cI g0 o56_0]) → va_S A s.heap H locs → lv_has ls 11 [(0, .ref a0), (1, .int v1), (2, .int v2), (3, .int v3), (4, .int v4), (5, .int v5), (6, .int x56_6), (7, .int x56_7), (8, .int x56_8)] → W p l e (headSpec wsX8_slips rmX8_slips).room s m ([.ref a0, .int v1, .int v2, .int v3, .int v4, .int v5] : List Value).toArray below meth c H locs 0 0 Q (F0 m 56 ls []) := by
            intro nn56
            induction nn56 with
            | zero => intro x56_6 x56_7 x56_8 o56_0 h; rw [f_X8_slips_56] at h; cases h
            | succ nn56 ih56 =>
              intro x56_6 x56_7 x56_8 o56_0 h H locs ls hP hD hS hl
              rw [f_X8_slips_56] at h
              refine lv_iload hx hb dX8_slips_56 (lv_at hl 8 rfl) ?_
              refine lv_iconst (v := (1 : Int32)) hx hb dX8_slips_58 (by decide) ?_
              refine lv_iload_n hx hb dX8_slips_59 rfl (lv_at hl 3 rfl) ?_
              refine lv_ishl hx hb dX8_slips_60 ?_
              refine lv_icmp_ge (tgt := 181) hx hb dX8_slips_61 (by decide) (fun k9 => ?_) (fun k9 => ?_)
              · have h := ite_t k9 h
                refine lv_iload hx hb dX8_slips_181 (lv_at hl 6 rfl) ?_
                refine lv_istore (lv' := [(8, .int x56_6), (0, .ref a0), (1, .int v1), (2, .int v2), (3, .int v3), (4, .int v4), (5, .int v5), (6, .int x56_6), (7, .int x56_7)]) hx hb dX8_slips_183 hl (by decide) rfl (fun ls hl => ?_)
                refine lv_iload hx hb dX8_slips_185 (lv_at hl 8 rfl) ?_
                refine lv_istore (lv' := [(9, .int x56_7), (8, .int x56_6), (0, .ref a0), (1, .int v1), (2, .int v2), (3, .int v3), (4, .int v4), (5, .int v5), (6, .int x56_6), (7, .int x56_7)]) hx hb dX8_slips_187 hl (by decide) rfl (fun ls hl => ?_)
                have lp189 : ∀ (nn189 : Nat) (x189_8 : Int32) (x189_9 : Int32), f_X8_slips_189 v5 x56_6 x56_7 o56_0 nn189 x189_8 x189_9 = some r → ∀ (H : Heap) (locs : List Loc) (ls : Array Slot), va_P (dC, dI) vwCl ([cX8 a0 g0 o56_0, cX8_0 cI g0 o56_0, cX8_1 cI g0 o56_0, cX8_3 cI g0 o56_0, cX8_4 cI g0 o56_0, cX8_6 cI g0 o56_0, cX8_8 cI g0 o56_0, cX8_9 cI g0 o56_0, cX8_10 cI g0 o56_0, cX8_12 cI g0 o56_0, cX8_13 cI g0 o56_0, cX8_15 cI g0 o56_0, cX8_17 cI g0 o56_0, cX8_18 cI g0 o56_0, cX8_22 cB g0 o56_0, cX8_27 cI g0 o56_0, cX8_28 cI g0 o56_0, cX8_29 cI g0 o56_0, cX8_30 cI g0 o56_0, cX8_31 cI g0 o56_0, cX8_32 cI g0 o56_0, cX8_33 cI g0 o56_0]) H → va_D A ([cX8 a0 g0 o56_0, cX8_0 cI g0 o56_0, cX8_1 cI g0 o56_0, cX8_3 cI g0 o56_0, cX8_4 cI g0 o56_0, cX8_6 cI g0 o56_0, cX8_8 cI g0 o56_0, cX8_9 cI g0 o56_0, cX8_10 cI g0 o56_0, cX8_12 cI g0 o56_0, cX8_13 cI g0 o56_0, cX8_15 cI g0 o56_0, cX8_17 cI g0 o56_0, cX8_18 cI g0 o56_0, cX8_22 cB g0 o56_0, cX8_27 cI g0 o56_0, cX8_28 cI g0 o56_0, cX8_29 cI g0 o56_0, cX8_30 cI g0 o56_0, cX8_31 cI g0 o56_0, cX8_32 cI g0 o56_0, cX8_33 cI g0 o56_0]) → va_S A s.heap H locs → lv_has ls 11 [(5, .int v5), (6, .int x56_6), (7, .int x56_7), (8, .int x189_8), (9, .int x189_9)] → W p l e (headSpec wsX8_slips rmX8_slips).room s m ([.ref a0, .int v1, .int v2, .int v3, .int v4, .int v5] : List Value).toArray below meth c H locs 0 0 Q (F0 m 189 ls []) := by
                  intro nn189
                  induction nn189 with
                  | zero => intro x189_8 x189_9 h; rw [f_X8_slips_189] at h; cases h
                  | succ nn189 ih189 =>
                    intro x189_8 x189_9 h H locs ls hP hD hS hl
                    rw [f_X8_slips_189] at h
                    refine lv_iload hx hb dX8_slips_189 (lv_at hl 4 rfl) ?_
                    refine lv_if_eq (tgt := 212) hx hb dX8_slips_191 (by decide) (fun k10 => ?_) (fun k10 => ?_)
                    · have h := ite_t k10 h
                      refine lv_iload hx hb dX8_slips_212 (lv_at hl 0 rfl) ?_
                      refine lv_if_ne (tgt := 225) hx hb dX8_slips_214 (by decide) (fun k11 => ?_) (fun k11 => ?_)
                      · have h := ite_f k11 h
                        refine lv_iload hx hb dX8_slips_225 (lv_at hl 2 rfl) ?_
                        refine lv_iload hx hb dX8_slips_227 (lv_at hl 3 rfl) ?_
                        obtain ⟨k12, h⟩ := ite_n h
                        refine lv_idiv hx hb dX8_slips_229 k12 ?_
                        have h := Option.some.inj h
                        subst h
                        subst hQ
                        exact W.iret (v := (x56_7 / x189_8)) hx hb hr (fun t ht hW => ⟨⟨rfl, by rw [ht]; exact hP, hD⟩, hS.F ht⟩) hS.2.2 dX8_slips_230
                      · have h := ite_t k11 h
                        refine lv_iload hx hb dX8_slips_217 (lv_at hl 1 rfl) ?_
                        refine lv_iload hx hb dX8_slips_219 (lv_at hl 3 rfl) ?_
                        obtain ⟨k13, h⟩ := ite_n h
                        refine lv_idiv hx hb dX8_slips_221 k13 ?_
                        refine lv_goto (tgt := 230) hx hb dX8_slips_222 (by decide) ?_
                        have h := Option.some.inj h
                        subst h
                        subst hQ
                        exact W.iret (v := (x56_6 / x189_8)) hx hb hr (fun t ht hW => ⟨⟨rfl, by rw [ht]; exact hP, hD⟩, hS.F ht⟩) hS.2.2 dX8_slips_230
                    · have h := ite_f k10 h
                      refine lv_iload hx hb dX8_slips_194 (lv_at hl 3 rfl) ?_
                      refine lv_iload hx hb dX8_slips_196 (lv_at hl 4 rfl) ?_
                      obtain ⟨k14, h⟩ := ite_n h
                      refine lv_irem hx hb dX8_slips_198 k14 ?_
                      obtain ⟨x15, hx15, h⟩ := bnd_e h
                      refine lv_topE hx15 ?_
                      refine lv_istore (lv' := [(10, .int x15), (5, .int v5), (6, .int x56_6), (7, .int x56_7), (8, .int x189_8), (9, .int x189_9)]) hx hb dX8_slips_199 hl (by decide) rfl (fun ls hl => ?_)
                      refine lv_iload hx hb dX8_slips_201 (lv_at hl 5 rfl) ?_
                      refine lv_istore (lv' := [(8, .int x189_9), (10, .int x15), (5, .int v5), (6, .int x56_6), (7, .int x56_7), (9, .int x189_9)]) hx hb dX8_slips_203 hl (by decide) rfl (fun ls hl => ?_)
                      refine lv_iload hx hb dX8_slips_205 (lv_at hl 1 rfl) ?_
                      refine lv_istore (lv' := [(9, .int x15), (8, .int x189_9), (10, .int x15), (5, .int v5), (6, .int x56_6), (7, .int x56_7)]) hx hb dX8_slips_207 hl (by decide) rfl (fun ls hl => ?_)
                      refine lv_goto (tgt := 189) hx hb dX8_slips_209 (by decide) ?_
                      exact ih189 x189_9 x15 h _ _ _ hP hD hS (lv_sub hl [3, 4, 5, 1, 0] rfl)
                exact lp189 FU x56_6 x56_7 h _ _ _ hP hD hS (lv_sub hl [7, 8, 9, 1, 0] rfl)
              · have h := ite_f k9 h
                refine lv_aload_n hx hb dX8_slips_64 rfl (lv_at hl 0 rfl) ?_
                refine lv_iconst (v := (0 : Int32)) hx hb dX8_slips_65 (by decide) ?_
                refine lv_sipush (v := (286 : Int32)) hx hb dX8_slips_66 (by decide) ?_
                obtain ⟨q16, hq16, h⟩ := obd_e h
                refine kcV (rest := []) (w2 := ([cX8 a0 g0 q16, cX8_0 cI g0 q16, cX8_1 cI g0 q16, cX8_3 cI g0 q16, cX8_4 cI g0 q16, cX8_6 cI g0 q16, cX8_8 cI g0 q16, cX8_9 cI g0 q16, cX8_10 cI g0 q16, cX8_12 cI g0 q16, cX8_13 cI g0 q16, cX8_15 cI g0 q16, cX8_17 cI g0 q16, cX8_18 cI g0 q16, cX8_22 cB g0 q16, cX8_27 cI g0 q16, cX8_28 cI g0 q16, cX8_29 cI g0 q16, cX8_30 cI g0 q16, cX8_31 cI g0 q16, cX8_32 cI g0 q16, cX8_33 cI g0 q16])) hx hb hml hown hts hKK hP hD hS hA (c_X8_copies l dC dI cB cI cZ cO a0 g0 o56_0 (0 : Int32) (286 : Int32) hq16) [0, 1, 2, 3, 4, 5, 6, 7, 8, 9, 10, 11, 12, 13, 14, 15, 16, 17, 18, 19, 20, 21] (atAll_map ⟨rfl, rfl, rfl, rfl, rfl, rfl, rfl, rfl, rfl, rfl, rfl, rfl, rfl, rfl, rfl, rfl, rfl, rfl, rfl, rfl, rfl, rfl, trivial⟩) (by decide +kernel) (sameAd_map ⟨rfl, rfl, rfl, rfl, rfl, rfl, rfl, rfl, rfl, rfl, rfl, rfl, rfl, rfl, rfl, rfl, rfl, rfl, rfl, rfl, rfl, rfl, trivial⟩) (atAll_map ⟨rfl, rfl, rfl, rfl, rfl, rfl, rfl, rfl, rfl, rfl, rfl, rfl, rfl, rfl, rfl, rfl, rfl, rfl, rfl, rfl, rfl, rfl, trivial⟩) ⟨Or.inr (by decide), Or.inr (by decide), Or.inr (by decide), Or.inr (by decide), Or.inr (by decide), Or.inr (by decide), Or.inr (by decide), Or.inr (by decide), Or.inr (by decide), Or.inr (by decide), Or.inr (by decide), Or.inr (by decide), Or.inr (by decide), Or.inr (by decide), Or.inr (by decide), Or.inr (by decide), Or.inr (by decide), Or.inr (by decide), Or.inr (by decide), Or.inr (by decide), Or.inr (by decide), Or.inr (by decide), trivial⟩ (cwV 2 hts gX8_slips_X8_copies rfl rfl rfl ⟨rfl, dsc_X8_copies⟩ ⟨Nat.le_of_ble_eq_true rfl, Nat.le_of_ble_eq_true rfl⟩) (va_recv hKK.1 hP (ci := 8) (q0 := 0) rfl rfl) rfl hl.1 rfl (Nat.le_of_ble_eq_true rfl) dX8_slips_69 ⟨Nat.zero_le _, Nat.zero_le _⟩ (fun H locs hP hD hS => ?_)
                refine lv_iconst (v := (1 : Int32)) hx hb dX8_slips_72 (by decide) ?_
                refine lv_istore (lv' := [(9, .int (1 : Int32)), (0, .ref a0), (1, .int v1), (2, .int v2), (3, .int v3), (4, .int v4), (5, .int v5), (6, .int x56_6), (7, .int x56_7), (8, .int x56_8)]) hx hb dX8_slips_73 hl (by decide) rfl (fun ls hl => ?_)
                refine lv_iconst (v := (0 : Int32)) hx hb dX8_slips_75 (by decide) ?_
                refine lv_istore (lv' := [(10, .int (0 : Int32)), (9, .int (1 : Int32)), (0, .ref a0), (1, .int v1), (2, .int v2), (3, .int v3), (4, .int v4), (5, .int v5), (6, .int x56_6), (7, .int x56_7), (8, .int x56_8)]) hx hb dX8_slips_76 hl (by decide) rfl (fun ls hl => ?_)
                have lp78 : ∀ (nn78 : Nat) (x78_9 : Int32) (x78_10 : Int32) (o78_0 : Ob), f_X8_slips_78 v1 v2 v3 v4 x56_6 x56_7 x56_8 (f_X8_slips_56 v1 v2 v3 v4 v5 nn56) nn78 x78_9 x78_10 o78_0 = some r → ∀ (H : Heap) (locs : List Loc) (ls : Array Slot), va_P (dC, dI) vwCl ([cX8 a0 g0 o78_0, cX8_0 cI g0 o78_0, cX8_1 cI g0 o78_0, cX8_3 cI g0 o78_0, cX8_4 cI g0 o78_0, cX8_6 cI g0 o78_0, cX8_8 cI g0 o78_0, cX8_9 cI g0 o78_0, cX8_10 cI g0 o78_0, cX8_12 cI g0 o78_0, cX8_13 cI g0 o78_0, cX8_15 cI g0 o78_0, cX8_17 cI g0 o78_0, cX8_18 cI g0 o78_0, cX8_22 cB g0 o78_0, cX8_27 cI g0 o78_0, cX8_28 cI g0 o78_0, cX8_29 cI g0 o78_0, cX8_30 cI g0 o78_0, cX8_31 cI g0 o78_0, cX8_32 cI g0 o78_0, cX8_33 cI g0 o78_0]) H → va_D A ([cX8 a0 g0 o78_0, cX8_0 cI g0 o78_0, cX8_1 cI g0 o78_0, cX8_3 cI g0 o78_0, cX8_4 cI g0 o78_0, cX8_6 cI g0 o78_0, cX8_8 cI g0 o78_0, cX8_9 cI g0 o78_0, cX8_10 cI g0 o78_0, cX8_12 cI g0 o78_0, cX8_13 cI g0 o78_0, cX8_15 cI g0 o78_0, cX8_17 cI g0 o78_0, cX8_18 cI g0 o78_0, cX8_22 cB g0 o78_0, cX8_27 cI g0 o78_0, cX8_28 cI g0 o78_0, cX8_29 cI g0 o78_0, cX8_30 cI g0 o78_0, cX8_31 cI g0 o78_0, cX8_32 cI g0 o78_0, cX8_33 cI g0 o78_0]) → va_S A s.heap H locs → lv_has ls 11 [(0, .ref a0), (1, .int v1), (2, .int v2), (3, .int v3), (4, .int v4), (5, .int v5), (6, .int x56_6), (7, .int x56_7), (8, .int x56_8), (9, .int x78_9), (10, .int x78_10)] → W p l e (headSpec wsX8_slips rmX8_slips).room s m ([.ref a0, .int v1, .int v2, .int v3, .int v4, .int v5] : List Value).toArray below meth c H locs 0 0 Q (F0 m 78 ls []) := by
                  intro nn78
                  induction nn78 with
                  | zero => intro x78_9 x78_10 o78_0 h; rw [f_X8_slips_78] at h; cases h
                  | succ nn78 ih78 =>
                    intro x78_9 x78_10 o78_0 h H locs ls hP hD hS hl
                    rw [f_X8_slips_78] at h
                    refine lv_iload hx hb dX8_slips_78 (lv_at hl 10 rfl) ?_
                    refine lv_iload_n hx hb dX8_slips_80 rfl (lv_at hl 3 rfl) ?_
                    refine lv_icmp_ge (tgt := 134) hx hb dX8_slips_81 (by decide) (fun k17 => ?_) (fun k17 => ?_)
                    · have h := ite_t k17 h
                      refine lv_iload hx hb dX8_slips_134 (lv_at hl 7 rfl) ?_
                      refine lv_iload hx hb dX8_slips_136 (lv_at hl 9 rfl) ?_
                      refine lv_iadd hx hb dX8_slips_138 ?_
                      obtain ⟨x18, hx18, h⟩ := bnd_e h
                      refine lv_topE hx18 ?_
                      refine lv_istore (lv' := [(7, .int x18), (0, .ref a0), (1, .int v1), (2, .int v2), (3, .int v3), (4, .int v4), (5, .int v5), (6, .int x56_6), (8, .int x56_8), (9, .int x78_9), (10, .int x78_10)]) hx hb dX8_slips_139 hl (by decide) rfl (fun ls hl => ?_)
                      refine lv_iload hx hb dX8_slips_141 (lv_at hl 7 rfl) ?_
                      refine lv_aload_n hx hb dX8_slips_143 rfl (lv_at hl 1 rfl) ?_
                      refine lv_aload_n hx hb dX8_slips_144 rfl (lv_at hl 1 rfl) ?_
                      refine va_get (D := (dC, dI)) (ci := 8) (v := .ref (g0 18)) (C := RX8) (T := TX8) (N := 36) hx hb hts hiX8 hown hKK.1 hP 0 rfl rfl 18 (by decide) (hts (.fieldLink RX8 46 "SlideLandModel" "slot" "[I") (List.mem_of_getElem? (i := 3) rfl)) (fun _ h9 => h9) rfl dX8_slips_145 ?_
                      refine lv_sipush (v := (286 : Int32)) hx hb dX8_slips_148 (by decide) ?_
                      refine va_iald hx hb hKK.1 hP 13 1 rfl rfl (show ¬ ((286 : Int32) < 0 ∨ 312 ≤ (286 : Int32).toNatClampNeg) from by decide) dX8_slips_151 ?_
                      refine lv_aload_n hx hb dX8_slips_152 rfl (lv_at hl 1 rfl) ?_
                      refine va_get (D := (dC, dI)) (ci := 8) (v := .ref (g0 18)) (C := RX8) (T := TX8) (N := 36) hx hb hts hiX8 hown hKK.1 hP 0 rfl rfl 18 (by decide) (hts (.fieldLink RX8 46 "SlideLandModel" "slot" "[I") (List.mem_of_getElem? (i := 3) rfl)) (fun _ h9 => h9) rfl dX8_slips_153 ?_
                      refine lv_sipush (v := (287 : Int32)) hx hb dX8_slips_156 (by decide) ?_
                      refine va_iald hx hb hKK.1 hP 13 1 rfl rfl (show ¬ ((287 : Int32) < 0 ∨ 312 ≤ (287 : Int32).toNatClampNeg) from by decide) dX8_slips_159 ?_
                      obtain ⟨q19, hq19, h⟩ := obd_e h
                      refine kcV (rest := [.int x56_6]) (w2 := ([cX8 a0 g0 o78_0, cX8_0 cI g0 o78_0, cX8_1 cI g0 o78_0, cX8_3 cI g0 o78_0, cX8_4 cI g0 o78_0, cX8_6 cI g0 o78_0, cX8_8 cI g0 o78_0, cX8_9 cI g0 o78_0, cX8_10 cI g0 o78_0, cX8_12 cI g0 o78_0, cX8_13 cI g0 o78_0, cX8_15 cI g0 o78_0, cX8_17 cI g0 o78_0, cX8_18 cI g0 o78_0, cX8_22 cB g0 o78_0, cX8_27 cI g0 o78_0, cX8_28 cI g0 o78_0, cX8_29 cI g0 o78_0, cX8_30 cI g0 o78_0, cX8_31 cI g0 o78_0, cX8_32 cI g0 o78_0, cX8_33 cI g0 o78_0])) hx hb hml hown hts hKK hP hD hS hA (c_X8_isSo l dC dI cB cI cZ cO a0 g0 o78_0 ((o78_0.2 18) (286 : Int32).toNatClampNeg) ((o78_0.2 18) (287 : Int32).toNatClampNeg) hq19) [0, 1, 2, 3, 4, 5, 6, 7, 8, 9, 10, 11, 12, 13, 14, 15, 16, 17, 18, 19, 20, 21] (atAll_map ⟨rfl, rfl, rfl, rfl, rfl, rfl, rfl, rfl, rfl, rfl, rfl, rfl, rfl, rfl, rfl, rfl, rfl, rfl, rfl, rfl, rfl, rfl, trivial⟩) (by decide +kernel) (sameAd_map ⟨rfl, rfl, rfl, rfl, rfl, rfl, rfl, rfl, rfl, rfl, rfl, rfl, rfl, rfl, rfl, rfl, rfl, rfl, rfl, rfl, rfl, rfl, trivial⟩) (atAll_map ⟨rfl, rfl, rfl, rfl, rfl, rfl, rfl, rfl, rfl, rfl, rfl, rfl, rfl, rfl, rfl, rfl, rfl, rfl, rfl, rfl, rfl, rfl, trivial⟩) (agr_refl _ _ _) (cwV 2 hts gX8_slips_X8_isSo rfl rfl rfl ⟨rfl, dsc_X8_isSo⟩ ⟨Nat.le_of_ble_eq_true rfl, Nat.le_of_ble_eq_true rfl⟩) (va_recv hKK.1 hP (ci := 8) (q0 := 0) rfl rfl) rfl hl.1 rfl (Nat.le_of_ble_eq_true rfl) dX8_slips_160 ⟨Nat.zero_le _, Nat.zero_le _⟩ (fun H locs hP hD hS => ?_)
                      have jn172 : ∀ (y172_1 : Int32), f_X8_slips_172 x56_6 x56_8 (f_X8_slips_56 v1 v2 v3 v4 v5 nn56) o78_0 x18 y172_1 = some r → ∀ (H : Heap) (locs : List Loc) (ls : Array Slot), va_P (dC, dI) vwCl ([cX8 a0 g0 o78_0, cX8_0 cI g0 o78_0, cX8_1 cI g0 o78_0, cX8_3 cI g0 o78_0, cX8_4 cI g0 o78_0, cX8_6 cI g0 o78_0, cX8_8 cI g0 o78_0, cX8_9 cI g0 o78_0, cX8_10 cI g0 o78_0, cX8_12 cI g0 o78_0, cX8_13 cI g0 o78_0, cX8_15 cI g0 o78_0, cX8_17 cI g0 o78_0, cX8_18 cI g0 o78_0, cX8_22 cB g0 o78_0, cX8_27 cI g0 o78_0, cX8_28 cI g0 o78_0, cX8_29 cI g0 o78_0, cX8_30 cI g0 o78_0, cX8_31 cI g0 o78_0, cX8_32 cI g0 o78_0, cX8_33 cI g0 o78_0]) H → va_D A ([cX8 a0 g0 o78_0, cX8_0 cI g0 o78_0, cX8_1 cI g0 o78_0, cX8_3 cI g0 o78_0, cX8_4 cI g0 o78_0, cX8_6 cI g0 o78_0, cX8_8 cI g0 o78_0, cX8_9 cI g0 o78_0, cX8_10 cI g0 o78_0, cX8_12 cI g0 o78_0, cX8_13 cI g0 o78_0, cX8_15 cI g0 o78_0, cX8_17 cI g0 o78_0, cX8_18 cI g0 o78_0, cX8_22 cB g0 o78_0, cX8_27 cI g0 o78_0, cX8_28 cI g0 o78_0, cX8_29 cI g0 o78_0, cX8_30 cI g0 o78_0, cX8_31 cI g0 o78_0, cX8_32 cI g0 o78_0, cX8_33 cI g0 o78_0]) → va_S A s.heap H locs → lv_has ls 11 [(0, .ref a0), (1, .int v1), (2, .int v2), (3, .int v3), (4, .int v4), (5, .int v5), (7, .int x18), (8, .int x56_8)] → W p l e (headSpec wsX8_slips rmX8_slips).room s m ([.ref a0, .int v1, .int v2, .int v3, .int v4, .int v5] : List Value).toArray below meth c H locs 0 0 Q (F0 m 172 ls [.int y172_1, .int x56_6]) := by
                        intro y172_1 h H locs ls hP hD hS hl
                        rw [f_X8_slips_172] at h
                        refine lv_iadd hx hb dX8_slips_172 ?_
                        obtain ⟨x20, hx20, h⟩ := bnd_e h
                        refine lv_topE hx20 ?_
                        refine lv_istore (lv' := [(6, .int x20), (0, .ref a0), (1, .int v1), (2, .int v2), (3, .int v3), (4, .int v4), (5, .int v5), (7, .int x18), (8, .int x56_8)]) hx hb dX8_slips_173 hl (by decide) rfl (fun ls hl => ?_)
                        obtain ⟨x21, hx21, h⟩ := bnd_e h
                        refine lv_iinc (v := x21) (lv' := [(8, .int x21), (6, .int x20), (0, .ref a0), (1, .int v1), (2, .int v2), (3, .int v3), (4, .int v4), (5, .int v5), (7, .int x18)]) hx hb dX8_slips_175 hl (k := 8) rfl (by rw [← hx21]; rfl) (by decide) rfl (fun ls hl => ?_)
                        refine lv_goto (tgt := 56) hx hb dX8_slips_178 (by decide) ?_
                        exact ih56 x20 x18 x21 o78_0 h _ _ _ hP hD hS (lv_sub hl [2, 3, 4, 5, 6, 7, 1, 8, 0] rfl)
                      refine lv_if_eq (tgt := 171) hx hb dX8_slips_163 (by decide) (fun k22 => ?_) (fun k22 => ?_)
                      · have h := ite_t k22 h
                        refine lv_iconst (v := (0 : Int32)) hx hb dX8_slips_171 (by decide) ?_
                        exact jn172 (0 : Int32) h _ _ _ hP hD hS (lv_sub hl [1, 2, 3, 4, 5, 6, 0, 8] rfl)
                      · have h := ite_f k22 h
                        refine lv_iload hx hb dX8_slips_166 (lv_at hl 9 rfl) ?_
                        refine lv_goto (tgt := 172) hx hb dX8_slips_168 (by decide) ?_
                        exact jn172 x78_9 h _ _ _ hP hD hS (lv_sub hl [1, 2, 3, 4, 5, 6, 0, 8] rfl)
                    · have h := ite_f k17 h
                      refine lv_iload hx hb dX8_slips_84 (lv_at hl 9 rfl) ?_
                      refine lv_iload hx hb dX8_slips_86 (lv_at hl 8 rfl) ?_
                      refine lv_iload hx hb dX8_slips_88 (lv_at hl 10 rfl) ?_
                      obtain ⟨q23, hq23, h⟩ := bnd_e h
                      refine kcS (rest := [.int x78_9]) (w2 := ([cX8 a0 g0 o78_0, cX8_0 cI g0 o78_0, cX8_1 cI g0 o78_0, cX8_3 cI g0 o78_0, cX8_4 cI g0 o78_0, cX8_6 cI g0 o78_0, cX8_8 cI g0 o78_0, cX8_9 cI g0 o78_0, cX8_10 cI g0 o78_0, cX8_12 cI g0 o78_0, cX8_13 cI g0 o78_0, cX8_15 cI g0 o78_0, cX8_17 cI g0 o78_0, cX8_18 cI g0 o78_0, cX8_22 cB g0 o78_0, cX8_27 cI g0 o78_0, cX8_28 cI g0 o78_0, cX8_29 cI g0 o78_0, cX8_30 cI g0 o78_0, cX8_31 cI g0 o78_0, cX8_32 cI g0 o78_0, cX8_33 cI g0 o78_0])) hx hb hml hown hts hKK hP hD hS hA (c_X8_has l dC dI cB cI cZ cO x56_8 x78_10 hq23) [] (atAll_map trivial) (by decide +kernel) (sameAd_map trivial) (atAll_map trivial) (agr_refl _ _ _) (va_cwS 2 hts gX8_slips_X8_has rfl rfl rfl dsc_X8_has ⟨Nat.le_of_ble_eq_true rfl, Nat.le_of_ble_eq_true rfl⟩) rfl hl.1 rfl (Nat.le_of_ble_eq_true rfl) dX8_slips_90 ⟨Nat.zero_le _, Nat.zero_le _⟩ (fun H locs hP hD hS => ?_)
                      have jn106 : ∀ (y106_1 : Int32), f_X8_slips_106 v1 v2 x56_8 x78_9 x78_10 o78_0 (f_X8_slips_78 v1 v2 v3 v4 x56_6 x56_7 x56_8 (f_X8_slips_56 v1 v2 v3 v4 v5 nn56) nn78) y106_1 = some r → ∀ (H : Heap) (locs : List Loc) (ls : Array Slot), va_P (dC, dI) vwCl ([cX8 a0 g0 o78_0, cX8_0 cI g0 o78_0, cX8_1 cI g0 o78_0, cX8_3 cI g0 o78_0, cX8_4 cI g0 o78_0, cX8_6 cI g0 o78_0, cX8_8 cI g0 o78_0, cX8_9 cI g0 o78_0, cX8_10 cI g0 o78_0, cX8_12 cI g0 o78_0, cX8_13 cI g0 o78_0, cX8_15 cI g0 o78_0, cX8_17 cI g0 o78_0, cX8_18 cI g0 o78_0, cX8_22 cB g0 o78_0, cX8_27 cI g0 o78_0, cX8_28 cI g0 o78_0, cX8_29 cI g0 o78_0, cX8_30 cI g0 o78_0, cX8_31 cI g0 o78_0, cX8_32 cI g0 o78_0, cX8_33 cI g0 o78_0]) H → va_D A ([cX8 a0 g0 o78_0, cX8_0 cI g0 o78_0, cX8_1 cI g0 o78_0, cX8_3 cI g0 o78_0, cX8_4 cI g0 o78_0, cX8_6 cI g0 o78_0, cX8_8 cI g0 o78_0, cX8_9 cI g0 o78_0, cX8_10 cI g0 o78_0, cX8_12 cI g0 o78_0, cX8_13 cI g0 o78_0, cX8_15 cI g0 o78_0, cX8_17 cI g0 o78_0, cX8_18 cI g0 o78_0, cX8_22 cB g0 o78_0, cX8_27 cI g0 o78_0, cX8_28 cI g0 o78_0, cX8_29 cI g0 o78_0, cX8_30 cI g0 o78_0, cX8_31 cI g0 o78_0, cX8_32 cI g0 o78_0, cX8_33 cI g0 o78_0]) → va_S A s.heap H locs → lv_has ls 11 [(0, .ref a0), (1, .int v1), (2, .int v2), (3, .int v3), (4, .int v4), (5, .int v5), (6, .int x56_6), (7, .int x56_7), (8, .int x56_8), (10, .int x78_10)] → W p l e (headSpec wsX8_slips rmX8_slips).room s m ([.ref a0, .int v1, .int v2, .int v3, .int v4, .int v5] : List Value).toArray below meth c H locs 0 0 Q (F0 m 106 ls [.int y106_1, .int x78_9]) := by
                        intro y106_1 h H locs ls hP hD hS hl
                        rw [f_X8_slips_106] at h
                        refine lv_imul hx hb dX8_slips_106 ?_
                        obtain ⟨x24, hx24, h⟩ := bnd_e h
                        refine lv_topE hx24 ?_
                        refine lv_istore (lv' := [(9, .int x24), (0, .ref a0), (1, .int v1), (2, .int v2), (3, .int v3), (4, .int v4), (5, .int v5), (6, .int x56_6), (7, .int x56_7), (8, .int x56_8), (10, .int x78_10)]) hx hb dX8_slips_107 hl (by decide) rfl (fun ls hl => ?_)
                        refine lv_iload hx hb dX8_slips_109 (lv_at hl 9 rfl) ?_
                        refine lv_iload hx hb dX8_slips_111 (lv_at hl 10 rfl) ?_
                        obtain ⟨q25, hq25, h⟩ := bnd_e h
                        refine kcS (rest := []) (w2 := ([cX8 a0 g0 o78_0, cX8_0 cI g0 o78_0, cX8_1 cI g0 o78_0, cX8_3 cI g0 o78_0, cX8_4 cI g0 o78_0, cX8_6 cI g0 o78_0, cX8_8 cI g0 o78_0, cX8_9 cI g0 o78_0, cX8_10 cI g0 o78_0, cX8_12 cI g0 o78_0, cX8_13 cI g0 o78_0, cX8_15 cI g0 o78_0, cX8_17 cI g0 o78_0, cX8_18 cI g0 o78_0, cX8_22 cB g0 o78_0, cX8_27 cI g0 o78_0, cX8_28 cI g0 o78_0, cX8_29 cI g0 o78_0, cX8_30 cI g0 o78_0, cX8_31 cI g0 o78_0, cX8_32 cI g0 o78_0, cX8_33 cI g0 o78_0])) hx hb hml hown hts hKK hP hD hS hA (c_X8_has l dC dI cB cI cZ cO x56_8 x78_10 hq25) [] (atAll_map trivial) (by decide +kernel) (sameAd_map trivial) (atAll_map trivial) (agr_refl _ _ _) (va_cwS 2 hts gX8_slips_X8_has rfl rfl rfl dsc_X8_has ⟨Nat.le_of_ble_eq_true rfl, Nat.le_of_ble_eq_true rfl⟩) rfl hl.1 rfl (Nat.le_of_ble_eq_true rfl) dX8_slips_113 ⟨Nat.zero_le _, Nat.zero_le _⟩ (fun H locs hP hD hS => ?_)
                        have jn128 : ∀ (o128_0 : Ob), f_X8_slips_128 x78_10 (f_X8_slips_78 v1 v2 v3 v4 x56_6 x56_7 x56_8 (f_X8_slips_56 v1 v2 v3 v4 v5 nn56) nn78) x24 o128_0 = some r → ∀ (H : Heap) (locs : List Loc) (ls : Array Slot), va_P (dC, dI) vwCl ([cX8 a0 g0 o128_0, cX8_0 cI g0 o128_0, cX8_1 cI g0 o128_0, cX8_3 cI g0 o128_0, cX8_4 cI g0 o128_0, cX8_6 cI g0 o128_0, cX8_8 cI g0 o128_0, cX8_9 cI g0 o128_0, cX8_10 cI g0 o128_0, cX8_12 cI g0 o128_0, cX8_13 cI g0 o128_0, cX8_15 cI g0 o128_0, cX8_17 cI g0 o128_0, cX8_18 cI g0 o128_0, cX8_22 cB g0 o128_0, cX8_27 cI g0 o128_0, cX8_28 cI g0 o128_0, cX8_29 cI g0 o128_0, cX8_30 cI g0 o128_0, cX8_31 cI g0 o128_0, cX8_32 cI g0 o128_0, cX8_33 cI g0 o128_0]) H → va_D A ([cX8 a0 g0 o128_0, cX8_0 cI g0 o128_0, cX8_1 cI g0 o128_0, cX8_3 cI g0 o128_0, cX8_4 cI g0 o128_0, cX8_6 cI g0 o128_0, cX8_8 cI g0 o128_0, cX8_9 cI g0 o128_0, cX8_10 cI g0 o128_0, cX8_12 cI g0 o128_0, cX8_13 cI g0 o128_0, cX8_15 cI g0 o128_0, cX8_17 cI g0 o128_0, cX8_18 cI g0 o128_0, cX8_22 cB g0 o128_0, cX8_27 cI g0 o128_0, cX8_28 cI g0 o128_0, cX8_29 cI g0 o128_0, cX8_30 cI g0 o128_0, cX8_31 cI g0 o128_0, cX8_32 cI g0 o128_0, cX8_33 cI g0 o128_0]) → va_S A s.heap H locs → lv_has ls 11 [(0, .ref a0), (1, .int v1), (2, .int v2), (3, .int v3), (4, .int v4), (5, .int v5), (6, .int x56_6), (7, .int x56_7), (8, .int x56_8), (9, .int x24), (10, .int x78_10)] → W p l e (headSpec wsX8_slips rmX8_slips).room s m ([.ref a0, .int v1, .int v2, .int v3, .int v4, .int v5] : List Value).toArray below meth c H locs 0 0 Q (F0 m 128 ls []) := by
                          intro o128_0 h H locs ls hP hD hS hl
                          rw [f_X8_slips_128] at h
                          obtain ⟨x26, hx26, h⟩ := bnd_e h
                          refine lv_iinc (v := x26) (lv' := [(10, .int x26), (0, .ref a0), (1, .int v1), (2, .int v2), (3, .int v3), (4, .int v4), (5, .int v5), (6, .int x56_6), (7, .int x56_7), (8, .int x56_8), (9, .int x24)]) hx hb dX8_slips_128 hl (k := 10) rfl (by rw [← hx26]; rfl) (by decide) rfl (fun ls hl => ?_)
                          refine lv_goto (tgt := 78) hx hb dX8_slips_131 (by decide) ?_
                          exact ih78 x24 x26 o128_0 h _ _ _ hP hD hS (lv_sub hl [1, 2, 3, 4, 5, 6, 7, 8, 9, 10, 0] rfl)
                        refine lv_if_ne (tgt := 128) hx hb dX8_slips_116 (by decide) (fun k27 => ?_) (fun k27 => ?_)
                        · have h := ite_f k27 h
                          exact jn128 o78_0 h _ _ _ hP hD hS (lv_sub hl [1, 2, 3, 4, 5, 6, 7, 8, 9, 0, 10] rfl)
                        · have h := ite_t k27 h
                          refine lv_aload_n hx hb dX8_slips_119 rfl (lv_at hl 1 rfl) ?_
                          refine lv_sipush (v := (286 : Int32)) hx hb dX8_slips_120 (by decide) ?_
                          refine lv_iload_n hx hb dX8_slips_123 rfl (lv_at hl 2 rfl) ?_
                          refine lv_iload_n hx hb dX8_slips_124 rfl (lv_at hl 3 rfl) ?_
                          obtain ⟨q28, hq28, h⟩ := obd_e h
                          refine kcV (rest := []) (w2 := ([cX8 a0 g0 q28, cX8_0 cI g0 q28, cX8_1 cI g0 q28, cX8_3 cI g0 q28, cX8_4 cI g0 q28, cX8_6 cI g0 q28, cX8_8 cI g0 q28, cX8_9 cI g0 q28, cX8_10 cI g0 q28, cX8_12 cI g0 q28, cX8_13 cI g0 q28, cX8_15 cI g0 q28, cX8_17 cI g0 q28, cX8_18 cI g0 q28, cX8_22 cB g0 q28, cX8_27 cI g0 q28, cX8_28 cI g0 q28, cX8_29 cI g0 q28, cX8_30 cI g0 q28, cX8_31 cI g0 q28, cX8_32 cI g0 q28, cX8_33 cI g0 q28])) hx hb hml hown hts hKK hP hD hS hA (c_X8_gives l dC dI cB cI cZ cO a0 g0 o78_0 (286 : Int32) v1 v2 hq28) [0, 1, 2, 3, 4, 5, 6, 7, 8, 9, 10, 11, 12, 13, 14, 15, 16, 17, 18, 19, 20, 21] (atAll_map ⟨rfl, rfl, rfl, rfl, rfl, rfl, rfl, rfl, rfl, rfl, rfl, rfl, rfl, rfl, rfl, rfl, rfl, rfl, rfl, rfl, rfl, rfl, trivial⟩) (by decide +kernel) (sameAd_map ⟨rfl, rfl, rfl, rfl, rfl, rfl, rfl, rfl, rfl, rfl, rfl, rfl, rfl, rfl, rfl, rfl, rfl, rfl, rfl, rfl, rfl, rfl, trivial⟩) (atAll_map ⟨rfl, rfl, rfl, rfl, rfl, rfl, rfl, rfl, rfl, rfl, rfl, rfl, rfl, rfl, rfl, rfl, rfl, rfl, rfl, rfl, rfl, rfl, trivial⟩) ⟨Or.inr (by decide), Or.inr (by decide), Or.inr (by decide), Or.inr (by decide), Or.inr (by decide), Or.inr (by decide), Or.inr (by decide), Or.inr (by decide), Or.inr (by decide), Or.inr (by decide), Or.inr (by decide), Or.inr (by decide), Or.inr (by decide), Or.inr (by decide), Or.inr (by decide), Or.inr (by decide), Or.inr (by decide), Or.inr (by decide), Or.inr (by decide), Or.inr (by decide), Or.inr (by decide), Or.inr (by decide), trivial⟩ (cwV 3 hts gX8_slips_X8_gives rfl rfl rfl ⟨rfl, dsc_X8_gives⟩ ⟨Nat.le_of_ble_eq_true rfl, Nat.le_of_ble_eq_true rfl⟩) (va_recv hKK.1 hP (ci := 8) (q0 := 0) rfl rfl) rfl hl.1 rfl (Nat.le_of_ble_eq_true rfl) dX8_slips_125 ⟨Nat.zero_le _, Nat.zero_le _⟩ (fun H locs hP hD hS => ?_)
                          exact jn128 q28 h _ _ _ hP hD hS (lv_sub hl [1, 2, 3, 4, 5, 6, 7, 8, 9, 0, 10] rfl)
                      refine lv_if_eq (tgt := 101) hx hb dX8_slips_93 (by decide) (fun k29 => ?_) (fun k29 => ?_)
                      · have h := ite_t k29 h
                        refine lv_bipush (v := (10 : Int32)) hx hb dX8_slips_101 (by decide) ?_
                        refine lv_iload hx hb dX8_slips_103 (lv_at hl 4 rfl) ?_
                        refine lv_isub hx hb dX8_slips_105 ?_
                        exact jn106 ((10 : Int32) - v4) h _ _ _ hP hD hS (lv_sub hl [0, 1, 2, 3, 4, 5, 6, 7, 8, 10] rfl)
                      · have h := ite_f k29 h
                        refine lv_iload hx hb dX8_slips_96 (lv_at hl 4 rfl) ?_
                        refine lv_goto (tgt := 106) hx hb dX8_slips_98 (by decide) ?_
                        exact jn106 v4 h _ _ _ hP hD hS (lv_sub hl [0, 1, 2, 3, 4, 5, 6, 7, 8, 10] rfl)
                exact lp78 FU (1 : Int32) (0 : Int32) q16 h _ _ _ hP hD hS (lv_sub hl [2, 3, 4, 5, 6, 7, 8, 9, 10, 1, 0] rfl)
          exact lp56 FU (0 : Int32) (0 : Int32) (0 : Int32) o0 h _ _ _ hP hD hS (lv_sub hl [3, 4, 5, 6, 7, 8, 2, 1, 0] rfl)
        · have h := ite_t k8 h
          refine lv_iconst (v := (-1 : Int32)) hx hb dX8_slips_45 (by decide) ?_
          have h := Option.some.inj h
          subst h
          subst hQ
          exact W.iret (v := (-1 : Int32)) hx hb hr (fun t ht hW => ⟨⟨rfl, by rw [ht]; exact hP, hD⟩, hS.F ht⟩) hS.2.2 dX8_slips_46
def f_X8_does (o0 : Ob) (v1 : Int32) (v2 : Int32) : Option (Ob) := bnd (v2 - v2 / (8 : Int32) * (8 : Int32)) fun x1 : Int32 => if (4 : Int32) ≤ x1 then (if x1 = (4 : Int32) then (if (v1 + (2 : Int32)) < 0 ∨ 312 ≤ (v1 + (2 : Int32)).toNatClampNeg then none else bnd (upd (o0.2 18) (v1 + (2 : Int32)).toNatClampNeg ((v2 / (8 : Int32)) - (v2 / (8 : Int32)) / (10 : Int32) * (10 : Int32))) fun u10 : Nat → Int32 => some (stR o0 18 u10)) else (if x1 = (5 : Int32) then ((f_X8_weds o0 v1 ((v2 / (8 : Int32)) - (v2 / (8 : Int32)) / (61 : Int32) * (61 : Int32))).bind fun q8 : Bool × Ob => some (stF q8.2 35 (b2i q8.1))) else (if (v1 + (3 : Int32)) < 0 ∨ 312 ≤ (v1 + (3 : Int32)).toNatClampNeg then none else if (999 : Int32) ≤ ((o0.2 18) (v1 + (3 : Int32)).toNatClampNeg) then (some o0) else ((f_X8_trades o0 v1).bind fun q7 : Ob => some q7)))) else (if (o0.1 5) = 0 then none else (f_X8_gives o0 v1 ((v2 / (8 : Int32)) - (v2 / (8 : Int32)) / (o0.1 5) * (o0.1 5)) ((v2 / (64 : Int32)) - (v2 / (64 : Int32)) / (2 : Int32) * (2 : Int32))).bind fun q12 : Ob => some q12)
abbrev rmX8_does : Room := { frames := 5, cells := 0, slots := 0, locals := 122 }
theorem dsc_X8_does : yX8_does.cls ≠ "java/lang/invoke/MethodHandle" ∧ yX8_does.cls ≠ "java/lang/invoke/VarHandle" ∧ (parseMethodDescriptor yX8_does.desc).map (fun d => d.parameters.length) = some 2 := by decide +kernel
set_option maxHeartbeats 4000000 in
set_option maxRecDepth 100000 in
theorem c_X8_does (l : Launch) (dC : Nat → ClassId) (dI : Nat → Nat → Nat) (cB cI cZ cO : ClassId) (a0 : Nat) (g0 : Nat → Nat) (o0 : Ob) (v1 : Int32) (v2 : Int32) {r : Ob} (h : f_X8_does o0 v1 v2 = some r) : Ct dC dI cB cI cZ cO l yX8_does wsX8_does rmX8_does [.ref a0, .int v1, .int v2] ([cX8 a0 g0 o0, cX8_0 cI g0 o0, cX8_1 cI g0 o0, cX8_3 cI g0 o0, cX8_4 cI g0 o0, cX8_6 cI g0 o0, cX8_8 cI g0 o0, cX8_9 cI g0 o0, cX8_10 cI g0 o0, cX8_12 cI g0 o0, cX8_13 cI g0 o0, cX8_15 cI g0 o0, cX8_17 cI g0 o0, cX8_18 cI g0 o0, cX8_22 cB g0 o0, cX8_27 cI g0 o0, cX8_28 cI g0 o0, cX8_29 cI g0 o0, cX8_30 cI g0 o0, cX8_31 cI g0 o0, cX8_32 cI g0 o0, cX8_33 cI g0 o0]) none ([cX8 a0 g0 r, cX8_0 cI g0 r, cX8_1 cI g0 r, cX8_3 cI g0 r, cX8_4 cI g0 r, cX8_6 cI g0 r, cX8_8 cI g0 r, cX8_9 cI g0 r, cX8_10 cI g0 r, cX8_12 cI g0 r, cX8_13 cI g0 r, cX8_15 cI g0 r, cX8_17 cI g0 r, cX8_18 cI g0 r, cX8_22 cB g0 r, cX8_27 cI g0 r, cX8_28 cI g0 r, cX8_29 cI g0 r, cX8_30 cI g0 r, cX8_31 cI g0 r, cX8_32 cI g0 r, cX8_33 cI g0 r]) := by
  intro sz
  refine Met.ofW (cc := cX8_does) (maxL := 4) (ret := none) (by decide) rfl ?_
  intro p e s m args below meth c s₁ B hml hv
  obtain ⟨rfl, hsz, hP, hKK, hD0⟩ := hv
  have hx := B.exec
  have hb := B.bytes
  have hr := B.returns
  have hts := atoms_spec (ws := wsX8_does) B.pre
  have hown : s.vm.findClass RX8 = some m.cls := findClass_of_methodNamed B.named
  have hlocks := B.notSynchronized
  have hiX8 : ∀ w ∈ u_ws RX8 TX8 36, w ∈ wsX8_does := fun w h => List.mem_cons_of_mem _ (List.mem_append_right _ h)
  subst hsz
  have hD := hD0.self (sz := s.heap.size)
  generalize hAe : va_A ([cX8 a0 g0 o0, cX8_0 cI g0 o0, cX8_1 cI g0 o0, cX8_3 cI g0 o0, cX8_4 cI g0 o0, cX8_6 cI g0 o0, cX8_8 cI g0 o0, cX8_9 cI g0 o0, cX8_10 cI g0 o0, cX8_12 cI g0 o0, cX8_13 cI g0 o0, cX8_15 cI g0 o0, cX8_17 cI g0 o0, cX8_18 cI g0 o0, cX8_22 cB g0 o0, cX8_27 cI g0 o0, cX8_28 cI g0 o0, cX8_29 cI g0 o0, cX8_30 cI g0 o0, cX8_31 cI g0 o0, cX8_32 cI g0 o0, cX8_33 cI g0 o0]) s.heap.size = A at hD ⊢
  have hA : ∀ q : Nat, s.heap.size ≤ q → A q := fun q h => by rw [← hAe]; exact Or.inr h
  have hS : va_S A s.heap s.heap [] := va_S.rf
  have hP : va_P (dC, dI) vwCl ([cX8 a0 g0 o0, cX8_0 cI g0 o0, cX8_1 cI g0 o0, cX8_3 cI g0 o0, cX8_4 cI g0 o0, cX8_6 cI g0 o0, cX8_8 cI g0 o0, cX8_9 cI g0 o0, cX8_10 cI g0 o0, cX8_12 cI g0 o0, cX8_13 cI g0 o0, cX8_15 cI g0 o0, cX8_17 cI g0 o0, cX8_18 cI g0 o0, cX8_22 cB g0 o0, cX8_27 cI g0 o0, cX8_28 cI g0 o0, cX8_29 cI g0 o0, cX8_30 cI g0 o0, cX8_31 cI g0 o0, cX8_32 cI g0 o0, cX8_33 cI g0 o0]) s.heap := hP
  have hD : va_D A ([cX8 a0 g0 o0, cX8_0 cI g0 o0, cX8_1 cI g0 o0, cX8_3 cI g0 o0, cX8_4 cI g0 o0, cX8_6 cI g0 o0, cX8_8 cI g0 o0, cX8_9 cI g0 o0, cX8_10 cI g0 o0, cX8_12 cI g0 o0, cX8_13 cI g0 o0, cX8_15 cI g0 o0, cX8_17 cI g0 o0, cX8_18 cI g0 o0, cX8_22 cB g0 o0, cX8_27 cI g0 o0, cX8_28 cI g0 o0, cX8_29 cI g0 o0, cX8_30 cI g0 o0, cX8_31 cI g0 o0, cX8_32 cI g0 o0, cX8_33 cI g0 o0]) := hD
  have hl := lv_entry ([.ref a0, .int v1, .int v2]) (n := 4) (Nat.le_of_ble_eq_true rfl)
  rw [lg_entry_eq]
  generalize (lg_sl ([.ref a0, .int v1, .int v2]) ++ List.replicate (4 - (lg_sl ([.ref a0, .int v1, .int v2])).length) Slot.unset).toArray = ls at hl ⊢
  have hl : lv_has ls 4 [(0, .ref a0), (1, .int v1), (2, .int v2)] := hl
  obtain ⟨Q, hQ⟩ : ∃ Q, Q = MQ below (Qq dC dI none ([cX8 a0 g0 r, cX8_0 cI g0 r, cX8_1 cI g0 r, cX8_3 cI g0 r, cX8_4 cI g0 r, cX8_6 cI g0 r, cX8_8 cI g0 r, cX8_9 cI g0 r, cX8_10 cI g0 r, cX8_12 cI g0 r, cX8_13 cI g0 r, cX8_15 cI g0 r, cX8_17 cI g0 r, cX8_18 cI g0 r, cX8_22 cB g0 r, cX8_27 cI g0 r, cX8_28 cI g0 r, cX8_29 cI g0 r, cX8_30 cI g0 r, cX8_31 cI g0 r, cX8_32 cI g0 r, cX8_33 cI g0 r]) A) ([.ref a0, .int v1, .int v2] : List Value).toArray s 0 0 A := ⟨_, rfl⟩
  rw [← hQ]
  rw [f_X8_does] at h
  clear hAe hD0
  refine lv_iload_n hx hb dX8_does_0 rfl (lv_at hl 2 rfl) ?_
  refine lv_bipush (v := (8 : Int32)) hx hb dX8_does_1 (by decide) ?_
  refine lv_irem hx hb dX8_does_3 (by decide) ?_
  obtain ⟨x1, hx1, h⟩ := bnd_e h
  refine lv_topE hx1 ?_
  refine lv_istore_n (lv' := [(3, .int x1), (0, .ref a0), (1, .int v1), (2, .int v2)]) hx hb dX8_does_4 rfl hl (by decide) rfl (fun ls hl => ?_)
  refine lv_iload_n hx hb dX8_does_5 rfl (lv_at hl 0 rfl) ?_
  refine lv_iconst (v := (4 : Int32)) hx hb dX8_does_6 (by decide) ?_
  refine lv_icmp_ge (tgt := 33) hx hb dX8_does_7 (by decide) (fun k2 => ?_) (fun k2 => ?_)
  · have h := ite_t k2 h
    refine lv_iload_n hx hb dX8_does_33 rfl (lv_at hl 0 rfl) ?_
    refine lv_iconst (v := (4 : Int32)) hx hb dX8_does_34 (by decide) ?_
    refine lv_icmp_ne (tgt := 56) hx hb dX8_does_35 (by decide) (fun k3 => ?_) (fun k3 => ?_)
    · have h := ite_f k3 h
      refine lv_iload_n hx hb dX8_does_56 rfl (lv_at hl 0 rfl) ?_
      refine lv_iconst (v := (5 : Int32)) hx hb dX8_does_57 (by decide) ?_
      refine lv_icmp_ne (tgt := 80) hx hb dX8_does_58 (by decide) (fun k4 => ?_) (fun k4 => ?_)
      · have h := ite_f k4 h
        refine lv_aload_n hx hb dX8_does_80 rfl (lv_at hl 1 rfl) ?_
        refine va_get (D := (dC, dI)) (ci := 8) (v := .ref (g0 18)) (C := RX8) (T := TX8) (N := 36) hx hb hts hiX8 hown hKK.1 hP 0 rfl rfl 18 (by decide) (hts (.fieldLink RX8 46 "SlideLandModel" "slot" "[I") (List.mem_of_getElem? (i := 2) rfl)) (fun _ h9 => h9) rfl dX8_does_81 ?_
        refine lv_iload_n hx hb dX8_does_84 rfl (lv_at hl 2 rfl) ?_
        refine lv_iconst (v := (3 : Int32)) hx hb dX8_does_85 (by decide) ?_
        refine lv_iadd hx hb dX8_does_86 ?_
        obtain ⟨k5, h⟩ := ite_n h
        refine va_iald hx hb hKK.1 hP 13 1 rfl rfl k5 dX8_does_87 ?_
        refine lv_sipush (v := (999 : Int32)) hx hb dX8_does_88 (by decide) ?_
        refine lv_icmp_ge (tgt := 99) hx hb dX8_does_91 (by decide) (fun k6 => ?_) (fun k6 => ?_)
        · have h := ite_t k6 h
          have h := Option.some.inj h
          subst h
          subst hQ
          exact W.vret hx hb hr (fun t ht hW => ⟨⟨rfl, by rw [ht]; exact hP, hD⟩, hS.F ht⟩) hS.2.2 dX8_does_99
        · have h := ite_f k6 h
          refine lv_aload_n hx hb dX8_does_94 rfl (lv_at hl 1 rfl) ?_
          refine lv_iload_n hx hb dX8_does_95 rfl (lv_at hl 2 rfl) ?_
          obtain ⟨q7, hq7, h⟩ := obd_e h
          refine kcV (rest := []) (w2 := ([cX8 a0 g0 q7, cX8_0 cI g0 q7, cX8_1 cI g0 q7, cX8_3 cI g0 q7, cX8_4 cI g0 q7, cX8_6 cI g0 q7, cX8_8 cI g0 q7, cX8_9 cI g0 q7, cX8_10 cI g0 q7, cX8_12 cI g0 q7, cX8_13 cI g0 q7, cX8_15 cI g0 q7, cX8_17 cI g0 q7, cX8_18 cI g0 q7, cX8_22 cB g0 q7, cX8_27 cI g0 q7, cX8_28 cI g0 q7, cX8_29 cI g0 q7, cX8_30 cI g0 q7, cX8_31 cI g0 q7, cX8_32 cI g0 q7, cX8_33 cI g0 q7])) hx hb hml hown hts hKK hP hD hS hA (c_X8_trades l dC dI cB cI cZ cO a0 g0 o0 v1 hq7) [0, 1, 2, 3, 4, 5, 6, 7, 8, 9, 10, 11, 12, 13, 14, 15, 16, 17, 18, 19, 20, 21] (atAll_map ⟨rfl, rfl, rfl, rfl, rfl, rfl, rfl, rfl, rfl, rfl, rfl, rfl, rfl, rfl, rfl, rfl, rfl, rfl, rfl, rfl, rfl, rfl, trivial⟩) (by decide +kernel) (sameAd_map ⟨rfl, rfl, rfl, rfl, rfl, rfl, rfl, rfl, rfl, rfl, rfl, rfl, rfl, rfl, rfl, rfl, rfl, rfl, rfl, rfl, rfl, rfl, trivial⟩) (atAll_map ⟨rfl, rfl, rfl, rfl, rfl, rfl, rfl, rfl, rfl, rfl, rfl, rfl, rfl, rfl, rfl, rfl, rfl, rfl, rfl, rfl, rfl, rfl, trivial⟩) ⟨Or.inr (by decide), Or.inr (by decide), Or.inr (by decide), Or.inr (by decide), Or.inr (by decide), Or.inr (by decide), Or.inr (by decide), Or.inr (by decide), Or.inr (by decide), Or.inr (by decide), Or.inr (by decide), Or.inr (by decide), Or.inr (by decide), Or.inr (by decide), Or.inr (by decide), Or.inr (by decide), Or.inr (by decide), Or.inr (by decide), Or.inr (by decide), Or.inr (by decide), Or.inr (by decide), Or.inr (by decide), trivial⟩ (cwV 1 hts gX8_does_X8_trades rfl rfl rfl ⟨rfl, dsc_X8_trades⟩ ⟨Nat.le_of_ble_eq_true rfl, Nat.le_of_ble_eq_true rfl⟩) (va_recv hKK.1 hP (ci := 8) (q0 := 0) rfl rfl) rfl hl.1 rfl (Nat.le_of_ble_eq_true rfl) dX8_does_96 ⟨Nat.zero_le _, Nat.zero_le _⟩ (fun H locs hP hD hS => ?_)
          have h := Option.some.inj h
          subst h
          subst hQ
          exact W.vret hx hb hr (fun t ht hW => ⟨⟨rfl, by rw [ht]; exact hP, hD⟩, hS.F ht⟩) hS.2.2 dX8_does_99
      · have h := ite_t k4 h
        refine lv_aload_n hx hb dX8_does_61 rfl (lv_at hl 1 rfl) ?_
        refine lv_aload_n hx hb dX8_does_62 rfl (lv_at hl 1 rfl) ?_
        refine lv_iload_n hx hb dX8_does_63 rfl (lv_at hl 2 rfl) ?_
        refine lv_iload_n hx hb dX8_does_64 rfl (lv_at hl 3 rfl) ?_
        refine lv_bipush (v := (8 : Int32)) hx hb dX8_does_65 (by decide) ?_
        refine lv_idiv hx hb dX8_does_67 (by decide) ?_
        refine lv_bipush (v := (61 : Int32)) hx hb dX8_does_68 (by decide) ?_
        refine lv_irem hx hb dX8_does_70 (by decide) ?_
        obtain ⟨q8, hq8, h⟩ := obd_e h
        refine kcV (rest := [.ref a0]) (w2 := ([cX8 a0 g0 q8.2, cX8_0 cI g0 q8.2, cX8_1 cI g0 q8.2, cX8_3 cI g0 q8.2, cX8_4 cI g0 q8.2, cX8_6 cI g0 q8.2, cX8_8 cI g0 q8.2, cX8_9 cI g0 q8.2, cX8_10 cI g0 q8.2, cX8_12 cI g0 q8.2, cX8_13 cI g0 q8.2, cX8_15 cI g0 q8.2, cX8_17 cI g0 q8.2, cX8_18 cI g0 q8.2, cX8_22 cB g0 q8.2, cX8_27 cI g0 q8.2, cX8_28 cI g0 q8.2, cX8_29 cI g0 q8.2, cX8_30 cI g0 q8.2, cX8_31 cI g0 q8.2, cX8_32 cI g0 q8.2, cX8_33 cI g0 q8.2])) hx hb hml hown hts hKK hP hD hS hA (c_X8_weds l dC dI cB cI cZ cO a0 g0 o0 v1 ((v2 / (8 : Int32)) - (v2 / (8 : Int32)) / (61 : Int32) * (61 : Int32)) hq8) [0, 1, 2, 3, 4, 5, 6, 7, 8, 9, 10, 11, 12, 13, 14, 15, 16, 17, 18, 19, 20, 21] (atAll_map ⟨rfl, rfl, rfl, rfl, rfl, rfl, rfl, rfl, rfl, rfl, rfl, rfl, rfl, rfl, rfl, rfl, rfl, rfl, rfl, rfl, rfl, rfl, trivial⟩) (by decide +kernel) (sameAd_map ⟨rfl, rfl, rfl, rfl, rfl, rfl, rfl, rfl, rfl, rfl, rfl, rfl, rfl, rfl, rfl, rfl, rfl, rfl, rfl, rfl, rfl, rfl, trivial⟩) (atAll_map ⟨rfl, rfl, rfl, rfl, rfl, rfl, rfl, rfl, rfl, rfl, rfl, rfl, rfl, rfl, rfl, rfl, rfl, rfl, rfl, rfl, rfl, rfl, trivial⟩) ⟨Or.inr (by decide), Or.inr (by decide), Or.inr (by decide), Or.inr (by decide), Or.inr (by decide), Or.inr (by decide), Or.inr (by decide), Or.inr (by decide), Or.inr (by decide), Or.inr (by decide), Or.inr (by decide), Or.inr (by decide), Or.inr (by decide), Or.inr (by decide), Or.inr (by decide), Or.inr (by decide), Or.inr (by decide), Or.inr (by decide), Or.inr (by decide), Or.inr (by decide), Or.inr (by decide), Or.inr (by decide), trivial⟩ (cwV 2 hts gX8_does_X8_weds rfl rfl rfl ⟨rfl, dsc_X8_weds⟩ ⟨Nat.le_of_ble_eq_true rfl, Nat.le_of_ble_eq_true rfl⟩) (va_recv hKK.1 hP (ci := 8) (q0 := 0) rfl rfl) rfl hl.1 rfl (Nat.le_of_ble_eq_true rfl) dX8_does_71 ⟨Nat.zero_le _, Nat.zero_le _⟩ (fun H locs hP hD hS => ?_)
        refine va_put (D := (dC, dI)) (ci := 8) (v := .int (b2i q8.1)) (ty := .boolean) (C := RX8) (T := TX8) (N := 36) hx hb hts hiX8 tyX8 tyX8_ok nmX8 hown hKK.1 hP hD hS 0 rfl rfl 35 (by decide) (hts (.fieldLink RX8 290 "SlideLandModel" "isWed" "Z") (List.mem_of_getElem? (i := 3) rfl)) (fun _ h9 => h9) rfl (by decide +kernel) (b2i_nar _) (b2i_fits _) (Nat.le_of_ble_eq_true rfl) dX8_does_74 (fun H locs hP hD hS => ?_)
        have hP : va_P (dC, dI) vwCl ([cX8 a0 g0 (stF q8.2 35 (b2i q8.1)), cX8_0 cI g0 (stF q8.2 35 (b2i q8.1)), cX8_1 cI g0 (stF q8.2 35 (b2i q8.1)), cX8_3 cI g0 (stF q8.2 35 (b2i q8.1)), cX8_4 cI g0 (stF q8.2 35 (b2i q8.1)), cX8_6 cI g0 (stF q8.2 35 (b2i q8.1)), cX8_8 cI g0 (stF q8.2 35 (b2i q8.1)), cX8_9 cI g0 (stF q8.2 35 (b2i q8.1)), cX8_10 cI g0 (stF q8.2 35 (b2i q8.1)), cX8_12 cI g0 (stF q8.2 35 (b2i q8.1)), cX8_13 cI g0 (stF q8.2 35 (b2i q8.1)), cX8_15 cI g0 (stF q8.2 35 (b2i q8.1)), cX8_17 cI g0 (stF q8.2 35 (b2i q8.1)), cX8_18 cI g0 (stF q8.2 35 (b2i q8.1)), cX8_22 cB g0 (stF q8.2 35 (b2i q8.1)), cX8_27 cI g0 (stF q8.2 35 (b2i q8.1)), cX8_28 cI g0 (stF q8.2 35 (b2i q8.1)), cX8_29 cI g0 (stF q8.2 35 (b2i q8.1)), cX8_30 cI g0 (stF q8.2 35 (b2i q8.1)), cX8_31 cI g0 (stF q8.2 35 (b2i q8.1)), cX8_32 cI g0 (stF q8.2 35 (b2i q8.1)), cX8_33 cI g0 (stF q8.2 35 (b2i q8.1))]) H := hP
        have hD : va_D A ([cX8 a0 g0 (stF q8.2 35 (b2i q8.1)), cX8_0 cI g0 (stF q8.2 35 (b2i q8.1)), cX8_1 cI g0 (stF q8.2 35 (b2i q8.1)), cX8_3 cI g0 (stF q8.2 35 (b2i q8.1)), cX8_4 cI g0 (stF q8.2 35 (b2i q8.1)), cX8_6 cI g0 (stF q8.2 35 (b2i q8.1)), cX8_8 cI g0 (stF q8.2 35 (b2i q8.1)), cX8_9 cI g0 (stF q8.2 35 (b2i q8.1)), cX8_10 cI g0 (stF q8.2 35 (b2i q8.1)), cX8_12 cI g0 (stF q8.2 35 (b2i q8.1)), cX8_13 cI g0 (stF q8.2 35 (b2i q8.1)), cX8_15 cI g0 (stF q8.2 35 (b2i q8.1)), cX8_17 cI g0 (stF q8.2 35 (b2i q8.1)), cX8_18 cI g0 (stF q8.2 35 (b2i q8.1)), cX8_22 cB g0 (stF q8.2 35 (b2i q8.1)), cX8_27 cI g0 (stF q8.2 35 (b2i q8.1)), cX8_28 cI g0 (stF q8.2 35 (b2i q8.1)), cX8_29 cI g0 (stF q8.2 35 (b2i q8.1)), cX8_30 cI g0 (stF q8.2 35 (b2i q8.1)), cX8_31 cI g0 (stF q8.2 35 (b2i q8.1)), cX8_32 cI g0 (stF q8.2 35 (b2i q8.1)), cX8_33 cI g0 (stF q8.2 35 (b2i q8.1))]) := hD
        refine lv_goto (tgt := 99) hx hb dX8_does_77 (by decide) ?_
        have h := Option.some.inj h
        subst h
        subst hQ
        exact W.vret hx hb hr (fun t ht hW => ⟨⟨rfl, by rw [ht]; exact hP, hD⟩, hS.F ht⟩) hS.2.2 dX8_does_99
    · have h := ite_t k3 h
      refine lv_aload_n hx hb dX8_does_38 rfl (lv_at hl 1 rfl) ?_
      refine va_get (D := (dC, dI)) (ci := 8) (v := .ref (g0 18)) (C := RX8) (T := TX8) (N := 36) hx hb hts hiX8 hown hKK.1 hP 0 rfl rfl 18 (by decide) (hts (.fieldLink RX8 46 "SlideLandModel" "slot" "[I") (List.mem_of_getElem? (i := 2) rfl)) (fun _ h9 => h9) rfl dX8_does_39 ?_
      refine lv_iload_n hx hb dX8_does_42 rfl (lv_at hl 2 rfl) ?_
      refine lv_iconst (v := (2 : Int32)) hx hb dX8_does_43 (by decide) ?_
      refine lv_iadd hx hb dX8_does_44 ?_
      refine lv_iload_n hx hb dX8_does_45 rfl (lv_at hl 3 rfl) ?_
      refine lv_bipush (v := (8 : Int32)) hx hb dX8_does_46 (by decide) ?_
      refine lv_idiv hx hb dX8_does_48 (by decide) ?_
      refine lv_bipush (v := (10 : Int32)) hx hb dX8_does_49 (by decide) ?_
      refine lv_irem hx hb dX8_does_51 (by decide) ?_
      obtain ⟨k9, h⟩ := ite_n h
      obtain ⟨u10, hu10, h⟩ := bnd_e h
      refine k_iast (f := (o0.2 18)) hx hb hKK.1 hP hD hS 13 1 hu10 rfl rfl k9 dX8_does_52 (fun H locs hP hD hS => ?_)
      have hP : va_P (dC, dI) vwCl ([cX8 a0 g0 (stR o0 18 u10), cX8_0 cI g0 (stR o0 18 u10), cX8_1 cI g0 (stR o0 18 u10), cX8_3 cI g0 (stR o0 18 u10), cX8_4 cI g0 (stR o0 18 u10), cX8_6 cI g0 (stR o0 18 u10), cX8_8 cI g0 (stR o0 18 u10), cX8_9 cI g0 (stR o0 18 u10), cX8_10 cI g0 (stR o0 18 u10), cX8_12 cI g0 (stR o0 18 u10), cX8_13 cI g0 (stR o0 18 u10), cX8_15 cI g0 (stR o0 18 u10), cX8_17 cI g0 (stR o0 18 u10), cX8_18 cI g0 (stR o0 18 u10), cX8_22 cB g0 (stR o0 18 u10), cX8_27 cI g0 (stR o0 18 u10), cX8_28 cI g0 (stR o0 18 u10), cX8_29 cI g0 (stR o0 18 u10), cX8_30 cI g0 (stR o0 18 u10), cX8_31 cI g0 (stR o0 18 u10), cX8_32 cI g0 (stR o0 18 u10), cX8_33 cI g0 (stR o0 18 u10)]) H := hP
      have hD : va_D A ([cX8 a0 g0 (stR o0 18 u10), cX8_0 cI g0 (stR o0 18 u10), cX8_1 cI g0 (stR o0 18 u10), cX8_3 cI g0 (stR o0 18 u10), cX8_4 cI g0 (stR o0 18 u10), cX8_6 cI g0 (stR o0 18 u10), cX8_8 cI g0 (stR o0 18 u10), cX8_9 cI g0 (stR o0 18 u10), cX8_10 cI g0 (stR o0 18 u10), cX8_12 cI g0 (stR o0 18 u10), cX8_13 cI g0 (stR o0 18 u10), cX8_15 cI g0 (stR o0 18 u10), cX8_17 cI g0 (stR o0 18 u10), cX8_18 cI g0 (stR o0 18 u10), cX8_22 cB g0 (stR o0 18 u10), cX8_27 cI g0 (stR o0 18 u10), cX8_28 cI g0 (stR o0 18 u10), cX8_29 cI g0 (stR o0 18 u10), cX8_30 cI g0 (stR o0 18 u10), cX8_31 cI g0 (stR o0 18 u10), cX8_32 cI g0 (stR o0 18 u10), cX8_33 cI g0 (stR o0 18 u10)]) := hD
      refine lv_goto (tgt := 99) hx hb dX8_does_53 (by decide) ?_
      have h := Option.some.inj h
      subst h
      subst hQ
      exact W.vret hx hb hr (fun t ht hW => ⟨⟨rfl, by rw [ht]; exact hP, hD⟩, hS.F ht⟩) hS.2.2 dX8_does_99
  · have h := ite_f k2 h
    refine lv_aload_n hx hb dX8_does_10 rfl (lv_at hl 1 rfl) ?_
    refine lv_iload_n hx hb dX8_does_11 rfl (lv_at hl 2 rfl) ?_
    refine lv_iload_n hx hb dX8_does_12 rfl (lv_at hl 3 rfl) ?_
    refine lv_bipush (v := (8 : Int32)) hx hb dX8_does_13 (by decide) ?_
    refine lv_idiv hx hb dX8_does_15 (by decide) ?_
    refine lv_aload_n hx hb dX8_does_16 rfl (lv_at hl 1 rfl) ?_
    refine va_get (D := (dC, dI)) (ci := 8) (v := .int (o0.1 5)) (C := RX8) (T := TX8) (N := 36) hx hb hts hiX8 hown hKK.1 hP 0 rfl rfl 5 (by decide) (hts (.fieldLink RX8 101 "SlideLandModel" "pushes" "I") (List.mem_of_getElem? (i := 1) rfl)) (fun _ h9 => h9) rfl dX8_does_17 ?_
    obtain ⟨k11, h⟩ := ite_n h
    refine lv_irem hx hb dX8_does_20 k11 ?_
    refine lv_iload_n hx hb dX8_does_21 rfl (lv_at hl 3 rfl) ?_
    refine lv_bipush (v := (64 : Int32)) hx hb dX8_does_22 (by decide) ?_
    refine lv_idiv hx hb dX8_does_24 (by decide) ?_
    refine lv_iconst (v := (2 : Int32)) hx hb dX8_does_25 (by decide) ?_
    refine lv_irem hx hb dX8_does_26 (by decide) ?_
    obtain ⟨q12, hq12, h⟩ := obd_e h
    refine kcV (rest := []) (w2 := ([cX8 a0 g0 q12, cX8_0 cI g0 q12, cX8_1 cI g0 q12, cX8_3 cI g0 q12, cX8_4 cI g0 q12, cX8_6 cI g0 q12, cX8_8 cI g0 q12, cX8_9 cI g0 q12, cX8_10 cI g0 q12, cX8_12 cI g0 q12, cX8_13 cI g0 q12, cX8_15 cI g0 q12, cX8_17 cI g0 q12, cX8_18 cI g0 q12, cX8_22 cB g0 q12, cX8_27 cI g0 q12, cX8_28 cI g0 q12, cX8_29 cI g0 q12, cX8_30 cI g0 q12, cX8_31 cI g0 q12, cX8_32 cI g0 q12, cX8_33 cI g0 q12])) hx hb hml hown hts hKK hP hD hS hA (c_X8_gives l dC dI cB cI cZ cO a0 g0 o0 v1 ((v2 / (8 : Int32)) - (v2 / (8 : Int32)) / (o0.1 5) * (o0.1 5)) ((v2 / (64 : Int32)) - (v2 / (64 : Int32)) / (2 : Int32) * (2 : Int32)) hq12) [0, 1, 2, 3, 4, 5, 6, 7, 8, 9, 10, 11, 12, 13, 14, 15, 16, 17, 18, 19, 20, 21] (atAll_map ⟨rfl, rfl, rfl, rfl, rfl, rfl, rfl, rfl, rfl, rfl, rfl, rfl, rfl, rfl, rfl, rfl, rfl, rfl, rfl, rfl, rfl, rfl, trivial⟩) (by decide +kernel) (sameAd_map ⟨rfl, rfl, rfl, rfl, rfl, rfl, rfl, rfl, rfl, rfl, rfl, rfl, rfl, rfl, rfl, rfl, rfl, rfl, rfl, rfl, rfl, rfl, trivial⟩) (atAll_map ⟨rfl, rfl, rfl, rfl, rfl, rfl, rfl, rfl, rfl, rfl, rfl, rfl, rfl, rfl, rfl, rfl, rfl, rfl, rfl, rfl, rfl, rfl, trivial⟩) ⟨Or.inr (by decide), Or.inr (by decide), Or.inr (by decide), Or.inr (by decide), Or.inr (by decide), Or.inr (by decide), Or.inr (by decide), Or.inr (by decide), Or.inr (by decide), Or.inr (by decide), Or.inr (by decide), Or.inr (by decide), Or.inr (by decide), Or.inr (by decide), Or.inr (by decide), Or.inr (by decide), Or.inr (by decide), Or.inr (by decide), Or.inr (by decide), Or.inr (by decide), Or.inr (by decide), Or.inr (by decide), trivial⟩ (cwV 3 hts gX8_does_X8_gives rfl rfl rfl ⟨rfl, dsc_X8_gives⟩ ⟨Nat.le_of_ble_eq_true rfl, Nat.le_of_ble_eq_true rfl⟩) (va_recv hKK.1 hP (ci := 8) (q0 := 0) rfl rfl) rfl hl.1 rfl (Nat.le_of_ble_eq_true rfl) dX8_does_27 ⟨Nat.zero_le _, Nat.zero_le _⟩ (fun H locs hP hD hS => ?_)
    refine lv_goto (tgt := 99) hx hb dX8_does_30 (by decide) ?_
    have h := Option.some.inj h
    subst h
    subst hQ
    exact W.vret hx hb hr (fun t ht hW => ⟨⟨rfl, by rw [ht]; exact hP, hD⟩, hS.F ht⟩) hS.2.2 dX8_does_99
def f_X8_century_47 (v1 : Int32) (v2 : Int32) (v3 : Int32) : Nat → Int32 → Ob → Option (Int32 × Ob)
  | 0, _, _ => none
  | nn47+1, x47_4, o47_0 => if v2 ≤ x47_4 then (if v3 = 0 then ((f_X8_goods o47_0 (286 : Int32)).bind fun q11 : Int32 => some (q11, o47_0)) else ((f_X8_wed o47_0 (286 : Int32)).bind fun q10 : Int32 => some (q10, o47_0))) else (bnd ((((7919 : Int64) * (v1.toInt64)) + ((6151 : Int64) * (x47_4.toInt64))) + (1 : Int64)) fun x12 : Int64 => (f_X8_does o47_0 (286 : Int32) (((x12 * x12) - (x12 * x12) / (65521 : Int64) * (65521 : Int64)).toInt32)).bind fun q13 : Ob => bnd (x47_4 + (1 : Int32)) fun x14 : Int32 => (f_X8_century_47 v1 v2 v3 nn47) x14 q13)
def f_X8_century (o0 : Ob) (v1 : Int32) (v2 : Int32) (v3 : Int32) : Option (Int32 × Ob) := bnd (f_X8_in (v1.toInt64) (0 : Int64) (9999 : Int64)) fun q1 : Bool => if (b2i q1) = 0 then (some ((-1 : Int32), o0)) else (bnd (f_X8_in (v2.toInt64) (1 : Int64) (60 : Int64)) fun q3 : Bool => if (b2i q3) = 0 then (some ((-1 : Int32), o0)) else (bnd (f_X8_in (v3.toInt64) (0 : Int64) (1 : Int64)) fun q5 : Bool => if (b2i q5) = 0 then (some ((-1 : Int32), o0)) else ((f_X8_copies o0 (0 : Int32) (286 : Int32)).bind fun q7 : Ob => f_X8_century_47 v1 v2 v3 FU (0 : Int32) q7)))
abbrev rmX8_century : Room := { frames := 6, cells := 0, slots := 0, locals := 145 }
theorem dsc_X8_century : yX8_century.cls ≠ "java/lang/invoke/MethodHandle" ∧ yX8_century.cls ≠ "java/lang/invoke/VarHandle" ∧ (parseMethodDescriptor yX8_century.desc).map (fun d => d.parameters.length) = some 3 := by decide +kernel
set_option maxHeartbeats 4000000 in
set_option maxRecDepth 100000 in
theorem c_X8_century (l : Launch) (dC : Nat → ClassId) (dI : Nat → Nat → Nat) (cB cI cZ cO : ClassId) (a0 : Nat) (g0 : Nat → Nat) (o0 : Ob) (v1 : Int32) (v2 : Int32) (v3 : Int32) {r : Int32 × Ob} (h : f_X8_century o0 v1 v2 v3 = some r) : Ct dC dI cB cI cZ cO l yX8_century wsX8_century rmX8_century [.ref a0, .int v1, .int v2, .int v3] ([cX8 a0 g0 o0, cX8_0 cI g0 o0, cX8_1 cI g0 o0, cX8_3 cI g0 o0, cX8_4 cI g0 o0, cX8_6 cI g0 o0, cX8_8 cI g0 o0, cX8_9 cI g0 o0, cX8_10 cI g0 o0, cX8_12 cI g0 o0, cX8_13 cI g0 o0, cX8_15 cI g0 o0, cX8_17 cI g0 o0, cX8_18 cI g0 o0, cX8_22 cB g0 o0, cX8_27 cI g0 o0, cX8_28 cI g0 o0, cX8_29 cI g0 o0, cX8_30 cI g0 o0, cX8_31 cI g0 o0, cX8_32 cI g0 o0, cX8_33 cI g0 o0]) (some (.int r.1)) ([cX8 a0 g0 r.2, cX8_0 cI g0 r.2, cX8_1 cI g0 r.2, cX8_3 cI g0 r.2, cX8_4 cI g0 r.2, cX8_6 cI g0 r.2, cX8_8 cI g0 r.2, cX8_9 cI g0 r.2, cX8_10 cI g0 r.2, cX8_12 cI g0 r.2, cX8_13 cI g0 r.2, cX8_15 cI g0 r.2, cX8_17 cI g0 r.2, cX8_18 cI g0 r.2, cX8_22 cB g0 r.2, cX8_27 cI g0 r.2, cX8_28 cI g0 r.2, cX8_29 cI g0 r.2, cX8_30 cI g0 r.2, cX8_31 cI g0 r.2, cX8_32 cI g0 r.2, cX8_33 cI g0 r.2]) := by
  intro sz
  refine Met.ofW (cc := cX8_century) (maxL := 7) (ret := (some .int)) (by decide) rfl ?_
  intro p e s m args below meth c s₁ B hml hv
  obtain ⟨rfl, hsz, hP, hKK, hD0⟩ := hv
  have hx := B.exec
  have hb := B.bytes
  have hr := B.returns
  have hts := atoms_spec (ws := wsX8_century) B.pre
  have hown : s.vm.findClass RX8 = some m.cls := findClass_of_methodNamed B.named
  have hlocks := B.notSynchronized
  subst hsz
  have hD := hD0.self (sz := s.heap.size)
  generalize hAe : va_A ([cX8 a0 g0 o0, cX8_0 cI g0 o0, cX8_1 cI g0 o0, cX8_3 cI g0 o0, cX8_4 cI g0 o0, cX8_6 cI g0 o0, cX8_8 cI g0 o0, cX8_9 cI g0 o0, cX8_10 cI g0 o0, cX8_12 cI g0 o0, cX8_13 cI g0 o0, cX8_15 cI g0 o0, cX8_17 cI g0 o0, cX8_18 cI g0 o0, cX8_22 cB g0 o0, cX8_27 cI g0 o0, cX8_28 cI g0 o0, cX8_29 cI g0 o0, cX8_30 cI g0 o0, cX8_31 cI g0 o0, cX8_32 cI g0 o0, cX8_33 cI g0 o0]) s.heap.size = A at hD ⊢
  have hA : ∀ q : Nat, s.heap.size ≤ q → A q := fun q h => by rw [← hAe]; exact Or.inr h
  have hS : va_S A s.heap s.heap [] := va_S.rf
  have hP : va_P (dC, dI) vwCl ([cX8 a0 g0 o0, cX8_0 cI g0 o0, cX8_1 cI g0 o0, cX8_3 cI g0 o0, cX8_4 cI g0 o0, cX8_6 cI g0 o0, cX8_8 cI g0 o0, cX8_9 cI g0 o0, cX8_10 cI g0 o0, cX8_12 cI g0 o0, cX8_13 cI g0 o0, cX8_15 cI g0 o0, cX8_17 cI g0 o0, cX8_18 cI g0 o0, cX8_22 cB g0 o0, cX8_27 cI g0 o0, cX8_28 cI g0 o0, cX8_29 cI g0 o0, cX8_30 cI g0 o0, cX8_31 cI g0 o0, cX8_32 cI g0 o0, cX8_33 cI g0 o0]) s.heap := hP
  have hD : va_D A ([cX8 a0 g0 o0, cX8_0 cI g0 o0, cX8_1 cI g0 o0, cX8_3 cI g0 o0, cX8_4 cI g0 o0, cX8_6 cI g0 o0, cX8_8 cI g0 o0, cX8_9 cI g0 o0, cX8_10 cI g0 o0, cX8_12 cI g0 o0, cX8_13 cI g0 o0, cX8_15 cI g0 o0, cX8_17 cI g0 o0, cX8_18 cI g0 o0, cX8_22 cB g0 o0, cX8_27 cI g0 o0, cX8_28 cI g0 o0, cX8_29 cI g0 o0, cX8_30 cI g0 o0, cX8_31 cI g0 o0, cX8_32 cI g0 o0, cX8_33 cI g0 o0]) := hD
  have hl := lv_entry ([.ref a0, .int v1, .int v2, .int v3]) (n := 7) (Nat.le_of_ble_eq_true rfl)
  rw [lg_entry_eq]
  generalize (lg_sl ([.ref a0, .int v1, .int v2, .int v3]) ++ List.replicate (7 - (lg_sl ([.ref a0, .int v1, .int v2, .int v3])).length) Slot.unset).toArray = ls at hl ⊢
  have hl : lv_has ls 7 [(0, .ref a0), (1, .int v1), (2, .int v2), (3, .int v3)] := hl
  obtain ⟨Q, hQ⟩ : ∃ Q, Q = MQ below (Qq dC dI (some (.int r.1)) ([cX8 a0 g0 r.2, cX8_0 cI g0 r.2, cX8_1 cI g0 r.2, cX8_3 cI g0 r.2, cX8_4 cI g0 r.2, cX8_6 cI g0 r.2, cX8_8 cI g0 r.2, cX8_9 cI g0 r.2, cX8_10 cI g0 r.2, cX8_12 cI g0 r.2, cX8_13 cI g0 r.2, cX8_15 cI g0 r.2, cX8_17 cI g0 r.2, cX8_18 cI g0 r.2, cX8_22 cB g0 r.2, cX8_27 cI g0 r.2, cX8_28 cI g0 r.2, cX8_29 cI g0 r.2, cX8_30 cI g0 r.2, cX8_31 cI g0 r.2, cX8_32 cI g0 r.2, cX8_33 cI g0 r.2]) A) ([.ref a0, .int v1, .int v2, .int v3] : List Value).toArray s 0 0 A := ⟨_, rfl⟩
  rw [← hQ]
  rw [f_X8_century] at h
  clear hAe hD0
  refine lv_iload_n hx hb dX8_century_0 rfl (lv_at hl 1 rfl) ?_
  refine lv_i2l hx hb dX8_century_1 rfl ?_
  refine lv_lconst (v := 0) hx hb dX8_century_2 (by decide) ?_
  refine lv_ldc2 hx hb hown (hts (.constantLong RX8 293 (9999)) (List.mem_of_getElem? (i := 1) rfl)) dX8_century_3 ?_
  obtain ⟨q1, hq1, h⟩ := bnd_e h
  refine kcS (rest := []) (w2 := ([cX8 a0 g0 o0, cX8_0 cI g0 o0, cX8_1 cI g0 o0, cX8_3 cI g0 o0, cX8_4 cI g0 o0, cX8_6 cI g0 o0, cX8_8 cI g0 o0, cX8_9 cI g0 o0, cX8_10 cI g0 o0, cX8_12 cI g0 o0, cX8_13 cI g0 o0, cX8_15 cI g0 o0, cX8_17 cI g0 o0, cX8_18 cI g0 o0, cX8_22 cB g0 o0, cX8_27 cI g0 o0, cX8_28 cI g0 o0, cX8_29 cI g0 o0, cX8_30 cI g0 o0, cX8_31 cI g0 o0, cX8_32 cI g0 o0, cX8_33 cI g0 o0])) hx hb hml hown hts hKK hP hD hS hA (c_X8_in l dC dI cB cI cZ cO (v1.toInt64) (0 : Int64) (9999 : Int64) hq1) [] (atAll_map trivial) (by decide +kernel) (sameAd_map trivial) (atAll_map trivial) (agr_refl _ _ _) (va_cwS 3 hts gX8_century_X8_in rfl rfl rfl dsc_X8_in ⟨Nat.le_of_ble_eq_true rfl, Nat.le_of_ble_eq_true rfl⟩) rfl hl.1 rfl (Nat.le_of_ble_eq_true rfl) dX8_century_6 ⟨Nat.zero_le _, Nat.zero_le _⟩ (fun H locs hP hD hS => ?_)
  refine lv_if_eq (tgt := 34) hx hb dX8_century_9 (by decide) (fun k2 => ?_) (fun k2 => ?_)
  · have h := ite_t k2 h
    refine lv_iconst (v := (-1 : Int32)) hx hb dX8_century_34 (by decide) ?_
    have h := Option.some.inj h
    subst h
    subst hQ
    exact W.iret (v := (-1 : Int32)) hx hb hr (fun t ht hW => ⟨⟨rfl, by rw [ht]; exact hP, hD⟩, hS.F ht⟩) hS.2.2 dX8_century_35
  · have h := ite_f k2 h
    refine lv_iload_n hx hb dX8_century_12 rfl (lv_at hl 2 rfl) ?_
    refine lv_i2l hx hb dX8_century_13 rfl ?_
    refine lv_lconst (v := 1) hx hb dX8_century_14 (by decide) ?_
    refine lv_ldc2 hx hb hown (hts (.constantLong RX8 295 (60)) (List.mem_of_getElem? (i := 2) rfl)) dX8_century_15 ?_
    obtain ⟨q3, hq3, h⟩ := bnd_e h
    refine kcS (rest := []) (w2 := ([cX8 a0 g0 o0, cX8_0 cI g0 o0, cX8_1 cI g0 o0, cX8_3 cI g0 o0, cX8_4 cI g0 o0, cX8_6 cI g0 o0, cX8_8 cI g0 o0, cX8_9 cI g0 o0, cX8_10 cI g0 o0, cX8_12 cI g0 o0, cX8_13 cI g0 o0, cX8_15 cI g0 o0, cX8_17 cI g0 o0, cX8_18 cI g0 o0, cX8_22 cB g0 o0, cX8_27 cI g0 o0, cX8_28 cI g0 o0, cX8_29 cI g0 o0, cX8_30 cI g0 o0, cX8_31 cI g0 o0, cX8_32 cI g0 o0, cX8_33 cI g0 o0])) hx hb hml hown hts hKK hP hD hS hA (c_X8_in l dC dI cB cI cZ cO (v2.toInt64) (1 : Int64) (60 : Int64) hq3) [] (atAll_map trivial) (by decide +kernel) (sameAd_map trivial) (atAll_map trivial) (agr_refl _ _ _) (va_cwS 3 hts gX8_century_X8_in rfl rfl rfl dsc_X8_in ⟨Nat.le_of_ble_eq_true rfl, Nat.le_of_ble_eq_true rfl⟩) rfl hl.1 rfl (Nat.le_of_ble_eq_true rfl) dX8_century_18 ⟨Nat.zero_le _, Nat.zero_le _⟩ (fun H locs hP hD hS => ?_)
    refine lv_if_eq (tgt := 34) hx hb dX8_century_21 (by decide) (fun k4 => ?_) (fun k4 => ?_)
    · have h := ite_t k4 h
      refine lv_iconst (v := (-1 : Int32)) hx hb dX8_century_34 (by decide) ?_
      have h := Option.some.inj h
      subst h
      subst hQ
      exact W.iret (v := (-1 : Int32)) hx hb hr (fun t ht hW => ⟨⟨rfl, by rw [ht]; exact hP, hD⟩, hS.F ht⟩) hS.2.2 dX8_century_35
    · have h := ite_f k4 h
      refine lv_iload_n hx hb dX8_century_24 rfl (lv_at hl 3 rfl) ?_
      refine lv_i2l hx hb dX8_century_25 rfl ?_
      refine lv_lconst (v := 0) hx hb dX8_century_26 (by decide) ?_
      refine lv_lconst (v := 1) hx hb dX8_century_27 (by decide) ?_
      obtain ⟨q5, hq5, h⟩ := bnd_e h
      refine kcS (rest := []) (w2 := ([cX8 a0 g0 o0, cX8_0 cI g0 o0, cX8_1 cI g0 o0, cX8_3 cI g0 o0, cX8_4 cI g0 o0, cX8_6 cI g0 o0, cX8_8 cI g0 o0, cX8_9 cI g0 o0, cX8_10 cI g0 o0, cX8_12 cI g0 o0, cX8_13 cI g0 o0, cX8_15 cI g0 o0, cX8_17 cI g0 o0, cX8_18 cI g0 o0, cX8_22 cB g0 o0, cX8_27 cI g0 o0, cX8_28 cI g0 o0, cX8_29 cI g0 o0, cX8_30 cI g0 o0, cX8_31 cI g0 o0, cX8_32 cI g0 o0, cX8_33 cI g0 o0])) hx hb hml hown hts hKK hP hD hS hA (c_X8_in l dC dI cB cI cZ cO (v3.toInt64) (0 : Int64) (1 : Int64) hq5) [] (atAll_map trivial) (by decide +kernel) (sameAd_map trivial) (atAll_map trivial) (agr_refl _ _ _) (va_cwS 3 hts gX8_century_X8_in rfl rfl rfl dsc_X8_in ⟨Nat.le_of_ble_eq_true rfl, Nat.le_of_ble_eq_true rfl⟩) rfl hl.1 rfl (Nat.le_of_ble_eq_true rfl) dX8_century_28 ⟨Nat.zero_le _, Nat.zero_le _⟩ (fun H locs hP hD hS => ?_)
      refine lv_if_ne (tgt := 36) hx hb dX8_century_31 (by decide) (fun k6 => ?_) (fun k6 => ?_)
      · have h := ite_f k6 h
        refine lv_aload_n hx hb dX8_century_36 rfl (lv_at hl 0 rfl) ?_
        refine lv_iconst (v := (0 : Int32)) hx hb dX8_century_37 (by decide) ?_
        refine lv_sipush (v := (286 : Int32)) hx hb dX8_century_38 (by decide) ?_
        obtain ⟨q7, hq7, h⟩ := obd_e h
        refine kcV (rest := []) (w2 := ([cX8 a0 g0 q7, cX8_0 cI g0 q7, cX8_1 cI g0 q7, cX8_3 cI g0 q7, cX8_4 cI g0 q7, cX8_6 cI g0 q7, cX8_8 cI g0 q7, cX8_9 cI g0 q7, cX8_10 cI g0 q7, cX8_12 cI g0 q7, cX8_13 cI g0 q7, cX8_15 cI g0 q7, cX8_17 cI g0 q7, cX8_18 cI g0 q7, cX8_22 cB g0 q7, cX8_27 cI g0 q7, cX8_28 cI g0 q7, cX8_29 cI g0 q7, cX8_30 cI g0 q7, cX8_31 cI g0 q7, cX8_32 cI g0 q7, cX8_33 cI g0 q7])) hx hb hml hown hts hKK hP hD hS hA (c_X8_copies l dC dI cB cI cZ cO a0 g0 o0 (0 : Int32) (286 : Int32) hq7) [0, 1, 2, 3, 4, 5, 6, 7, 8, 9, 10, 11, 12, 13, 14, 15, 16, 17, 18, 19, 20, 21] (atAll_map ⟨rfl, rfl, rfl, rfl, rfl, rfl, rfl, rfl, rfl, rfl, rfl, rfl, rfl, rfl, rfl, rfl, rfl, rfl, rfl, rfl, rfl, rfl, trivial⟩) (by decide +kernel) (sameAd_map ⟨rfl, rfl, rfl, rfl, rfl, rfl, rfl, rfl, rfl, rfl, rfl, rfl, rfl, rfl, rfl, rfl, rfl, rfl, rfl, rfl, rfl, rfl, trivial⟩) (atAll_map ⟨rfl, rfl, rfl, rfl, rfl, rfl, rfl, rfl, rfl, rfl, rfl, rfl, rfl, rfl, rfl, rfl, rfl, rfl, rfl, rfl, rfl, rfl, trivial⟩) ⟨Or.inr (by decide), Or.inr (by decide), Or.inr (by decide), Or.inr (by decide), Or.inr (by decide), Or.inr (by decide), Or.inr (by decide), Or.inr (by decide), Or.inr (by decide), Or.inr (by decide), Or.inr (by decide), Or.inr (by decide), Or.inr (by decide), Or.inr (by decide), Or.inr (by decide), Or.inr (by decide), Or.inr (by decide), Or.inr (by decide), Or.inr (by decide), Or.inr (by decide), Or.inr (by decide), Or.inr (by decide), trivial⟩ (cwV 2 hts gX8_century_X8_copies rfl rfl rfl ⟨rfl, dsc_X8_copies⟩ ⟨Nat.le_of_ble_eq_true rfl, Nat.le_of_ble_eq_true rfl⟩) (va_recv hKK.1 hP (ci := 8) (q0 := 0) rfl rfl) rfl hl.1 rfl (Nat.le_of_ble_eq_true rfl) dX8_century_41 ⟨Nat.zero_le _, Nat.zero_le _⟩ (fun H locs hP hD hS => ?_)
        refine lv_iconst (v := (0 : Int32)) hx hb dX8_century_44 (by decide) ?_
        refine lv_istore (lv' := [(4, .int (0 : Int32)), (0, .ref a0), (1, .int v1), (2, .int v2), (3, .int v3)]) hx hb dX8_century_45 hl (by decide) rfl (fun ls hl => ?_)
        have lp47 : ∀ (nn47 : Nat) (x47_4 : Int32) (o47_0 : Ob), f_X8_century_47 v1 v2 v3 nn47 x47_4 o47_0 = some r → ∀ (H : Heap) (locs : List Loc) (ls : Array Slot), va_P (dC, dI) vwCl ([cX8 a0 g0 o47_0, cX8_0 cI g0 o47_0, cX8_1 cI g0 o47_0, cX8_3 cI g0 o47_0, cX8_4 cI g0 o47_0, cX8_6 cI g0 o47_0, cX8_8 cI g0 o47_0, cX8_9 cI g0 o47_0, cX8_10 cI g0 o47_0, cX8_12 cI g0 o47_0, cX8_13 cI g0 o47_0, cX8_15 cI g0 o47_0, cX8_17 cI g0 o47_0, cX8_18 cI g0 o47_0, cX8_22 cB g0 o47_0, cX8_27 cI g0 o47_0, cX8_28 cI g0 o47_0, cX8_29 cI g0 o47_0, cX8_30 cI g0 o47_0, cX8_31 cI g0 o47_0, cX8_32 cI g0 o47_0, cX8_33 cI g0 o47_0]) H → va_D A ([cX8 a0 g0 o47_0, cX8_0 cI g0 o47_0, cX8_1 cI g0 o47_0, cX8_3 cI g0 o47_0, cX8_4 cI g0 o47_0, cX8_6 cI g0 o47_0, cX8_8 cI g0 o47_0, cX8_9 cI g0 o47_0, cX8_10 cI g0 o47_0, cX8_12 cI g0 o47_0, cX8_13 cI g0 o47_0, cX8_15 cI g0 o47_0, cX8_17 cI g0 o47_0, cX8_18 cI g0 o47_0, cX8_22 cB g0 o47_0, cX8_27 cI g0 o47_0, cX8_28 cI g0 o47_0, cX8_29 cI g0 o47_0, cX8_30 cI g0 o47_0, cX8_31 cI g0 o47_0, cX8_32 cI g0 o47_0, cX8_33 cI g0 o47_0]) → va_S A s.heap H locs → lv_has ls 7 [(0, .ref a0), (1, .int v1), (2, .int v2), (3, .int v3), (4, .int x47_4)] → W p l e (headSpec wsX8_century rmX8_century).room s m ([.ref a0, .int v1, .int v2, .int v3] : List Value).toArray below meth c H locs 0 0 Q (F0 m 47 ls []) := by
          intro nn47
          induction nn47 with
          | zero => intro x47_4 o47_0 h; rw [f_X8_century_47] at h; cases h
          | succ nn47 ih47 =>
            intro x47_4 o47_0 h H locs ls hP hD hS hl
            rw [f_X8_century_47] at h
            refine lv_iload hx hb dX8_century_47 (lv_at hl 4 rfl) ?_
            refine lv_iload_n hx hb dX8_century_49 rfl (lv_at hl 2 rfl) ?_
            refine lv_icmp_ge (tgt := 94) hx hb dX8_century_50 (by decide) (fun k8 => ?_) (fun k8 => ?_)
            · have h := ite_t k8 h
              refine lv_iload_n hx hb dX8_century_94 rfl (lv_at hl 3 rfl) ?_
              refine lv_if_ne (tgt := 108) hx hb dX8_century_95 (by decide) (fun k9 => ?_) (fun k9 => ?_)
              · have h := ite_f k9 h
                refine lv_aload_n hx hb dX8_century_108 rfl (lv_at hl 0 rfl) ?_
                refine lv_sipush (v := (286 : Int32)) hx hb dX8_century_109 (by decide) ?_
                obtain ⟨q10, hq10, h⟩ := obd_e h
                refine kcV (rest := []) (w2 := ([cX8 a0 g0 o47_0, cX8_0 cI g0 o47_0, cX8_1 cI g0 o47_0, cX8_3 cI g0 o47_0, cX8_4 cI g0 o47_0, cX8_6 cI g0 o47_0, cX8_8 cI g0 o47_0, cX8_9 cI g0 o47_0, cX8_10 cI g0 o47_0, cX8_12 cI g0 o47_0, cX8_13 cI g0 o47_0, cX8_15 cI g0 o47_0, cX8_17 cI g0 o47_0, cX8_18 cI g0 o47_0, cX8_22 cB g0 o47_0, cX8_27 cI g0 o47_0, cX8_28 cI g0 o47_0, cX8_29 cI g0 o47_0, cX8_30 cI g0 o47_0, cX8_31 cI g0 o47_0, cX8_32 cI g0 o47_0, cX8_33 cI g0 o47_0])) hx hb hml hown hts hKK hP hD hS hA (c_X8_wed l dC dI cB cI cZ cO a0 g0 o47_0 (286 : Int32) hq10) [0, 1, 2, 3, 4, 5, 6, 7, 8, 9, 10, 11, 12, 13, 14, 15, 16, 17, 18, 19, 20, 21] (atAll_map ⟨rfl, rfl, rfl, rfl, rfl, rfl, rfl, rfl, rfl, rfl, rfl, rfl, rfl, rfl, rfl, rfl, rfl, rfl, rfl, rfl, rfl, rfl, trivial⟩) (by decide +kernel) (sameAd_map ⟨rfl, rfl, rfl, rfl, rfl, rfl, rfl, rfl, rfl, rfl, rfl, rfl, rfl, rfl, rfl, rfl, rfl, rfl, rfl, rfl, rfl, rfl, trivial⟩) (atAll_map ⟨rfl, rfl, rfl, rfl, rfl, rfl, rfl, rfl, rfl, rfl, rfl, rfl, rfl, rfl, rfl, rfl, rfl, rfl, rfl, rfl, rfl, rfl, trivial⟩) (agr_refl _ _ _) (cwV 1 hts gX8_century_X8_wed rfl rfl rfl ⟨rfl, dsc_X8_wed⟩ ⟨Nat.le_of_ble_eq_true rfl, Nat.le_of_ble_eq_true rfl⟩) (va_recv hKK.1 hP (ci := 8) (q0 := 0) rfl rfl) rfl hl.1 rfl (Nat.le_of_ble_eq_true rfl) dX8_century_112 ⟨Nat.zero_le _, Nat.zero_le _⟩ (fun H locs hP hD hS => ?_)
                have h := Option.some.inj h
                subst h
                subst hQ
                exact W.iret (v := q10) hx hb hr (fun t ht hW => ⟨⟨rfl, by rw [ht]; exact hP, hD⟩, hS.F ht⟩) hS.2.2 dX8_century_115
              · have h := ite_t k9 h
                refine lv_aload_n hx hb dX8_century_98 rfl (lv_at hl 0 rfl) ?_
                refine lv_sipush (v := (286 : Int32)) hx hb dX8_century_99 (by decide) ?_
                obtain ⟨q11, hq11, h⟩ := obd_e h
                refine kcV (rest := []) (w2 := ([cX8 a0 g0 o47_0, cX8_0 cI g0 o47_0, cX8_1 cI g0 o47_0, cX8_3 cI g0 o47_0, cX8_4 cI g0 o47_0, cX8_6 cI g0 o47_0, cX8_8 cI g0 o47_0, cX8_9 cI g0 o47_0, cX8_10 cI g0 o47_0, cX8_12 cI g0 o47_0, cX8_13 cI g0 o47_0, cX8_15 cI g0 o47_0, cX8_17 cI g0 o47_0, cX8_18 cI g0 o47_0, cX8_22 cB g0 o47_0, cX8_27 cI g0 o47_0, cX8_28 cI g0 o47_0, cX8_29 cI g0 o47_0, cX8_30 cI g0 o47_0, cX8_31 cI g0 o47_0, cX8_32 cI g0 o47_0, cX8_33 cI g0 o47_0])) hx hb hml hown hts hKK hP hD hS hA (c_X8_goods l dC dI cB cI cZ cO a0 g0 o47_0 (286 : Int32) hq11) [0, 1, 2, 3, 4, 5, 6, 7, 8, 9, 10, 11, 12, 13, 14, 15, 16, 17, 18, 19, 20, 21] (atAll_map ⟨rfl, rfl, rfl, rfl, rfl, rfl, rfl, rfl, rfl, rfl, rfl, rfl, rfl, rfl, rfl, rfl, rfl, rfl, rfl, rfl, rfl, rfl, trivial⟩) (by decide +kernel) (sameAd_map ⟨rfl, rfl, rfl, rfl, rfl, rfl, rfl, rfl, rfl, rfl, rfl, rfl, rfl, rfl, rfl, rfl, rfl, rfl, rfl, rfl, rfl, rfl, trivial⟩) (atAll_map ⟨rfl, rfl, rfl, rfl, rfl, rfl, rfl, rfl, rfl, rfl, rfl, rfl, rfl, rfl, rfl, rfl, rfl, rfl, rfl, rfl, rfl, rfl, trivial⟩) (agr_refl _ _ _) (cwV 1 hts gX8_century_X8_goods rfl rfl rfl ⟨rfl, dsc_X8_goods⟩ ⟨Nat.le_of_ble_eq_true rfl, Nat.le_of_ble_eq_true rfl⟩) (va_recv hKK.1 hP (ci := 8) (q0 := 0) rfl rfl) rfl hl.1 rfl (Nat.le_of_ble_eq_true rfl) dX8_century_102 ⟨Nat.zero_le _, Nat.zero_le _⟩ (fun H locs hP hD hS => ?_)
                refine lv_goto (tgt := 115) hx hb dX8_century_105 (by decide) ?_
                have h := Option.some.inj h
                subst h
                subst hQ
                exact W.iret (v := q11) hx hb hr (fun t ht hW => ⟨⟨rfl, by rw [ht]; exact hP, hD⟩, hS.F ht⟩) hS.2.2 dX8_century_115
            · have h := ite_f k8 h
              refine lv_ldc2 hx hb hown (hts (.constantLong RX8 297 (7919)) (List.mem_of_getElem? (i := 3) rfl)) dX8_century_53 ?_
              refine lv_iload_n hx hb dX8_century_56 rfl (lv_at hl 1 rfl) ?_
              refine lv_i2l hx hb dX8_century_57 rfl ?_
              refine lv_lmul hx hb dX8_century_58 ?_
              refine lv_ldc2 hx hb hown (hts (.constantLong RX8 299 (6151)) (List.mem_of_getElem? (i := 4) rfl)) dX8_century_59 ?_
              refine lv_iload hx hb dX8_century_62 (lv_at hl 4 rfl) ?_
              refine lv_i2l hx hb dX8_century_64 rfl ?_
              refine lv_lmul hx hb dX8_century_65 ?_
              refine lv_ladd hx hb dX8_century_66 ?_
              refine lv_lconst (v := 1) hx hb dX8_century_67 (by decide) ?_
              refine lv_ladd hx hb dX8_century_68 ?_
              obtain ⟨x12, hx12, h⟩ := bnd_e h
              refine lv_topEl hx12 ?_
              refine lv_lstore (lv' := [(5, .long x12), (0, .ref a0), (1, .int v1), (2, .int v2), (3, .int v3), (4, .int x47_4)]) hx hb dX8_century_69 hl (by decide) rfl (fun ls hl => ?_)
              refine lv_aload_n hx hb dX8_century_71 rfl (lv_at hl 1 rfl) ?_
              refine lv_sipush (v := (286 : Int32)) hx hb dX8_century_72 (by decide) ?_
              refine lv_lload hx hb dX8_century_75 (lv_at hl 0 rfl) ?_
              refine lv_lload hx hb dX8_century_77 (lv_at hl 0 rfl) ?_
              refine lv_lmul hx hb dX8_century_79 ?_
              refine lv_ldc2 hx hb hown (hts (.constantLong RX8 301 (65521)) (List.mem_of_getElem? (i := 5) rfl)) dX8_century_80 ?_
              refine lv_lrem hx hb dX8_century_83 (by decide) ?_
              refine lv_l2i hx hb dX8_century_84 rfl ?_
              obtain ⟨q13, hq13, h⟩ := obd_e h
              refine kcV (rest := []) (w2 := ([cX8 a0 g0 q13, cX8_0 cI g0 q13, cX8_1 cI g0 q13, cX8_3 cI g0 q13, cX8_4 cI g0 q13, cX8_6 cI g0 q13, cX8_8 cI g0 q13, cX8_9 cI g0 q13, cX8_10 cI g0 q13, cX8_12 cI g0 q13, cX8_13 cI g0 q13, cX8_15 cI g0 q13, cX8_17 cI g0 q13, cX8_18 cI g0 q13, cX8_22 cB g0 q13, cX8_27 cI g0 q13, cX8_28 cI g0 q13, cX8_29 cI g0 q13, cX8_30 cI g0 q13, cX8_31 cI g0 q13, cX8_32 cI g0 q13, cX8_33 cI g0 q13])) hx hb hml hown hts hKK hP hD hS hA (c_X8_does l dC dI cB cI cZ cO a0 g0 o47_0 (286 : Int32) (((x12 * x12) - (x12 * x12) / (65521 : Int64) * (65521 : Int64)).toInt32) hq13) [0, 1, 2, 3, 4, 5, 6, 7, 8, 9, 10, 11, 12, 13, 14, 15, 16, 17, 18, 19, 20, 21] (atAll_map ⟨rfl, rfl, rfl, rfl, rfl, rfl, rfl, rfl, rfl, rfl, rfl, rfl, rfl, rfl, rfl, rfl, rfl, rfl, rfl, rfl, rfl, rfl, trivial⟩) (by decide +kernel) (sameAd_map ⟨rfl, rfl, rfl, rfl, rfl, rfl, rfl, rfl, rfl, rfl, rfl, rfl, rfl, rfl, rfl, rfl, rfl, rfl, rfl, rfl, rfl, rfl, trivial⟩) (atAll_map ⟨rfl, rfl, rfl, rfl, rfl, rfl, rfl, rfl, rfl, rfl, rfl, rfl, rfl, rfl, rfl, rfl, rfl, rfl, rfl, rfl, rfl, rfl, trivial⟩) ⟨Or.inr (by decide), Or.inr (by decide), Or.inr (by decide), Or.inr (by decide), Or.inr (by decide), Or.inr (by decide), Or.inr (by decide), Or.inr (by decide), Or.inr (by decide), Or.inr (by decide), Or.inr (by decide), Or.inr (by decide), Or.inr (by decide), Or.inr (by decide), Or.inr (by decide), Or.inr (by decide), Or.inr (by decide), Or.inr (by decide), Or.inr (by decide), Or.inr (by decide), Or.inr (by decide), Or.inr (by decide), trivial⟩ (cwV 2 hts gX8_century_X8_does rfl rfl rfl ⟨rfl, dsc_X8_does⟩ ⟨Nat.le_of_ble_eq_true rfl, Nat.le_of_ble_eq_true rfl⟩) (va_recv hKK.1 hP (ci := 8) (q0 := 0) rfl rfl) rfl hl.1 rfl (Nat.le_of_ble_eq_true rfl) dX8_century_85 ⟨Nat.zero_le _, Nat.zero_le _⟩ (fun H locs hP hD hS => ?_)
              obtain ⟨x14, hx14, h⟩ := bnd_e h
              refine lv_iinc (v := x14) (lv' := [(4, .int x14), (5, .long x12), (0, .ref a0), (1, .int v1), (2, .int v2), (3, .int v3)]) hx hb dX8_century_88 hl (k := 5) rfl (by rw [← hx14]; rfl) (by decide) rfl (fun ls hl => ?_)
              refine lv_goto (tgt := 47) hx hb dX8_century_91 (by decide) ?_
              exact ih47 x14 q13 h _ _ _ hP hD hS (lv_sub hl [2, 3, 4, 5, 0] rfl)
        exact lp47 FU (0 : Int32) q7 h _ _ _ hP hD hS (lv_sub hl [1, 2, 3, 4, 0] rfl)
      · have h := ite_t k6 h
        refine lv_iconst (v := (-1 : Int32)) hx hb dX8_century_34 (by decide) ?_
        have h := Option.some.inj h
        subst h
        subst hQ
        exact W.iret (v := (-1 : Int32)) hx hb hr (fun t ht hW => ⟨⟨rfl, by rw [ht]; exact hP, hD⟩, hS.F ht⟩) hS.2.2 dX8_century_35
def f_X8_keep (o0 : Ob) : Option (Int32 × Ob) := if (o0.1 20) = (2 : Int32) then (some ((-3 : Int32), o0)) else ((f_X8_copies o0 (0 : Int32) (((9 : Int32) + (o0.1 20)) * (26 : Int32))).bind fun q2 : Ob => bnd ((q2.1 20) + (1 : Int32)) fun x3 : Int32 => some (x3, (stF q2 20 x3)))
abbrev rmX8_keep : Room := { frames := 1, cells := 0, slots := 0, locals := 23 }
theorem dsc_X8_keep : yX8_keep.cls ≠ "java/lang/invoke/MethodHandle" ∧ yX8_keep.cls ≠ "java/lang/invoke/VarHandle" ∧ (parseMethodDescriptor yX8_keep.desc).map (fun d => d.parameters.length) = some 0 := by decide +kernel
set_option maxHeartbeats 4000000 in
set_option maxRecDepth 100000 in
theorem c_X8_keep (l : Launch) (dC : Nat → ClassId) (dI : Nat → Nat → Nat) (cB cI cZ cO : ClassId) (a0 : Nat) (g0 : Nat → Nat) (o0 : Ob) {r : Int32 × Ob} (h : f_X8_keep o0 = some r) : Ct dC dI cB cI cZ cO l yX8_keep wsX8_keep rmX8_keep [.ref a0] ([cX8 a0 g0 o0, cX8_0 cI g0 o0, cX8_1 cI g0 o0, cX8_3 cI g0 o0, cX8_4 cI g0 o0, cX8_6 cI g0 o0, cX8_8 cI g0 o0, cX8_9 cI g0 o0, cX8_10 cI g0 o0, cX8_12 cI g0 o0, cX8_13 cI g0 o0, cX8_15 cI g0 o0, cX8_17 cI g0 o0, cX8_18 cI g0 o0, cX8_22 cB g0 o0, cX8_27 cI g0 o0, cX8_28 cI g0 o0, cX8_29 cI g0 o0, cX8_30 cI g0 o0, cX8_31 cI g0 o0, cX8_32 cI g0 o0, cX8_33 cI g0 o0]) (some (.int r.1)) ([cX8 a0 g0 r.2, cX8_0 cI g0 r.2, cX8_1 cI g0 r.2, cX8_3 cI g0 r.2, cX8_4 cI g0 r.2, cX8_6 cI g0 r.2, cX8_8 cI g0 r.2, cX8_9 cI g0 r.2, cX8_10 cI g0 r.2, cX8_12 cI g0 r.2, cX8_13 cI g0 r.2, cX8_15 cI g0 r.2, cX8_17 cI g0 r.2, cX8_18 cI g0 r.2, cX8_22 cB g0 r.2, cX8_27 cI g0 r.2, cX8_28 cI g0 r.2, cX8_29 cI g0 r.2, cX8_30 cI g0 r.2, cX8_31 cI g0 r.2, cX8_32 cI g0 r.2, cX8_33 cI g0 r.2]) := by
  intro sz
  refine Met.ofW (cc := cX8_keep) (maxL := 1) (ret := (some .int)) (by decide) rfl ?_
  intro p e s m args below meth c s₁ B hml hv
  obtain ⟨rfl, hsz, hP, hKK, hD0⟩ := hv
  have hx := B.exec
  have hb := B.bytes
  have hr := B.returns
  have hts := atoms_spec (ws := wsX8_keep) B.pre
  have hown : s.vm.findClass RX8 = some m.cls := findClass_of_methodNamed B.named
  have hlocks := B.notSynchronized
  have hiX8 : ∀ w ∈ u_ws RX8 TX8 36, w ∈ wsX8_keep := fun w h => List.mem_cons_of_mem _ (List.mem_append_right _ h)
  subst hsz
  have hD := hD0.self (sz := s.heap.size)
  generalize hAe : va_A ([cX8 a0 g0 o0, cX8_0 cI g0 o0, cX8_1 cI g0 o0, cX8_3 cI g0 o0, cX8_4 cI g0 o0, cX8_6 cI g0 o0, cX8_8 cI g0 o0, cX8_9 cI g0 o0, cX8_10 cI g0 o0, cX8_12 cI g0 o0, cX8_13 cI g0 o0, cX8_15 cI g0 o0, cX8_17 cI g0 o0, cX8_18 cI g0 o0, cX8_22 cB g0 o0, cX8_27 cI g0 o0, cX8_28 cI g0 o0, cX8_29 cI g0 o0, cX8_30 cI g0 o0, cX8_31 cI g0 o0, cX8_32 cI g0 o0, cX8_33 cI g0 o0]) s.heap.size = A at hD ⊢
  have hA : ∀ q : Nat, s.heap.size ≤ q → A q := fun q h => by rw [← hAe]; exact Or.inr h
  have hS : va_S A s.heap s.heap [] := va_S.rf
  have hP : va_P (dC, dI) vwCl ([cX8 a0 g0 o0, cX8_0 cI g0 o0, cX8_1 cI g0 o0, cX8_3 cI g0 o0, cX8_4 cI g0 o0, cX8_6 cI g0 o0, cX8_8 cI g0 o0, cX8_9 cI g0 o0, cX8_10 cI g0 o0, cX8_12 cI g0 o0, cX8_13 cI g0 o0, cX8_15 cI g0 o0, cX8_17 cI g0 o0, cX8_18 cI g0 o0, cX8_22 cB g0 o0, cX8_27 cI g0 o0, cX8_28 cI g0 o0, cX8_29 cI g0 o0, cX8_30 cI g0 o0, cX8_31 cI g0 o0, cX8_32 cI g0 o0, cX8_33 cI g0 o0]) s.heap := hP
  have hD : va_D A ([cX8 a0 g0 o0, cX8_0 cI g0 o0, cX8_1 cI g0 o0, cX8_3 cI g0 o0, cX8_4 cI g0 o0, cX8_6 cI g0 o0, cX8_8 cI g0 o0, cX8_9 cI g0 o0, cX8_10 cI g0 o0, cX8_12 cI g0 o0, cX8_13 cI g0 o0, cX8_15 cI g0 o0, cX8_17 cI g0 o0, cX8_18 cI g0 o0, cX8_22 cB g0 o0, cX8_27 cI g0 o0, cX8_28 cI g0 o0, cX8_29 cI g0 o0, cX8_30 cI g0 o0, cX8_31 cI g0 o0, cX8_32 cI g0 o0, cX8_33 cI g0 o0]) := hD
  have hl := lv_entry ([.ref a0]) (n := 1) (Nat.le_of_ble_eq_true rfl)
  rw [lg_entry_eq]
  generalize (lg_sl ([.ref a0]) ++ List.replicate (1 - (lg_sl ([.ref a0])).length) Slot.unset).toArray = ls at hl ⊢
  have hl : lv_has ls 1 [(0, .ref a0)] := hl
  obtain ⟨Q, hQ⟩ : ∃ Q, Q = MQ below (Qq dC dI (some (.int r.1)) ([cX8 a0 g0 r.2, cX8_0 cI g0 r.2, cX8_1 cI g0 r.2, cX8_3 cI g0 r.2, cX8_4 cI g0 r.2, cX8_6 cI g0 r.2, cX8_8 cI g0 r.2, cX8_9 cI g0 r.2, cX8_10 cI g0 r.2, cX8_12 cI g0 r.2, cX8_13 cI g0 r.2, cX8_15 cI g0 r.2, cX8_17 cI g0 r.2, cX8_18 cI g0 r.2, cX8_22 cB g0 r.2, cX8_27 cI g0 r.2, cX8_28 cI g0 r.2, cX8_29 cI g0 r.2, cX8_30 cI g0 r.2, cX8_31 cI g0 r.2, cX8_32 cI g0 r.2, cX8_33 cI g0 r.2]) A) ([.ref a0] : List Value).toArray s 0 0 A := ⟨_, rfl⟩
  rw [← hQ]
  rw [f_X8_keep] at h
  clear hAe hD0
  refine lv_aload_n hx hb dX8_keep_0 rfl (lv_at hl 0 rfl) ?_
  refine va_get (D := (dC, dI)) (ci := 8) (v := .int (o0.1 20)) (C := RX8) (T := TX8) (N := 36) hx hb hts hiX8 hown hKK.1 hP 0 rfl rfl 20 (by decide) (hts (.fieldLink RX8 163 "SlideLandModel" "keeps" "I") (List.mem_of_getElem? (i := 1) rfl)) (fun _ h9 => h9) rfl dX8_keep_1 ?_
  refine lv_iconst (v := (2 : Int32)) hx hb dX8_keep_4 (by decide) ?_
  refine lv_icmp_ne (tgt := 11) hx hb dX8_keep_5 (by decide) (fun k1 => ?_) (fun k1 => ?_)
  · have h := ite_f k1 h
    refine lv_aload_n hx hb dX8_keep_11 rfl (lv_at hl 0 rfl) ?_
    refine lv_iconst (v := (0 : Int32)) hx hb dX8_keep_12 (by decide) ?_
    refine lv_bipush (v := (9 : Int32)) hx hb dX8_keep_13 (by decide) ?_
    refine lv_aload_n hx hb dX8_keep_15 rfl (lv_at hl 0 rfl) ?_
    refine va_get (D := (dC, dI)) (ci := 8) (v := .int (o0.1 20)) (C := RX8) (T := TX8) (N := 36) hx hb hts hiX8 hown hKK.1 hP 0 rfl rfl 20 (by decide) (hts (.fieldLink RX8 163 "SlideLandModel" "keeps" "I") (List.mem_of_getElem? (i := 1) rfl)) (fun _ h9 => h9) rfl dX8_keep_16 ?_
    refine lv_iadd hx hb dX8_keep_19 ?_
    refine lv_bipush (v := (26 : Int32)) hx hb dX8_keep_20 (by decide) ?_
    refine lv_imul hx hb dX8_keep_22 ?_
    obtain ⟨q2, hq2, h⟩ := obd_e h
    refine kcV (rest := []) (w2 := ([cX8 a0 g0 q2, cX8_0 cI g0 q2, cX8_1 cI g0 q2, cX8_3 cI g0 q2, cX8_4 cI g0 q2, cX8_6 cI g0 q2, cX8_8 cI g0 q2, cX8_9 cI g0 q2, cX8_10 cI g0 q2, cX8_12 cI g0 q2, cX8_13 cI g0 q2, cX8_15 cI g0 q2, cX8_17 cI g0 q2, cX8_18 cI g0 q2, cX8_22 cB g0 q2, cX8_27 cI g0 q2, cX8_28 cI g0 q2, cX8_29 cI g0 q2, cX8_30 cI g0 q2, cX8_31 cI g0 q2, cX8_32 cI g0 q2, cX8_33 cI g0 q2])) hx hb hml hown hts hKK hP hD hS hA (c_X8_copies l dC dI cB cI cZ cO a0 g0 o0 (0 : Int32) (((9 : Int32) + (o0.1 20)) * (26 : Int32)) hq2) [0, 1, 2, 3, 4, 5, 6, 7, 8, 9, 10, 11, 12, 13, 14, 15, 16, 17, 18, 19, 20, 21] (atAll_map ⟨rfl, rfl, rfl, rfl, rfl, rfl, rfl, rfl, rfl, rfl, rfl, rfl, rfl, rfl, rfl, rfl, rfl, rfl, rfl, rfl, rfl, rfl, trivial⟩) (by decide +kernel) (sameAd_map ⟨rfl, rfl, rfl, rfl, rfl, rfl, rfl, rfl, rfl, rfl, rfl, rfl, rfl, rfl, rfl, rfl, rfl, rfl, rfl, rfl, rfl, rfl, trivial⟩) (atAll_map ⟨rfl, rfl, rfl, rfl, rfl, rfl, rfl, rfl, rfl, rfl, rfl, rfl, rfl, rfl, rfl, rfl, rfl, rfl, rfl, rfl, rfl, rfl, trivial⟩) ⟨Or.inr (by decide), Or.inr (by decide), Or.inr (by decide), Or.inr (by decide), Or.inr (by decide), Or.inr (by decide), Or.inr (by decide), Or.inr (by decide), Or.inr (by decide), Or.inr (by decide), Or.inr (by decide), Or.inr (by decide), Or.inr (by decide), Or.inr (by decide), Or.inr (by decide), Or.inr (by decide), Or.inr (by decide), Or.inr (by decide), Or.inr (by decide), Or.inr (by decide), Or.inr (by decide), Or.inr (by decide), trivial⟩ (cwV 2 hts gX8_keep_X8_copies rfl rfl rfl ⟨rfl, dsc_X8_copies⟩ ⟨Nat.le_of_ble_eq_true rfl, Nat.le_of_ble_eq_true rfl⟩) (va_recv hKK.1 hP (ci := 8) (q0 := 0) rfl rfl) rfl hl.1 rfl (Nat.le_of_ble_eq_true rfl) dX8_keep_23 ⟨Nat.zero_le _, Nat.zero_le _⟩ (fun H locs hP hD hS => ?_)
    refine lv_aload_n hx hb dX8_keep_26 rfl (lv_at hl 0 rfl) ?_
    refine lv_dup hx hb dX8_keep_27 rfl ?_
    refine va_get (D := (dC, dI)) (ci := 8) (v := .int (q2.1 20)) (C := RX8) (T := TX8) (N := 36) hx hb hts hiX8 hown hKK.1 hP 0 rfl rfl 20 (by decide) (hts (.fieldLink RX8 163 "SlideLandModel" "keeps" "I") (List.mem_of_getElem? (i := 1) rfl)) (fun _ h9 => h9) rfl dX8_keep_28 ?_
    refine lv_iconst (v := (1 : Int32)) hx hb dX8_keep_31 (by decide) ?_
    refine lv_iadd hx hb dX8_keep_32 ?_
    obtain ⟨x3, hx3, h⟩ := bnd_e h
    rw [hx3]
    refine va_put (D := (dC, dI)) (ci := 8) (v := .int x3) (ty := .int) (C := RX8) (T := TX8) (N := 36) hx hb hts hiX8 tyX8 tyX8_ok nmX8 hown hKK.1 hP hD hS 0 rfl rfl 20 (by decide) (hts (.fieldLink RX8 163 "SlideLandModel" "keeps" "I") (List.mem_of_getElem? (i := 1) rfl)) (fun _ h9 => h9) rfl (by decide +kernel) rfl rfl (Nat.le_of_ble_eq_true rfl) dX8_keep_33 (fun H locs hP hD hS => ?_)
    have hP : va_P (dC, dI) vwCl ([cX8 a0 g0 (stF q2 20 x3), cX8_0 cI g0 (stF q2 20 x3), cX8_1 cI g0 (stF q2 20 x3), cX8_3 cI g0 (stF q2 20 x3), cX8_4 cI g0 (stF q2 20 x3), cX8_6 cI g0 (stF q2 20 x3), cX8_8 cI g0 (stF q2 20 x3), cX8_9 cI g0 (stF q2 20 x3), cX8_10 cI g0 (stF q2 20 x3), cX8_12 cI g0 (stF q2 20 x3), cX8_13 cI g0 (stF q2 20 x3), cX8_15 cI g0 (stF q2 20 x3), cX8_17 cI g0 (stF q2 20 x3), cX8_18 cI g0 (stF q2 20 x3), cX8_22 cB g0 (stF q2 20 x3), cX8_27 cI g0 (stF q2 20 x3), cX8_28 cI g0 (stF q2 20 x3), cX8_29 cI g0 (stF q2 20 x3), cX8_30 cI g0 (stF q2 20 x3), cX8_31 cI g0 (stF q2 20 x3), cX8_32 cI g0 (stF q2 20 x3), cX8_33 cI g0 (stF q2 20 x3)]) H := hP
    have hD : va_D A ([cX8 a0 g0 (stF q2 20 x3), cX8_0 cI g0 (stF q2 20 x3), cX8_1 cI g0 (stF q2 20 x3), cX8_3 cI g0 (stF q2 20 x3), cX8_4 cI g0 (stF q2 20 x3), cX8_6 cI g0 (stF q2 20 x3), cX8_8 cI g0 (stF q2 20 x3), cX8_9 cI g0 (stF q2 20 x3), cX8_10 cI g0 (stF q2 20 x3), cX8_12 cI g0 (stF q2 20 x3), cX8_13 cI g0 (stF q2 20 x3), cX8_15 cI g0 (stF q2 20 x3), cX8_17 cI g0 (stF q2 20 x3), cX8_18 cI g0 (stF q2 20 x3), cX8_22 cB g0 (stF q2 20 x3), cX8_27 cI g0 (stF q2 20 x3), cX8_28 cI g0 (stF q2 20 x3), cX8_29 cI g0 (stF q2 20 x3), cX8_30 cI g0 (stF q2 20 x3), cX8_31 cI g0 (stF q2 20 x3), cX8_32 cI g0 (stF q2 20 x3), cX8_33 cI g0 (stF q2 20 x3)]) := hD
    refine lv_aload_n hx hb dX8_keep_36 rfl (lv_at hl 0 rfl) ?_
    refine va_get (D := (dC, dI)) (ci := 8) (v := .int x3) (C := RX8) (T := TX8) (N := 36) hx hb hts hiX8 hown hKK.1 hP 0 rfl rfl 20 (by decide) (hts (.fieldLink RX8 163 "SlideLandModel" "keeps" "I") (List.mem_of_getElem? (i := 1) rfl)) (fun _ h9 => h9) rfl dX8_keep_37 ?_
    have h := Option.some.inj h
    subst h
    subst hQ
    exact W.iret (v := x3) hx hb hr (fun t ht hW => ⟨⟨rfl, by rw [ht]; exact hP, hD⟩, hS.F ht⟩) hS.2.2 dX8_keep_40
  · have h := ite_t k1 h
    refine lv_bipush (v := (-3 : Int32)) hx hb dX8_keep_8 (by decide) ?_
    have h := Option.some.inj h
    subst h
    subst hQ
    exact W.iret (v := (-3 : Int32)) hx hb hr (fun t ht hW => ⟨⟨rfl, by rw [ht]; exact hP, hD⟩, hS.F ht⟩) hS.2.2 dX8_keep_10
def f_X8_back (o0 : Ob) : Option (Int32 × Ob) := if (o0.1 20) = 0 then (some ((-2 : Int32), o0)) else (bnd ((o0.1 20) - (1 : Int32)) fun x2 : Int32 => (f_X8_copies (stF o0 20 x2) (((9 : Int32) + x2) * (26 : Int32)) (0 : Int32)).bind fun q3 : Ob => some ((q3.1 20), (stF q3 19 (0 : Int32))))
abbrev rmX8_back : Room := { frames := 1, cells := 0, slots := 0, locals := 23 }
theorem dsc_X8_back : yX8_back.cls ≠ "java/lang/invoke/MethodHandle" ∧ yX8_back.cls ≠ "java/lang/invoke/VarHandle" ∧ (parseMethodDescriptor yX8_back.desc).map (fun d => d.parameters.length) = some 0 := by decide +kernel
set_option maxHeartbeats 4000000 in
set_option maxRecDepth 100000 in
theorem c_X8_back (l : Launch) (dC : Nat → ClassId) (dI : Nat → Nat → Nat) (cB cI cZ cO : ClassId) (a0 : Nat) (g0 : Nat → Nat) (o0 : Ob) {r : Int32 × Ob} (h : f_X8_back o0 = some r) : Ct dC dI cB cI cZ cO l yX8_back wsX8_back rmX8_back [.ref a0] ([cX8 a0 g0 o0, cX8_0 cI g0 o0, cX8_1 cI g0 o0, cX8_3 cI g0 o0, cX8_4 cI g0 o0, cX8_6 cI g0 o0, cX8_8 cI g0 o0, cX8_9 cI g0 o0, cX8_10 cI g0 o0, cX8_12 cI g0 o0, cX8_13 cI g0 o0, cX8_15 cI g0 o0, cX8_17 cI g0 o0, cX8_18 cI g0 o0, cX8_22 cB g0 o0, cX8_27 cI g0 o0, cX8_28 cI g0 o0, cX8_29 cI g0 o0, cX8_30 cI g0 o0, cX8_31 cI g0 o0, cX8_32 cI g0 o0, cX8_33 cI g0 o0]) (some (.int r.1)) ([cX8 a0 g0 r.2, cX8_0 cI g0 r.2, cX8_1 cI g0 r.2, cX8_3 cI g0 r.2, cX8_4 cI g0 r.2, cX8_6 cI g0 r.2, cX8_8 cI g0 r.2, cX8_9 cI g0 r.2, cX8_10 cI g0 r.2, cX8_12 cI g0 r.2, cX8_13 cI g0 r.2, cX8_15 cI g0 r.2, cX8_17 cI g0 r.2, cX8_18 cI g0 r.2, cX8_22 cB g0 r.2, cX8_27 cI g0 r.2, cX8_28 cI g0 r.2, cX8_29 cI g0 r.2, cX8_30 cI g0 r.2, cX8_31 cI g0 r.2, cX8_32 cI g0 r.2, cX8_33 cI g0 r.2]) := by
  intro sz
  refine Met.ofW (cc := cX8_back) (maxL := 1) (ret := (some .int)) (by decide) rfl ?_
  intro p e s m args below meth c s₁ B hml hv
  obtain ⟨rfl, hsz, hP, hKK, hD0⟩ := hv
  have hx := B.exec
  have hb := B.bytes
  have hr := B.returns
  have hts := atoms_spec (ws := wsX8_back) B.pre
  have hown : s.vm.findClass RX8 = some m.cls := findClass_of_methodNamed B.named
  have hlocks := B.notSynchronized
  have hiX8 : ∀ w ∈ u_ws RX8 TX8 36, w ∈ wsX8_back := fun w h => List.mem_cons_of_mem _ (List.mem_append_right _ h)
  subst hsz
  have hD := hD0.self (sz := s.heap.size)
  generalize hAe : va_A ([cX8 a0 g0 o0, cX8_0 cI g0 o0, cX8_1 cI g0 o0, cX8_3 cI g0 o0, cX8_4 cI g0 o0, cX8_6 cI g0 o0, cX8_8 cI g0 o0, cX8_9 cI g0 o0, cX8_10 cI g0 o0, cX8_12 cI g0 o0, cX8_13 cI g0 o0, cX8_15 cI g0 o0, cX8_17 cI g0 o0, cX8_18 cI g0 o0, cX8_22 cB g0 o0, cX8_27 cI g0 o0, cX8_28 cI g0 o0, cX8_29 cI g0 o0, cX8_30 cI g0 o0, cX8_31 cI g0 o0, cX8_32 cI g0 o0, cX8_33 cI g0 o0]) s.heap.size = A at hD ⊢
  have hA : ∀ q : Nat, s.heap.size ≤ q → A q := fun q h => by rw [← hAe]; exact Or.inr h
  have hS : va_S A s.heap s.heap [] := va_S.rf
  have hP : va_P (dC, dI) vwCl ([cX8 a0 g0 o0, cX8_0 cI g0 o0, cX8_1 cI g0 o0, cX8_3 cI g0 o0, cX8_4 cI g0 o0, cX8_6 cI g0 o0, cX8_8 cI g0 o0, cX8_9 cI g0 o0, cX8_10 cI g0 o0, cX8_12 cI g0 o0, cX8_13 cI g0 o0, cX8_15 cI g0 o0, cX8_17 cI g0 o0, cX8_18 cI g0 o0, cX8_22 cB g0 o0, cX8_27 cI g0 o0, cX8_28 cI g0 o0, cX8_29 cI g0 o0, cX8_30 cI g0 o0, cX8_31 cI g0 o0, cX8_32 cI g0 o0, cX8_33 cI g0 o0]) s.heap := hP
  have hD : va_D A ([cX8 a0 g0 o0, cX8_0 cI g0 o0, cX8_1 cI g0 o0, cX8_3 cI g0 o0, cX8_4 cI g0 o0, cX8_6 cI g0 o0, cX8_8 cI g0 o0, cX8_9 cI g0 o0, cX8_10 cI g0 o0, cX8_12 cI g0 o0, cX8_13 cI g0 o0, cX8_15 cI g0 o0, cX8_17 cI g0 o0, cX8_18 cI g0 o0, cX8_22 cB g0 o0, cX8_27 cI g0 o0, cX8_28 cI g0 o0, cX8_29 cI g0 o0, cX8_30 cI g0 o0, cX8_31 cI g0 o0, cX8_32 cI g0 o0, cX8_33 cI g0 o0]) := hD
  have hl := lv_entry ([.ref a0]) (n := 1) (Nat.le_of_ble_eq_true rfl)
  rw [lg_entry_eq]
  generalize (lg_sl ([.ref a0]) ++ List.replicate (1 - (lg_sl ([.ref a0])).length) Slot.unset).toArray = ls at hl ⊢
  have hl : lv_has ls 1 [(0, .ref a0)] := hl
  obtain ⟨Q, hQ⟩ : ∃ Q, Q = MQ below (Qq dC dI (some (.int r.1)) ([cX8 a0 g0 r.2, cX8_0 cI g0 r.2, cX8_1 cI g0 r.2, cX8_3 cI g0 r.2, cX8_4 cI g0 r.2, cX8_6 cI g0 r.2, cX8_8 cI g0 r.2, cX8_9 cI g0 r.2, cX8_10 cI g0 r.2, cX8_12 cI g0 r.2, cX8_13 cI g0 r.2, cX8_15 cI g0 r.2, cX8_17 cI g0 r.2, cX8_18 cI g0 r.2, cX8_22 cB g0 r.2, cX8_27 cI g0 r.2, cX8_28 cI g0 r.2, cX8_29 cI g0 r.2, cX8_30 cI g0 r.2, cX8_31 cI g0 r.2, cX8_32 cI g0 r.2, cX8_33 cI g0 r.2]) A) ([.ref a0] : List Value).toArray s 0 0 A := ⟨_, rfl⟩
  rw [← hQ]
  rw [f_X8_back] at h
  clear hAe hD0
  refine lv_aload_n hx hb dX8_back_0 rfl (lv_at hl 0 rfl) ?_
  refine va_get (D := (dC, dI)) (ci := 8) (v := .int (o0.1 20)) (C := RX8) (T := TX8) (N := 36) hx hb hts hiX8 hown hKK.1 hP 0 rfl rfl 20 (by decide) (hts (.fieldLink RX8 163 "SlideLandModel" "keeps" "I") (List.mem_of_getElem? (i := 1) rfl)) (fun _ h9 => h9) rfl dX8_back_1 ?_
  refine lv_if_ne (tgt := 10) hx hb dX8_back_4 (by decide) (fun k1 => ?_) (fun k1 => ?_)
  · have h := ite_f k1 h
    refine lv_aload_n hx hb dX8_back_10 rfl (lv_at hl 0 rfl) ?_
    refine lv_dup hx hb dX8_back_11 rfl ?_
    refine va_get (D := (dC, dI)) (ci := 8) (v := .int (o0.1 20)) (C := RX8) (T := TX8) (N := 36) hx hb hts hiX8 hown hKK.1 hP 0 rfl rfl 20 (by decide) (hts (.fieldLink RX8 163 "SlideLandModel" "keeps" "I") (List.mem_of_getElem? (i := 1) rfl)) (fun _ h9 => h9) rfl dX8_back_12 ?_
    refine lv_iconst (v := (1 : Int32)) hx hb dX8_back_15 (by decide) ?_
    refine lv_isub hx hb dX8_back_16 ?_
    obtain ⟨x2, hx2, h⟩ := bnd_e h
    rw [hx2]
    refine va_put (D := (dC, dI)) (ci := 8) (v := .int x2) (ty := .int) (C := RX8) (T := TX8) (N := 36) hx hb hts hiX8 tyX8 tyX8_ok nmX8 hown hKK.1 hP hD hS 0 rfl rfl 20 (by decide) (hts (.fieldLink RX8 163 "SlideLandModel" "keeps" "I") (List.mem_of_getElem? (i := 1) rfl)) (fun _ h9 => h9) rfl (by decide +kernel) rfl rfl (Nat.le_of_ble_eq_true rfl) dX8_back_17 (fun H locs hP hD hS => ?_)
    have hP : va_P (dC, dI) vwCl ([cX8 a0 g0 (stF o0 20 x2), cX8_0 cI g0 (stF o0 20 x2), cX8_1 cI g0 (stF o0 20 x2), cX8_3 cI g0 (stF o0 20 x2), cX8_4 cI g0 (stF o0 20 x2), cX8_6 cI g0 (stF o0 20 x2), cX8_8 cI g0 (stF o0 20 x2), cX8_9 cI g0 (stF o0 20 x2), cX8_10 cI g0 (stF o0 20 x2), cX8_12 cI g0 (stF o0 20 x2), cX8_13 cI g0 (stF o0 20 x2), cX8_15 cI g0 (stF o0 20 x2), cX8_17 cI g0 (stF o0 20 x2), cX8_18 cI g0 (stF o0 20 x2), cX8_22 cB g0 (stF o0 20 x2), cX8_27 cI g0 (stF o0 20 x2), cX8_28 cI g0 (stF o0 20 x2), cX8_29 cI g0 (stF o0 20 x2), cX8_30 cI g0 (stF o0 20 x2), cX8_31 cI g0 (stF o0 20 x2), cX8_32 cI g0 (stF o0 20 x2), cX8_33 cI g0 (stF o0 20 x2)]) H := hP
    have hD : va_D A ([cX8 a0 g0 (stF o0 20 x2), cX8_0 cI g0 (stF o0 20 x2), cX8_1 cI g0 (stF o0 20 x2), cX8_3 cI g0 (stF o0 20 x2), cX8_4 cI g0 (stF o0 20 x2), cX8_6 cI g0 (stF o0 20 x2), cX8_8 cI g0 (stF o0 20 x2), cX8_9 cI g0 (stF o0 20 x2), cX8_10 cI g0 (stF o0 20 x2), cX8_12 cI g0 (stF o0 20 x2), cX8_13 cI g0 (stF o0 20 x2), cX8_15 cI g0 (stF o0 20 x2), cX8_17 cI g0 (stF o0 20 x2), cX8_18 cI g0 (stF o0 20 x2), cX8_22 cB g0 (stF o0 20 x2), cX8_27 cI g0 (stF o0 20 x2), cX8_28 cI g0 (stF o0 20 x2), cX8_29 cI g0 (stF o0 20 x2), cX8_30 cI g0 (stF o0 20 x2), cX8_31 cI g0 (stF o0 20 x2), cX8_32 cI g0 (stF o0 20 x2), cX8_33 cI g0 (stF o0 20 x2)]) := hD
    refine lv_aload_n hx hb dX8_back_20 rfl (lv_at hl 0 rfl) ?_
    refine lv_bipush (v := (9 : Int32)) hx hb dX8_back_21 (by decide) ?_
    refine lv_aload_n hx hb dX8_back_23 rfl (lv_at hl 0 rfl) ?_
    refine va_get (D := (dC, dI)) (ci := 8) (v := .int x2) (C := RX8) (T := TX8) (N := 36) hx hb hts hiX8 hown hKK.1 hP 0 rfl rfl 20 (by decide) (hts (.fieldLink RX8 163 "SlideLandModel" "keeps" "I") (List.mem_of_getElem? (i := 1) rfl)) (fun _ h9 => h9) rfl dX8_back_24 ?_
    refine lv_iadd hx hb dX8_back_27 ?_
    refine lv_bipush (v := (26 : Int32)) hx hb dX8_back_28 (by decide) ?_
    refine lv_imul hx hb dX8_back_30 ?_
    refine lv_iconst (v := (0 : Int32)) hx hb dX8_back_31 (by decide) ?_
    obtain ⟨q3, hq3, h⟩ := obd_e h
    refine kcV (rest := []) (w2 := ([cX8 a0 g0 q3, cX8_0 cI g0 q3, cX8_1 cI g0 q3, cX8_3 cI g0 q3, cX8_4 cI g0 q3, cX8_6 cI g0 q3, cX8_8 cI g0 q3, cX8_9 cI g0 q3, cX8_10 cI g0 q3, cX8_12 cI g0 q3, cX8_13 cI g0 q3, cX8_15 cI g0 q3, cX8_17 cI g0 q3, cX8_18 cI g0 q3, cX8_22 cB g0 q3, cX8_27 cI g0 q3, cX8_28 cI g0 q3, cX8_29 cI g0 q3, cX8_30 cI g0 q3, cX8_31 cI g0 q3, cX8_32 cI g0 q3, cX8_33 cI g0 q3])) hx hb hml hown hts hKK hP hD hS hA (c_X8_copies l dC dI cB cI cZ cO a0 g0 (stF o0 20 x2) (((9 : Int32) + x2) * (26 : Int32)) (0 : Int32) hq3) [0, 1, 2, 3, 4, 5, 6, 7, 8, 9, 10, 11, 12, 13, 14, 15, 16, 17, 18, 19, 20, 21] (atAll_map ⟨rfl, rfl, rfl, rfl, rfl, rfl, rfl, rfl, rfl, rfl, rfl, rfl, rfl, rfl, rfl, rfl, rfl, rfl, rfl, rfl, rfl, rfl, trivial⟩) (by decide +kernel) (sameAd_map ⟨rfl, rfl, rfl, rfl, rfl, rfl, rfl, rfl, rfl, rfl, rfl, rfl, rfl, rfl, rfl, rfl, rfl, rfl, rfl, rfl, rfl, rfl, trivial⟩) (atAll_map ⟨rfl, rfl, rfl, rfl, rfl, rfl, rfl, rfl, rfl, rfl, rfl, rfl, rfl, rfl, rfl, rfl, rfl, rfl, rfl, rfl, rfl, rfl, trivial⟩) ⟨Or.inr (by decide), Or.inr (by decide), Or.inr (by decide), Or.inr (by decide), Or.inr (by decide), Or.inr (by decide), Or.inr (by decide), Or.inr (by decide), Or.inr (by decide), Or.inr (by decide), Or.inr (by decide), Or.inr (by decide), Or.inr (by decide), Or.inr (by decide), Or.inr (by decide), Or.inr (by decide), Or.inr (by decide), Or.inr (by decide), Or.inr (by decide), Or.inr (by decide), Or.inr (by decide), Or.inr (by decide), trivial⟩ (cwV 2 hts gX8_back_X8_copies rfl rfl rfl ⟨rfl, dsc_X8_copies⟩ ⟨Nat.le_of_ble_eq_true rfl, Nat.le_of_ble_eq_true rfl⟩) (va_recv hKK.1 hP (ci := 8) (q0 := 0) rfl rfl) rfl hl.1 rfl (Nat.le_of_ble_eq_true rfl) dX8_back_32 ⟨Nat.zero_le _, Nat.zero_le _⟩ (fun H locs hP hD hS => ?_)
    refine lv_aload_n hx hb dX8_back_35 rfl (lv_at hl 0 rfl) ?_
    refine lv_iconst (v := (0 : Int32)) hx hb dX8_back_36 (by decide) ?_
    refine va_put (D := (dC, dI)) (ci := 8) (v := .int (0 : Int32)) (ty := .int) (C := RX8) (T := TX8) (N := 36) hx hb hts hiX8 tyX8 tyX8_ok nmX8 hown hKK.1 hP hD hS 0 rfl rfl 19 (by decide) (hts (.fieldLink RX8 160 "SlideLandModel" "acts" "I") (List.mem_of_getElem? (i := 2) rfl)) (fun _ h9 => h9) rfl (by decide +kernel) rfl rfl (Nat.le_of_ble_eq_true rfl) dX8_back_37 (fun H locs hP hD hS => ?_)
    have hP : va_P (dC, dI) vwCl ([cX8 a0 g0 (stF q3 19 (0 : Int32)), cX8_0 cI g0 (stF q3 19 (0 : Int32)), cX8_1 cI g0 (stF q3 19 (0 : Int32)), cX8_3 cI g0 (stF q3 19 (0 : Int32)), cX8_4 cI g0 (stF q3 19 (0 : Int32)), cX8_6 cI g0 (stF q3 19 (0 : Int32)), cX8_8 cI g0 (stF q3 19 (0 : Int32)), cX8_9 cI g0 (stF q3 19 (0 : Int32)), cX8_10 cI g0 (stF q3 19 (0 : Int32)), cX8_12 cI g0 (stF q3 19 (0 : Int32)), cX8_13 cI g0 (stF q3 19 (0 : Int32)), cX8_15 cI g0 (stF q3 19 (0 : Int32)), cX8_17 cI g0 (stF q3 19 (0 : Int32)), cX8_18 cI g0 (stF q3 19 (0 : Int32)), cX8_22 cB g0 (stF q3 19 (0 : Int32)), cX8_27 cI g0 (stF q3 19 (0 : Int32)), cX8_28 cI g0 (stF q3 19 (0 : Int32)), cX8_29 cI g0 (stF q3 19 (0 : Int32)), cX8_30 cI g0 (stF q3 19 (0 : Int32)), cX8_31 cI g0 (stF q3 19 (0 : Int32)), cX8_32 cI g0 (stF q3 19 (0 : Int32)), cX8_33 cI g0 (stF q3 19 (0 : Int32))]) H := hP
    have hD : va_D A ([cX8 a0 g0 (stF q3 19 (0 : Int32)), cX8_0 cI g0 (stF q3 19 (0 : Int32)), cX8_1 cI g0 (stF q3 19 (0 : Int32)), cX8_3 cI g0 (stF q3 19 (0 : Int32)), cX8_4 cI g0 (stF q3 19 (0 : Int32)), cX8_6 cI g0 (stF q3 19 (0 : Int32)), cX8_8 cI g0 (stF q3 19 (0 : Int32)), cX8_9 cI g0 (stF q3 19 (0 : Int32)), cX8_10 cI g0 (stF q3 19 (0 : Int32)), cX8_12 cI g0 (stF q3 19 (0 : Int32)), cX8_13 cI g0 (stF q3 19 (0 : Int32)), cX8_15 cI g0 (stF q3 19 (0 : Int32)), cX8_17 cI g0 (stF q3 19 (0 : Int32)), cX8_18 cI g0 (stF q3 19 (0 : Int32)), cX8_22 cB g0 (stF q3 19 (0 : Int32)), cX8_27 cI g0 (stF q3 19 (0 : Int32)), cX8_28 cI g0 (stF q3 19 (0 : Int32)), cX8_29 cI g0 (stF q3 19 (0 : Int32)), cX8_30 cI g0 (stF q3 19 (0 : Int32)), cX8_31 cI g0 (stF q3 19 (0 : Int32)), cX8_32 cI g0 (stF q3 19 (0 : Int32)), cX8_33 cI g0 (stF q3 19 (0 : Int32))]) := hD
    refine lv_aload_n hx hb dX8_back_40 rfl (lv_at hl 0 rfl) ?_
    refine va_get (D := (dC, dI)) (ci := 8) (v := .int (q3.1 20)) (C := RX8) (T := TX8) (N := 36) hx hb hts hiX8 hown hKK.1 hP 0 rfl rfl 20 (by decide) (hts (.fieldLink RX8 163 "SlideLandModel" "keeps" "I") (List.mem_of_getElem? (i := 1) rfl)) (fun _ h9 => h9) rfl dX8_back_41 ?_
    have h := Option.some.inj h
    subst h
    subst hQ
    exact W.iret (v := (q3.1 20)) hx hb hr (fun t ht hW => ⟨⟨rfl, by rw [ht]; exact hP, hD⟩, hS.F ht⟩) hS.2.2 dX8_back_44
  · have h := ite_t k1 h
    refine lv_bipush (v := (-2 : Int32)) hx hb dX8_back_7 (by decide) ?_
    have h := Option.some.inj h
    subst h
    subst hQ
    exact W.iret (v := (-2 : Int32)) hx hb hr (fun t ht hW => ⟨⟨rfl, by rw [ht]; exact hP, hD⟩, hS.F ht⟩) hS.2.2 dX8_back_9
def f_X8_count_9 (o0 : Ob) (v1 : Int32) : Option (Int32) := if v1 < 0 ∨ 2 ≤ v1.toNatClampNeg then none else some ((o0.2 0) v1.toNatClampNeg)
def f_X8_count (o0 : Ob) (v1 : Int32) : Option (Int32) := if v1 = 0 then (f_X8_count_9 o0 v1) else (if v1 = (1 : Int32) then (f_X8_count_9 o0 v1) else (if v1 = (2 : Int32) then (some (o0.1 2)) else (if v1 = (3 : Int32) then (some (o0.1 5)) else (if v1 = (4 : Int32) then (some ((o0.2 18) (3 : Int32).toNatClampNeg)) else (if v1 = (5 : Int32) then (some (((o0.2 18) (0 : Int32).toNatClampNeg) + (40 : Int32))) else (if v1 = (6 : Int32) then (some (((o0.2 18) (1 : Int32).toNatClampNeg) + (40 : Int32))) else (if v1 = (7 : Int32) then (some ((o0.2 18) (2 : Int32).toNatClampNeg)) else (if v1 = (8 : Int32) then ((f_X8_wed o0 (0 : Int32)).bind fun q17 : Int32 => some q17) else (if v1 = (9 : Int32) then ((f_X8_pairs o0 ((o0.2 18) (0 : Int32).toNatClampNeg) ((o0.2 18) (1 : Int32).toNatClampNeg)).bind fun q16 : Int32 => some q16) else (if v1 = (10 : Int32) then (some (o0.1 26)) else (if v1 = (11 : Int32) then (some (o0.1 19)) else (if v1 = (12 : Int32) then (some (o0.1 20)) else (if v1 = (13 : Int32) then (some (o0.1 21)) else (some (-1 : Int32)))))))))))))))
abbrev rmX8_count : Room := { frames := 4, cells := 0, slots := 0, locals := 100 }
theorem dsc_X8_count : yX8_count.cls ≠ "java/lang/invoke/MethodHandle" ∧ yX8_count.cls ≠ "java/lang/invoke/VarHandle" ∧ (parseMethodDescriptor yX8_count.desc).map (fun d => d.parameters.length) = some 1 := by decide +kernel
set_option maxHeartbeats 4000000 in
set_option maxRecDepth 100000 in
theorem c_X8_count (l : Launch) (dC : Nat → ClassId) (dI : Nat → Nat → Nat) (cB cI cZ cO : ClassId) (a0 : Nat) (g0 : Nat → Nat) (o0 : Ob) (v1 : Int32) {r : Int32} (h : f_X8_count o0 v1 = some r) : Ct dC dI cB cI cZ cO l yX8_count wsX8_count rmX8_count [.ref a0, .int v1] ([cX8 a0 g0 o0, cX8_0 cI g0 o0, cX8_1 cI g0 o0, cX8_3 cI g0 o0, cX8_4 cI g0 o0, cX8_6 cI g0 o0, cX8_8 cI g0 o0, cX8_9 cI g0 o0, cX8_10 cI g0 o0, cX8_12 cI g0 o0, cX8_13 cI g0 o0, cX8_15 cI g0 o0, cX8_17 cI g0 o0, cX8_18 cI g0 o0, cX8_22 cB g0 o0, cX8_27 cI g0 o0, cX8_28 cI g0 o0, cX8_29 cI g0 o0, cX8_30 cI g0 o0, cX8_31 cI g0 o0, cX8_32 cI g0 o0, cX8_33 cI g0 o0]) (some (.int r)) ([cX8 a0 g0 o0, cX8_0 cI g0 o0, cX8_1 cI g0 o0, cX8_3 cI g0 o0, cX8_4 cI g0 o0, cX8_6 cI g0 o0, cX8_8 cI g0 o0, cX8_9 cI g0 o0, cX8_10 cI g0 o0, cX8_12 cI g0 o0, cX8_13 cI g0 o0, cX8_15 cI g0 o0, cX8_17 cI g0 o0, cX8_18 cI g0 o0, cX8_22 cB g0 o0, cX8_27 cI g0 o0, cX8_28 cI g0 o0, cX8_29 cI g0 o0, cX8_30 cI g0 o0, cX8_31 cI g0 o0, cX8_32 cI g0 o0, cX8_33 cI g0 o0]) := by
  intro sz
  refine Met.ofW (cc := cX8_count) (maxL := 2) (ret := (some .int)) (by decide) rfl ?_
  intro p e s m args below meth c s₁ B hml hv
  obtain ⟨rfl, hsz, hP, hKK, hD0⟩ := hv
  have hx := B.exec
  have hb := B.bytes
  have hr := B.returns
  have hts := atoms_spec (ws := wsX8_count) B.pre
  have hown : s.vm.findClass RX8 = some m.cls := findClass_of_methodNamed B.named
  have hlocks := B.notSynchronized
  have hiX8 : ∀ w ∈ u_ws RX8 TX8 36, w ∈ wsX8_count := fun w h => List.mem_cons_of_mem _ (List.mem_append_right _ h)
  subst hsz
  have hD := hD0.self (sz := s.heap.size)
  generalize hAe : va_A ([cX8 a0 g0 o0, cX8_0 cI g0 o0, cX8_1 cI g0 o0, cX8_3 cI g0 o0, cX8_4 cI g0 o0, cX8_6 cI g0 o0, cX8_8 cI g0 o0, cX8_9 cI g0 o0, cX8_10 cI g0 o0, cX8_12 cI g0 o0, cX8_13 cI g0 o0, cX8_15 cI g0 o0, cX8_17 cI g0 o0, cX8_18 cI g0 o0, cX8_22 cB g0 o0, cX8_27 cI g0 o0, cX8_28 cI g0 o0, cX8_29 cI g0 o0, cX8_30 cI g0 o0, cX8_31 cI g0 o0, cX8_32 cI g0 o0, cX8_33 cI g0 o0]) s.heap.size = A at hD ⊢
  have hA : ∀ q : Nat, s.heap.size ≤ q → A q := fun q h => by rw [← hAe]; exact Or.inr h
  have hS : va_S A s.heap s.heap [] := va_S.rf
  have hP : va_P (dC, dI) vwCl ([cX8 a0 g0 o0, cX8_0 cI g0 o0, cX8_1 cI g0 o0, cX8_3 cI g0 o0, cX8_4 cI g0 o0, cX8_6 cI g0 o0, cX8_8 cI g0 o0, cX8_9 cI g0 o0, cX8_10 cI g0 o0, cX8_12 cI g0 o0, cX8_13 cI g0 o0, cX8_15 cI g0 o0, cX8_17 cI g0 o0, cX8_18 cI g0 o0, cX8_22 cB g0 o0, cX8_27 cI g0 o0, cX8_28 cI g0 o0, cX8_29 cI g0 o0, cX8_30 cI g0 o0, cX8_31 cI g0 o0, cX8_32 cI g0 o0, cX8_33 cI g0 o0]) s.heap := hP
  have hD : va_D A ([cX8 a0 g0 o0, cX8_0 cI g0 o0, cX8_1 cI g0 o0, cX8_3 cI g0 o0, cX8_4 cI g0 o0, cX8_6 cI g0 o0, cX8_8 cI g0 o0, cX8_9 cI g0 o0, cX8_10 cI g0 o0, cX8_12 cI g0 o0, cX8_13 cI g0 o0, cX8_15 cI g0 o0, cX8_17 cI g0 o0, cX8_18 cI g0 o0, cX8_22 cB g0 o0, cX8_27 cI g0 o0, cX8_28 cI g0 o0, cX8_29 cI g0 o0, cX8_30 cI g0 o0, cX8_31 cI g0 o0, cX8_32 cI g0 o0, cX8_33 cI g0 o0]) := hD
  have hl := lv_entry ([.ref a0, .int v1]) (n := 2) (Nat.le_of_ble_eq_true rfl)
  rw [lg_entry_eq]
  generalize (lg_sl ([.ref a0, .int v1]) ++ List.replicate (2 - (lg_sl ([.ref a0, .int v1])).length) Slot.unset).toArray = ls at hl ⊢
  have hl : lv_has ls 2 [(0, .ref a0), (1, .int v1)] := hl
  obtain ⟨Q, hQ⟩ : ∃ Q, Q = MQ below (Qq dC dI (some (.int r)) ([cX8 a0 g0 o0, cX8_0 cI g0 o0, cX8_1 cI g0 o0, cX8_3 cI g0 o0, cX8_4 cI g0 o0, cX8_6 cI g0 o0, cX8_8 cI g0 o0, cX8_9 cI g0 o0, cX8_10 cI g0 o0, cX8_12 cI g0 o0, cX8_13 cI g0 o0, cX8_15 cI g0 o0, cX8_17 cI g0 o0, cX8_18 cI g0 o0, cX8_22 cB g0 o0, cX8_27 cI g0 o0, cX8_28 cI g0 o0, cX8_29 cI g0 o0, cX8_30 cI g0 o0, cX8_31 cI g0 o0, cX8_32 cI g0 o0, cX8_33 cI g0 o0]) A) ([.ref a0, .int v1] : List Value).toArray s 0 0 A := ⟨_, rfl⟩
  rw [← hQ]
  rw [f_X8_count] at h
  clear hAe hD0
  refine lv_iload_n hx hb dX8_count_0 rfl (lv_at hl 1 rfl) ?_
  have jn9 : f_X8_count_9 o0 v1 = some r → ∀ (H : Heap) (locs : List Loc) (ls : Array Slot), va_P (dC, dI) vwCl ([cX8 a0 g0 o0, cX8_0 cI g0 o0, cX8_1 cI g0 o0, cX8_3 cI g0 o0, cX8_4 cI g0 o0, cX8_6 cI g0 o0, cX8_8 cI g0 o0, cX8_9 cI g0 o0, cX8_10 cI g0 o0, cX8_12 cI g0 o0, cX8_13 cI g0 o0, cX8_15 cI g0 o0, cX8_17 cI g0 o0, cX8_18 cI g0 o0, cX8_22 cB g0 o0, cX8_27 cI g0 o0, cX8_28 cI g0 o0, cX8_29 cI g0 o0, cX8_30 cI g0 o0, cX8_31 cI g0 o0, cX8_32 cI g0 o0, cX8_33 cI g0 o0]) H → va_D A ([cX8 a0 g0 o0, cX8_0 cI g0 o0, cX8_1 cI g0 o0, cX8_3 cI g0 o0, cX8_4 cI g0 o0, cX8_6 cI g0 o0, cX8_8 cI g0 o0, cX8_9 cI g0 o0, cX8_10 cI g0 o0, cX8_12 cI g0 o0, cX8_13 cI g0 o0, cX8_15 cI g0 o0, cX8_17 cI g0 o0, cX8_18 cI g0 o0, cX8_22 cB g0 o0, cX8_27 cI g0 o0, cX8_28 cI g0 o0, cX8_29 cI g0 o0, cX8_30 cI g0 o0, cX8_31 cI g0 o0, cX8_32 cI g0 o0, cX8_33 cI g0 o0]) → va_S A s.heap H locs → lv_has ls 2 [(0, .ref a0), (1, .int v1)] → W p l e (headSpec wsX8_count rmX8_count).room s m ([.ref a0, .int v1] : List Value).toArray below meth c H locs 0 0 Q (F0 m 9 ls []) := by
    intro h H locs ls hP hD hS hl
    rw [f_X8_count_9] at h
    refine lv_aload_n hx hb dX8_count_9 rfl (lv_at hl 0 rfl) ?_
    refine va_get (D := (dC, dI)) (ci := 8) (v := .ref (g0 0)) (C := RX8) (T := TX8) (N := 36) hx hb hts hiX8 hown hKK.1 hP 0 rfl rfl 0 (by decide) (hts (.fieldLink RX8 7 "SlideLandModel" "many" "[I") (List.mem_of_getElem? (i := 1) rfl)) (fun _ h9 => h9) rfl dX8_count_10 ?_
    refine lv_iload_n hx hb dX8_count_13 rfl (lv_at hl 1 rfl) ?_
    obtain ⟨k1, h⟩ := ite_n h
    refine va_iald hx hb hKK.1 hP 1 1 rfl rfl k1 dX8_count_14 ?_
    refine lv_goto (tgt := 198) hx hb dX8_count_15 (by decide) ?_
    have h := Option.some.inj h
    subst h
    subst hQ
    exact W.iret (v := ((o0.2 0) v1.toNatClampNeg)) hx hb hr (fun t ht hW => ⟨⟨rfl, by rw [ht]; exact hP, hD⟩, hS.F ht⟩) hS.2.2 dX8_count_198
  refine lv_if_eq (tgt := 9) hx hb dX8_count_1 (by decide) (fun k2 => ?_) (fun k2 => ?_)
  · have h := ite_t k2 h
    exact jn9 h _ _ _ hP hD hS (lv_sub hl [0, 1] rfl)
  · have h := ite_f k2 h
    refine lv_iload_n hx hb dX8_count_4 rfl (lv_at hl 1 rfl) ?_
    refine lv_iconst (v := (1 : Int32)) hx hb dX8_count_5 (by decide) ?_
    refine lv_icmp_ne (tgt := 18) hx hb dX8_count_6 (by decide) (fun k3 => ?_) (fun k3 => ?_)
    · have h := ite_f k3 h
      refine lv_iload_n hx hb dX8_count_18 rfl (lv_at hl 1 rfl) ?_
      refine lv_iconst (v := (2 : Int32)) hx hb dX8_count_19 (by decide) ?_
      refine lv_icmp_ne (tgt := 30) hx hb dX8_count_20 (by decide) (fun k4 => ?_) (fun k4 => ?_)
      · have h := ite_f k4 h
        refine lv_iload_n hx hb dX8_count_30 rfl (lv_at hl 1 rfl) ?_
        refine lv_iconst (v := (3 : Int32)) hx hb dX8_count_31 (by decide) ?_
        refine lv_icmp_ne (tgt := 42) hx hb dX8_count_32 (by decide) (fun k5 => ?_) (fun k5 => ?_)
        · have h := ite_f k5 h
          refine lv_iload_n hx hb dX8_count_42 rfl (lv_at hl 1 rfl) ?_
          refine lv_iconst (v := (4 : Int32)) hx hb dX8_count_43 (by decide) ?_
          refine lv_icmp_ne (tgt := 56) hx hb dX8_count_44 (by decide) (fun k6 => ?_) (fun k6 => ?_)
          · have h := ite_f k6 h
            refine lv_iload_n hx hb dX8_count_56 rfl (lv_at hl 1 rfl) ?_
            refine lv_iconst (v := (5 : Int32)) hx hb dX8_count_57 (by decide) ?_
            refine lv_icmp_ne (tgt := 73) hx hb dX8_count_58 (by decide) (fun k7 => ?_) (fun k7 => ?_)
            · have h := ite_f k7 h
              refine lv_iload_n hx hb dX8_count_73 rfl (lv_at hl 1 rfl) ?_
              refine lv_bipush (v := (6 : Int32)) hx hb dX8_count_74 (by decide) ?_
              refine lv_icmp_ne (tgt := 91) hx hb dX8_count_76 (by decide) (fun k8 => ?_) (fun k8 => ?_)
              · have h := ite_f k8 h
                refine lv_iload_n hx hb dX8_count_91 rfl (lv_at hl 1 rfl) ?_
                refine lv_bipush (v := (7 : Int32)) hx hb dX8_count_92 (by decide) ?_
                refine lv_icmp_ne (tgt := 106) hx hb dX8_count_94 (by decide) (fun k9 => ?_) (fun k9 => ?_)
                · have h := ite_f k9 h
                  refine lv_iload_n hx hb dX8_count_106 rfl (lv_at hl 1 rfl) ?_
                  refine lv_bipush (v := (8 : Int32)) hx hb dX8_count_107 (by decide) ?_
                  refine lv_icmp_ne (tgt := 120) hx hb dX8_count_109 (by decide) (fun k10 => ?_) (fun k10 => ?_)
                  · have h := ite_f k10 h
                    refine lv_iload_n hx hb dX8_count_120 rfl (lv_at hl 1 rfl) ?_
                    refine lv_bipush (v := (9 : Int32)) hx hb dX8_count_121 (by decide) ?_
                    refine lv_icmp_ne (tgt := 145) hx hb dX8_count_123 (by decide) (fun k11 => ?_) (fun k11 => ?_)
                    · have h := ite_f k11 h
                      refine lv_iload_n hx hb dX8_count_145 rfl (lv_at hl 1 rfl) ?_
                      refine lv_bipush (v := (10 : Int32)) hx hb dX8_count_146 (by decide) ?_
                      refine lv_icmp_ne (tgt := 158) hx hb dX8_count_148 (by decide) (fun k12 => ?_) (fun k12 => ?_)
                      · have h := ite_f k12 h
                        refine lv_iload_n hx hb dX8_count_158 rfl (lv_at hl 1 rfl) ?_
                        refine lv_bipush (v := (11 : Int32)) hx hb dX8_count_159 (by decide) ?_
                        refine lv_icmp_ne (tgt := 171) hx hb dX8_count_161 (by decide) (fun k13 => ?_) (fun k13 => ?_)
                        · have h := ite_f k13 h
                          refine lv_iload_n hx hb dX8_count_171 rfl (lv_at hl 1 rfl) ?_
                          refine lv_bipush (v := (12 : Int32)) hx hb dX8_count_172 (by decide) ?_
                          refine lv_icmp_ne (tgt := 184) hx hb dX8_count_174 (by decide) (fun k14 => ?_) (fun k14 => ?_)
                          · have h := ite_f k14 h
                            refine lv_iload_n hx hb dX8_count_184 rfl (lv_at hl 1 rfl) ?_
                            refine lv_bipush (v := (13 : Int32)) hx hb dX8_count_185 (by decide) ?_
                            refine lv_icmp_ne (tgt := 197) hx hb dX8_count_187 (by decide) (fun k15 => ?_) (fun k15 => ?_)
                            · have h := ite_f k15 h
                              refine lv_iconst (v := (-1 : Int32)) hx hb dX8_count_197 (by decide) ?_
                              have h := Option.some.inj h
                              subst h
                              subst hQ
                              exact W.iret (v := (-1 : Int32)) hx hb hr (fun t ht hW => ⟨⟨rfl, by rw [ht]; exact hP, hD⟩, hS.F ht⟩) hS.2.2 dX8_count_198
                            · have h := ite_t k15 h
                              refine lv_aload_n hx hb dX8_count_190 rfl (lv_at hl 0 rfl) ?_
                              refine va_get (D := (dC, dI)) (ci := 8) (v := .int (o0.1 21)) (C := RX8) (T := TX8) (N := 36) hx hb hts hiX8 hown hKK.1 hP 0 rfl rfl 21 (by decide) (hts (.fieldLink RX8 118 "SlideLandModel" "length" "I") (List.mem_of_getElem? (i := 8) rfl)) (fun _ h9 => h9) rfl dX8_count_191 ?_
                              refine lv_goto (tgt := 198) hx hb dX8_count_194 (by decide) ?_
                              have h := Option.some.inj h
                              subst h
                              subst hQ
                              exact W.iret (v := (o0.1 21)) hx hb hr (fun t ht hW => ⟨⟨rfl, by rw [ht]; exact hP, hD⟩, hS.F ht⟩) hS.2.2 dX8_count_198
                          · have h := ite_t k14 h
                            refine lv_aload_n hx hb dX8_count_177 rfl (lv_at hl 0 rfl) ?_
                            refine va_get (D := (dC, dI)) (ci := 8) (v := .int (o0.1 20)) (C := RX8) (T := TX8) (N := 36) hx hb hts hiX8 hown hKK.1 hP 0 rfl rfl 20 (by decide) (hts (.fieldLink RX8 163 "SlideLandModel" "keeps" "I") (List.mem_of_getElem? (i := 7) rfl)) (fun _ h9 => h9) rfl dX8_count_178 ?_
                            refine lv_goto (tgt := 198) hx hb dX8_count_181 (by decide) ?_
                            have h := Option.some.inj h
                            subst h
                            subst hQ
                            exact W.iret (v := (o0.1 20)) hx hb hr (fun t ht hW => ⟨⟨rfl, by rw [ht]; exact hP, hD⟩, hS.F ht⟩) hS.2.2 dX8_count_198
                        · have h := ite_t k13 h
                          refine lv_aload_n hx hb dX8_count_164 rfl (lv_at hl 0 rfl) ?_
                          refine va_get (D := (dC, dI)) (ci := 8) (v := .int (o0.1 19)) (C := RX8) (T := TX8) (N := 36) hx hb hts hiX8 hown hKK.1 hP 0 rfl rfl 19 (by decide) (hts (.fieldLink RX8 160 "SlideLandModel" "acts" "I") (List.mem_of_getElem? (i := 6) rfl)) (fun _ h9 => h9) rfl dX8_count_165 ?_
                          refine lv_goto (tgt := 198) hx hb dX8_count_168 (by decide) ?_
                          have h := Option.some.inj h
                          subst h
                          subst hQ
                          exact W.iret (v := (o0.1 19)) hx hb hr (fun t ht hW => ⟨⟨rfl, by rw [ht]; exact hP, hD⟩, hS.F ht⟩) hS.2.2 dX8_count_198
                      · have h := ite_t k12 h
                        refine lv_aload_n hx hb dX8_count_151 rfl (lv_at hl 0 rfl) ?_
                        refine va_get (D := (dC, dI)) (ci := 8) (v := .int (o0.1 26)) (C := RX8) (T := TX8) (N := 36) hx hb hts hiX8 hown hKK.1 hP 0 rfl rfl 26 (by decide) (hts (.fieldLink RX8 166 "SlideLandModel" "asks" "I") (List.mem_of_getElem? (i := 5) rfl)) (fun _ h9 => h9) rfl dX8_count_152 ?_
                        refine lv_goto (tgt := 198) hx hb dX8_count_155 (by decide) ?_
                        have h := Option.some.inj h
                        subst h
                        subst hQ
                        exact W.iret (v := (o0.1 26)) hx hb hr (fun t ht hW => ⟨⟨rfl, by rw [ht]; exact hP, hD⟩, hS.F ht⟩) hS.2.2 dX8_count_198
                    · have h := ite_t k11 h
                      refine lv_aload_n hx hb dX8_count_126 rfl (lv_at hl 0 rfl) ?_
                      refine lv_aload_n hx hb dX8_count_127 rfl (lv_at hl 0 rfl) ?_
                      refine va_get (D := (dC, dI)) (ci := 8) (v := .ref (g0 18)) (C := RX8) (T := TX8) (N := 36) hx hb hts hiX8 hown hKK.1 hP 0 rfl rfl 18 (by decide) (hts (.fieldLink RX8 46 "SlideLandModel" "slot" "[I") (List.mem_of_getElem? (i := 4) rfl)) (fun _ h9 => h9) rfl dX8_count_128 ?_
                      refine lv_iconst (v := (0 : Int32)) hx hb dX8_count_131 (by decide) ?_
                      refine va_iald hx hb hKK.1 hP 13 1 rfl rfl (show ¬ ((0 : Int32) < 0 ∨ 312 ≤ (0 : Int32).toNatClampNeg) from by decide) dX8_count_132 ?_
                      refine lv_aload_n hx hb dX8_count_133 rfl (lv_at hl 0 rfl) ?_
                      refine va_get (D := (dC, dI)) (ci := 8) (v := .ref (g0 18)) (C := RX8) (T := TX8) (N := 36) hx hb hts hiX8 hown hKK.1 hP 0 rfl rfl 18 (by decide) (hts (.fieldLink RX8 46 "SlideLandModel" "slot" "[I") (List.mem_of_getElem? (i := 4) rfl)) (fun _ h9 => h9) rfl dX8_count_134 ?_
                      refine lv_iconst (v := (1 : Int32)) hx hb dX8_count_137 (by decide) ?_
                      refine va_iald hx hb hKK.1 hP 13 1 rfl rfl (show ¬ ((1 : Int32) < 0 ∨ 312 ≤ (1 : Int32).toNatClampNeg) from by decide) dX8_count_138 ?_
                      obtain ⟨q16, hq16, h⟩ := obd_e h
                      refine kcV (rest := []) (w2 := ([cX8 a0 g0 o0, cX8_0 cI g0 o0, cX8_1 cI g0 o0, cX8_3 cI g0 o0, cX8_4 cI g0 o0, cX8_6 cI g0 o0, cX8_8 cI g0 o0, cX8_9 cI g0 o0, cX8_10 cI g0 o0, cX8_12 cI g0 o0, cX8_13 cI g0 o0, cX8_15 cI g0 o0, cX8_17 cI g0 o0, cX8_18 cI g0 o0, cX8_22 cB g0 o0, cX8_27 cI g0 o0, cX8_28 cI g0 o0, cX8_29 cI g0 o0, cX8_30 cI g0 o0, cX8_31 cI g0 o0, cX8_32 cI g0 o0, cX8_33 cI g0 o0])) hx hb hml hown hts hKK hP hD hS hA (c_X8_pairs l dC dI cB cI cZ cO a0 g0 o0 ((o0.2 18) (0 : Int32).toNatClampNeg) ((o0.2 18) (1 : Int32).toNatClampNeg) hq16) [0, 1, 2, 3, 4, 5, 6, 7, 8, 9, 10, 11, 12, 13, 14, 15, 16, 17, 18, 19, 20, 21] (atAll_map ⟨rfl, rfl, rfl, rfl, rfl, rfl, rfl, rfl, rfl, rfl, rfl, rfl, rfl, rfl, rfl, rfl, rfl, rfl, rfl, rfl, rfl, rfl, trivial⟩) (by decide +kernel) (sameAd_map ⟨rfl, rfl, rfl, rfl, rfl, rfl, rfl, rfl, rfl, rfl, rfl, rfl, rfl, rfl, rfl, rfl, rfl, rfl, rfl, rfl, rfl, rfl, trivial⟩) (atAll_map ⟨rfl, rfl, rfl, rfl, rfl, rfl, rfl, rfl, rfl, rfl, rfl, rfl, rfl, rfl, rfl, rfl, rfl, rfl, rfl, rfl, rfl, rfl, trivial⟩) (agr_refl _ _ _) (cwV 2 hts gX8_count_X8_pairs rfl rfl rfl ⟨rfl, dsc_X8_pairs⟩ ⟨Nat.le_of_ble_eq_true rfl, Nat.le_of_ble_eq_true rfl⟩) (va_recv hKK.1 hP (ci := 8) (q0 := 0) rfl rfl) rfl hl.1 rfl (Nat.le_of_ble_eq_true rfl) dX8_count_139 ⟨Nat.zero_le _, Nat.zero_le _⟩ (fun H locs hP hD hS => ?_)
                      refine lv_goto (tgt := 198) hx hb dX8_count_142 (by decide) ?_
                      have h := Option.some.inj h
                      subst h
                      subst hQ
                      exact W.iret (v := q16) hx hb hr (fun t ht hW => ⟨⟨rfl, by rw [ht]; exact hP, hD⟩, hS.F ht⟩) hS.2.2 dX8_count_198
                  · have h := ite_t k10 h
                    refine lv_aload_n hx hb dX8_count_112 rfl (lv_at hl 0 rfl) ?_
                    refine lv_iconst (v := (0 : Int32)) hx hb dX8_count_113 (by decide) ?_
                    obtain ⟨q17, hq17, h⟩ := obd_e h
                    refine kcV (rest := []) (w2 := ([cX8 a0 g0 o0, cX8_0 cI g0 o0, cX8_1 cI g0 o0, cX8_3 cI g0 o0, cX8_4 cI g0 o0, cX8_6 cI g0 o0, cX8_8 cI g0 o0, cX8_9 cI g0 o0, cX8_10 cI g0 o0, cX8_12 cI g0 o0, cX8_13 cI g0 o0, cX8_15 cI g0 o0, cX8_17 cI g0 o0, cX8_18 cI g0 o0, cX8_22 cB g0 o0, cX8_27 cI g0 o0, cX8_28 cI g0 o0, cX8_29 cI g0 o0, cX8_30 cI g0 o0, cX8_31 cI g0 o0, cX8_32 cI g0 o0, cX8_33 cI g0 o0])) hx hb hml hown hts hKK hP hD hS hA (c_X8_wed l dC dI cB cI cZ cO a0 g0 o0 (0 : Int32) hq17) [0, 1, 2, 3, 4, 5, 6, 7, 8, 9, 10, 11, 12, 13, 14, 15, 16, 17, 18, 19, 20, 21] (atAll_map ⟨rfl, rfl, rfl, rfl, rfl, rfl, rfl, rfl, rfl, rfl, rfl, rfl, rfl, rfl, rfl, rfl, rfl, rfl, rfl, rfl, rfl, rfl, trivial⟩) (by decide +kernel) (sameAd_map ⟨rfl, rfl, rfl, rfl, rfl, rfl, rfl, rfl, rfl, rfl, rfl, rfl, rfl, rfl, rfl, rfl, rfl, rfl, rfl, rfl, rfl, rfl, trivial⟩) (atAll_map ⟨rfl, rfl, rfl, rfl, rfl, rfl, rfl, rfl, rfl, rfl, rfl, rfl, rfl, rfl, rfl, rfl, rfl, rfl, rfl, rfl, rfl, rfl, trivial⟩) (agr_refl _ _ _) (cwV 1 hts gX8_count_X8_wed rfl rfl rfl ⟨rfl, dsc_X8_wed⟩ ⟨Nat.le_of_ble_eq_true rfl, Nat.le_of_ble_eq_true rfl⟩) (va_recv hKK.1 hP (ci := 8) (q0 := 0) rfl rfl) rfl hl.1 rfl (Nat.le_of_ble_eq_true rfl) dX8_count_114 ⟨Nat.zero_le _, Nat.zero_le _⟩ (fun H locs hP hD hS => ?_)
                    refine lv_goto (tgt := 198) hx hb dX8_count_117 (by decide) ?_
                    have h := Option.some.inj h
                    subst h
                    subst hQ
                    exact W.iret (v := q17) hx hb hr (fun t ht hW => ⟨⟨rfl, by rw [ht]; exact hP, hD⟩, hS.F ht⟩) hS.2.2 dX8_count_198
                · have h := ite_t k9 h
                  refine lv_aload_n hx hb dX8_count_97 rfl (lv_at hl 0 rfl) ?_
                  refine va_get (D := (dC, dI)) (ci := 8) (v := .ref (g0 18)) (C := RX8) (T := TX8) (N := 36) hx hb hts hiX8 hown hKK.1 hP 0 rfl rfl 18 (by decide) (hts (.fieldLink RX8 46 "SlideLandModel" "slot" "[I") (List.mem_of_getElem? (i := 4) rfl)) (fun _ h9 => h9) rfl dX8_count_98 ?_
                  refine lv_iconst (v := (2 : Int32)) hx hb dX8_count_101 (by decide) ?_
                  refine va_iald hx hb hKK.1 hP 13 1 rfl rfl (show ¬ ((2 : Int32) < 0 ∨ 312 ≤ (2 : Int32).toNatClampNeg) from by decide) dX8_count_102 ?_
                  refine lv_goto (tgt := 198) hx hb dX8_count_103 (by decide) ?_
                  have h := Option.some.inj h
                  subst h
                  subst hQ
                  exact W.iret (v := ((o0.2 18) (2 : Int32).toNatClampNeg)) hx hb hr (fun t ht hW => ⟨⟨rfl, by rw [ht]; exact hP, hD⟩, hS.F ht⟩) hS.2.2 dX8_count_198
              · have h := ite_t k8 h
                refine lv_aload_n hx hb dX8_count_79 rfl (lv_at hl 0 rfl) ?_
                refine va_get (D := (dC, dI)) (ci := 8) (v := .ref (g0 18)) (C := RX8) (T := TX8) (N := 36) hx hb hts hiX8 hown hKK.1 hP 0 rfl rfl 18 (by decide) (hts (.fieldLink RX8 46 "SlideLandModel" "slot" "[I") (List.mem_of_getElem? (i := 4) rfl)) (fun _ h9 => h9) rfl dX8_count_80 ?_
                refine lv_iconst (v := (1 : Int32)) hx hb dX8_count_83 (by decide) ?_
                refine va_iald hx hb hKK.1 hP 13 1 rfl rfl (show ¬ ((1 : Int32) < 0 ∨ 312 ≤ (1 : Int32).toNatClampNeg) from by decide) dX8_count_84 ?_
                refine lv_bipush (v := (40 : Int32)) hx hb dX8_count_85 (by decide) ?_
                refine lv_iadd hx hb dX8_count_87 ?_
                refine lv_goto (tgt := 198) hx hb dX8_count_88 (by decide) ?_
                have h := Option.some.inj h
                subst h
                subst hQ
                exact W.iret (v := (((o0.2 18) (1 : Int32).toNatClampNeg) + (40 : Int32))) hx hb hr (fun t ht hW => ⟨⟨rfl, by rw [ht]; exact hP, hD⟩, hS.F ht⟩) hS.2.2 dX8_count_198
            · have h := ite_t k7 h
              refine lv_aload_n hx hb dX8_count_61 rfl (lv_at hl 0 rfl) ?_
              refine va_get (D := (dC, dI)) (ci := 8) (v := .ref (g0 18)) (C := RX8) (T := TX8) (N := 36) hx hb hts hiX8 hown hKK.1 hP 0 rfl rfl 18 (by decide) (hts (.fieldLink RX8 46 "SlideLandModel" "slot" "[I") (List.mem_of_getElem? (i := 4) rfl)) (fun _ h9 => h9) rfl dX8_count_62 ?_
              refine lv_iconst (v := (0 : Int32)) hx hb dX8_count_65 (by decide) ?_
              refine va_iald hx hb hKK.1 hP 13 1 rfl rfl (show ¬ ((0 : Int32) < 0 ∨ 312 ≤ (0 : Int32).toNatClampNeg) from by decide) dX8_count_66 ?_
              refine lv_bipush (v := (40 : Int32)) hx hb dX8_count_67 (by decide) ?_
              refine lv_iadd hx hb dX8_count_69 ?_
              refine lv_goto (tgt := 198) hx hb dX8_count_70 (by decide) ?_
              have h := Option.some.inj h
              subst h
              subst hQ
              exact W.iret (v := (((o0.2 18) (0 : Int32).toNatClampNeg) + (40 : Int32))) hx hb hr (fun t ht hW => ⟨⟨rfl, by rw [ht]; exact hP, hD⟩, hS.F ht⟩) hS.2.2 dX8_count_198
          · have h := ite_t k6 h
            refine lv_aload_n hx hb dX8_count_47 rfl (lv_at hl 0 rfl) ?_
            refine va_get (D := (dC, dI)) (ci := 8) (v := .ref (g0 18)) (C := RX8) (T := TX8) (N := 36) hx hb hts hiX8 hown hKK.1 hP 0 rfl rfl 18 (by decide) (hts (.fieldLink RX8 46 "SlideLandModel" "slot" "[I") (List.mem_of_getElem? (i := 4) rfl)) (fun _ h9 => h9) rfl dX8_count_48 ?_
            refine lv_iconst (v := (3 : Int32)) hx hb dX8_count_51 (by decide) ?_
            refine va_iald hx hb hKK.1 hP 13 1 rfl rfl (show ¬ ((3 : Int32) < 0 ∨ 312 ≤ (3 : Int32).toNatClampNeg) from by decide) dX8_count_52 ?_
            refine lv_goto (tgt := 198) hx hb dX8_count_53 (by decide) ?_
            have h := Option.some.inj h
            subst h
            subst hQ
            exact W.iret (v := ((o0.2 18) (3 : Int32).toNatClampNeg)) hx hb hr (fun t ht hW => ⟨⟨rfl, by rw [ht]; exact hP, hD⟩, hS.F ht⟩) hS.2.2 dX8_count_198
        · have h := ite_t k5 h
          refine lv_aload_n hx hb dX8_count_35 rfl (lv_at hl 0 rfl) ?_
          refine va_get (D := (dC, dI)) (ci := 8) (v := .int (o0.1 5)) (C := RX8) (T := TX8) (N := 36) hx hb hts hiX8 hown hKK.1 hP 0 rfl rfl 5 (by decide) (hts (.fieldLink RX8 101 "SlideLandModel" "pushes" "I") (List.mem_of_getElem? (i := 3) rfl)) (fun _ h9 => h9) rfl dX8_count_36 ?_
          refine lv_goto (tgt := 198) hx hb dX8_count_39 (by decide) ?_
          have h := Option.some.inj h
          subst h
          subst hQ
          exact W.iret (v := (o0.1 5)) hx hb hr (fun t ht hW => ⟨⟨rfl, by rw [ht]; exact hP, hD⟩, hS.F ht⟩) hS.2.2 dX8_count_198
      · have h := ite_t k4 h
        refine lv_aload_n hx hb dX8_count_23 rfl (lv_at hl 0 rfl) ?_
        refine va_get (D := (dC, dI)) (ci := 8) (v := .int (o0.1 2)) (C := RX8) (T := TX8) (N := 36) hx hb hts hiX8 hown hKK.1 hP 0 rfl rfl 2 (by decide) (hts (.fieldLink RX8 98 "SlideLandModel" "strips" "I") (List.mem_of_getElem? (i := 2) rfl)) (fun _ h9 => h9) rfl dX8_count_24 ?_
        refine lv_goto (tgt := 198) hx hb dX8_count_27 (by decide) ?_
        have h := Option.some.inj h
        subst h
        subst hQ
        exact W.iret (v := (o0.1 2)) hx hb hr (fun t ht hW => ⟨⟨rfl, by rw [ht]; exact hP, hD⟩, hS.F ht⟩) hS.2.2 dX8_count_198
    · have h := ite_t k3 h
      exact jn9 h _ _ _ hP hD hS (lv_sub hl [0, 1] rfl)
