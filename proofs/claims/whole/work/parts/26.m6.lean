def f_X8_isSo_63 (x5_4 : Int32) (kL5 : (Bool → Int32 → Option (Bool))) (y63_0 : Bool) : Option (Bool) := bnd (x5_4 + (1 : Int32)) fun x2 : Int32 => kL5 y63_0 x2
def f_X8_isSo_62 (x5_4 : Int32) (kL5 : (Bool → Int32 → Option (Bool))) : Option (Bool) := f_X8_isSo_63 x5_4 kL5 false
def f_X8_isSo_5 (o0 : Ob) (v1 : Int32) (v2 : Int32) : Nat → Bool → Int32 → Option (Bool)
  | 0, _, _ => none
  | nn5+1, x5_3, x5_4 => if (o0.1 26) ≤ x5_4 then (some x5_3) else (if (b2i x5_3) = 0 then (f_X8_isSo_62 x5_4 (f_X8_isSo_5 o0 v1 v2 nn5)) else (if x5_4 < 0 ∨ 6 ≤ x5_4.toNatClampNeg then none else if x5_4 < 0 ∨ 6 ≤ x5_4.toNatClampNeg then none else if x5_4 < 0 ∨ 6 ≤ x5_4.toNatClampNeg then none else (f_X8_dampOf o0 ((o0.2 18) (3 : Int32).toNatClampNeg)).bind fun q7 : Int32 => (f_X8_meets o0 ((o0.2 27) x5_4.toNatClampNeg) ((o0.2 28) x5_4.toNatClampNeg) ((o0.2 29) x5_4.toNatClampNeg) v1 v2 q7).bind fun q8 : Bool => if (b2i q8) = 0 then (f_X8_isSo_62 x5_4 (f_X8_isSo_5 o0 v1 v2 nn5)) else (f_X8_isSo_63 x5_4 (f_X8_isSo_5 o0 v1 v2 nn5) true)))
def f_X8_isSo (o0 : Ob) (v1 : Int32) (v2 : Int32) : Option (Bool) := f_X8_isSo_5 o0 v1 v2 FU true (0 : Int32)
abbrev rmX8_isSo : Room := { frames := 2, cells := 0, slots := 0, locals := 50 }
theorem dsc_X8_isSo : yX8_isSo.cls ≠ "java/lang/invoke/MethodHandle" ∧ yX8_isSo.cls ≠ "java/lang/invoke/VarHandle" ∧ (parseMethodDescriptor yX8_isSo.desc).map (fun d => d.parameters.length) = some 2 := by decide +kernel
set_option maxHeartbeats 4000000 in
set_option maxRecDepth 100000 in
theorem c_X8_isSo (l : Launch) (dC : Nat → ClassId) (dI : Nat → Nat → Nat) (cB cI cZ cO : ClassId) (a0 : Nat) (g0 : Nat → Nat) (o0 : Ob) (v1 : Int32) (v2 : Int32) {r : Bool} (h : f_X8_isSo o0 v1 v2 = some r) : Ct dC dI cB cI cZ cO l yX8_isSo wsX8_isSo rmX8_isSo [.ref a0, .int v1, .int v2] ([cX8 a0 g0 o0, cX8_0 cI g0 o0, cX8_1 cI g0 o0, cX8_3 cI g0 o0, cX8_4 cI g0 o0, cX8_6 cI g0 o0, cX8_8 cI g0 o0, cX8_9 cI g0 o0, cX8_10 cI g0 o0, cX8_12 cI g0 o0, cX8_13 cI g0 o0, cX8_15 cI g0 o0, cX8_17 cI g0 o0, cX8_18 cI g0 o0, cX8_22 cB g0 o0, cX8_27 cI g0 o0, cX8_28 cI g0 o0, cX8_29 cI g0 o0, cX8_30 cI g0 o0, cX8_31 cI g0 o0, cX8_32 cI g0 o0, cX8_33 cI g0 o0]) (some (.int (b2i r))) ([cX8 a0 g0 o0, cX8_0 cI g0 o0, cX8_1 cI g0 o0, cX8_3 cI g0 o0, cX8_4 cI g0 o0, cX8_6 cI g0 o0, cX8_8 cI g0 o0, cX8_9 cI g0 o0, cX8_10 cI g0 o0, cX8_12 cI g0 o0, cX8_13 cI g0 o0, cX8_15 cI g0 o0, cX8_17 cI g0 o0, cX8_18 cI g0 o0, cX8_22 cB g0 o0, cX8_27 cI g0 o0, cX8_28 cI g0 o0, cX8_29 cI g0 o0, cX8_30 cI g0 o0, cX8_31 cI g0 o0, cX8_32 cI g0 o0, cX8_33 cI g0 o0]) := by
  intro sz
  refine Met.ofW (cc := cX8_isSo) (maxL := 5) (ret := (some .boolean)) (by decide) rfl ?_
  intro p e s m args below meth c s₁ B hml hv
  obtain ⟨rfl, hsz, hP, hKK, hD0⟩ := hv
  have hx := B.exec
  have hb := B.bytes
  have hr := B.returns
  have hts := atoms_spec (ws := wsX8_isSo) B.pre
  have hown : s.vm.findClass RX8 = some m.cls := findClass_of_methodNamed B.named
  have hlocks := B.notSynchronized
  have hiX8 : ∀ w ∈ u_ws RX8 TX8 36, w ∈ wsX8_isSo := fun w h => List.mem_cons_of_mem _ (List.mem_append_right _ h)
  subst hsz
  have hD := hD0.self (sz := s.heap.size)
  generalize hAe : va_A ([cX8 a0 g0 o0, cX8_0 cI g0 o0, cX8_1 cI g0 o0, cX8_3 cI g0 o0, cX8_4 cI g0 o0, cX8_6 cI g0 o0, cX8_8 cI g0 o0, cX8_9 cI g0 o0, cX8_10 cI g0 o0, cX8_12 cI g0 o0, cX8_13 cI g0 o0, cX8_15 cI g0 o0, cX8_17 cI g0 o0, cX8_18 cI g0 o0, cX8_22 cB g0 o0, cX8_27 cI g0 o0, cX8_28 cI g0 o0, cX8_29 cI g0 o0, cX8_30 cI g0 o0, cX8_31 cI g0 o0, cX8_32 cI g0 o0, cX8_33 cI g0 o0]) s.heap.size = A at hD ⊢
  have hA : ∀ q : Nat, s.heap.size ≤ q → A q := fun q h => by rw [← hAe]; exact Or.inr h
  have hS : va_S A s.heap s.heap [] := va_S.rf
  have hP : va_P (dC, dI) vwCl ([cX8 a0 g0 o0, cX8_0 cI g0 o0, cX8_1 cI g0 o0, cX8_3 cI g0 o0, cX8_4 cI g0 o0, cX8_6 cI g0 o0, cX8_8 cI g0 o0, cX8_9 cI g0 o0, cX8_10 cI g0 o0, cX8_12 cI g0 o0, cX8_13 cI g0 o0, cX8_15 cI g0 o0, cX8_17 cI g0 o0, cX8_18 cI g0 o0, cX8_22 cB g0 o0, cX8_27 cI g0 o0, cX8_28 cI g0 o0, cX8_29 cI g0 o0, cX8_30 cI g0 o0, cX8_31 cI g0 o0, cX8_32 cI g0 o0, cX8_33 cI g0 o0]) s.heap := hP
  have hD : va_D A ([cX8 a0 g0 o0, cX8_0 cI g0 o0, cX8_1 cI g0 o0, cX8_3 cI g0 o0, cX8_4 cI g0 o0, cX8_6 cI g0 o0, cX8_8 cI g0 o0, cX8_9 cI g0 o0, cX8_10 cI g0 o0, cX8_12 cI g0 o0, cX8_13 cI g0 o0, cX8_15 cI g0 o0, cX8_17 cI g0 o0, cX8_18 cI g0 o0, cX8_22 cB g0 o0, cX8_27 cI g0 o0, cX8_28 cI g0 o0, cX8_29 cI g0 o0, cX8_30 cI g0 o0, cX8_31 cI g0 o0, cX8_32 cI g0 o0, cX8_33 cI g0 o0]) := hD
  have hl := lv_entry ([.ref a0, .int v1, .int v2]) (n := 5) (Nat.le_of_ble_eq_true rfl)
  rw [lg_entry_eq]
  generalize (lg_sl ([.ref a0, .int v1, .int v2]) ++ List.replicate (5 - (lg_sl ([.ref a0, .int v1, .int v2])).length) Slot.unset).toArray = ls at hl ⊢
  have hl : lv_has ls 5 [(0, .ref a0), (1, .int v1), (2, .int v2)] := hl
  obtain ⟨Q, hQ⟩ : ∃ Q, Q = MQ below (Qq dC dI (some (.int (b2i r))) ([cX8 a0 g0 o0, cX8_0 cI g0 o0, cX8_1 cI g0 o0, cX8_3 cI g0 o0, cX8_4 cI g0 o0, cX8_6 cI g0 o0, cX8_8 cI g0 o0, cX8_9 cI g0 o0, cX8_10 cI g0 o0, cX8_12 cI g0 o0, cX8_13 cI g0 o0, cX8_15 cI g0 o0, cX8_17 cI g0 o0, cX8_18 cI g0 o0, cX8_22 cB g0 o0, cX8_27 cI g0 o0, cX8_28 cI g0 o0, cX8_29 cI g0 o0, cX8_30 cI g0 o0, cX8_31 cI g0 o0, cX8_32 cI g0 o0, cX8_33 cI g0 o0]) A) ([.ref a0, .int v1, .int v2] : List Value).toArray s 0 0 A := ⟨_, rfl⟩
  rw [← hQ]
  rw [f_X8_isSo] at h
  clear hAe hD0
  refine lv_iconst (v := (1 : Int32)) hx hb dX8_isSo_0 (by decide) ?_
  refine lv_istore_n (lv' := [(3, .int (1 : Int32)), (0, .ref a0), (1, .int v1), (2, .int v2)]) hx hb dX8_isSo_1 rfl hl (by decide) rfl (fun ls hl => ?_)
  refine lv_iconst (v := (0 : Int32)) hx hb dX8_isSo_2 (by decide) ?_
  refine lv_istore (lv' := [(4, .int (0 : Int32)), (3, .int (1 : Int32)), (0, .ref a0), (1, .int v1), (2, .int v2)]) hx hb dX8_isSo_3 hl (by decide) rfl (fun ls hl => ?_)
  have lp5 : ∀ (nn5 : Nat) (x5_3 : Bool) (x5_4 : Int32), f_X8_isSo_5 o0 v1 v2 nn5 x5_3 x5_4 = some r → ∀ (H : Heap) (locs : List Loc) (ls : Array Slot), va_P (dC, dI) vwCl ([cX8 a0 g0 o0, cX8_0 cI g0 o0, cX8_1 cI g0 o0, cX8_3 cI g0 o0, cX8_4 cI g0 o0, cX8_6 cI g0 o0, cX8_8 cI g0 o0, cX8_9 cI g0 o0, cX8_10 cI g0 o0, cX8_12 cI g0 o0, cX8_13 cI g0 o0, cX8_15 cI g0 o0, cX8_17 cI g0 o0, cX8_18 cI g0 o0, cX8_22 cB g0 o0, cX8_27 cI g0 o0, cX8_28 cI g0 o0, cX8_29 cI g0 o0, cX8_30 cI g0 o0, cX8_31 cI g0 o0, cX8_32 cI g0 o0, cX8_33 cI g0 o0]) H → va_D A ([cX8 a0 g0 o0, cX8_0 cI g0 o0, cX8_1 cI g0 o0, cX8_3 cI g0 o0, cX8_4 cI g0 o0, cX8_6 cI g0 o0, cX8_8 cI g0 o0, cX8_9 cI g0 o0, cX8_10 cI g0 o0, cX8_12 cI g0 o0, cX8_13 cI g0 o0, cX8_15 cI g0 o0, cX8_17 cI g0 o0, cX8_18 cI g0 o0, cX8_22 cB g0 o0, cX8_27 cI g0 o0, cX8_28 cI g0 o0, cX8_29 cI g0 o0, cX8_30 cI g0 o0, cX8_31 cI g0 o0, cX8_32 cI g0 o0, cX8_33 cI g0 o0]) → va_S A s.heap H locs → lv_has ls 5 [(0, .ref a0), (1, .int v1), (2, .int v2), (3, .int (b2i x5_3)), (4, .int x5_4)] → W p l e (headSpec wsX8_isSo rmX8_isSo).room s m ([.ref a0, .int v1, .int v2] : List Value).toArray below meth c H locs 0 0 Q (F0 m 5 ls []) := by
    intro nn5
    induction nn5 with
    | zero => intro x5_3 x5_4 h; rw [f_X8_isSo_5] at h; cases h
    | succ nn5 ih5 =>
      intro x5_3 x5_4 h H locs ls hP hD hS hl
      rw [f_X8_isSo_5] at h
      refine lv_iload hx hb dX8_isSo_5 (lv_at hl 4 rfl) ?_
      refine lv_aload_n hx hb dX8_isSo_7 rfl (lv_at hl 0 rfl) ?_
      refine va_get (D := (dC, dI)) (ci := 8) (v := .int (o0.1 26)) (C := RX8) (T := TX8) (N := 36) hx hb hts hiX8 hown hKK.1 hP 0 rfl rfl 26 (by decide) (hts (.fieldLink RX8 166 "SlideLandModel" "asks" "I") (List.mem_of_getElem? (i := 1) rfl)) (fun _ h9 => h9) rfl dX8_isSo_8 ?_
      refine lv_icmp_ge (tgt := 70) hx hb dX8_isSo_11 (by decide) (fun k1 => ?_) (fun k1 => ?_)
      · have h := ite_t k1 h
        refine lv_iload_n hx hb dX8_isSo_70 rfl (lv_at hl 3 rfl) ?_
        have h := Option.some.inj h
        subst h
        subst hQ
        exact W.zret (v := (b2i x5_3)) hx hb hr (b2i_nar _) (fun t ht hW => ⟨⟨rfl, by rw [ht]; exact hP, hD⟩, hS.F ht⟩) hS.2.2 dX8_isSo_71
      · have h := ite_f k1 h
        refine lv_iload_n hx hb dX8_isSo_14 rfl (lv_at hl 3 rfl) ?_
        have jn63 : ∀ (y63_0 : Bool), f_X8_isSo_63 x5_4 (f_X8_isSo_5 o0 v1 v2 nn5) y63_0 = some r → ∀ (H : Heap) (locs : List Loc) (ls : Array Slot), va_P (dC, dI) vwCl ([cX8 a0 g0 o0, cX8_0 cI g0 o0, cX8_1 cI g0 o0, cX8_3 cI g0 o0, cX8_4 cI g0 o0, cX8_6 cI g0 o0, cX8_8 cI g0 o0, cX8_9 cI g0 o0, cX8_10 cI g0 o0, cX8_12 cI g0 o0, cX8_13 cI g0 o0, cX8_15 cI g0 o0, cX8_17 cI g0 o0, cX8_18 cI g0 o0, cX8_22 cB g0 o0, cX8_27 cI g0 o0, cX8_28 cI g0 o0, cX8_29 cI g0 o0, cX8_30 cI g0 o0, cX8_31 cI g0 o0, cX8_32 cI g0 o0, cX8_33 cI g0 o0]) H → va_D A ([cX8 a0 g0 o0, cX8_0 cI g0 o0, cX8_1 cI g0 o0, cX8_3 cI g0 o0, cX8_4 cI g0 o0, cX8_6 cI g0 o0, cX8_8 cI g0 o0, cX8_9 cI g0 o0, cX8_10 cI g0 o0, cX8_12 cI g0 o0, cX8_13 cI g0 o0, cX8_15 cI g0 o0, cX8_17 cI g0 o0, cX8_18 cI g0 o0, cX8_22 cB g0 o0, cX8_27 cI g0 o0, cX8_28 cI g0 o0, cX8_29 cI g0 o0, cX8_30 cI g0 o0, cX8_31 cI g0 o0, cX8_32 cI g0 o0, cX8_33 cI g0 o0]) → va_S A s.heap H locs → lv_has ls 5 [(0, .ref a0), (1, .int v1), (2, .int v2), (4, .int x5_4)] → W p l e (headSpec wsX8_isSo rmX8_isSo).room s m ([.ref a0, .int v1, .int v2] : List Value).toArray below meth c H locs 0 0 Q (F0 m 63 ls [.int (b2i y63_0)]) := by
          intro y63_0 h H locs ls hP hD hS hl
          rw [f_X8_isSo_63] at h
          refine lv_istore_n (lv' := [(3, .int (b2i y63_0)), (0, .ref a0), (1, .int v1), (2, .int v2), (4, .int x5_4)]) hx hb dX8_isSo_63 rfl hl (by decide) rfl (fun ls hl => ?_)
          obtain ⟨x2, hx2, h⟩ := bnd_e h
          refine lv_iinc (v := x2) (lv' := [(4, .int x2), (3, .int (b2i y63_0)), (0, .ref a0), (1, .int v1), (2, .int v2)]) hx hb dX8_isSo_64 hl (k := 4) rfl (by rw [← hx2]; rfl) (by decide) rfl (fun ls hl => ?_)
          refine lv_goto (tgt := 5) hx hb dX8_isSo_67 (by decide) ?_
          exact ih5 y63_0 x2 h _ _ _ hP hD hS (lv_sub hl [2, 3, 4, 1, 0] rfl)
        have jn62 : f_X8_isSo_62 x5_4 (f_X8_isSo_5 o0 v1 v2 nn5) = some r → ∀ (H : Heap) (locs : List Loc) (ls : Array Slot), va_P (dC, dI) vwCl ([cX8 a0 g0 o0, cX8_0 cI g0 o0, cX8_1 cI g0 o0, cX8_3 cI g0 o0, cX8_4 cI g0 o0, cX8_6 cI g0 o0, cX8_8 cI g0 o0, cX8_9 cI g0 o0, cX8_10 cI g0 o0, cX8_12 cI g0 o0, cX8_13 cI g0 o0, cX8_15 cI g0 o0, cX8_17 cI g0 o0, cX8_18 cI g0 o0, cX8_22 cB g0 o0, cX8_27 cI g0 o0, cX8_28 cI g0 o0, cX8_29 cI g0 o0, cX8_30 cI g0 o0, cX8_31 cI g0 o0, cX8_32 cI g0 o0, cX8_33 cI g0 o0]) H → va_D A ([cX8 a0 g0 o0, cX8_0 cI g0 o0, cX8_1 cI g0 o0, cX8_3 cI g0 o0, cX8_4 cI g0 o0, cX8_6 cI g0 o0, cX8_8 cI g0 o0, cX8_9 cI g0 o0, cX8_10 cI g0 o0, cX8_12 cI g0 o0, cX8_13 cI g0 o0, cX8_15 cI g0 o0, cX8_17 cI g0 o0, cX8_18 cI g0 o0, cX8_22 cB g0 o0, cX8_27 cI g0 o0, cX8_28 cI g0 o0, cX8_29 cI g0 o0, cX8_30 cI g0 o0, cX8_31 cI g0 o0, cX8_32 cI g0 o0, cX8_33 cI g0 o0]) → va_S A s.heap H locs → lv_has ls 5 [(0, .ref a0), (1, .int v1), (2, .int v2), (4, .int x5_4)] → W p l e (headSpec wsX8_isSo rmX8_isSo).room s m ([.ref a0, .int v1, .int v2] : List Value).toArray below meth c H locs 0 0 Q (F0 m 62 ls []) := by
          intro h H locs ls hP hD hS hl
          rw [f_X8_isSo_62] at h
          refine lv_iconst (v := (0 : Int32)) hx hb dX8_isSo_62 (by decide) ?_
          exact jn63 false h _ _ _ hP hD hS (lv_sub hl [0, 1, 2, 3] rfl)
        refine lv_if_eq (tgt := 62) hx hb dX8_isSo_15 (by decide) (fun k3 => ?_) (fun k3 => ?_)
        · have h := ite_t k3 h
          exact jn62 h _ _ _ hP hD hS (lv_sub hl [0, 1, 2, 4] rfl)
        · have h := ite_f k3 h
          refine lv_aload_n hx hb dX8_isSo_18 rfl (lv_at hl 0 rfl) ?_
          refine lv_aload_n hx hb dX8_isSo_19 rfl (lv_at hl 0 rfl) ?_
          refine va_get (D := (dC, dI)) (ci := 8) (v := .ref (g0 27)) (C := RX8) (T := TX8) (N := 36) hx hb hts hiX8 hown hKK.1 hP 0 rfl rfl 27 (by decide) (hts (.fieldLink RX8 53 "SlideLandModel" "askedStrip" "[I") (List.mem_of_getElem? (i := 2) rfl)) (fun _ h9 => h9) rfl dX8_isSo_20 ?_
          refine lv_iload hx hb dX8_isSo_23 (lv_at hl 4 rfl) ?_
          obtain ⟨k4, h⟩ := ite_n h
          refine va_iald hx hb hKK.1 hP 15 1 rfl rfl k4 dX8_isSo_25 ?_
          refine lv_aload_n hx hb dX8_isSo_26 rfl (lv_at hl 0 rfl) ?_
          refine va_get (D := (dC, dI)) (ci := 8) (v := .ref (g0 28)) (C := RX8) (T := TX8) (N := 36) hx hb hts hiX8 hown hKK.1 hP 0 rfl rfl 28 (by decide) (hts (.fieldLink RX8 56 "SlideLandModel" "askedLand" "[I") (List.mem_of_getElem? (i := 3) rfl)) (fun _ h9 => h9) rfl dX8_isSo_27 ?_
          refine lv_iload hx hb dX8_isSo_30 (lv_at hl 4 rfl) ?_
          obtain ⟨k5, h⟩ := ite_n h
          refine va_iald hx hb hKK.1 hP 16 1 rfl rfl k5 dX8_isSo_32 ?_
          refine lv_aload_n hx hb dX8_isSo_33 rfl (lv_at hl 0 rfl) ?_
          refine va_get (D := (dC, dI)) (ci := 8) (v := .ref (g0 29)) (C := RX8) (T := TX8) (N := 36) hx hb hts hiX8 hown hKK.1 hP 0 rfl rfl 29 (by decide) (hts (.fieldLink RX8 59 "SlideLandModel" "askedWho" "[I") (List.mem_of_getElem? (i := 4) rfl)) (fun _ h9 => h9) rfl dX8_isSo_34 ?_
          refine lv_iload hx hb dX8_isSo_37 (lv_at hl 4 rfl) ?_
          obtain ⟨k6, h⟩ := ite_n h
          refine va_iald hx hb hKK.1 hP 17 1 rfl rfl k6 dX8_isSo_39 ?_
          refine lv_iload_n hx hb dX8_isSo_40 rfl (lv_at hl 1 rfl) ?_
          refine lv_iload_n hx hb dX8_isSo_41 rfl (lv_at hl 2 rfl) ?_
          refine lv_aload_n hx hb dX8_isSo_42 rfl (lv_at hl 0 rfl) ?_
          refine lv_aload_n hx hb dX8_isSo_43 rfl (lv_at hl 0 rfl) ?_
          refine va_get (D := (dC, dI)) (ci := 8) (v := .ref (g0 18)) (C := RX8) (T := TX8) (N := 36) hx hb hts hiX8 hown hKK.1 hP 0 rfl rfl 18 (by decide) (hts (.fieldLink RX8 46 "SlideLandModel" "slot" "[I") (List.mem_of_getElem? (i := 5) rfl)) (fun _ h9 => h9) rfl dX8_isSo_44 ?_
          refine lv_iconst (v := (3 : Int32)) hx hb dX8_isSo_47 (by decide) ?_
          refine va_iald hx hb hKK.1 hP 13 1 rfl rfl (show ¬ ((3 : Int32) < 0 ∨ 312 ≤ (3 : Int32).toNatClampNeg) from by decide) dX8_isSo_48 ?_
          obtain ⟨q7, hq7, h⟩ := obd_e h
          refine kcV (rest := [.int v2, .int v1, .int ((o0.2 29) x5_4.toNatClampNeg), .int ((o0.2 28) x5_4.toNatClampNeg), .int ((o0.2 27) x5_4.toNatClampNeg), .ref a0]) (w2 := ([cX8 a0 g0 o0, cX8_0 cI g0 o0, cX8_1 cI g0 o0, cX8_3 cI g0 o0, cX8_4 cI g0 o0, cX8_6 cI g0 o0, cX8_8 cI g0 o0, cX8_9 cI g0 o0, cX8_10 cI g0 o0, cX8_12 cI g0 o0, cX8_13 cI g0 o0, cX8_15 cI g0 o0, cX8_17 cI g0 o0, cX8_18 cI g0 o0, cX8_22 cB g0 o0, cX8_27 cI g0 o0, cX8_28 cI g0 o0, cX8_29 cI g0 o0, cX8_30 cI g0 o0, cX8_31 cI g0 o0, cX8_32 cI g0 o0, cX8_33 cI g0 o0])) hx hb hml hown hts hKK hP hD hS hA (c_X8_dampOf l dC dI cB cI cZ cO a0 g0 o0 ((o0.2 18) (3 : Int32).toNatClampNeg) hq7) [0, 1, 2, 3, 4, 5, 6, 7, 8, 9, 10, 11, 12, 13, 14, 15, 16, 17, 18, 19, 20, 21] (atAll_map ⟨rfl, rfl, rfl, rfl, rfl, rfl, rfl, rfl, rfl, rfl, rfl, rfl, rfl, rfl, rfl, rfl, rfl, rfl, rfl, rfl, rfl, rfl, trivial⟩) (by decide +kernel) (sameAd_map ⟨rfl, rfl, rfl, rfl, rfl, rfl, rfl, rfl, rfl, rfl, rfl, rfl, rfl, rfl, rfl, rfl, rfl, rfl, rfl, rfl, rfl, rfl, trivial⟩) (atAll_map ⟨rfl, rfl, rfl, rfl, rfl, rfl, rfl, rfl, rfl, rfl, rfl, rfl, rfl, rfl, rfl, rfl, rfl, rfl, rfl, rfl, rfl, rfl, trivial⟩) (agr_refl _ _ _) (cwV 1 hts gX8_isSo_X8_dampOf rfl rfl rfl ⟨rfl, dsc_X8_dampOf⟩ ⟨Nat.le_of_ble_eq_true rfl, Nat.le_of_ble_eq_true rfl⟩) (va_recv hKK.1 hP (ci := 8) (q0 := 0) rfl rfl) rfl hl.1 rfl (Nat.le_of_ble_eq_true rfl) dX8_isSo_49 ⟨Nat.zero_le _, Nat.zero_le _⟩ (fun H locs hP hD hS => ?_)
          obtain ⟨q8, hq8, h⟩ := obd_e h
          refine kcV (rest := []) (w2 := ([cX8 a0 g0 o0, cX8_0 cI g0 o0, cX8_1 cI g0 o0, cX8_3 cI g0 o0, cX8_4 cI g0 o0, cX8_6 cI g0 o0, cX8_8 cI g0 o0, cX8_9 cI g0 o0, cX8_10 cI g0 o0, cX8_12 cI g0 o0, cX8_13 cI g0 o0, cX8_15 cI g0 o0, cX8_17 cI g0 o0, cX8_18 cI g0 o0, cX8_22 cB g0 o0, cX8_27 cI g0 o0, cX8_28 cI g0 o0, cX8_29 cI g0 o0, cX8_30 cI g0 o0, cX8_31 cI g0 o0, cX8_32 cI g0 o0, cX8_33 cI g0 o0])) hx hb hml hown hts hKK hP hD hS hA (c_X8_meets l dC dI cB cI cZ cO a0 g0 o0 ((o0.2 27) x5_4.toNatClampNeg) ((o0.2 28) x5_4.toNatClampNeg) ((o0.2 29) x5_4.toNatClampNeg) v1 v2 q7 hq8) [0, 1, 2, 3, 4, 5, 6, 7, 8, 9, 10, 11, 12, 13, 14, 15, 16, 17, 18, 19, 20, 21] (atAll_map ⟨rfl, rfl, rfl, rfl, rfl, rfl, rfl, rfl, rfl, rfl, rfl, rfl, rfl, rfl, rfl, rfl, rfl, rfl, rfl, rfl, rfl, rfl, trivial⟩) (by decide +kernel) (sameAd_map ⟨rfl, rfl, rfl, rfl, rfl, rfl, rfl, rfl, rfl, rfl, rfl, rfl, rfl, rfl, rfl, rfl, rfl, rfl, rfl, rfl, rfl, rfl, trivial⟩) (atAll_map ⟨rfl, rfl, rfl, rfl, rfl, rfl, rfl, rfl, rfl, rfl, rfl, rfl, rfl, rfl, rfl, rfl, rfl, rfl, rfl, rfl, rfl, rfl, trivial⟩) (agr_refl _ _ _) (cwV 6 hts gX8_isSo_X8_meets rfl rfl rfl ⟨rfl, dsc_X8_meets⟩ ⟨Nat.le_of_ble_eq_true rfl, Nat.le_of_ble_eq_true rfl⟩) (va_recv hKK.1 hP (ci := 8) (q0 := 0) rfl rfl) rfl hl.1 rfl (Nat.le_of_ble_eq_true rfl) dX8_isSo_52 ⟨Nat.zero_le _, Nat.zero_le _⟩ (fun H locs hP hD hS => ?_)
          refine lv_if_eq (tgt := 62) hx hb dX8_isSo_55 (by decide) (fun k9 => ?_) (fun k9 => ?_)
          · have h := ite_t k9 h
            exact jn62 h _ _ _ hP hD hS (lv_sub hl [0, 1, 2, 4] rfl)
          · have h := ite_f k9 h
            refine lv_iconst (v := (1 : Int32)) hx hb dX8_isSo_58 (by decide) ?_
            refine lv_goto (tgt := 63) hx hb dX8_isSo_59 (by decide) ?_
            exact jn63 true h _ _ _ hP hD hS (lv_sub hl [0, 1, 2, 4] rfl)
  exact lp5 FU true (0 : Int32) h _ _ _ hP hD hS (lv_sub hl [2, 3, 4, 1, 0] rfl)
def f_X8_behindPush (o0 : Ob) (v1 : Int32) (v2 : Int32) : Option (Int32) := bnd ((v1 / (81 : Int32)) - (40 : Int32)) fun x1 : Int32 => if (v2 / (2 : Int32)) < 0 ∨ 4 ≤ (v2 / (2 : Int32)).toNatClampNeg then none else bnd (f_X8_pushed x1 ((o0.2 6) (v2 / (2 : Int32)).toNatClampNeg) (v2 - v2 / (2 : Int32) * (2 : Int32))) fun q3 : Int32 => bnd (f_X8_state q3 x1) fun q4 : Int32 => some q4
abbrev rmX8_behindPush : Room := { frames := 2, cells := 0, slots := 0, locals := 43 }
theorem dsc_X8_behindPush : yX8_behindPush.cls ≠ "java/lang/invoke/MethodHandle" ∧ yX8_behindPush.cls ≠ "java/lang/invoke/VarHandle" ∧ (parseMethodDescriptor yX8_behindPush.desc).map (fun d => d.parameters.length) = some 2 := by decide +kernel
set_option maxHeartbeats 4000000 in
set_option maxRecDepth 100000 in
theorem c_X8_behindPush (l : Launch) (dC : Nat → ClassId) (dI : Nat → Nat → Nat) (cB cI cZ cO : ClassId) (a0 : Nat) (g0 : Nat → Nat) (o0 : Ob) (v1 : Int32) (v2 : Int32) {r : Int32} (h : f_X8_behindPush o0 v1 v2 = some r) : Ct dC dI cB cI cZ cO l yX8_behindPush wsX8_behindPush rmX8_behindPush [.ref a0, .int v1, .int v2] ([cX8 a0 g0 o0, cX8_0 cI g0 o0, cX8_1 cI g0 o0, cX8_3 cI g0 o0, cX8_4 cI g0 o0, cX8_6 cI g0 o0, cX8_8 cI g0 o0, cX8_9 cI g0 o0, cX8_10 cI g0 o0, cX8_12 cI g0 o0, cX8_13 cI g0 o0, cX8_15 cI g0 o0, cX8_17 cI g0 o0, cX8_18 cI g0 o0, cX8_22 cB g0 o0, cX8_27 cI g0 o0, cX8_28 cI g0 o0, cX8_29 cI g0 o0, cX8_30 cI g0 o0, cX8_31 cI g0 o0, cX8_32 cI g0 o0, cX8_33 cI g0 o0]) (some (.int r)) ([cX8 a0 g0 o0, cX8_0 cI g0 o0, cX8_1 cI g0 o0, cX8_3 cI g0 o0, cX8_4 cI g0 o0, cX8_6 cI g0 o0, cX8_8 cI g0 o0, cX8_9 cI g0 o0, cX8_10 cI g0 o0, cX8_12 cI g0 o0, cX8_13 cI g0 o0, cX8_15 cI g0 o0, cX8_17 cI g0 o0, cX8_18 cI g0 o0, cX8_22 cB g0 o0, cX8_27 cI g0 o0, cX8_28 cI g0 o0, cX8_29 cI g0 o0, cX8_30 cI g0 o0, cX8_31 cI g0 o0, cX8_32 cI g0 o0, cX8_33 cI g0 o0]) := by
  intro sz
  refine Met.ofW (cc := cX8_behindPush) (maxL := 4) (ret := (some .int)) (by decide) rfl ?_
  intro p e s m args below meth c s₁ B hml hv
  obtain ⟨rfl, hsz, hP, hKK, hD0⟩ := hv
  have hx := B.exec
  have hb := B.bytes
  have hr := B.returns
  have hts := atoms_spec (ws := wsX8_behindPush) B.pre
  have hown : s.vm.findClass RX8 = some m.cls := findClass_of_methodNamed B.named
  have hlocks := B.notSynchronized
  have hiX8 : ∀ w ∈ u_ws RX8 TX8 36, w ∈ wsX8_behindPush := fun w h => List.mem_cons_of_mem _ (List.mem_append_right _ h)
  subst hsz
  have hD := hD0.self (sz := s.heap.size)
  generalize hAe : va_A ([cX8 a0 g0 o0, cX8_0 cI g0 o0, cX8_1 cI g0 o0, cX8_3 cI g0 o0, cX8_4 cI g0 o0, cX8_6 cI g0 o0, cX8_8 cI g0 o0, cX8_9 cI g0 o0, cX8_10 cI g0 o0, cX8_12 cI g0 o0, cX8_13 cI g0 o0, cX8_15 cI g0 o0, cX8_17 cI g0 o0, cX8_18 cI g0 o0, cX8_22 cB g0 o0, cX8_27 cI g0 o0, cX8_28 cI g0 o0, cX8_29 cI g0 o0, cX8_30 cI g0 o0, cX8_31 cI g0 o0, cX8_32 cI g0 o0, cX8_33 cI g0 o0]) s.heap.size = A at hD ⊢
  have hA : ∀ q : Nat, s.heap.size ≤ q → A q := fun q h => by rw [← hAe]; exact Or.inr h
  have hS : va_S A s.heap s.heap [] := va_S.rf
  have hP : va_P (dC, dI) vwCl ([cX8 a0 g0 o0, cX8_0 cI g0 o0, cX8_1 cI g0 o0, cX8_3 cI g0 o0, cX8_4 cI g0 o0, cX8_6 cI g0 o0, cX8_8 cI g0 o0, cX8_9 cI g0 o0, cX8_10 cI g0 o0, cX8_12 cI g0 o0, cX8_13 cI g0 o0, cX8_15 cI g0 o0, cX8_17 cI g0 o0, cX8_18 cI g0 o0, cX8_22 cB g0 o0, cX8_27 cI g0 o0, cX8_28 cI g0 o0, cX8_29 cI g0 o0, cX8_30 cI g0 o0, cX8_31 cI g0 o0, cX8_32 cI g0 o0, cX8_33 cI g0 o0]) s.heap := hP
  have hD : va_D A ([cX8 a0 g0 o0, cX8_0 cI g0 o0, cX8_1 cI g0 o0, cX8_3 cI g0 o0, cX8_4 cI g0 o0, cX8_6 cI g0 o0, cX8_8 cI g0 o0, cX8_9 cI g0 o0, cX8_10 cI g0 o0, cX8_12 cI g0 o0, cX8_13 cI g0 o0, cX8_15 cI g0 o0, cX8_17 cI g0 o0, cX8_18 cI g0 o0, cX8_22 cB g0 o0, cX8_27 cI g0 o0, cX8_28 cI g0 o0, cX8_29 cI g0 o0, cX8_30 cI g0 o0, cX8_31 cI g0 o0, cX8_32 cI g0 o0, cX8_33 cI g0 o0]) := hD
  have hl := lv_entry ([.ref a0, .int v1, .int v2]) (n := 4) (Nat.le_of_ble_eq_true rfl)
  rw [lg_entry_eq]
  generalize (lg_sl ([.ref a0, .int v1, .int v2]) ++ List.replicate (4 - (lg_sl ([.ref a0, .int v1, .int v2])).length) Slot.unset).toArray = ls at hl ⊢
  have hl : lv_has ls 4 [(0, .ref a0), (1, .int v1), (2, .int v2)] := hl
  obtain ⟨Q, hQ⟩ : ∃ Q, Q = MQ below (Qq dC dI (some (.int r)) ([cX8 a0 g0 o0, cX8_0 cI g0 o0, cX8_1 cI g0 o0, cX8_3 cI g0 o0, cX8_4 cI g0 o0, cX8_6 cI g0 o0, cX8_8 cI g0 o0, cX8_9 cI g0 o0, cX8_10 cI g0 o0, cX8_12 cI g0 o0, cX8_13 cI g0 o0, cX8_15 cI g0 o0, cX8_17 cI g0 o0, cX8_18 cI g0 o0, cX8_22 cB g0 o0, cX8_27 cI g0 o0, cX8_28 cI g0 o0, cX8_29 cI g0 o0, cX8_30 cI g0 o0, cX8_31 cI g0 o0, cX8_32 cI g0 o0, cX8_33 cI g0 o0]) A) ([.ref a0, .int v1, .int v2] : List Value).toArray s 0 0 A := ⟨_, rfl⟩
  rw [← hQ]
  rw [f_X8_behindPush] at h
  clear hAe hD0
  refine lv_iload_n hx hb dX8_behindPush_0 rfl (lv_at hl 1 rfl) ?_
  refine lv_bipush (v := (81 : Int32)) hx hb dX8_behindPush_1 (by decide) ?_
  refine lv_idiv hx hb dX8_behindPush_3 (by decide) ?_
  refine lv_bipush (v := (40 : Int32)) hx hb dX8_behindPush_4 (by decide) ?_
  refine lv_isub hx hb dX8_behindPush_6 ?_
  obtain ⟨x1, hx1, h⟩ := bnd_e h
  refine lv_topE hx1 ?_
  refine lv_istore_n (lv' := [(3, .int x1), (0, .ref a0), (1, .int v1), (2, .int v2)]) hx hb dX8_behindPush_7 rfl hl (by decide) rfl (fun ls hl => ?_)
  refine lv_iload_n hx hb dX8_behindPush_8 rfl (lv_at hl 0 rfl) ?_
  refine lv_aload_n hx hb dX8_behindPush_9 rfl (lv_at hl 1 rfl) ?_
  refine va_get (D := (dC, dI)) (ci := 8) (v := .ref (g0 6)) (C := RX8) (T := TX8) (N := 36) hx hb hts hiX8 hown hKK.1 hP 0 rfl rfl 6 (by decide) (hts (.fieldLink RX8 22 "SlideLandModel" "by" "[I") (List.mem_of_getElem? (i := 1) rfl)) (fun _ h9 => h9) rfl dX8_behindPush_10 ?_
  refine lv_iload_n hx hb dX8_behindPush_13 rfl (lv_at hl 3 rfl) ?_
  refine lv_iconst (v := (2 : Int32)) hx hb dX8_behindPush_14 (by decide) ?_
  refine lv_idiv hx hb dX8_behindPush_15 (by decide) ?_
  obtain ⟨k2, h⟩ := ite_n h
  refine va_iald hx hb hKK.1 hP 5 1 rfl rfl k2 dX8_behindPush_16 ?_
  refine lv_iload_n hx hb dX8_behindPush_17 rfl (lv_at hl 3 rfl) ?_
  refine lv_iconst (v := (2 : Int32)) hx hb dX8_behindPush_18 (by decide) ?_
  refine lv_irem hx hb dX8_behindPush_19 (by decide) ?_
  obtain ⟨q3, hq3, h⟩ := bnd_e h
  refine kcS (rest := []) (w2 := ([cX8 a0 g0 o0, cX8_0 cI g0 o0, cX8_1 cI g0 o0, cX8_3 cI g0 o0, cX8_4 cI g0 o0, cX8_6 cI g0 o0, cX8_8 cI g0 o0, cX8_9 cI g0 o0, cX8_10 cI g0 o0, cX8_12 cI g0 o0, cX8_13 cI g0 o0, cX8_15 cI g0 o0, cX8_17 cI g0 o0, cX8_18 cI g0 o0, cX8_22 cB g0 o0, cX8_27 cI g0 o0, cX8_28 cI g0 o0, cX8_29 cI g0 o0, cX8_30 cI g0 o0, cX8_31 cI g0 o0, cX8_32 cI g0 o0, cX8_33 cI g0 o0])) hx hb hml hown hts hKK hP hD hS hA (c_X8_pushed l dC dI cB cI cZ cO x1 ((o0.2 6) (v2 / (2 : Int32)).toNatClampNeg) (v2 - v2 / (2 : Int32) * (2 : Int32)) hq3) [] (atAll_map trivial) (by decide +kernel) (sameAd_map trivial) (atAll_map trivial) (agr_refl _ _ _) (va_cwS 3 hts gX8_behindPush_X8_pushed rfl rfl rfl dsc_X8_pushed ⟨Nat.le_of_ble_eq_true rfl, Nat.le_of_ble_eq_true rfl⟩) rfl hl.1 rfl (Nat.le_of_ble_eq_true rfl) dX8_behindPush_20 ⟨Nat.zero_le _, Nat.zero_le _⟩ (fun H locs hP hD hS => ?_)
  refine lv_iload_n hx hb dX8_behindPush_23 rfl (lv_at hl 0 rfl) ?_
  obtain ⟨q4, hq4, h⟩ := bnd_e h
  refine kcS (rest := []) (w2 := ([cX8 a0 g0 o0, cX8_0 cI g0 o0, cX8_1 cI g0 o0, cX8_3 cI g0 o0, cX8_4 cI g0 o0, cX8_6 cI g0 o0, cX8_8 cI g0 o0, cX8_9 cI g0 o0, cX8_10 cI g0 o0, cX8_12 cI g0 o0, cX8_13 cI g0 o0, cX8_15 cI g0 o0, cX8_17 cI g0 o0, cX8_18 cI g0 o0, cX8_22 cB g0 o0, cX8_27 cI g0 o0, cX8_28 cI g0 o0, cX8_29 cI g0 o0, cX8_30 cI g0 o0, cX8_31 cI g0 o0, cX8_32 cI g0 o0, cX8_33 cI g0 o0])) hx hb hml hown hts hKK hP hD hS hA (c_X8_state l dC dI cB cI cZ cO q3 x1 hq4) [] (atAll_map trivial) (by decide +kernel) (sameAd_map trivial) (atAll_map trivial) (agr_refl _ _ _) (va_cwS 2 hts gX8_behindPush_X8_state rfl rfl rfl dsc_X8_state ⟨Nat.le_of_ble_eq_true rfl, Nat.le_of_ble_eq_true rfl⟩) rfl hl.1 rfl (Nat.le_of_ble_eq_true rfl) dX8_behindPush_24 ⟨Nat.zero_le _, Nat.zero_le _⟩ (fun H locs hP hD hS => ?_)
  have h := Option.some.inj h
  subst h
  subst hQ
  exact W.iret (v := q4) hx hb hr (fun t ht hW => ⟨⟨rfl, by rw [ht]; exact hP, hD⟩, hS.F ht⟩) hS.2.2 dX8_behindPush_27
def f_X8_isGoal (o0 : Ob) (v1 : Int32) : Option (Bool) := (f_X8_isSo o0 ((v1 / (81 : Int32)) - (40 : Int32)) ((v1 - v1 / (81 : Int32) * (81 : Int32)) - (40 : Int32))).bind fun q1 : Bool => some q1
abbrev rmX8_isGoal : Room := { frames := 3, cells := 0, slots := 0, locals := 74 }
theorem dsc_X8_isGoal : yX8_isGoal.cls ≠ "java/lang/invoke/MethodHandle" ∧ yX8_isGoal.cls ≠ "java/lang/invoke/VarHandle" ∧ (parseMethodDescriptor yX8_isGoal.desc).map (fun d => d.parameters.length) = some 1 := by decide +kernel
set_option maxHeartbeats 4000000 in
set_option maxRecDepth 100000 in
theorem c_X8_isGoal (l : Launch) (dC : Nat → ClassId) (dI : Nat → Nat → Nat) (cB cI cZ cO : ClassId) (a0 : Nat) (g0 : Nat → Nat) (o0 : Ob) (v1 : Int32) {r : Bool} (h : f_X8_isGoal o0 v1 = some r) : Ct dC dI cB cI cZ cO l yX8_isGoal wsX8_isGoal rmX8_isGoal [.ref a0, .int v1] ([cX8 a0 g0 o0, cX8_0 cI g0 o0, cX8_1 cI g0 o0, cX8_3 cI g0 o0, cX8_4 cI g0 o0, cX8_6 cI g0 o0, cX8_8 cI g0 o0, cX8_9 cI g0 o0, cX8_10 cI g0 o0, cX8_12 cI g0 o0, cX8_13 cI g0 o0, cX8_15 cI g0 o0, cX8_17 cI g0 o0, cX8_18 cI g0 o0, cX8_22 cB g0 o0, cX8_27 cI g0 o0, cX8_28 cI g0 o0, cX8_29 cI g0 o0, cX8_30 cI g0 o0, cX8_31 cI g0 o0, cX8_32 cI g0 o0, cX8_33 cI g0 o0]) (some (.int (b2i r))) ([cX8 a0 g0 o0, cX8_0 cI g0 o0, cX8_1 cI g0 o0, cX8_3 cI g0 o0, cX8_4 cI g0 o0, cX8_6 cI g0 o0, cX8_8 cI g0 o0, cX8_9 cI g0 o0, cX8_10 cI g0 o0, cX8_12 cI g0 o0, cX8_13 cI g0 o0, cX8_15 cI g0 o0, cX8_17 cI g0 o0, cX8_18 cI g0 o0, cX8_22 cB g0 o0, cX8_27 cI g0 o0, cX8_28 cI g0 o0, cX8_29 cI g0 o0, cX8_30 cI g0 o0, cX8_31 cI g0 o0, cX8_32 cI g0 o0, cX8_33 cI g0 o0]) := by
  intro sz
  refine Met.ofW (cc := cX8_isGoal) (maxL := 2) (ret := (some .boolean)) (by decide) rfl ?_
  intro p e s m args below meth c s₁ B hml hv
  obtain ⟨rfl, hsz, hP, hKK, hD0⟩ := hv
  have hx := B.exec
  have hb := B.bytes
  have hr := B.returns
  have hts := atoms_spec (ws := wsX8_isGoal) B.pre
  have hown : s.vm.findClass RX8 = some m.cls := findClass_of_methodNamed B.named
  have hlocks := B.notSynchronized
  subst hsz
  have hD := hD0.self (sz := s.heap.size)
  generalize hAe : va_A ([cX8 a0 g0 o0, cX8_0 cI g0 o0, cX8_1 cI g0 o0, cX8_3 cI g0 o0, cX8_4 cI g0 o0, cX8_6 cI g0 o0, cX8_8 cI g0 o0, cX8_9 cI g0 o0, cX8_10 cI g0 o0, cX8_12 cI g0 o0, cX8_13 cI g0 o0, cX8_15 cI g0 o0, cX8_17 cI g0 o0, cX8_18 cI g0 o0, cX8_22 cB g0 o0, cX8_27 cI g0 o0, cX8_28 cI g0 o0, cX8_29 cI g0 o0, cX8_30 cI g0 o0, cX8_31 cI g0 o0, cX8_32 cI g0 o0, cX8_33 cI g0 o0]) s.heap.size = A at hD ⊢
  have hA : ∀ q : Nat, s.heap.size ≤ q → A q := fun q h => by rw [← hAe]; exact Or.inr h
  have hS : va_S A s.heap s.heap [] := va_S.rf
  have hP : va_P (dC, dI) vwCl ([cX8 a0 g0 o0, cX8_0 cI g0 o0, cX8_1 cI g0 o0, cX8_3 cI g0 o0, cX8_4 cI g0 o0, cX8_6 cI g0 o0, cX8_8 cI g0 o0, cX8_9 cI g0 o0, cX8_10 cI g0 o0, cX8_12 cI g0 o0, cX8_13 cI g0 o0, cX8_15 cI g0 o0, cX8_17 cI g0 o0, cX8_18 cI g0 o0, cX8_22 cB g0 o0, cX8_27 cI g0 o0, cX8_28 cI g0 o0, cX8_29 cI g0 o0, cX8_30 cI g0 o0, cX8_31 cI g0 o0, cX8_32 cI g0 o0, cX8_33 cI g0 o0]) s.heap := hP
  have hD : va_D A ([cX8 a0 g0 o0, cX8_0 cI g0 o0, cX8_1 cI g0 o0, cX8_3 cI g0 o0, cX8_4 cI g0 o0, cX8_6 cI g0 o0, cX8_8 cI g0 o0, cX8_9 cI g0 o0, cX8_10 cI g0 o0, cX8_12 cI g0 o0, cX8_13 cI g0 o0, cX8_15 cI g0 o0, cX8_17 cI g0 o0, cX8_18 cI g0 o0, cX8_22 cB g0 o0, cX8_27 cI g0 o0, cX8_28 cI g0 o0, cX8_29 cI g0 o0, cX8_30 cI g0 o0, cX8_31 cI g0 o0, cX8_32 cI g0 o0, cX8_33 cI g0 o0]) := hD
  have hl := lv_entry ([.ref a0, .int v1]) (n := 2) (Nat.le_of_ble_eq_true rfl)
  rw [lg_entry_eq]
  generalize (lg_sl ([.ref a0, .int v1]) ++ List.replicate (2 - (lg_sl ([.ref a0, .int v1])).length) Slot.unset).toArray = ls at hl ⊢
  have hl : lv_has ls 2 [(0, .ref a0), (1, .int v1)] := hl
  obtain ⟨Q, hQ⟩ : ∃ Q, Q = MQ below (Qq dC dI (some (.int (b2i r))) ([cX8 a0 g0 o0, cX8_0 cI g0 o0, cX8_1 cI g0 o0, cX8_3 cI g0 o0, cX8_4 cI g0 o0, cX8_6 cI g0 o0, cX8_8 cI g0 o0, cX8_9 cI g0 o0, cX8_10 cI g0 o0, cX8_12 cI g0 o0, cX8_13 cI g0 o0, cX8_15 cI g0 o0, cX8_17 cI g0 o0, cX8_18 cI g0 o0, cX8_22 cB g0 o0, cX8_27 cI g0 o0, cX8_28 cI g0 o0, cX8_29 cI g0 o0, cX8_30 cI g0 o0, cX8_31 cI g0 o0, cX8_32 cI g0 o0, cX8_33 cI g0 o0]) A) ([.ref a0, .int v1] : List Value).toArray s 0 0 A := ⟨_, rfl⟩
  rw [← hQ]
  rw [f_X8_isGoal] at h
  clear hAe hD0
  refine lv_aload_n hx hb dX8_isGoal_0 rfl (lv_at hl 0 rfl) ?_
  refine lv_iload_n hx hb dX8_isGoal_1 rfl (lv_at hl 1 rfl) ?_
  refine lv_bipush (v := (81 : Int32)) hx hb dX8_isGoal_2 (by decide) ?_
  refine lv_idiv hx hb dX8_isGoal_4 (by decide) ?_
  refine lv_bipush (v := (40 : Int32)) hx hb dX8_isGoal_5 (by decide) ?_
  refine lv_isub hx hb dX8_isGoal_7 ?_
  refine lv_iload_n hx hb dX8_isGoal_8 rfl (lv_at hl 1 rfl) ?_
  refine lv_bipush (v := (81 : Int32)) hx hb dX8_isGoal_9 (by decide) ?_
  refine lv_irem hx hb dX8_isGoal_11 (by decide) ?_
  refine lv_bipush (v := (40 : Int32)) hx hb dX8_isGoal_12 (by decide) ?_
  refine lv_isub hx hb dX8_isGoal_14 ?_
  obtain ⟨q1, hq1, h⟩ := obd_e h
  refine kcV (rest := []) (w2 := ([cX8 a0 g0 o0, cX8_0 cI g0 o0, cX8_1 cI g0 o0, cX8_3 cI g0 o0, cX8_4 cI g0 o0, cX8_6 cI g0 o0, cX8_8 cI g0 o0, cX8_9 cI g0 o0, cX8_10 cI g0 o0, cX8_12 cI g0 o0, cX8_13 cI g0 o0, cX8_15 cI g0 o0, cX8_17 cI g0 o0, cX8_18 cI g0 o0, cX8_22 cB g0 o0, cX8_27 cI g0 o0, cX8_28 cI g0 o0, cX8_29 cI g0 o0, cX8_30 cI g0 o0, cX8_31 cI g0 o0, cX8_32 cI g0 o0, cX8_33 cI g0 o0])) hx hb hml hown hts hKK hP hD hS hA (c_X8_isSo l dC dI cB cI cZ cO a0 g0 o0 ((v1 / (81 : Int32)) - (40 : Int32)) ((v1 - v1 / (81 : Int32) * (81 : Int32)) - (40 : Int32)) hq1) [0, 1, 2, 3, 4, 5, 6, 7, 8, 9, 10, 11, 12, 13, 14, 15, 16, 17, 18, 19, 20, 21] (atAll_map ⟨rfl, rfl, rfl, rfl, rfl, rfl, rfl, rfl, rfl, rfl, rfl, rfl, rfl, rfl, rfl, rfl, rfl, rfl, rfl, rfl, rfl, rfl, trivial⟩) (by decide +kernel) (sameAd_map ⟨rfl, rfl, rfl, rfl, rfl, rfl, rfl, rfl, rfl, rfl, rfl, rfl, rfl, rfl, rfl, rfl, rfl, rfl, rfl, rfl, rfl, rfl, trivial⟩) (atAll_map ⟨rfl, rfl, rfl, rfl, rfl, rfl, rfl, rfl, rfl, rfl, rfl, rfl, rfl, rfl, rfl, rfl, rfl, rfl, rfl, rfl, rfl, rfl, trivial⟩) (agr_refl _ _ _) (cwV 2 hts gX8_isGoal_X8_isSo rfl rfl rfl ⟨rfl, dsc_X8_isSo⟩ ⟨Nat.le_of_ble_eq_true rfl, Nat.le_of_ble_eq_true rfl⟩) (va_recv hKK.1 hP (ci := 8) (q0 := 0) rfl rfl) rfl hl.1 rfl (Nat.le_of_ble_eq_true rfl) dX8_isGoal_15 ⟨Nat.zero_le _, Nat.zero_le _⟩ (fun H locs hP hD hS => ?_)
  have h := Option.some.inj h
  subst h
  subst hQ
  exact W.zret (v := (b2i q1)) hx hb hr (b2i_nar _) (fun t ht hW => ⟨⟨rfl, by rw [ht]; exact hP, hD⟩, hS.F ht⟩) hS.2.2 dX8_isGoal_18
def f_X8_meeting_231 (x73_2 : Int32) (o73_0 : Ob) : Option (Int32 × Ob) := if 0 ≤ x73_2 then (if x73_2 < 0 ∨ 6561 ≤ x73_2.toNatClampNeg then none else some (((o73_0.2 30) x73_2.toNatClampNeg), o73_0)) else (some ((-4 : Int32), o73_0))
def f_X8_meeting_270 (v1 : Int32) (o73_0 : Ob) : Nat → Int32 → Int32 → Option (Int32 × Ob)
  | 0, _, _ => none
  | nn270+1, x270_3, x270_4 => if x270_4 ≤ (v1 + (1 : Int32)) then (if x270_3 < 0 ∨ 6561 ≤ x270_3.toNatClampNeg then none else if x270_3 < 0 ∨ 6561 ≤ x270_3.toNatClampNeg then none else some ((((10 : Int32) * (((o73_0.2 32) x270_3.toNatClampNeg) / (2 : Int32))) + (((o73_0.2 32) x270_3.toNatClampNeg) - ((o73_0.2 32) x270_3.toNatClampNeg) / (2 : Int32) * (2 : Int32))), o73_0)) else (if x270_3 < 0 ∨ 6561 ≤ x270_3.toNatClampNeg then none else bnd ((o73_0.2 33) x270_3.toNatClampNeg) fun x19 : Int32 => bnd (x270_4 + (-1 : Int32)) fun x20 : Int32 => (f_X8_meeting_270 v1 o73_0 nn270) x19 x20)
def f_X8_meeting_223 (v1 : Int32) (x73_2 : Int32) (o73_0 : Ob) : Option (Int32 × Ob) := if x73_2 < 0 then (f_X8_meeting_231 x73_2 o73_0) else (if 0 ≤ v1 then (if x73_2 < 0 ∨ 6561 ≤ x73_2.toNatClampNeg then none else if v1 < ((o73_0.2 30) x73_2.toNatClampNeg) then (if x73_2 < 0 ∨ 6561 ≤ x73_2.toNatClampNeg then none else bnd ((o73_0.2 30) x73_2.toNatClampNeg) fun x14 : Int32 => f_X8_meeting_270 v1 o73_0 FU x73_2 x14) else (some ((-4 : Int32), o73_0))) else (f_X8_meeting_231 x73_2 o73_0))
def f_X8_meeting_217 (x73_3 : Int32) (kL73 : (Int32 → Int32 → Ob → Option (Int32 × Ob))) (y109_0 : Int32) (o113_0 : Ob) : Option (Int32 × Ob) := bnd (x73_3 + (1 : Int32)) fun x26 : Int32 => kL73 y109_0 x26 o113_0
def f_X8_meeting_211 (x113_5 : Int32) (kL113 : (Int32 → Ob → Option (Int32 × Ob))) (o211_0 : Ob) : Option (Int32 × Ob) := bnd (x113_5 + (1 : Int32)) fun x32 : Int32 => kL113 x32 o211_0
def f_X8_meeting_113 (x73_3 : Int32) (kL73 : (Int32 → Int32 → Ob → Option (Int32 × Ob))) (x24 : Int32) (y109_0 : Int32) : Nat → Int32 → Ob → Option (Int32 × Ob)
  | 0, _, _ => none
  | nn113+1, x113_5, o113_0 => if ((2 : Int32) * (o113_0.1 5)) ≤ x113_5 then (f_X8_meeting_217 x73_3 kL73 y109_0 o113_0) else (if x24 < 0 ∨ 6561 ≤ x24.toNatClampNeg then none else if (9 : Int32) ≤ ((o113_0.2 30) x24.toNatClampNeg) then (f_X8_meeting_217 x73_3 kL73 y109_0 o113_0) else ((f_X8_behindPush o113_0 x24 x113_5).bind fun q30 : Int32 => if q30 < 0 ∨ 6561 ≤ q30.toNatClampNeg then none else if 0 ≤ ((o113_0.2 30) q30.toNatClampNeg) then (f_X8_meeting_211 x113_5 (f_X8_meeting_113 x73_3 kL73 x24 y109_0 nn113) o113_0) else (if x24 < 0 ∨ 6561 ≤ x24.toNatClampNeg then none else if q30 < 0 ∨ 6561 ≤ q30.toNatClampNeg then none else bnd (upd (o113_0.2 30) q30.toNatClampNeg (((o113_0.2 30) x24.toNatClampNeg) + (1 : Int32))) fun u36 : Nat → Int32 => if q30 < 0 ∨ 6561 ≤ q30.toNatClampNeg then none else bnd (upd (o113_0.2 32) q30.toNatClampNeg x113_5) fun u38 : Nat → Int32 => if q30 < 0 ∨ 6561 ≤ q30.toNatClampNeg then none else bnd (upd (o113_0.2 33) q30.toNatClampNeg x24) fun u40 : Nat → Int32 => if (o113_0.1 34) < 0 ∨ 6561 ≤ (o113_0.1 34).toNatClampNeg then none else bnd (upd (o113_0.2 31) (o113_0.1 34).toNatClampNeg q30) fun u42 : Nat → Int32 => bnd ((o113_0.1 34) + (1 : Int32)) fun x43 : Int32 => f_X8_meeting_211 x113_5 (f_X8_meeting_113 x73_3 kL73 x24 y109_0 nn113) (stR (stR (stR (stR (stF o113_0 34 x43) 30 u36) 31 u42) 32 u38) 33 u40))))
def f_X8_meeting_109 (x73_3 : Int32) (o73_0 : Ob) (kL73 : (Int32 → Int32 → Ob → Option (Int32 × Ob))) (x24 : Int32) (y109_0 : Int32) : Option (Int32 × Ob) := f_X8_meeting_113 x73_3 kL73 x24 y109_0 FU (0 : Int32) o73_0
def f_X8_meeting_73 (v1 : Int32) : Nat → Int32 → Int32 → Ob → Option (Int32 × Ob)
  | 0, _, _, _ => none
  | nn73+1, x73_2, x73_3, o73_0 => if (o73_0.1 34) ≤ x73_3 then (f_X8_meeting_223 v1 x73_2 o73_0) else (if 0 ≤ x73_2 then (f_X8_meeting_223 v1 x73_2 o73_0) else (if x73_3 < 0 ∨ 6561 ≤ x73_3.toNatClampNeg then none else bnd ((o73_0.2 31) x73_3.toNatClampNeg) fun x24 : Int32 => (f_X8_isGoal o73_0 x24).bind fun q25 : Bool => if (b2i q25) = 0 then (f_X8_meeting_109 x73_3 o73_0 (f_X8_meeting_73 v1 nn73) x24 (-4 : Int32)) else (f_X8_meeting_109 x73_3 o73_0 (f_X8_meeting_73 v1 nn73) x24 x24)))
def f_X8_meeting_9 (v1 : Int32) : Nat → Int32 → Ob → Option (Int32 × Ob)
  | 0, _, _ => none
  | nn9+1, x9_2, o9_0 => if (6561 : Int32) ≤ x9_2 then (bnd (f_X8_state ((o9_0.2 18) (0 : Int32).toNatClampNeg) ((o9_0.2 18) (1 : Int32).toNatClampNeg)) fun q3 : Int32 => bnd (upd (o9_0.2 31) (0 : Int32).toNatClampNeg q3) fun u4 : Nat → Int32 => if (u4 (0 : Int32).toNatClampNeg) < 0 ∨ 6561 ≤ (u4 (0 : Int32).toNatClampNeg).toNatClampNeg then none else bnd (upd (o9_0.2 30) (u4 (0 : Int32).toNatClampNeg).toNatClampNeg (0 : Int32)) fun u6 : Nat → Int32 => f_X8_meeting_73 v1 FU (-4 : Int32) (0 : Int32) (stR (stR (stF o9_0 34 (1 : Int32)) 30 u6) 31 u4)) else (if x9_2 < 0 ∨ 6561 ≤ x9_2.toNatClampNeg then none else bnd (upd (o9_0.2 30) x9_2.toNatClampNeg (-4 : Int32)) fun u46 : Nat → Int32 => bnd (x9_2 + (1 : Int32)) fun x47 : Int32 => (f_X8_meeting_9 v1 nn9) x47 (stR o9_0 30 u46))
def f_X8_meeting (o0 : Ob) (v1 : Int32) : Option (Int32 × Ob) := if (-1 : Int32) ≤ v1 then (f_X8_meeting_9 v1 FU (0 : Int32) o0) else (some ((-1 : Int32), o0))
abbrev rmX8_meeting : Room := { frames := 4, cells := 0, slots := 0, locals := 95 }
theorem dsc_X8_meeting : yX8_meeting.cls ≠ "java/lang/invoke/MethodHandle" ∧ yX8_meeting.cls ≠ "java/lang/invoke/VarHandle" ∧ (parseMethodDescriptor yX8_meeting.desc).map (fun d => d.parameters.length) = some 1 := by decide +kernel
set_option maxHeartbeats 4000000 in
set_option maxRecDepth 100000 in
theorem c_X8_meeting (l : Launch) (dC : Nat → ClassId) (dI : Nat → Nat → Nat) (cB cI cZ cO : ClassId) (a0 : Nat) (g0 : Nat → Nat) (o0 : Ob) (v1 : Int32) {r : Int32 × Ob} (h : f_X8_meeting o0 v1 = some r) : Ct dC dI cB cI cZ cO l yX8_meeting wsX8_meeting rmX8_meeting [.ref a0, .int v1] ([cX8 a0 g0 o0, cX8_0 cI g0 o0, cX8_1 cI g0 o0, cX8_3 cI g0 o0, cX8_4 cI g0 o0, cX8_6 cI g0 o0, cX8_8 cI g0 o0, cX8_9 cI g0 o0, cX8_10 cI g0 o0, cX8_12 cI g0 o0, cX8_13 cI g0 o0, cX8_15 cI g0 o0, cX8_17 cI g0 o0, cX8_18 cI g0 o0, cX8_22 cB g0 o0, cX8_27 cI g0 o0, cX8_28 cI g0 o0, cX8_29 cI g0 o0, cX8_30 cI g0 o0, cX8_31 cI g0 o0, cX8_32 cI g0 o0, cX8_33 cI g0 o0]) (some (.int r.1)) ([cX8 a0 g0 r.2, cX8_0 cI g0 r.2, cX8_1 cI g0 r.2, cX8_3 cI g0 r.2, cX8_4 cI g0 r.2, cX8_6 cI g0 r.2, cX8_8 cI g0 r.2, cX8_9 cI g0 r.2, cX8_10 cI g0 r.2, cX8_12 cI g0 r.2, cX8_13 cI g0 r.2, cX8_15 cI g0 r.2, cX8_17 cI g0 r.2, cX8_18 cI g0 r.2, cX8_22 cB g0 r.2, cX8_27 cI g0 r.2, cX8_28 cI g0 r.2, cX8_29 cI g0 r.2, cX8_30 cI g0 r.2, cX8_31 cI g0 r.2, cX8_32 cI g0 r.2, cX8_33 cI g0 r.2]) := by
  intro sz
  refine Met.ofW (cc := cX8_meeting) (maxL := 7) (ret := (some .int)) (by decide) rfl ?_
  intro p e s m args below meth c s₁ B hml hv
  obtain ⟨rfl, hsz, hP, hKK, hD0⟩ := hv
  have hx := B.exec
  have hb := B.bytes
  have hr := B.returns
  have hts := atoms_spec (ws := wsX8_meeting) B.pre
  have hown : s.vm.findClass RX8 = some m.cls := findClass_of_methodNamed B.named
  have hlocks := B.notSynchronized
  have hiX8 : ∀ w ∈ u_ws RX8 TX8 36, w ∈ wsX8_meeting := fun w h => List.mem_cons_of_mem _ (List.mem_append_right _ h)
  subst hsz
  have hD := hD0.self (sz := s.heap.size)
  generalize hAe : va_A ([cX8 a0 g0 o0, cX8_0 cI g0 o0, cX8_1 cI g0 o0, cX8_3 cI g0 o0, cX8_4 cI g0 o0, cX8_6 cI g0 o0, cX8_8 cI g0 o0, cX8_9 cI g0 o0, cX8_10 cI g0 o0, cX8_12 cI g0 o0, cX8_13 cI g0 o0, cX8_15 cI g0 o0, cX8_17 cI g0 o0, cX8_18 cI g0 o0, cX8_22 cB g0 o0, cX8_27 cI g0 o0, cX8_28 cI g0 o0, cX8_29 cI g0 o0, cX8_30 cI g0 o0, cX8_31 cI g0 o0, cX8_32 cI g0 o0, cX8_33 cI g0 o0]) s.heap.size = A at hD ⊢
  have hA : ∀ q : Nat, s.heap.size ≤ q → A q := fun q h => by rw [← hAe]; exact Or.inr h
  have hS : va_S A s.heap s.heap [] := va_S.rf
  have hP : va_P (dC, dI) vwCl ([cX8 a0 g0 o0, cX8_0 cI g0 o0, cX8_1 cI g0 o0, cX8_3 cI g0 o0, cX8_4 cI g0 o0, cX8_6 cI g0 o0, cX8_8 cI g0 o0, cX8_9 cI g0 o0, cX8_10 cI g0 o0, cX8_12 cI g0 o0, cX8_13 cI g0 o0, cX8_15 cI g0 o0, cX8_17 cI g0 o0, cX8_18 cI g0 o0, cX8_22 cB g0 o0, cX8_27 cI g0 o0, cX8_28 cI g0 o0, cX8_29 cI g0 o0, cX8_30 cI g0 o0, cX8_31 cI g0 o0, cX8_32 cI g0 o0, cX8_33 cI g0 o0]) s.heap := hP
  have hD : va_D A ([cX8 a0 g0 o0, cX8_0 cI g0 o0, cX8_1 cI g0 o0, cX8_3 cI g0 o0, cX8_4 cI g0 o0, cX8_6 cI g0 o0, cX8_8 cI g0 o0, cX8_9 cI g0 o0, cX8_10 cI g0 o0, cX8_12 cI g0 o0, cX8_13 cI g0 o0, cX8_15 cI g0 o0, cX8_17 cI g0 o0, cX8_18 cI g0 o0, cX8_22 cB g0 o0, cX8_27 cI g0 o0, cX8_28 cI g0 o0, cX8_29 cI g0 o0, cX8_30 cI g0 o0, cX8_31 cI g0 o0, cX8_32 cI g0 o0, cX8_33 cI g0 o0]) := hD
  have hl := lv_entry ([.ref a0, .int v1]) (n := 7) (Nat.le_of_ble_eq_true rfl)
  rw [lg_entry_eq]
  generalize (lg_sl ([.ref a0, .int v1]) ++ List.replicate (7 - (lg_sl ([.ref a0, .int v1])).length) Slot.unset).toArray = ls at hl ⊢
  have hl : lv_has ls 7 [(0, .ref a0), (1, .int v1)] := hl
  obtain ⟨Q, hQ⟩ : ∃ Q, Q = MQ below (Qq dC dI (some (.int r.1)) ([cX8 a0 g0 r.2, cX8_0 cI g0 r.2, cX8_1 cI g0 r.2, cX8_3 cI g0 r.2, cX8_4 cI g0 r.2, cX8_6 cI g0 r.2, cX8_8 cI g0 r.2, cX8_9 cI g0 r.2, cX8_10 cI g0 r.2, cX8_12 cI g0 r.2, cX8_13 cI g0 r.2, cX8_15 cI g0 r.2, cX8_17 cI g0 r.2, cX8_18 cI g0 r.2, cX8_22 cB g0 r.2, cX8_27 cI g0 r.2, cX8_28 cI g0 r.2, cX8_29 cI g0 r.2, cX8_30 cI g0 r.2, cX8_31 cI g0 r.2, cX8_32 cI g0 r.2, cX8_33 cI g0 r.2]) A) ([.ref a0, .int v1] : List Value).toArray s 0 0 A := ⟨_, rfl⟩
  rw [← hQ]
  rw [f_X8_meeting] at h
  clear hAe hD0
  refine lv_iload_n hx hb dX8_meeting_0 rfl (lv_at hl 1 rfl) ?_
  refine lv_iconst (v := (-1 : Int32)) hx hb dX8_meeting_1 (by decide) ?_
  refine lv_icmp_ge (tgt := 7) hx hb dX8_meeting_2 (by decide) (fun k1 => ?_) (fun k1 => ?_)
  · have h := ite_t k1 h
    refine lv_iconst (v := (0 : Int32)) hx hb dX8_meeting_7 (by decide) ?_
    refine lv_istore_n (lv' := [(2, .int (0 : Int32)), (0, .ref a0), (1, .int v1)]) hx hb dX8_meeting_8 rfl hl (by decide) rfl (fun ls hl => ?_)
    have lp9 : ∀ (nn9 : Nat) (x9_2 : Int32) (o9_0 : Ob), f_X8_meeting_9 v1 nn9 x9_2 o9_0 = some r → ∀ (H : Heap) (locs : List Loc) (ls : Array Slot), va_P (dC, dI) vwCl ([cX8 a0 g0 o9_0, cX8_0 cI g0 o9_0, cX8_1 cI g0 o9_0, cX8_3 cI g0 o9_0, cX8_4 cI g0 o9_0, cX8_6 cI g0 o9_0, cX8_8 cI g0 o9_0, cX8_9 cI g0 o9_0, cX8_10 cI g0 o9_0, cX8_12 cI g0 o9_0, cX8_13 cI g0 o9_0, cX8_15 cI g0 o9_0, cX8_17 cI g0 o9_0, cX8_18 cI g0 o9_0, cX8_22 cB g0 o9_0, cX8_27 cI g0 o9_0, cX8_28 cI g0 o9_0, cX8_29 cI g0 o9_0, cX8_30 cI g0 o9_0, cX8_31 cI g0 o9_0, cX8_32 cI g0 o9_0, cX8_33 cI g0 o9_0]) H → va_D A ([cX8 a0 g0 o9_0, cX8_0 cI g0 o9_0, cX8_1 cI g0 o9_0, cX8_3 cI g0 o9_0, cX8_4 cI g0 o9_0, cX8_6 cI g0 o9_0, cX8_8 cI g0 o9_0, cX8_9 cI g0 o9_0, cX8_10 cI g0 o9_0, cX8_12 cI g0 o9_0, cX8_13 cI g0 o9_0, cX8_15 cI g0 o9_0, cX8_17 cI g0 o9_0, cX8_18 cI g0 o9_0, cX8_22 cB g0 o9_0, cX8_27 cI g0 o9_0, cX8_28 cI g0 o9_0, cX8_29 cI g0 o9_0, cX8_30 cI g0 o9_0, cX8_31 cI g0 o9_0, cX8_32 cI g0 o9_0, cX8_33 cI g0 o9_0]) → va_S A s.heap H locs → lv_has ls 7 [(0, .ref a0), (1, .int v1), (2, .int x9_2)] → W p l e (headSpec wsX8_meeting rmX8_meeting).room s m ([.ref a0, .int v1] : List Value).toArray below meth c H locs 0 0 Q (F0 m 9 ls []) := by
      intro nn9
      induction nn9 with
      | zero => intro x9_2 o9_0 h; rw [f_X8_meeting_9] at h; cases h
      | succ nn9 ih9 =>
        intro x9_2 o9_0 h H locs ls hP hD hS hl
        rw [f_X8_meeting_9] at h
        refine lv_iload_n hx hb dX8_meeting_9 rfl (lv_at hl 2 rfl) ?_
        refine lv_sipush (v := (6561 : Int32)) hx hb dX8_meeting_10 (by decide) ?_
        refine lv_icmp_ge (tgt := 30) hx hb dX8_meeting_13 (by decide) (fun k2 => ?_) (fun k2 => ?_)
        · have h := ite_t k2 h
          refine lv_aload_n hx hb dX8_meeting_30 rfl (lv_at hl 0 rfl) ?_
          refine va_get (D := (dC, dI)) (ci := 8) (v := .ref (g0 31)) (C := RX8) (T := TX8) (N := 36) hx hb hts hiX8 hown hKK.1 hP 0 rfl rfl 31 (by decide) (hts (.fieldLink RX8 65 "SlideLandModel" "queue" "[I") (List.mem_of_getElem? (i := 2) rfl)) (fun _ h9 => h9) rfl dX8_meeting_31 ?_
          refine lv_iconst (v := (0 : Int32)) hx hb dX8_meeting_34 (by decide) ?_
          refine lv_aload_n hx hb dX8_meeting_35 rfl (lv_at hl 0 rfl) ?_
          refine va_get (D := (dC, dI)) (ci := 8) (v := .ref (g0 18)) (C := RX8) (T := TX8) (N := 36) hx hb hts hiX8 hown hKK.1 hP 0 rfl rfl 18 (by decide) (hts (.fieldLink RX8 46 "SlideLandModel" "slot" "[I") (List.mem_of_getElem? (i := 3) rfl)) (fun _ h9 => h9) rfl dX8_meeting_36 ?_
          refine lv_iconst (v := (0 : Int32)) hx hb dX8_meeting_39 (by decide) ?_
          refine va_iald hx hb hKK.1 hP 13 1 rfl rfl (show ¬ ((0 : Int32) < 0 ∨ 312 ≤ (0 : Int32).toNatClampNeg) from by decide) dX8_meeting_40 ?_
          refine lv_aload_n hx hb dX8_meeting_41 rfl (lv_at hl 0 rfl) ?_
          refine va_get (D := (dC, dI)) (ci := 8) (v := .ref (g0 18)) (C := RX8) (T := TX8) (N := 36) hx hb hts hiX8 hown hKK.1 hP 0 rfl rfl 18 (by decide) (hts (.fieldLink RX8 46 "SlideLandModel" "slot" "[I") (List.mem_of_getElem? (i := 3) rfl)) (fun _ h9 => h9) rfl dX8_meeting_42 ?_
          refine lv_iconst (v := (1 : Int32)) hx hb dX8_meeting_45 (by decide) ?_
          refine va_iald hx hb hKK.1 hP 13 1 rfl rfl (show ¬ ((1 : Int32) < 0 ∨ 312 ≤ (1 : Int32).toNatClampNeg) from by decide) dX8_meeting_46 ?_
          obtain ⟨q3, hq3, h⟩ := bnd_e h
          refine kcS (rest := [.int (0 : Int32), .ref (g0 31)]) (w2 := ([cX8 a0 g0 o9_0, cX8_0 cI g0 o9_0, cX8_1 cI g0 o9_0, cX8_3 cI g0 o9_0, cX8_4 cI g0 o9_0, cX8_6 cI g0 o9_0, cX8_8 cI g0 o9_0, cX8_9 cI g0 o9_0, cX8_10 cI g0 o9_0, cX8_12 cI g0 o9_0, cX8_13 cI g0 o9_0, cX8_15 cI g0 o9_0, cX8_17 cI g0 o9_0, cX8_18 cI g0 o9_0, cX8_22 cB g0 o9_0, cX8_27 cI g0 o9_0, cX8_28 cI g0 o9_0, cX8_29 cI g0 o9_0, cX8_30 cI g0 o9_0, cX8_31 cI g0 o9_0, cX8_32 cI g0 o9_0, cX8_33 cI g0 o9_0])) hx hb hml hown hts hKK hP hD hS hA (c_X8_state l dC dI cB cI cZ cO ((o9_0.2 18) (0 : Int32).toNatClampNeg) ((o9_0.2 18) (1 : Int32).toNatClampNeg) hq3) [] (atAll_map trivial) (by decide +kernel) (sameAd_map trivial) (atAll_map trivial) (agr_refl _ _ _) (va_cwS 2 hts gX8_meeting_X8_state rfl rfl rfl dsc_X8_state ⟨Nat.le_of_ble_eq_true rfl, Nat.le_of_ble_eq_true rfl⟩) rfl hl.1 rfl (Nat.le_of_ble_eq_true rfl) dX8_meeting_47 ⟨Nat.zero_le _, Nat.zero_le _⟩ (fun H locs hP hD hS => ?_)
          obtain ⟨u4, hu4, h⟩ := bnd_e h
          refine k_iast (f := (o9_0.2 31)) hx hb hKK.1 hP hD hS 19 1 hu4 rfl rfl (show ¬ ((0 : Int32) < 0 ∨ 6561 ≤ (0 : Int32).toNatClampNeg) from by decide) dX8_meeting_50 (fun H locs hP hD hS => ?_)
          have hP : va_P (dC, dI) vwCl ([cX8 a0 g0 (stR o9_0 31 u4), cX8_0 cI g0 (stR o9_0 31 u4), cX8_1 cI g0 (stR o9_0 31 u4), cX8_3 cI g0 (stR o9_0 31 u4), cX8_4 cI g0 (stR o9_0 31 u4), cX8_6 cI g0 (stR o9_0 31 u4), cX8_8 cI g0 (stR o9_0 31 u4), cX8_9 cI g0 (stR o9_0 31 u4), cX8_10 cI g0 (stR o9_0 31 u4), cX8_12 cI g0 (stR o9_0 31 u4), cX8_13 cI g0 (stR o9_0 31 u4), cX8_15 cI g0 (stR o9_0 31 u4), cX8_17 cI g0 (stR o9_0 31 u4), cX8_18 cI g0 (stR o9_0 31 u4), cX8_22 cB g0 (stR o9_0 31 u4), cX8_27 cI g0 (stR o9_0 31 u4), cX8_28 cI g0 (stR o9_0 31 u4), cX8_29 cI g0 (stR o9_0 31 u4), cX8_30 cI g0 (stR o9_0 31 u4), cX8_31 cI g0 (stR o9_0 31 u4), cX8_32 cI g0 (stR o9_0 31 u4), cX8_33 cI g0 (stR o9_0 31 u4)]) H := hP
          have hD : va_D A ([cX8 a0 g0 (stR o9_0 31 u4), cX8_0 cI g0 (stR o9_0 31 u4), cX8_1 cI g0 (stR o9_0 31 u4), cX8_3 cI g0 (stR o9_0 31 u4), cX8_4 cI g0 (stR o9_0 31 u4), cX8_6 cI g0 (stR o9_0 31 u4), cX8_8 cI g0 (stR o9_0 31 u4), cX8_9 cI g0 (stR o9_0 31 u4), cX8_10 cI g0 (stR o9_0 31 u4), cX8_12 cI g0 (stR o9_0 31 u4), cX8_13 cI g0 (stR o9_0 31 u4), cX8_15 cI g0 (stR o9_0 31 u4), cX8_17 cI g0 (stR o9_0 31 u4), cX8_18 cI g0 (stR o9_0 31 u4), cX8_22 cB g0 (stR o9_0 31 u4), cX8_27 cI g0 (stR o9_0 31 u4), cX8_28 cI g0 (stR o9_0 31 u4), cX8_29 cI g0 (stR o9_0 31 u4), cX8_30 cI g0 (stR o9_0 31 u4), cX8_31 cI g0 (stR o9_0 31 u4), cX8_32 cI g0 (stR o9_0 31 u4), cX8_33 cI g0 (stR o9_0 31 u4)]) := hD
          refine lv_aload_n hx hb dX8_meeting_51 rfl (lv_at hl 0 rfl) ?_
          refine va_get (D := (dC, dI)) (ci := 8) (v := .ref (g0 30)) (C := RX8) (T := TX8) (N := 36) hx hb hts hiX8 hown hKK.1 hP 0 rfl rfl 30 (by decide) (hts (.fieldLink RX8 62 "SlideLandModel" "far" "[I") (List.mem_of_getElem? (i := 1) rfl)) (fun _ h9 => h9) rfl dX8_meeting_52 ?_
          refine lv_aload_n hx hb dX8_meeting_55 rfl (lv_at hl 0 rfl) ?_
          refine va_get (D := (dC, dI)) (ci := 8) (v := .ref (g0 31)) (C := RX8) (T := TX8) (N := 36) hx hb hts hiX8 hown hKK.1 hP 0 rfl rfl 31 (by decide) (hts (.fieldLink RX8 65 "SlideLandModel" "queue" "[I") (List.mem_of_getElem? (i := 2) rfl)) (fun _ h9 => h9) rfl dX8_meeting_56 ?_
          refine lv_iconst (v := (0 : Int32)) hx hb dX8_meeting_59 (by decide) ?_
          refine va_iald hx hb hKK.1 hP 19 1 rfl rfl (show ¬ ((0 : Int32) < 0 ∨ 6561 ≤ (0 : Int32).toNatClampNeg) from by decide) dX8_meeting_60 ?_
          refine lv_iconst (v := (0 : Int32)) hx hb dX8_meeting_61 (by decide) ?_
          obtain ⟨k5, h⟩ := ite_n h
          obtain ⟨u6, hu6, h⟩ := bnd_e h
          refine k_iast (f := (o9_0.2 30)) hx hb hKK.1 hP hD hS 18 1 hu6 rfl rfl k5 dX8_meeting_62 (fun H locs hP hD hS => ?_)
          have hP : va_P (dC, dI) vwCl ([cX8 a0 g0 (stR (stR o9_0 30 u6) 31 u4), cX8_0 cI g0 (stR (stR o9_0 30 u6) 31 u4), cX8_1 cI g0 (stR (stR o9_0 30 u6) 31 u4), cX8_3 cI g0 (stR (stR o9_0 30 u6) 31 u4), cX8_4 cI g0 (stR (stR o9_0 30 u6) 31 u4), cX8_6 cI g0 (stR (stR o9_0 30 u6) 31 u4), cX8_8 cI g0 (stR (stR o9_0 30 u6) 31 u4), cX8_9 cI g0 (stR (stR o9_0 30 u6) 31 u4), cX8_10 cI g0 (stR (stR o9_0 30 u6) 31 u4), cX8_12 cI g0 (stR (stR o9_0 30 u6) 31 u4), cX8_13 cI g0 (stR (stR o9_0 30 u6) 31 u4), cX8_15 cI g0 (stR (stR o9_0 30 u6) 31 u4), cX8_17 cI g0 (stR (stR o9_0 30 u6) 31 u4), cX8_18 cI g0 (stR (stR o9_0 30 u6) 31 u4), cX8_22 cB g0 (stR (stR o9_0 30 u6) 31 u4), cX8_27 cI g0 (stR (stR o9_0 30 u6) 31 u4), cX8_28 cI g0 (stR (stR o9_0 30 u6) 31 u4), cX8_29 cI g0 (stR (stR o9_0 30 u6) 31 u4), cX8_30 cI g0 (stR (stR o9_0 30 u6) 31 u4), cX8_31 cI g0 (stR (stR o9_0 30 u6) 31 u4), cX8_32 cI g0 (stR (stR o9_0 30 u6) 31 u4), cX8_33 cI g0 (stR (stR o9_0 30 u6) 31 u4)]) H := hP
          have hD : va_D A ([cX8 a0 g0 (stR (stR o9_0 30 u6) 31 u4), cX8_0 cI g0 (stR (stR o9_0 30 u6) 31 u4), cX8_1 cI g0 (stR (stR o9_0 30 u6) 31 u4), cX8_3 cI g0 (stR (stR o9_0 30 u6) 31 u4), cX8_4 cI g0 (stR (stR o9_0 30 u6) 31 u4), cX8_6 cI g0 (stR (stR o9_0 30 u6) 31 u4), cX8_8 cI g0 (stR (stR o9_0 30 u6) 31 u4), cX8_9 cI g0 (stR (stR o9_0 30 u6) 31 u4), cX8_10 cI g0 (stR (stR o9_0 30 u6) 31 u4), cX8_12 cI g0 (stR (stR o9_0 30 u6) 31 u4), cX8_13 cI g0 (stR (stR o9_0 30 u6) 31 u4), cX8_15 cI g0 (stR (stR o9_0 30 u6) 31 u4), cX8_17 cI g0 (stR (stR o9_0 30 u6) 31 u4), cX8_18 cI g0 (stR (stR o9_0 30 u6) 31 u4), cX8_22 cB g0 (stR (stR o9_0 30 u6) 31 u4), cX8_27 cI g0 (stR (stR o9_0 30 u6) 31 u4), cX8_28 cI g0 (stR (stR o9_0 30 u6) 31 u4), cX8_29 cI g0 (stR (stR o9_0 30 u6) 31 u4), cX8_30 cI g0 (stR (stR o9_0 30 u6) 31 u4), cX8_31 cI g0 (stR (stR o9_0 30 u6) 31 u4), cX8_32 cI g0 (stR (stR o9_0 30 u6) 31 u4), cX8_33 cI g0 (stR (stR o9_0 30 u6) 31 u4)]) := hD
          refine lv_aload_n hx hb dX8_meeting_63 rfl (lv_at hl 0 rfl) ?_
          refine lv_iconst (v := (1 : Int32)) hx hb dX8_meeting_64 (by decide) ?_
          refine va_put (D := (dC, dI)) (ci := 8) (v := .int (1 : Int32)) (ty := .int) (C := RX8) (T := TX8) (N := 36) hx hb hts hiX8 tyX8 tyX8_ok nmX8 hown hKK.1 hP hD hS 0 rfl rfl 34 (by decide) (hts (.fieldLink RX8 256 "SlideLandModel" "reached" "I") (List.mem_of_getElem? (i := 4) rfl)) (fun _ h9 => h9) rfl (by decide +kernel) rfl rfl (Nat.le_of_ble_eq_true rfl) dX8_meeting_65 (fun H locs hP hD hS => ?_)
          have hP : va_P (dC, dI) vwCl ([cX8 a0 g0 (stR (stR (stF o9_0 34 (1 : Int32)) 30 u6) 31 u4), cX8_0 cI g0 (stR (stR (stF o9_0 34 (1 : Int32)) 30 u6) 31 u4), cX8_1 cI g0 (stR (stR (stF o9_0 34 (1 : Int32)) 30 u6) 31 u4), cX8_3 cI g0 (stR (stR (stF o9_0 34 (1 : Int32)) 30 u6) 31 u4), cX8_4 cI g0 (stR (stR (stF o9_0 34 (1 : Int32)) 30 u6) 31 u4), cX8_6 cI g0 (stR (stR (stF o9_0 34 (1 : Int32)) 30 u6) 31 u4), cX8_8 cI g0 (stR (stR (stF o9_0 34 (1 : Int32)) 30 u6) 31 u4), cX8_9 cI g0 (stR (stR (stF o9_0 34 (1 : Int32)) 30 u6) 31 u4), cX8_10 cI g0 (stR (stR (stF o9_0 34 (1 : Int32)) 30 u6) 31 u4), cX8_12 cI g0 (stR (stR (stF o9_0 34 (1 : Int32)) 30 u6) 31 u4), cX8_13 cI g0 (stR (stR (stF o9_0 34 (1 : Int32)) 30 u6) 31 u4), cX8_15 cI g0 (stR (stR (stF o9_0 34 (1 : Int32)) 30 u6) 31 u4), cX8_17 cI g0 (stR (stR (stF o9_0 34 (1 : Int32)) 30 u6) 31 u4), cX8_18 cI g0 (stR (stR (stF o9_0 34 (1 : Int32)) 30 u6) 31 u4), cX8_22 cB g0 (stR (stR (stF o9_0 34 (1 : Int32)) 30 u6) 31 u4), cX8_27 cI g0 (stR (stR (stF o9_0 34 (1 : Int32)) 30 u6) 31 u4), cX8_28 cI g0 (stR (stR (stF o9_0 34 (1 : Int32)) 30 u6) 31 u4), cX8_29 cI g0 (stR (stR (stF o9_0 34 (1 : Int32)) 30 u6) 31 u4), cX8_30 cI g0 (stR (stR (stF o9_0 34 (1 : Int32)) 30 u6) 31 u4), cX8_31 cI g0 (stR (stR (stF o9_0 34 (1 : Int32)) 30 u6) 31 u4), cX8_32 cI g0 (stR (stR (stF o9_0 34 (1 : Int32)) 30 u6) 31 u4), cX8_33 cI g0 (stR (stR (stF o9_0 34 (1 : Int32)) 30 u6) 31 u4)]) H := hP
          have hD : va_D A ([cX8 a0 g0 (stR (stR (stF o9_0 34 (1 : Int32)) 30 u6) 31 u4), cX8_0 cI g0 (stR (stR (stF o9_0 34 (1 : Int32)) 30 u6) 31 u4), cX8_1 cI g0 (stR (stR (stF o9_0 34 (1 : Int32)) 30 u6) 31 u4), cX8_3 cI g0 (stR (stR (stF o9_0 34 (1 : Int32)) 30 u6) 31 u4), cX8_4 cI g0 (stR (stR (stF o9_0 34 (1 : Int32)) 30 u6) 31 u4), cX8_6 cI g0 (stR (stR (stF o9_0 34 (1 : Int32)) 30 u6) 31 u4), cX8_8 cI g0 (stR (stR (stF o9_0 34 (1 : Int32)) 30 u6) 31 u4), cX8_9 cI g0 (stR (stR (stF o9_0 34 (1 : Int32)) 30 u6) 31 u4), cX8_10 cI g0 (stR (stR (stF o9_0 34 (1 : Int32)) 30 u6) 31 u4), cX8_12 cI g0 (stR (stR (stF o9_0 34 (1 : Int32)) 30 u6) 31 u4), cX8_13 cI g0 (stR (stR (stF o9_0 34 (1 : Int32)) 30 u6) 31 u4), cX8_15 cI g0 (stR (stR (stF o9_0 34 (1 : Int32)) 30 u6) 31 u4), cX8_17 cI g0 (stR (stR (stF o9_0 34 (1 : Int32)) 30 u6) 31 u4), cX8_18 cI g0 (stR (stR (stF o9_0 34 (1 : Int32)) 30 u6) 31 u4), cX8_22 cB g0 (stR (stR (stF o9_0 34 (1 : Int32)) 30 u6) 31 u4), cX8_27 cI g0 (stR (stR (stF o9_0 34 (1 : Int32)) 30 u6) 31 u4), cX8_28 cI g0 (stR (stR (stF o9_0 34 (1 : Int32)) 30 u6) 31 u4), cX8_29 cI g0 (stR (stR (stF o9_0 34 (1 : Int32)) 30 u6) 31 u4), cX8_30 cI g0 (stR (stR (stF o9_0 34 (1 : Int32)) 30 u6) 31 u4), cX8_31 cI g0 (stR (stR (stF o9_0 34 (1 : Int32)) 30 u6) 31 u4), cX8_32 cI g0 (stR (stR (stF o9_0 34 (1 : Int32)) 30 u6) 31 u4), cX8_33 cI g0 (stR (stR (stF o9_0 34 (1 : Int32)) 30 u6) 31 u4)]) := hD
          refine lv_bipush (v := (-4 : Int32)) hx hb dX8_meeting_68 (by decide) ?_
          refine lv_istore_n (lv' := [(2, .int (-4 : Int32)), (0, .ref a0), (1, .int v1)]) hx hb dX8_meeting_70 rfl hl (by decide) rfl (fun ls hl => ?_)
          refine lv_iconst (v := (0 : Int32)) hx hb dX8_meeting_71 (by decide) ?_
          refine lv_istore_n (lv' := [(3, .int (0 : Int32)), (2, .int (-4 : Int32)), (0, .ref a0), (1, .int v1)]) hx hb dX8_meeting_72 rfl hl (by decide) rfl (fun ls hl => ?_)
          have lp73 : ∀ (nn73 : Nat) (x73_2 : Int32) (x73_3 : Int32) (o73_0 : Ob), f_X8_meeting_73 v1 nn73 x73_2 x73_3 o73_0 = some r → ∀ (H : Heap) (locs : List Loc) (ls : Array Slot), va_P (dC, dI) vwCl ([cX8 a0 g0 o73_0, cX8_0 cI g0 o73_0, cX8_1 cI g0 o73_0, cX8_3 cI g0 o73_0, cX8_4 cI g0 o73_0, cX8_6 cI g0 o73_0, cX8_8 cI g0 o73_0, cX8_9 cI g0 o73_0, cX8_10 cI g0 o73_0, cX8_12 cI g0 o73_0, cX8_13 cI g0 o73_0, cX8_15 cI g0 o73_0, cX8_17 cI g0 o73_0, cX8_18 cI g0 o73_0, cX8_22 cB g0 o73_0, cX8_27 cI g0 o73_0, cX8_28 cI g0 o73_0, cX8_29 cI g0 o73_0, cX8_30 cI g0 o73_0, cX8_31 cI g0 o73_0, cX8_32 cI g0 o73_0, cX8_33 cI g0 o73_0]) H → va_D A ([cX8 a0 g0 o73_0, cX8_0 cI g0 o73_0, cX8_1 cI g0 o73_0, cX8_3 cI g0 o73_0, cX8_4 cI g0 o73_0, cX8_6 cI g0 o73_0, cX8_8 cI g0 o73_0, cX8_9 cI g0 o73_0, cX8_10 cI g0 o73_0, cX8_12 cI g0 o73_0, cX8_13 cI g0 o73_0, cX8_15 cI g0 o73_0, cX8_17 cI g0 o73_0, cX8_18 cI g0 o73_0, cX8_22 cB g0 o73_0, cX8_27 cI g0 o73_0, cX8_28 cI g0 o73_0, cX8_29 cI g0 o73_0, cX8_30 cI g0 o73_0, cX8_31 cI g0 o73_0, cX8_32 cI g0 o73_0, cX8_33 cI g0 o73_0]) → va_S A s.heap H locs → lv_has ls 7 [(0, .ref a0), (1, .int v1), (2, .int x73_2), (3, .int x73_3)] → W p l e (headSpec wsX8_meeting rmX8_meeting).room s m ([.ref a0, .int v1] : List Value).toArray below meth c H locs 0 0 Q (F0 m 73 ls []) := by
            intro nn73
            induction nn73 with
            | zero => intro x73_2 x73_3 o73_0 h; rw [f_X8_meeting_73] at h; cases h
            | succ nn73 ih73 =>
              intro x73_2 x73_3 o73_0 h H locs ls hP hD hS hl
              rw [f_X8_meeting_73] at h
              refine lv_iload_n hx hb dX8_meeting_73 rfl (lv_at hl 3 rfl) ?_
              refine lv_aload_n hx hb dX8_meeting_74 rfl (lv_at hl 0 rfl) ?_
              refine va_get (D := (dC, dI)) (ci := 8) (v := .int (o73_0.1 34)) (C := RX8) (T := TX8) (N := 36) hx hb hts hiX8 hown hKK.1 hP 0 rfl rfl 34 (by decide) (hts (.fieldLink RX8 256 "SlideLandModel" "reached" "I") (List.mem_of_getElem? (i := 4) rfl)) (fun _ h9 => h9) rfl dX8_meeting_75 ?_
              have jn223 : f_X8_meeting_223 v1 x73_2 o73_0 = some r → ∀ (H : Heap) (locs : List Loc) (ls : Array Slot), va_P (dC, dI) vwCl ([cX8 a0 g0 o73_0, cX8_0 cI g0 o73_0, cX8_1 cI g0 o73_0, cX8_3 cI g0 o73_0, cX8_4 cI g0 o73_0, cX8_6 cI g0 o73_0, cX8_8 cI g0 o73_0, cX8_9 cI g0 o73_0, cX8_10 cI g0 o73_0, cX8_12 cI g0 o73_0, cX8_13 cI g0 o73_0, cX8_15 cI g0 o73_0, cX8_17 cI g0 o73_0, cX8_18 cI g0 o73_0, cX8_22 cB g0 o73_0, cX8_27 cI g0 o73_0, cX8_28 cI g0 o73_0, cX8_29 cI g0 o73_0, cX8_30 cI g0 o73_0, cX8_31 cI g0 o73_0, cX8_32 cI g0 o73_0, cX8_33 cI g0 o73_0]) H → va_D A ([cX8 a0 g0 o73_0, cX8_0 cI g0 o73_0, cX8_1 cI g0 o73_0, cX8_3 cI g0 o73_0, cX8_4 cI g0 o73_0, cX8_6 cI g0 o73_0, cX8_8 cI g0 o73_0, cX8_9 cI g0 o73_0, cX8_10 cI g0 o73_0, cX8_12 cI g0 o73_0, cX8_13 cI g0 o73_0, cX8_15 cI g0 o73_0, cX8_17 cI g0 o73_0, cX8_18 cI g0 o73_0, cX8_22 cB g0 o73_0, cX8_27 cI g0 o73_0, cX8_28 cI g0 o73_0, cX8_29 cI g0 o73_0, cX8_30 cI g0 o73_0, cX8_31 cI g0 o73_0, cX8_32 cI g0 o73_0, cX8_33 cI g0 o73_0]) → va_S A s.heap H locs → lv_has ls 7 [(0, .ref a0), (1, .int v1), (2, .int x73_2)] → W p l e (headSpec wsX8_meeting rmX8_meeting).room s m ([.ref a0, .int v1] : List Value).toArray below meth c H locs 0 0 Q (F0 m 223 ls []) := by
                intro h H locs ls hP hD hS hl
                rw [f_X8_meeting_223] at h
                refine lv_iload_n hx hb dX8_meeting_223 rfl (lv_at hl 2 rfl) ?_
                have jn231 : f_X8_meeting_231 x73_2 o73_0 = some r → ∀ (H : Heap) (locs : List Loc) (ls : Array Slot), va_P (dC, dI) vwCl ([cX8 a0 g0 o73_0, cX8_0 cI g0 o73_0, cX8_1 cI g0 o73_0, cX8_3 cI g0 o73_0, cX8_4 cI g0 o73_0, cX8_6 cI g0 o73_0, cX8_8 cI g0 o73_0, cX8_9 cI g0 o73_0, cX8_10 cI g0 o73_0, cX8_12 cI g0 o73_0, cX8_13 cI g0 o73_0, cX8_15 cI g0 o73_0, cX8_17 cI g0 o73_0, cX8_18 cI g0 o73_0, cX8_22 cB g0 o73_0, cX8_27 cI g0 o73_0, cX8_28 cI g0 o73_0, cX8_29 cI g0 o73_0, cX8_30 cI g0 o73_0, cX8_31 cI g0 o73_0, cX8_32 cI g0 o73_0, cX8_33 cI g0 o73_0]) H → va_D A ([cX8 a0 g0 o73_0, cX8_0 cI g0 o73_0, cX8_1 cI g0 o73_0, cX8_3 cI g0 o73_0, cX8_4 cI g0 o73_0, cX8_6 cI g0 o73_0, cX8_8 cI g0 o73_0, cX8_9 cI g0 o73_0, cX8_10 cI g0 o73_0, cX8_12 cI g0 o73_0, cX8_13 cI g0 o73_0, cX8_15 cI g0 o73_0, cX8_17 cI g0 o73_0, cX8_18 cI g0 o73_0, cX8_22 cB g0 o73_0, cX8_27 cI g0 o73_0, cX8_28 cI g0 o73_0, cX8_29 cI g0 o73_0, cX8_30 cI g0 o73_0, cX8_31 cI g0 o73_0, cX8_32 cI g0 o73_0, cX8_33 cI g0 o73_0]) → va_S A s.heap H locs → lv_has ls 7 [(0, .ref a0), (2, .int x73_2)] → W p l e (headSpec wsX8_meeting rmX8_meeting).room s m ([.ref a0, .int v1] : List Value).toArray below meth c H locs 0 0 Q (F0 m 231 ls []) := by
                  intro h H locs ls hP hD hS hl
                  rw [f_X8_meeting_231] at h
                  refine lv_iload_n hx hb dX8_meeting_231 rfl (lv_at hl 1 rfl) ?_
                  refine lv_if_ge (tgt := 240) hx hb dX8_meeting_232 (by decide) (fun k7 => ?_) (fun k7 => ?_)
                  · have h := ite_t k7 h
                    refine lv_aload_n hx hb dX8_meeting_240 rfl (lv_at hl 0 rfl) ?_
                    refine va_get (D := (dC, dI)) (ci := 8) (v := .ref (g0 30)) (C := RX8) (T := TX8) (N := 36) hx hb hts hiX8 hown hKK.1 hP 0 rfl rfl 30 (by decide) (hts (.fieldLink RX8 62 "SlideLandModel" "far" "[I") (List.mem_of_getElem? (i := 1) rfl)) (fun _ h9 => h9) rfl dX8_meeting_241 ?_
                    refine lv_iload_n hx hb dX8_meeting_244 rfl (lv_at hl 1 rfl) ?_
                    obtain ⟨k8, h⟩ := ite_n h
                    refine va_iald hx hb hKK.1 hP 18 1 rfl rfl k8 dX8_meeting_245 ?_
                    have h := Option.some.inj h
                    subst h
                    subst hQ
                    exact W.iret (v := ((o73_0.2 30) x73_2.toNatClampNeg)) hx hb hr (fun t ht hW => ⟨⟨rfl, by rw [ht]; exact hP, hD⟩, hS.F ht⟩) hS.2.2 dX8_meeting_246
                  · have h := ite_f k7 h
                    refine lv_bipush (v := (-4 : Int32)) hx hb dX8_meeting_235 (by decide) ?_
                    refine lv_goto (tgt := 246) hx hb dX8_meeting_237 (by decide) ?_
                    have h := Option.some.inj h
                    subst h
                    subst hQ
                    exact W.iret (v := (-4 : Int32)) hx hb hr (fun t ht hW => ⟨⟨rfl, by rw [ht]; exact hP, hD⟩, hS.F ht⟩) hS.2.2 dX8_meeting_246
                refine lv_if_lt (tgt := 231) hx hb dX8_meeting_224 (by decide) (fun k9 => ?_) (fun k9 => ?_)
                · have h := ite_t k9 h
                  exact jn231 h _ _ _ hP hD hS (lv_sub hl [0, 2] rfl)
                · have h := ite_f k9 h
                  refine lv_iload_n hx hb dX8_meeting_227 rfl (lv_at hl 1 rfl) ?_
                  refine lv_if_ge (tgt := 247) hx hb dX8_meeting_228 (by decide) (fun k10 => ?_) (fun k10 => ?_)
                  · have h := ite_t k10 h
                    refine lv_iload_n hx hb dX8_meeting_247 rfl (lv_at hl 1 rfl) ?_
                    refine lv_aload_n hx hb dX8_meeting_248 rfl (lv_at hl 0 rfl) ?_
                    refine va_get (D := (dC, dI)) (ci := 8) (v := .ref (g0 30)) (C := RX8) (T := TX8) (N := 36) hx hb hts hiX8 hown hKK.1 hP 0 rfl rfl 30 (by decide) (hts (.fieldLink RX8 62 "SlideLandModel" "far" "[I") (List.mem_of_getElem? (i := 1) rfl)) (fun _ h9 => h9) rfl dX8_meeting_249 ?_
                    refine lv_iload_n hx hb dX8_meeting_252 rfl (lv_at hl 2 rfl) ?_
                    obtain ⟨k11, h⟩ := ite_n h
                    refine va_iald hx hb hKK.1 hP 18 1 rfl rfl k11 dX8_meeting_253 ?_
                    refine lv_icmp_lt (tgt := 260) hx hb dX8_meeting_254 (by decide) (fun k12 => ?_) (fun k12 => ?_)
                    · have h := ite_t k12 h
                      refine lv_iload_n hx hb dX8_meeting_260 rfl (lv_at hl 2 rfl) ?_
                      refine lv_istore_n (lv' := [(3, .int x73_2), (0, .ref a0), (1, .int v1), (2, .int x73_2)]) hx hb dX8_meeting_261 rfl hl (by decide) rfl (fun ls hl => ?_)
                      refine lv_aload_n hx hb dX8_meeting_262 rfl (lv_at hl 1 rfl) ?_
                      refine va_get (D := (dC, dI)) (ci := 8) (v := .ref (g0 30)) (C := RX8) (T := TX8) (N := 36) hx hb hts hiX8 hown hKK.1 hP 0 rfl rfl 30 (by decide) (hts (.fieldLink RX8 62 "SlideLandModel" "far" "[I") (List.mem_of_getElem? (i := 1) rfl)) (fun _ h9 => h9) rfl dX8_meeting_263 ?_
                      refine lv_iload_n hx hb dX8_meeting_266 rfl (lv_at hl 3 rfl) ?_
                      obtain ⟨k13, h⟩ := ite_n h
                      refine va_iald hx hb hKK.1 hP 18 1 rfl rfl k13 dX8_meeting_267 ?_
                      obtain ⟨x14, hx14, h⟩ := bnd_e h
                      refine lv_topE hx14 ?_
                      refine lv_istore (lv' := [(4, .int x14), (3, .int x73_2), (0, .ref a0), (1, .int v1), (2, .int x73_2)]) hx hb dX8_meeting_268 hl (by decide) rfl (fun ls hl => ?_)
                      have lp270 : ∀ (nn270 : Nat) (x270_3 : Int32) (x270_4 : Int32), f_X8_meeting_270 v1 o73_0 nn270 x270_3 x270_4 = some r → ∀ (H : Heap) (locs : List Loc) (ls : Array Slot), va_P (dC, dI) vwCl ([cX8 a0 g0 o73_0, cX8_0 cI g0 o73_0, cX8_1 cI g0 o73_0, cX8_3 cI g0 o73_0, cX8_4 cI g0 o73_0, cX8_6 cI g0 o73_0, cX8_8 cI g0 o73_0, cX8_9 cI g0 o73_0, cX8_10 cI g0 o73_0, cX8_12 cI g0 o73_0, cX8_13 cI g0 o73_0, cX8_15 cI g0 o73_0, cX8_17 cI g0 o73_0, cX8_18 cI g0 o73_0, cX8_22 cB g0 o73_0, cX8_27 cI g0 o73_0, cX8_28 cI g0 o73_0, cX8_29 cI g0 o73_0, cX8_30 cI g0 o73_0, cX8_31 cI g0 o73_0, cX8_32 cI g0 o73_0, cX8_33 cI g0 o73_0]) H → va_D A ([cX8 a0 g0 o73_0, cX8_0 cI g0 o73_0, cX8_1 cI g0 o73_0, cX8_3 cI g0 o73_0, cX8_4 cI g0 o73_0, cX8_6 cI g0 o73_0, cX8_8 cI g0 o73_0, cX8_9 cI g0 o73_0, cX8_10 cI g0 o73_0, cX8_12 cI g0 o73_0, cX8_13 cI g0 o73_0, cX8_15 cI g0 o73_0, cX8_17 cI g0 o73_0, cX8_18 cI g0 o73_0, cX8_22 cB g0 o73_0, cX8_27 cI g0 o73_0, cX8_28 cI g0 o73_0, cX8_29 cI g0 o73_0, cX8_30 cI g0 o73_0, cX8_31 cI g0 o73_0, cX8_32 cI g0 o73_0, cX8_33 cI g0 o73_0]) → va_S A s.heap H locs → lv_has ls 7 [(0, .ref a0), (1, .int v1), (3, .int x270_3), (4, .int x270_4)] → W p l e (headSpec wsX8_meeting rmX8_meeting).room s m ([.ref a0, .int v1] : List Value).toArray below meth c H locs 0 0 Q (F0 m 270 ls []) := by
                        intro nn270
                        induction nn270 with
                        | zero => intro x270_3 x270_4 h; rw [f_X8_meeting_270] at h; cases h
                        | succ nn270 ih270 =>
                          intro x270_3 x270_4 h H locs ls hP hD hS hl
                          rw [f_X8_meeting_270] at h
                          refine lv_iload hx hb dX8_meeting_270 (lv_at hl 3 rfl) ?_
                          refine lv_iload_n hx hb dX8_meeting_272 rfl (lv_at hl 1 rfl) ?_
                          refine lv_iconst (v := (1 : Int32)) hx hb dX8_meeting_273 (by decide) ?_
                          refine lv_iadd hx hb dX8_meeting_274 ?_
                          refine lv_icmp_le (tgt := 291) hx hb dX8_meeting_275 (by decide) (fun k15 => ?_) (fun k15 => ?_)
                          · have h := ite_t k15 h
                            refine lv_bipush (v := (10 : Int32)) hx hb dX8_meeting_291 (by decide) ?_
                            refine lv_aload_n hx hb dX8_meeting_293 rfl (lv_at hl 0 rfl) ?_
                            refine va_get (D := (dC, dI)) (ci := 8) (v := .ref (g0 32)) (C := RX8) (T := TX8) (N := 36) hx hb hts hiX8 hown hKK.1 hP 0 rfl rfl 32 (by decide) (hts (.fieldLink RX8 68 "SlideLandModel" "first" "[I") (List.mem_of_getElem? (i := 6) rfl)) (fun _ h9 => h9) rfl dX8_meeting_294 ?_
                            refine lv_iload_n hx hb dX8_meeting_297 rfl (lv_at hl 2 rfl) ?_
                            obtain ⟨k16, h⟩ := ite_n h
                            refine va_iald hx hb hKK.1 hP 20 1 rfl rfl k16 dX8_meeting_298 ?_
                            refine lv_iconst (v := (2 : Int32)) hx hb dX8_meeting_299 (by decide) ?_
                            refine lv_idiv hx hb dX8_meeting_300 (by decide) ?_
                            refine lv_imul hx hb dX8_meeting_301 ?_
                            refine lv_aload_n hx hb dX8_meeting_302 rfl (lv_at hl 0 rfl) ?_
                            refine va_get (D := (dC, dI)) (ci := 8) (v := .ref (g0 32)) (C := RX8) (T := TX8) (N := 36) hx hb hts hiX8 hown hKK.1 hP 0 rfl rfl 32 (by decide) (hts (.fieldLink RX8 68 "SlideLandModel" "first" "[I") (List.mem_of_getElem? (i := 6) rfl)) (fun _ h9 => h9) rfl dX8_meeting_303 ?_
                            refine lv_iload_n hx hb dX8_meeting_306 rfl (lv_at hl 2 rfl) ?_
                            obtain ⟨k17, h⟩ := ite_n h
                            refine va_iald hx hb hKK.1 hP 20 1 rfl rfl k17 dX8_meeting_307 ?_
                            refine lv_iconst (v := (2 : Int32)) hx hb dX8_meeting_308 (by decide) ?_
                            refine lv_irem hx hb dX8_meeting_309 (by decide) ?_
                            refine lv_iadd hx hb dX8_meeting_310 ?_
                            have h := Option.some.inj h
                            subst h
                            subst hQ
                            exact W.iret (v := (((10 : Int32) * (((o73_0.2 32) x270_3.toNatClampNeg) / (2 : Int32))) + (((o73_0.2 32) x270_3.toNatClampNeg) - ((o73_0.2 32) x270_3.toNatClampNeg) / (2 : Int32) * (2 : Int32)))) hx hb hr (fun t ht hW => ⟨⟨rfl, by rw [ht]; exact hP, hD⟩, hS.F ht⟩) hS.2.2 dX8_meeting_311
                          · have h := ite_f k15 h
                            refine lv_aload_n hx hb dX8_meeting_278 rfl (lv_at hl 0 rfl) ?_
                            refine va_get (D := (dC, dI)) (ci := 8) (v := .ref (g0 33)) (C := RX8) (T := TX8) (N := 36) hx hb hts hiX8 hown hKK.1 hP 0 rfl rfl 33 (by decide) (hts (.fieldLink RX8 71 "SlideLandModel" "from" "[I") (List.mem_of_getElem? (i := 7) rfl)) (fun _ h9 => h9) rfl dX8_meeting_279 ?_
                            refine lv_iload_n hx hb dX8_meeting_282 rfl (lv_at hl 2 rfl) ?_
                            obtain ⟨k18, h⟩ := ite_n h
                            refine va_iald hx hb hKK.1 hP 21 1 rfl rfl k18 dX8_meeting_283 ?_
                            obtain ⟨x19, hx19, h⟩ := bnd_e h
                            refine lv_topE hx19 ?_
                            refine lv_istore_n (lv' := [(3, .int x19), (0, .ref a0), (1, .int v1), (4, .int x270_4)]) hx hb dX8_meeting_284 rfl hl (by decide) rfl (fun ls hl => ?_)
                            obtain ⟨x20, hx20, h⟩ := bnd_e h
                            refine lv_iinc (v := x20) (lv' := [(4, .int x20), (3, .int x19), (0, .ref a0), (1, .int v1)]) hx hb dX8_meeting_285 hl (k := 3) rfl (by rw [← hx20]; rfl) (by decide) rfl (fun ls hl => ?_)
                            refine lv_goto (tgt := 270) hx hb dX8_meeting_288 (by decide) ?_
                            exact ih270 x19 x20 h _ _ _ hP hD hS (lv_sub hl [2, 3, 1, 0] rfl)
                      exact lp270 FU x73_2 x14 h _ _ _ hP hD hS (lv_sub hl [2, 3, 1, 0] rfl)
                    · have h := ite_f k12 h
                      refine lv_bipush (v := (-4 : Int32)) hx hb dX8_meeting_257 (by decide) ?_
                      have h := Option.some.inj h
                      subst h
                      subst hQ
                      exact W.iret (v := (-4 : Int32)) hx hb hr (fun t ht hW => ⟨⟨rfl, by rw [ht]; exact hP, hD⟩, hS.F ht⟩) hS.2.2 dX8_meeting_259
                  · have h := ite_f k10 h
                    exact jn231 h _ _ _ hP hD hS (lv_sub hl [0, 2] rfl)
              refine lv_icmp_ge (tgt := 223) hx hb dX8_meeting_78 (by decide) (fun k21 => ?_) (fun k21 => ?_)
              · have h := ite_t k21 h
                exact jn223 h _ _ _ hP hD hS (lv_sub hl [0, 1, 2] rfl)
              · have h := ite_f k21 h
                refine lv_iload_n hx hb dX8_meeting_81 rfl (lv_at hl 2 rfl) ?_
                refine lv_if_ge (tgt := 223) hx hb dX8_meeting_82 (by decide) (fun k22 => ?_) (fun k22 => ?_)
                · have h := ite_t k22 h
                  exact jn223 h _ _ _ hP hD hS (lv_sub hl [0, 1, 2] rfl)
                · have h := ite_f k22 h
                  refine lv_aload_n hx hb dX8_meeting_85 rfl (lv_at hl 0 rfl) ?_
                  refine va_get (D := (dC, dI)) (ci := 8) (v := .ref (g0 31)) (C := RX8) (T := TX8) (N := 36) hx hb hts hiX8 hown hKK.1 hP 0 rfl rfl 31 (by decide) (hts (.fieldLink RX8 65 "SlideLandModel" "queue" "[I") (List.mem_of_getElem? (i := 2) rfl)) (fun _ h9 => h9) rfl dX8_meeting_86 ?_
                  refine lv_iload_n hx hb dX8_meeting_89 rfl (lv_at hl 3 rfl) ?_
                  obtain ⟨k23, h⟩ := ite_n h
                  refine va_iald hx hb hKK.1 hP 19 1 rfl rfl k23 dX8_meeting_90 ?_
                  obtain ⟨x24, hx24, h⟩ := bnd_e h
                  refine lv_topE hx24 ?_
                  refine lv_istore (lv' := [(4, .int x24), (0, .ref a0), (1, .int v1), (2, .int x73_2), (3, .int x73_3)]) hx hb dX8_meeting_91 hl (by decide) rfl (fun ls hl => ?_)
                  refine lv_aload_n hx hb dX8_meeting_93 rfl (lv_at hl 1 rfl) ?_
                  refine lv_iload hx hb dX8_meeting_94 (lv_at hl 0 rfl) ?_
                  obtain ⟨q25, hq25, h⟩ := obd_e h
                  refine kcV (rest := []) (w2 := ([cX8 a0 g0 o73_0, cX8_0 cI g0 o73_0, cX8_1 cI g0 o73_0, cX8_3 cI g0 o73_0, cX8_4 cI g0 o73_0, cX8_6 cI g0 o73_0, cX8_8 cI g0 o73_0, cX8_9 cI g0 o73_0, cX8_10 cI g0 o73_0, cX8_12 cI g0 o73_0, cX8_13 cI g0 o73_0, cX8_15 cI g0 o73_0, cX8_17 cI g0 o73_0, cX8_18 cI g0 o73_0, cX8_22 cB g0 o73_0, cX8_27 cI g0 o73_0, cX8_28 cI g0 o73_0, cX8_29 cI g0 o73_0, cX8_30 cI g0 o73_0, cX8_31 cI g0 o73_0, cX8_32 cI g0 o73_0, cX8_33 cI g0 o73_0])) hx hb hml hown hts hKK hP hD hS hA (c_X8_isGoal l dC dI cB cI cZ cO a0 g0 o73_0 x24 hq25) [0, 1, 2, 3, 4, 5, 6, 7, 8, 9, 10, 11, 12, 13, 14, 15, 16, 17, 18, 19, 20, 21] (atAll_map ⟨rfl, rfl, rfl, rfl, rfl, rfl, rfl, rfl, rfl, rfl, rfl, rfl, rfl, rfl, rfl, rfl, rfl, rfl, rfl, rfl, rfl, rfl, trivial⟩) (by decide +kernel) (sameAd_map ⟨rfl, rfl, rfl, rfl, rfl, rfl, rfl, rfl, rfl, rfl, rfl, rfl, rfl, rfl, rfl, rfl, rfl, rfl, rfl, rfl, rfl, rfl, trivial⟩) (atAll_map ⟨rfl, rfl, rfl, rfl, rfl, rfl, rfl, rfl, rfl, rfl, rfl, rfl, rfl, rfl, rfl, rfl, rfl, rfl, rfl, rfl, rfl, rfl, trivial⟩) (agr_refl _ _ _) (cwV 1 hts gX8_meeting_X8_isGoal rfl rfl rfl ⟨rfl, dsc_X8_isGoal⟩ ⟨Nat.le_of_ble_eq_true rfl, Nat.le_of_ble_eq_true rfl⟩) (va_recv hKK.1 hP (ci := 8) (q0 := 0) rfl rfl) rfl hl.1 rfl (Nat.le_of_ble_eq_true rfl) dX8_meeting_96 ⟨Nat.zero_le _, Nat.zero_le _⟩ (fun H locs hP hD hS => ?_)
                  have jn109 : ∀ (y109_0 : Int32), f_X8_meeting_109 x73_3 o73_0 (f_X8_meeting_73 v1 nn73) x24 y109_0 = some r → ∀ (H : Heap) (locs : List Loc) (ls : Array Slot), va_P (dC, dI) vwCl ([cX8 a0 g0 o73_0, cX8_0 cI g0 o73_0, cX8_1 cI g0 o73_0, cX8_3 cI g0 o73_0, cX8_4 cI g0 o73_0, cX8_6 cI g0 o73_0, cX8_8 cI g0 o73_0, cX8_9 cI g0 o73_0, cX8_10 cI g0 o73_0, cX8_12 cI g0 o73_0, cX8_13 cI g0 o73_0, cX8_15 cI g0 o73_0, cX8_17 cI g0 o73_0, cX8_18 cI g0 o73_0, cX8_22 cB g0 o73_0, cX8_27 cI g0 o73_0, cX8_28 cI g0 o73_0, cX8_29 cI g0 o73_0, cX8_30 cI g0 o73_0, cX8_31 cI g0 o73_0, cX8_32 cI g0 o73_0, cX8_33 cI g0 o73_0]) H → va_D A ([cX8 a0 g0 o73_0, cX8_0 cI g0 o73_0, cX8_1 cI g0 o73_0, cX8_3 cI g0 o73_0, cX8_4 cI g0 o73_0, cX8_6 cI g0 o73_0, cX8_8 cI g0 o73_0, cX8_9 cI g0 o73_0, cX8_10 cI g0 o73_0, cX8_12 cI g0 o73_0, cX8_13 cI g0 o73_0, cX8_15 cI g0 o73_0, cX8_17 cI g0 o73_0, cX8_18 cI g0 o73_0, cX8_22 cB g0 o73_0, cX8_27 cI g0 o73_0, cX8_28 cI g0 o73_0, cX8_29 cI g0 o73_0, cX8_30 cI g0 o73_0, cX8_31 cI g0 o73_0, cX8_32 cI g0 o73_0, cX8_33 cI g0 o73_0]) → va_S A s.heap H locs → lv_has ls 7 [(0, .ref a0), (1, .int v1), (3, .int x73_3), (4, .int x24)] → W p l e (headSpec wsX8_meeting rmX8_meeting).room s m ([.ref a0, .int v1] : List Value).toArray below meth c H locs 0 0 Q (F0 m 109 ls [.int y109_0]) := by
                    intro y109_0 h H locs ls hP hD hS hl
                    rw [f_X8_meeting_109] at h
                    refine lv_istore_n (lv' := [(2, .int y109_0), (0, .ref a0), (1, .int v1), (3, .int x73_3), (4, .int x24)]) hx hb dX8_meeting_109 rfl hl (by decide) rfl (fun ls hl => ?_)
                    refine lv_iconst (v := (0 : Int32)) hx hb dX8_meeting_110 (by decide) ?_
                    refine lv_istore (lv' := [(5, .int (0 : Int32)), (2, .int y109_0), (0, .ref a0), (1, .int v1), (3, .int x73_3), (4, .int x24)]) hx hb dX8_meeting_111 hl (by decide) rfl (fun ls hl => ?_)
                    have lp113 : ∀ (nn113 : Nat) (x113_5 : Int32) (o113_0 : Ob), f_X8_meeting_113 x73_3 (f_X8_meeting_73 v1 nn73) x24 y109_0 nn113 x113_5 o113_0 = some r → ∀ (H : Heap) (locs : List Loc) (ls : Array Slot), va_P (dC, dI) vwCl ([cX8 a0 g0 o113_0, cX8_0 cI g0 o113_0, cX8_1 cI g0 o113_0, cX8_3 cI g0 o113_0, cX8_4 cI g0 o113_0, cX8_6 cI g0 o113_0, cX8_8 cI g0 o113_0, cX8_9 cI g0 o113_0, cX8_10 cI g0 o113_0, cX8_12 cI g0 o113_0, cX8_13 cI g0 o113_0, cX8_15 cI g0 o113_0, cX8_17 cI g0 o113_0, cX8_18 cI g0 o113_0, cX8_22 cB g0 o113_0, cX8_27 cI g0 o113_0, cX8_28 cI g0 o113_0, cX8_29 cI g0 o113_0, cX8_30 cI g0 o113_0, cX8_31 cI g0 o113_0, cX8_32 cI g0 o113_0, cX8_33 cI g0 o113_0]) H → va_D A ([cX8 a0 g0 o113_0, cX8_0 cI g0 o113_0, cX8_1 cI g0 o113_0, cX8_3 cI g0 o113_0, cX8_4 cI g0 o113_0, cX8_6 cI g0 o113_0, cX8_8 cI g0 o113_0, cX8_9 cI g0 o113_0, cX8_10 cI g0 o113_0, cX8_12 cI g0 o113_0, cX8_13 cI g0 o113_0, cX8_15 cI g0 o113_0, cX8_17 cI g0 o113_0, cX8_18 cI g0 o113_0, cX8_22 cB g0 o113_0, cX8_27 cI g0 o113_0, cX8_28 cI g0 o113_0, cX8_29 cI g0 o113_0, cX8_30 cI g0 o113_0, cX8_31 cI g0 o113_0, cX8_32 cI g0 o113_0, cX8_33 cI g0 o113_0]) → va_S A s.heap H locs → lv_has ls 7 [(0, .ref a0), (1, .int v1), (2, .int y109_0), (3, .int x73_3), (4, .int x24), (5, .int x113_5)] → W p l e (headSpec wsX8_meeting rmX8_meeting).room s m ([.ref a0, .int v1] : List Value).toArray below meth c H locs 0 0 Q (F0 m 113 ls []) := by
                      intro nn113
                      induction nn113 with
                      | zero => intro x113_5 o113_0 h; rw [f_X8_meeting_113] at h; cases h
                      | succ nn113 ih113 =>
                        intro x113_5 o113_0 h H locs ls hP hD hS hl
                        rw [f_X8_meeting_113] at h
                        refine lv_iload hx hb dX8_meeting_113 (lv_at hl 5 rfl) ?_
                        refine lv_iconst (v := (2 : Int32)) hx hb dX8_meeting_115 (by decide) ?_
                        refine lv_aload_n hx hb dX8_meeting_116 rfl (lv_at hl 0 rfl) ?_
                        refine va_get (D := (dC, dI)) (ci := 8) (v := .int (o113_0.1 5)) (C := RX8) (T := TX8) (N := 36) hx hb hts hiX8 hown hKK.1 hP 0 rfl rfl 5 (by decide) (hts (.fieldLink RX8 101 "SlideLandModel" "pushes" "I") (List.mem_of_getElem? (i := 5) rfl)) (fun _ h9 => h9) rfl dX8_meeting_117 ?_
                        refine lv_imul hx hb dX8_meeting_120 ?_
                        have jn217 : f_X8_meeting_217 x73_3 (f_X8_meeting_73 v1 nn73) y109_0 o113_0 = some r → ∀ (H : Heap) (locs : List Loc) (ls : Array Slot), va_P (dC, dI) vwCl ([cX8 a0 g0 o113_0, cX8_0 cI g0 o113_0, cX8_1 cI g0 o113_0, cX8_3 cI g0 o113_0, cX8_4 cI g0 o113_0, cX8_6 cI g0 o113_0, cX8_8 cI g0 o113_0, cX8_9 cI g0 o113_0, cX8_10 cI g0 o113_0, cX8_12 cI g0 o113_0, cX8_13 cI g0 o113_0, cX8_15 cI g0 o113_0, cX8_17 cI g0 o113_0, cX8_18 cI g0 o113_0, cX8_22 cB g0 o113_0, cX8_27 cI g0 o113_0, cX8_28 cI g0 o113_0, cX8_29 cI g0 o113_0, cX8_30 cI g0 o113_0, cX8_31 cI g0 o113_0, cX8_32 cI g0 o113_0, cX8_33 cI g0 o113_0]) H → va_D A ([cX8 a0 g0 o113_0, cX8_0 cI g0 o113_0, cX8_1 cI g0 o113_0, cX8_3 cI g0 o113_0, cX8_4 cI g0 o113_0, cX8_6 cI g0 o113_0, cX8_8 cI g0 o113_0, cX8_9 cI g0 o113_0, cX8_10 cI g0 o113_0, cX8_12 cI g0 o113_0, cX8_13 cI g0 o113_0, cX8_15 cI g0 o113_0, cX8_17 cI g0 o113_0, cX8_18 cI g0 o113_0, cX8_22 cB g0 o113_0, cX8_27 cI g0 o113_0, cX8_28 cI g0 o113_0, cX8_29 cI g0 o113_0, cX8_30 cI g0 o113_0, cX8_31 cI g0 o113_0, cX8_32 cI g0 o113_0, cX8_33 cI g0 o113_0]) → va_S A s.heap H locs → lv_has ls 7 [(0, .ref a0), (1, .int v1), (2, .int y109_0), (3, .int x73_3)] → W p l e (headSpec wsX8_meeting rmX8_meeting).room s m ([.ref a0, .int v1] : List Value).toArray below meth c H locs 0 0 Q (F0 m 217 ls []) := by
                          intro h H locs ls hP hD hS hl
                          rw [f_X8_meeting_217] at h
                          obtain ⟨x26, hx26, h⟩ := bnd_e h
                          refine lv_iinc (v := x26) (lv' := [(3, .int x26), (0, .ref a0), (1, .int v1), (2, .int y109_0)]) hx hb dX8_meeting_217 hl (k := 3) rfl (by rw [← hx26]; rfl) (by decide) rfl (fun ls hl => ?_)
                          refine lv_goto (tgt := 73) hx hb dX8_meeting_220 (by decide) ?_
                          exact ih73 y109_0 x26 o113_0 h _ _ _ hP hD hS (lv_sub hl [1, 2, 3, 0] rfl)
                        refine lv_icmp_ge (tgt := 217) hx hb dX8_meeting_121 (by decide) (fun k27 => ?_) (fun k27 => ?_)
                        · have h := ite_t k27 h
                          exact jn217 h _ _ _ hP hD hS (lv_sub hl [0, 1, 2, 3] rfl)
                        · have h := ite_f k27 h
                          refine lv_aload_n hx hb dX8_meeting_124 rfl (lv_at hl 0 rfl) ?_
                          refine va_get (D := (dC, dI)) (ci := 8) (v := .ref (g0 30)) (C := RX8) (T := TX8) (N := 36) hx hb hts hiX8 hown hKK.1 hP 0 rfl rfl 30 (by decide) (hts (.fieldLink RX8 62 "SlideLandModel" "far" "[I") (List.mem_of_getElem? (i := 1) rfl)) (fun _ h9 => h9) rfl dX8_meeting_125 ?_
                          refine lv_iload hx hb dX8_meeting_128 (lv_at hl 4 rfl) ?_
                          obtain ⟨k28, h⟩ := ite_n h
                          refine va_iald hx hb hKK.1 hP 18 1 rfl rfl k28 dX8_meeting_130 ?_
                          refine lv_bipush (v := (9 : Int32)) hx hb dX8_meeting_131 (by decide) ?_
                          refine lv_icmp_ge (tgt := 217) hx hb dX8_meeting_133 (by decide) (fun k29 => ?_) (fun k29 => ?_)
                          · have h := ite_t k29 h
                            exact jn217 h _ _ _ hP hD hS (lv_sub hl [0, 1, 2, 3] rfl)
                          · have h := ite_f k29 h
                            refine lv_aload_n hx hb dX8_meeting_136 rfl (lv_at hl 0 rfl) ?_
                            refine lv_iload hx hb dX8_meeting_137 (lv_at hl 4 rfl) ?_
                            refine lv_iload hx hb dX8_meeting_139 (lv_at hl 5 rfl) ?_
                            obtain ⟨q30, hq30, h⟩ := obd_e h
                            refine kcV (rest := []) (w2 := ([cX8 a0 g0 o113_0, cX8_0 cI g0 o113_0, cX8_1 cI g0 o113_0, cX8_3 cI g0 o113_0, cX8_4 cI g0 o113_0, cX8_6 cI g0 o113_0, cX8_8 cI g0 o113_0, cX8_9 cI g0 o113_0, cX8_10 cI g0 o113_0, cX8_12 cI g0 o113_0, cX8_13 cI g0 o113_0, cX8_15 cI g0 o113_0, cX8_17 cI g0 o113_0, cX8_18 cI g0 o113_0, cX8_22 cB g0 o113_0, cX8_27 cI g0 o113_0, cX8_28 cI g0 o113_0, cX8_29 cI g0 o113_0, cX8_30 cI g0 o113_0, cX8_31 cI g0 o113_0, cX8_32 cI g0 o113_0, cX8_33 cI g0 o113_0])) hx hb hml hown hts hKK hP hD hS hA (c_X8_behindPush l dC dI cB cI cZ cO a0 g0 o113_0 x24 x113_5 hq30) [0, 1, 2, 3, 4, 5, 6, 7, 8, 9, 10, 11, 12, 13, 14, 15, 16, 17, 18, 19, 20, 21] (atAll_map ⟨rfl, rfl, rfl, rfl, rfl, rfl, rfl, rfl, rfl, rfl, rfl, rfl, rfl, rfl, rfl, rfl, rfl, rfl, rfl, rfl, rfl, rfl, trivial⟩) (by decide +kernel) (sameAd_map ⟨rfl, rfl, rfl, rfl, rfl, rfl, rfl, rfl, rfl, rfl, rfl, rfl, rfl, rfl, rfl, rfl, rfl, rfl, rfl, rfl, rfl, rfl, trivial⟩) (atAll_map ⟨rfl, rfl, rfl, rfl, rfl, rfl, rfl, rfl, rfl, rfl, rfl, rfl, rfl, rfl, rfl, rfl, rfl, rfl, rfl, rfl, rfl, rfl, trivial⟩) (agr_refl _ _ _) (cwV 2 hts gX8_meeting_X8_behindPush rfl rfl rfl ⟨rfl, dsc_X8_behindPush⟩ ⟨Nat.le_of_ble_eq_true rfl, Nat.le_of_ble_eq_true rfl⟩) (va_recv hKK.1 hP (ci := 8) (q0 := 0) rfl rfl) rfl hl.1 rfl (Nat.le_of_ble_eq_true rfl) dX8_meeting_141 ⟨Nat.zero_le _, Nat.zero_le _⟩ (fun H locs hP hD hS => ?_)
                            refine lv_istore (lv' := [(6, .int q30), (0, .ref a0), (1, .int v1), (2, .int y109_0), (3, .int x73_3), (4, .int x24), (5, .int x113_5)]) hx hb dX8_meeting_144 hl (by decide) rfl (fun ls hl => ?_)
                            refine lv_aload_n hx hb dX8_meeting_146 rfl (lv_at hl 1 rfl) ?_
                            refine va_get (D := (dC, dI)) (ci := 8) (v := .ref (g0 30)) (C := RX8) (T := TX8) (N := 36) hx hb hts hiX8 hown hKK.1 hP 0 rfl rfl 30 (by decide) (hts (.fieldLink RX8 62 "SlideLandModel" "far" "[I") (List.mem_of_getElem? (i := 1) rfl)) (fun _ h9 => h9) rfl dX8_meeting_147 ?_
                            refine lv_iload hx hb dX8_meeting_150 (lv_at hl 0 rfl) ?_
                            obtain ⟨k31, h⟩ := ite_n h
                            refine va_iald hx hb hKK.1 hP 18 1 rfl rfl k31 dX8_meeting_152 ?_
                            have jn211 : ∀ (o211_0 : Ob), f_X8_meeting_211 x113_5 (f_X8_meeting_113 x73_3 (f_X8_meeting_73 v1 nn73) x24 y109_0 nn113) o211_0 = some r → ∀ (H : Heap) (locs : List Loc) (ls : Array Slot), va_P (dC, dI) vwCl ([cX8 a0 g0 o211_0, cX8_0 cI g0 o211_0, cX8_1 cI g0 o211_0, cX8_3 cI g0 o211_0, cX8_4 cI g0 o211_0, cX8_6 cI g0 o211_0, cX8_8 cI g0 o211_0, cX8_9 cI g0 o211_0, cX8_10 cI g0 o211_0, cX8_12 cI g0 o211_0, cX8_13 cI g0 o211_0, cX8_15 cI g0 o211_0, cX8_17 cI g0 o211_0, cX8_18 cI g0 o211_0, cX8_22 cB g0 o211_0, cX8_27 cI g0 o211_0, cX8_28 cI g0 o211_0, cX8_29 cI g0 o211_0, cX8_30 cI g0 o211_0, cX8_31 cI g0 o211_0, cX8_32 cI g0 o211_0, cX8_33 cI g0 o211_0]) H → va_D A ([cX8 a0 g0 o211_0, cX8_0 cI g0 o211_0, cX8_1 cI g0 o211_0, cX8_3 cI g0 o211_0, cX8_4 cI g0 o211_0, cX8_6 cI g0 o211_0, cX8_8 cI g0 o211_0, cX8_9 cI g0 o211_0, cX8_10 cI g0 o211_0, cX8_12 cI g0 o211_0, cX8_13 cI g0 o211_0, cX8_15 cI g0 o211_0, cX8_17 cI g0 o211_0, cX8_18 cI g0 o211_0, cX8_22 cB g0 o211_0, cX8_27 cI g0 o211_0, cX8_28 cI g0 o211_0, cX8_29 cI g0 o211_0, cX8_30 cI g0 o211_0, cX8_31 cI g0 o211_0, cX8_32 cI g0 o211_0, cX8_33 cI g0 o211_0]) → va_S A s.heap H locs → lv_has ls 7 [(0, .ref a0), (1, .int v1), (2, .int y109_0), (3, .int x73_3), (4, .int x24), (5, .int x113_5)] → W p l e (headSpec wsX8_meeting rmX8_meeting).room s m ([.ref a0, .int v1] : List Value).toArray below meth c H locs 0 0 Q (F0 m 211 ls []) := by
                              intro o211_0 h H locs ls hP hD hS hl
                              rw [f_X8_meeting_211] at h
                              obtain ⟨x32, hx32, h⟩ := bnd_e h
                              refine lv_iinc (v := x32) (lv' := [(5, .int x32), (0, .ref a0), (1, .int v1), (2, .int y109_0), (3, .int x73_3), (4, .int x24)]) hx hb dX8_meeting_211 hl (k := 5) rfl (by rw [← hx32]; rfl) (by decide) rfl (fun ls hl => ?_)
                              refine lv_goto (tgt := 113) hx hb dX8_meeting_214 (by decide) ?_
                              exact ih113 x32 o211_0 h _ _ _ hP hD hS (lv_sub hl [1, 2, 3, 4, 5, 0] rfl)
                            refine lv_if_ge (tgt := 211) hx hb dX8_meeting_153 (by decide) (fun k33 => ?_) (fun k33 => ?_)
                            · have h := ite_t k33 h
                              exact jn211 o113_0 h _ _ _ hP hD hS (lv_sub hl [1, 2, 3, 4, 5, 6] rfl)
                            · have h := ite_f k33 h
                              refine lv_aload_n hx hb dX8_meeting_156 rfl (lv_at hl 1 rfl) ?_
                              refine va_get (D := (dC, dI)) (ci := 8) (v := .ref (g0 30)) (C := RX8) (T := TX8) (N := 36) hx hb hts hiX8 hown hKK.1 hP 0 rfl rfl 30 (by decide) (hts (.fieldLink RX8 62 "SlideLandModel" "far" "[I") (List.mem_of_getElem? (i := 1) rfl)) (fun _ h9 => h9) rfl dX8_meeting_157 ?_
                              refine lv_iload hx hb dX8_meeting_160 (lv_at hl 0 rfl) ?_
                              refine lv_aload_n hx hb dX8_meeting_162 rfl (lv_at hl 1 rfl) ?_
                              refine va_get (D := (dC, dI)) (ci := 8) (v := .ref (g0 30)) (C := RX8) (T := TX8) (N := 36) hx hb hts hiX8 hown hKK.1 hP 0 rfl rfl 30 (by decide) (hts (.fieldLink RX8 62 "SlideLandModel" "far" "[I") (List.mem_of_getElem? (i := 1) rfl)) (fun _ h9 => h9) rfl dX8_meeting_163 ?_
                              refine lv_iload hx hb dX8_meeting_166 (lv_at hl 5 rfl) ?_
                              obtain ⟨k34, h⟩ := ite_n h
                              refine va_iald hx hb hKK.1 hP 18 1 rfl rfl k34 dX8_meeting_168 ?_
                              refine lv_iconst (v := (1 : Int32)) hx hb dX8_meeting_169 (by decide) ?_
                              refine lv_iadd hx hb dX8_meeting_170 ?_
                              obtain ⟨k35, h⟩ := ite_n h
                              obtain ⟨u36, hu36, h⟩ := bnd_e h
                              refine k_iast (f := (o113_0.2 30)) hx hb hKK.1 hP hD hS 18 1 hu36 rfl rfl k35 dX8_meeting_171 (fun H locs hP hD hS => ?_)
                              have hP : va_P (dC, dI) vwCl ([cX8 a0 g0 (stR o113_0 30 u36), cX8_0 cI g0 (stR o113_0 30 u36), cX8_1 cI g0 (stR o113_0 30 u36), cX8_3 cI g0 (stR o113_0 30 u36), cX8_4 cI g0 (stR o113_0 30 u36), cX8_6 cI g0 (stR o113_0 30 u36), cX8_8 cI g0 (stR o113_0 30 u36), cX8_9 cI g0 (stR o113_0 30 u36), cX8_10 cI g0 (stR o113_0 30 u36), cX8_12 cI g0 (stR o113_0 30 u36), cX8_13 cI g0 (stR o113_0 30 u36), cX8_15 cI g0 (stR o113_0 30 u36), cX8_17 cI g0 (stR o113_0 30 u36), cX8_18 cI g0 (stR o113_0 30 u36), cX8_22 cB g0 (stR o113_0 30 u36), cX8_27 cI g0 (stR o113_0 30 u36), cX8_28 cI g0 (stR o113_0 30 u36), cX8_29 cI g0 (stR o113_0 30 u36), cX8_30 cI g0 (stR o113_0 30 u36), cX8_31 cI g0 (stR o113_0 30 u36), cX8_32 cI g0 (stR o113_0 30 u36), cX8_33 cI g0 (stR o113_0 30 u36)]) H := hP
                              have hD : va_D A ([cX8 a0 g0 (stR o113_0 30 u36), cX8_0 cI g0 (stR o113_0 30 u36), cX8_1 cI g0 (stR o113_0 30 u36), cX8_3 cI g0 (stR o113_0 30 u36), cX8_4 cI g0 (stR o113_0 30 u36), cX8_6 cI g0 (stR o113_0 30 u36), cX8_8 cI g0 (stR o113_0 30 u36), cX8_9 cI g0 (stR o113_0 30 u36), cX8_10 cI g0 (stR o113_0 30 u36), cX8_12 cI g0 (stR o113_0 30 u36), cX8_13 cI g0 (stR o113_0 30 u36), cX8_15 cI g0 (stR o113_0 30 u36), cX8_17 cI g0 (stR o113_0 30 u36), cX8_18 cI g0 (stR o113_0 30 u36), cX8_22 cB g0 (stR o113_0 30 u36), cX8_27 cI g0 (stR o113_0 30 u36), cX8_28 cI g0 (stR o113_0 30 u36), cX8_29 cI g0 (stR o113_0 30 u36), cX8_30 cI g0 (stR o113_0 30 u36), cX8_31 cI g0 (stR o113_0 30 u36), cX8_32 cI g0 (stR o113_0 30 u36), cX8_33 cI g0 (stR o113_0 30 u36)]) := hD
                              refine lv_aload_n hx hb dX8_meeting_172 rfl (lv_at hl 1 rfl) ?_
                              refine va_get (D := (dC, dI)) (ci := 8) (v := .ref (g0 32)) (C := RX8) (T := TX8) (N := 36) hx hb hts hiX8 hown hKK.1 hP 0 rfl rfl 32 (by decide) (hts (.fieldLink RX8 68 "SlideLandModel" "first" "[I") (List.mem_of_getElem? (i := 6) rfl)) (fun _ h9 => h9) rfl dX8_meeting_173 ?_
                              refine lv_iload hx hb dX8_meeting_176 (lv_at hl 0 rfl) ?_
                              refine lv_iload hx hb dX8_meeting_178 (lv_at hl 6 rfl) ?_
                              obtain ⟨k37, h⟩ := ite_n h
                              obtain ⟨u38, hu38, h⟩ := bnd_e h
                              refine k_iast (f := (o113_0.2 32)) hx hb hKK.1 hP hD hS 20 1 hu38 rfl rfl k37 dX8_meeting_180 (fun H locs hP hD hS => ?_)
                              have hP : va_P (dC, dI) vwCl ([cX8 a0 g0 (stR (stR o113_0 30 u36) 32 u38), cX8_0 cI g0 (stR (stR o113_0 30 u36) 32 u38), cX8_1 cI g0 (stR (stR o113_0 30 u36) 32 u38), cX8_3 cI g0 (stR (stR o113_0 30 u36) 32 u38), cX8_4 cI g0 (stR (stR o113_0 30 u36) 32 u38), cX8_6 cI g0 (stR (stR o113_0 30 u36) 32 u38), cX8_8 cI g0 (stR (stR o113_0 30 u36) 32 u38), cX8_9 cI g0 (stR (stR o113_0 30 u36) 32 u38), cX8_10 cI g0 (stR (stR o113_0 30 u36) 32 u38), cX8_12 cI g0 (stR (stR o113_0 30 u36) 32 u38), cX8_13 cI g0 (stR (stR o113_0 30 u36) 32 u38), cX8_15 cI g0 (stR (stR o113_0 30 u36) 32 u38), cX8_17 cI g0 (stR (stR o113_0 30 u36) 32 u38), cX8_18 cI g0 (stR (stR o113_0 30 u36) 32 u38), cX8_22 cB g0 (stR (stR o113_0 30 u36) 32 u38), cX8_27 cI g0 (stR (stR o113_0 30 u36) 32 u38), cX8_28 cI g0 (stR (stR o113_0 30 u36) 32 u38), cX8_29 cI g0 (stR (stR o113_0 30 u36) 32 u38), cX8_30 cI g0 (stR (stR o113_0 30 u36) 32 u38), cX8_31 cI g0 (stR (stR o113_0 30 u36) 32 u38), cX8_32 cI g0 (stR (stR o113_0 30 u36) 32 u38), cX8_33 cI g0 (stR (stR o113_0 30 u36) 32 u38)]) H := hP
                              have hD : va_D A ([cX8 a0 g0 (stR (stR o113_0 30 u36) 32 u38), cX8_0 cI g0 (stR (stR o113_0 30 u36) 32 u38), cX8_1 cI g0 (stR (stR o113_0 30 u36) 32 u38), cX8_3 cI g0 (stR (stR o113_0 30 u36) 32 u38), cX8_4 cI g0 (stR (stR o113_0 30 u36) 32 u38), cX8_6 cI g0 (stR (stR o113_0 30 u36) 32 u38), cX8_8 cI g0 (stR (stR o113_0 30 u36) 32 u38), cX8_9 cI g0 (stR (stR o113_0 30 u36) 32 u38), cX8_10 cI g0 (stR (stR o113_0 30 u36) 32 u38), cX8_12 cI g0 (stR (stR o113_0 30 u36) 32 u38), cX8_13 cI g0 (stR (stR o113_0 30 u36) 32 u38), cX8_15 cI g0 (stR (stR o113_0 30 u36) 32 u38), cX8_17 cI g0 (stR (stR o113_0 30 u36) 32 u38), cX8_18 cI g0 (stR (stR o113_0 30 u36) 32 u38), cX8_22 cB g0 (stR (stR o113_0 30 u36) 32 u38), cX8_27 cI g0 (stR (stR o113_0 30 u36) 32 u38), cX8_28 cI g0 (stR (stR o113_0 30 u36) 32 u38), cX8_29 cI g0 (stR (stR o113_0 30 u36) 32 u38), cX8_30 cI g0 (stR (stR o113_0 30 u36) 32 u38), cX8_31 cI g0 (stR (stR o113_0 30 u36) 32 u38), cX8_32 cI g0 (stR (stR o113_0 30 u36) 32 u38), cX8_33 cI g0 (stR (stR o113_0 30 u36) 32 u38)]) := hD
                              refine lv_aload_n hx hb dX8_meeting_181 rfl (lv_at hl 1 rfl) ?_
                              refine va_get (D := (dC, dI)) (ci := 8) (v := .ref (g0 33)) (C := RX8) (T := TX8) (N := 36) hx hb hts hiX8 hown hKK.1 hP 0 rfl rfl 33 (by decide) (hts (.fieldLink RX8 71 "SlideLandModel" "from" "[I") (List.mem_of_getElem? (i := 7) rfl)) (fun _ h9 => h9) rfl dX8_meeting_182 ?_
                              refine lv_iload hx hb dX8_meeting_185 (lv_at hl 0 rfl) ?_
                              refine lv_iload hx hb dX8_meeting_187 (lv_at hl 5 rfl) ?_
                              obtain ⟨k39, h⟩ := ite_n h
                              obtain ⟨u40, hu40, h⟩ := bnd_e h
                              refine k_iast (f := (o113_0.2 33)) hx hb hKK.1 hP hD hS 21 1 hu40 rfl rfl k39 dX8_meeting_189 (fun H locs hP hD hS => ?_)
                              have hP : va_P (dC, dI) vwCl ([cX8 a0 g0 (stR (stR (stR o113_0 30 u36) 32 u38) 33 u40), cX8_0 cI g0 (stR (stR (stR o113_0 30 u36) 32 u38) 33 u40), cX8_1 cI g0 (stR (stR (stR o113_0 30 u36) 32 u38) 33 u40), cX8_3 cI g0 (stR (stR (stR o113_0 30 u36) 32 u38) 33 u40), cX8_4 cI g0 (stR (stR (stR o113_0 30 u36) 32 u38) 33 u40), cX8_6 cI g0 (stR (stR (stR o113_0 30 u36) 32 u38) 33 u40), cX8_8 cI g0 (stR (stR (stR o113_0 30 u36) 32 u38) 33 u40), cX8_9 cI g0 (stR (stR (stR o113_0 30 u36) 32 u38) 33 u40), cX8_10 cI g0 (stR (stR (stR o113_0 30 u36) 32 u38) 33 u40), cX8_12 cI g0 (stR (stR (stR o113_0 30 u36) 32 u38) 33 u40), cX8_13 cI g0 (stR (stR (stR o113_0 30 u36) 32 u38) 33 u40), cX8_15 cI g0 (stR (stR (stR o113_0 30 u36) 32 u38) 33 u40), cX8_17 cI g0 (stR (stR (stR o113_0 30 u36) 32 u38) 33 u40), cX8_18 cI g0 (stR (stR (stR o113_0 30 u36) 32 u38) 33 u40), cX8_22 cB g0 (stR (stR (stR o113_0 30 u36) 32 u38) 33 u40), cX8_27 cI g0 (stR (stR (stR o113_0 30 u36) 32 u38) 33 u40), cX8_28 cI g0 (stR (stR (stR o113_0 30 u36) 32 u38) 33 u40), cX8_29 cI g0 (stR (stR (stR o113_0 30 u36) 32 u38) 33 u40), cX8_30 cI g0 (stR (stR (stR o113_0 30 u36) 32 u38) 33 u40), cX8_31 cI g0 (stR (stR (stR o113_0 30 u36) 32 u38) 33 u40), cX8_32 cI g0 (stR (stR (stR o113_0 30 u36) 32 u38) 33 u40), cX8_33 cI g0 (stR (stR (stR o113_0 30 u36) 32 u38) 33 u40)]) H := hP
                              have hD : va_D A ([cX8 a0 g0 (stR (stR (stR o113_0 30 u36) 32 u38) 33 u40), cX8_0 cI g0 (stR (stR (stR o113_0 30 u36) 32 u38) 33 u40), cX8_1 cI g0 (stR (stR (stR o113_0 30 u36) 32 u38) 33 u40), cX8_3 cI g0 (stR (stR (stR o113_0 30 u36) 32 u38) 33 u40), cX8_4 cI g0 (stR (stR (stR o113_0 30 u36) 32 u38) 33 u40), cX8_6 cI g0 (stR (stR (stR o113_0 30 u36) 32 u38) 33 u40), cX8_8 cI g0 (stR (stR (stR o113_0 30 u36) 32 u38) 33 u40), cX8_9 cI g0 (stR (stR (stR o113_0 30 u36) 32 u38) 33 u40), cX8_10 cI g0 (stR (stR (stR o113_0 30 u36) 32 u38) 33 u40), cX8_12 cI g0 (stR (stR (stR o113_0 30 u36) 32 u38) 33 u40), cX8_13 cI g0 (stR (stR (stR o113_0 30 u36) 32 u38) 33 u40), cX8_15 cI g0 (stR (stR (stR o113_0 30 u36) 32 u38) 33 u40), cX8_17 cI g0 (stR (stR (stR o113_0 30 u36) 32 u38) 33 u40), cX8_18 cI g0 (stR (stR (stR o113_0 30 u36) 32 u38) 33 u40), cX8_22 cB g0 (stR (stR (stR o113_0 30 u36) 32 u38) 33 u40), cX8_27 cI g0 (stR (stR (stR o113_0 30 u36) 32 u38) 33 u40), cX8_28 cI g0 (stR (stR (stR o113_0 30 u36) 32 u38) 33 u40), cX8_29 cI g0 (stR (stR (stR o113_0 30 u36) 32 u38) 33 u40), cX8_30 cI g0 (stR (stR (stR o113_0 30 u36) 32 u38) 33 u40), cX8_31 cI g0 (stR (stR (stR o113_0 30 u36) 32 u38) 33 u40), cX8_32 cI g0 (stR (stR (stR o113_0 30 u36) 32 u38) 33 u40), cX8_33 cI g0 (stR (stR (stR o113_0 30 u36) 32 u38) 33 u40)]) := hD
                              refine lv_aload_n hx hb dX8_meeting_190 rfl (lv_at hl 1 rfl) ?_
                              refine va_get (D := (dC, dI)) (ci := 8) (v := .ref (g0 31)) (C := RX8) (T := TX8) (N := 36) hx hb hts hiX8 hown hKK.1 hP 0 rfl rfl 31 (by decide) (hts (.fieldLink RX8 65 "SlideLandModel" "queue" "[I") (List.mem_of_getElem? (i := 2) rfl)) (fun _ h9 => h9) rfl dX8_meeting_191 ?_
                              refine lv_aload_n hx hb dX8_meeting_194 rfl (lv_at hl 1 rfl) ?_
                              refine va_get (D := (dC, dI)) (ci := 8) (v := .int (o113_0.1 34)) (C := RX8) (T := TX8) (N := 36) hx hb hts hiX8 hown hKK.1 hP 0 rfl rfl 34 (by decide) (hts (.fieldLink RX8 256 "SlideLandModel" "reached" "I") (List.mem_of_getElem? (i := 4) rfl)) (fun _ h9 => h9) rfl dX8_meeting_195 ?_
                              refine lv_iload hx hb dX8_meeting_198 (lv_at hl 0 rfl) ?_
                              obtain ⟨k41, h⟩ := ite_n h
                              obtain ⟨u42, hu42, h⟩ := bnd_e h
                              refine k_iast (f := (o113_0.2 31)) hx hb hKK.1 hP hD hS 19 1 hu42 rfl rfl k41 dX8_meeting_200 (fun H locs hP hD hS => ?_)
                              have hP : va_P (dC, dI) vwCl ([cX8 a0 g0 (stR (stR (stR (stR o113_0 30 u36) 31 u42) 32 u38) 33 u40), cX8_0 cI g0 (stR (stR (stR (stR o113_0 30 u36) 31 u42) 32 u38) 33 u40), cX8_1 cI g0 (stR (stR (stR (stR o113_0 30 u36) 31 u42) 32 u38) 33 u40), cX8_3 cI g0 (stR (stR (stR (stR o113_0 30 u36) 31 u42) 32 u38) 33 u40), cX8_4 cI g0 (stR (stR (stR (stR o113_0 30 u36) 31 u42) 32 u38) 33 u40), cX8_6 cI g0 (stR (stR (stR (stR o113_0 30 u36) 31 u42) 32 u38) 33 u40), cX8_8 cI g0 (stR (stR (stR (stR o113_0 30 u36) 31 u42) 32 u38) 33 u40), cX8_9 cI g0 (stR (stR (stR (stR o113_0 30 u36) 31 u42) 32 u38) 33 u40), cX8_10 cI g0 (stR (stR (stR (stR o113_0 30 u36) 31 u42) 32 u38) 33 u40), cX8_12 cI g0 (stR (stR (stR (stR o113_0 30 u36) 31 u42) 32 u38) 33 u40), cX8_13 cI g0 (stR (stR (stR (stR o113_0 30 u36) 31 u42) 32 u38) 33 u40), cX8_15 cI g0 (stR (stR (stR (stR o113_0 30 u36) 31 u42) 32 u38) 33 u40), cX8_17 cI g0 (stR (stR (stR (stR o113_0 30 u36) 31 u42) 32 u38) 33 u40), cX8_18 cI g0 (stR (stR (stR (stR o113_0 30 u36) 31 u42) 32 u38) 33 u40), cX8_22 cB g0 (stR (stR (stR (stR o113_0 30 u36) 31 u42) 32 u38) 33 u40), cX8_27 cI g0 (stR (stR (stR (stR o113_0 30 u36) 31 u42) 32 u38) 33 u40), cX8_28 cI g0 (stR (stR (stR (stR o113_0 30 u36) 31 u42) 32 u38) 33 u40), cX8_29 cI g0 (stR (stR (stR (stR o113_0 30 u36) 31 u42) 32 u38) 33 u40), cX8_30 cI g0 (stR (stR (stR (stR o113_0 30 u36) 31 u42) 32 u38) 33 u40), cX8_31 cI g0 (stR (stR (stR (stR o113_0 30 u36) 31 u42) 32 u38) 33 u40), cX8_32 cI g0 (stR (stR (stR (stR o113_0 30 u36) 31 u42) 32 u38) 33 u40), cX8_33 cI g0 (stR (stR (stR (stR o113_0 30 u36) 31 u42) 32 u38) 33 u40)]) H := hP
                              have hD : va_D A ([cX8 a0 g0 (stR (stR (stR (stR o113_0 30 u36) 31 u42) 32 u38) 33 u40), cX8_0 cI g0 (stR (stR (stR (stR o113_0 30 u36) 31 u42) 32 u38) 33 u40), cX8_1 cI g0 (stR (stR (stR (stR o113_0 30 u36) 31 u42) 32 u38) 33 u40), cX8_3 cI g0 (stR (stR (stR (stR o113_0 30 u36) 31 u42) 32 u38) 33 u40), cX8_4 cI g0 (stR (stR (stR (stR o113_0 30 u36) 31 u42) 32 u38) 33 u40), cX8_6 cI g0 (stR (stR (stR (stR o113_0 30 u36) 31 u42) 32 u38) 33 u40), cX8_8 cI g0 (stR (stR (stR (stR o113_0 30 u36) 31 u42) 32 u38) 33 u40), cX8_9 cI g0 (stR (stR (stR (stR o113_0 30 u36) 31 u42) 32 u38) 33 u40), cX8_10 cI g0 (stR (stR (stR (stR o113_0 30 u36) 31 u42) 32 u38) 33 u40), cX8_12 cI g0 (stR (stR (stR (stR o113_0 30 u36) 31 u42) 32 u38) 33 u40), cX8_13 cI g0 (stR (stR (stR (stR o113_0 30 u36) 31 u42) 32 u38) 33 u40), cX8_15 cI g0 (stR (stR (stR (stR o113_0 30 u36) 31 u42) 32 u38) 33 u40), cX8_17 cI g0 (stR (stR (stR (stR o113_0 30 u36) 31 u42) 32 u38) 33 u40), cX8_18 cI g0 (stR (stR (stR (stR o113_0 30 u36) 31 u42) 32 u38) 33 u40), cX8_22 cB g0 (stR (stR (stR (stR o113_0 30 u36) 31 u42) 32 u38) 33 u40), cX8_27 cI g0 (stR (stR (stR (stR o113_0 30 u36) 31 u42) 32 u38) 33 u40), cX8_28 cI g0 (stR (stR (stR (stR o113_0 30 u36) 31 u42) 32 u38) 33 u40), cX8_29 cI g0 (stR (stR (stR (stR o113_0 30 u36) 31 u42) 32 u38) 33 u40), cX8_30 cI g0 (stR (stR (stR (stR o113_0 30 u36) 31 u42) 32 u38) 33 u40), cX8_31 cI g0 (stR (stR (stR (stR o113_0 30 u36) 31 u42) 32 u38) 33 u40), cX8_32 cI g0 (stR (stR (stR (stR o113_0 30 u36) 31 u42) 32 u38) 33 u40), cX8_33 cI g0 (stR (stR (stR (stR o113_0 30 u36) 31 u42) 32 u38) 33 u40)]) := hD
                              refine lv_aload_n hx hb dX8_meeting_201 rfl (lv_at hl 1 rfl) ?_
                              refine lv_dup hx hb dX8_meeting_202 rfl ?_
                              refine va_get (D := (dC, dI)) (ci := 8) (v := .int (o113_0.1 34)) (C := RX8) (T := TX8) (N := 36) hx hb hts hiX8 hown hKK.1 hP 0 rfl rfl 34 (by decide) (hts (.fieldLink RX8 256 "SlideLandModel" "reached" "I") (List.mem_of_getElem? (i := 4) rfl)) (fun _ h9 => h9) rfl dX8_meeting_203 ?_
                              refine lv_iconst (v := (1 : Int32)) hx hb dX8_meeting_206 (by decide) ?_
                              refine lv_iadd hx hb dX8_meeting_207 ?_
                              obtain ⟨x43, hx43, h⟩ := bnd_e h
                              rw [hx43]
                              refine va_put (D := (dC, dI)) (ci := 8) (v := .int x43) (ty := .int) (C := RX8) (T := TX8) (N := 36) hx hb hts hiX8 tyX8 tyX8_ok nmX8 hown hKK.1 hP hD hS 0 rfl rfl 34 (by decide) (hts (.fieldLink RX8 256 "SlideLandModel" "reached" "I") (List.mem_of_getElem? (i := 4) rfl)) (fun _ h9 => h9) rfl (by decide +kernel) rfl rfl (Nat.le_of_ble_eq_true rfl) dX8_meeting_208 (fun H locs hP hD hS => ?_)
                              have hP : va_P (dC, dI) vwCl ([cX8 a0 g0 (stR (stR (stR (stR (stF o113_0 34 x43) 30 u36) 31 u42) 32 u38) 33 u40), cX8_0 cI g0 (stR (stR (stR (stR (stF o113_0 34 x43) 30 u36) 31 u42) 32 u38) 33 u40), cX8_1 cI g0 (stR (stR (stR (stR (stF o113_0 34 x43) 30 u36) 31 u42) 32 u38) 33 u40), cX8_3 cI g0 (stR (stR (stR (stR (stF o113_0 34 x43) 30 u36) 31 u42) 32 u38) 33 u40), cX8_4 cI g0 (stR (stR (stR (stR (stF o113_0 34 x43) 30 u36) 31 u42) 32 u38) 33 u40), cX8_6 cI g0 (stR (stR (stR (stR (stF o113_0 34 x43) 30 u36) 31 u42) 32 u38) 33 u40), cX8_8 cI g0 (stR (stR (stR (stR (stF o113_0 34 x43) 30 u36) 31 u42) 32 u38) 33 u40), cX8_9 cI g0 (stR (stR (stR (stR (stF o113_0 34 x43) 30 u36) 31 u42) 32 u38) 33 u40), cX8_10 cI g0 (stR (stR (stR (stR (stF o113_0 34 x43) 30 u36) 31 u42) 32 u38) 33 u40), cX8_12 cI g0 (stR (stR (stR (stR (stF o113_0 34 x43) 30 u36) 31 u42) 32 u38) 33 u40), cX8_13 cI g0 (stR (stR (stR (stR (stF o113_0 34 x43) 30 u36) 31 u42) 32 u38) 33 u40), cX8_15 cI g0 (stR (stR (stR (stR (stF o113_0 34 x43) 30 u36) 31 u42) 32 u38) 33 u40), cX8_17 cI g0 (stR (stR (stR (stR (stF o113_0 34 x43) 30 u36) 31 u42) 32 u38) 33 u40), cX8_18 cI g0 (stR (stR (stR (stR (stF o113_0 34 x43) 30 u36) 31 u42) 32 u38) 33 u40), cX8_22 cB g0 (stR (stR (stR (stR (stF o113_0 34 x43) 30 u36) 31 u42) 32 u38) 33 u40), cX8_27 cI g0 (stR (stR (stR (stR (stF o113_0 34 x43) 30 u36) 31 u42) 32 u38) 33 u40), cX8_28 cI g0 (stR (stR (stR (stR (stF o113_0 34 x43) 30 u36) 31 u42) 32 u38) 33 u40), cX8_29 cI g0 (stR (stR (stR (stR (stF o113_0 34 x43) 30 u36) 31 u42) 32 u38) 33 u40), cX8_30 cI g0 (stR (stR (stR (stR (stF o113_0 34 x43) 30 u36) 31 u42) 32 u38) 33 u40), cX8_31 cI g0 (stR (stR (stR (stR (stF o113_0 34 x43) 30 u36) 31 u42) 32 u38) 33 u40), cX8_32 cI g0 (stR (stR (stR (stR (stF o113_0 34 x43) 30 u36) 31 u42) 32 u38) 33 u40), cX8_33 cI g0 (stR (stR (stR (stR (stF o113_0 34 x43) 30 u36) 31 u42) 32 u38) 33 u40)]) H := hP
                              have hD : va_D A ([cX8 a0 g0 (stR (stR (stR (stR (stF o113_0 34 x43) 30 u36) 31 u42) 32 u38) 33 u40), cX8_0 cI g0 (stR (stR (stR (stR (stF o113_0 34 x43) 30 u36) 31 u42) 32 u38) 33 u40), cX8_1 cI g0 (stR (stR (stR (stR (stF o113_0 34 x43) 30 u36) 31 u42) 32 u38) 33 u40), cX8_3 cI g0 (stR (stR (stR (stR (stF o113_0 34 x43) 30 u36) 31 u42) 32 u38) 33 u40), cX8_4 cI g0 (stR (stR (stR (stR (stF o113_0 34 x43) 30 u36) 31 u42) 32 u38) 33 u40), cX8_6 cI g0 (stR (stR (stR (stR (stF o113_0 34 x43) 30 u36) 31 u42) 32 u38) 33 u40), cX8_8 cI g0 (stR (stR (stR (stR (stF o113_0 34 x43) 30 u36) 31 u42) 32 u38) 33 u40), cX8_9 cI g0 (stR (stR (stR (stR (stF o113_0 34 x43) 30 u36) 31 u42) 32 u38) 33 u40), cX8_10 cI g0 (stR (stR (stR (stR (stF o113_0 34 x43) 30 u36) 31 u42) 32 u38) 33 u40), cX8_12 cI g0 (stR (stR (stR (stR (stF o113_0 34 x43) 30 u36) 31 u42) 32 u38) 33 u40), cX8_13 cI g0 (stR (stR (stR (stR (stF o113_0 34 x43) 30 u36) 31 u42) 32 u38) 33 u40), cX8_15 cI g0 (stR (stR (stR (stR (stF o113_0 34 x43) 30 u36) 31 u42) 32 u38) 33 u40), cX8_17 cI g0 (stR (stR (stR (stR (stF o113_0 34 x43) 30 u36) 31 u42) 32 u38) 33 u40), cX8_18 cI g0 (stR (stR (stR (stR (stF o113_0 34 x43) 30 u36) 31 u42) 32 u38) 33 u40), cX8_22 cB g0 (stR (stR (stR (stR (stF o113_0 34 x43) 30 u36) 31 u42) 32 u38) 33 u40), cX8_27 cI g0 (stR (stR (stR (stR (stF o113_0 34 x43) 30 u36) 31 u42) 32 u38) 33 u40), cX8_28 cI g0 (stR (stR (stR (stR (stF o113_0 34 x43) 30 u36) 31 u42) 32 u38) 33 u40), cX8_29 cI g0 (stR (stR (stR (stR (stF o113_0 34 x43) 30 u36) 31 u42) 32 u38) 33 u40), cX8_30 cI g0 (stR (stR (stR (stR (stF o113_0 34 x43) 30 u36) 31 u42) 32 u38) 33 u40), cX8_31 cI g0 (stR (stR (stR (stR (stF o113_0 34 x43) 30 u36) 31 u42) 32 u38) 33 u40), cX8_32 cI g0 (stR (stR (stR (stR (stF o113_0 34 x43) 30 u36) 31 u42) 32 u38) 33 u40), cX8_33 cI g0 (stR (stR (stR (stR (stF o113_0 34 x43) 30 u36) 31 u42) 32 u38) 33 u40)]) := hD
                              exact jn211 (stR (stR (stR (stR (stF o113_0 34 x43) 30 u36) 31 u42) 32 u38) 33 u40) h _ _ _ hP hD hS (lv_sub hl [1, 2, 3, 4, 5, 6] rfl)
                    exact lp113 FU (0 : Int32) o73_0 h _ _ _ hP hD hS (lv_sub hl [2, 3, 1, 4, 5, 0] rfl)
                  refine lv_if_eq (tgt := 107) hx hb dX8_meeting_99 (by decide) (fun k44 => ?_) (fun k44 => ?_)
                  · have h := ite_t k44 h
                    refine lv_bipush (v := (-4 : Int32)) hx hb dX8_meeting_107 (by decide) ?_
                    exact jn109 (-4 : Int32) h _ _ _ hP hD hS (lv_sub hl [1, 2, 4, 0] rfl)
                  · have h := ite_f k44 h
                    refine lv_iload hx hb dX8_meeting_102 (lv_at hl 0 rfl) ?_
                    refine lv_goto (tgt := 109) hx hb dX8_meeting_104 (by decide) ?_
                    exact jn109 x24 h _ _ _ hP hD hS (lv_sub hl [1, 2, 4, 0] rfl)
          exact lp73 FU (-4 : Int32) (0 : Int32) (stR (stR (stF o9_0 34 (1 : Int32)) 30 u6) 31 u4) h _ _ _ hP hD hS (lv_sub hl [2, 3, 1, 0] rfl)
        · have h := ite_f k2 h
          refine lv_aload_n hx hb dX8_meeting_16 rfl (lv_at hl 0 rfl) ?_
          refine va_get (D := (dC, dI)) (ci := 8) (v := .ref (g0 30)) (C := RX8) (T := TX8) (N := 36) hx hb hts hiX8 hown hKK.1 hP 0 rfl rfl 30 (by decide) (hts (.fieldLink RX8 62 "SlideLandModel" "far" "[I") (List.mem_of_getElem? (i := 1) rfl)) (fun _ h9 => h9) rfl dX8_meeting_17 ?_
          refine lv_iload_n hx hb dX8_meeting_20 rfl (lv_at hl 2 rfl) ?_
          refine lv_bipush (v := (-4 : Int32)) hx hb dX8_meeting_21 (by decide) ?_
          obtain ⟨k45, h⟩ := ite_n h
          obtain ⟨u46, hu46, h⟩ := bnd_e h
          refine k_iast (f := (o9_0.2 30)) hx hb hKK.1 hP hD hS 18 1 hu46 rfl rfl k45 dX8_meeting_23 (fun H locs hP hD hS => ?_)
          have hP : va_P (dC, dI) vwCl ([cX8 a0 g0 (stR o9_0 30 u46), cX8_0 cI g0 (stR o9_0 30 u46), cX8_1 cI g0 (stR o9_0 30 u46), cX8_3 cI g0 (stR o9_0 30 u46), cX8_4 cI g0 (stR o9_0 30 u46), cX8_6 cI g0 (stR o9_0 30 u46), cX8_8 cI g0 (stR o9_0 30 u46), cX8_9 cI g0 (stR o9_0 30 u46), cX8_10 cI g0 (stR o9_0 30 u46), cX8_12 cI g0 (stR o9_0 30 u46), cX8_13 cI g0 (stR o9_0 30 u46), cX8_15 cI g0 (stR o9_0 30 u46), cX8_17 cI g0 (stR o9_0 30 u46), cX8_18 cI g0 (stR o9_0 30 u46), cX8_22 cB g0 (stR o9_0 30 u46), cX8_27 cI g0 (stR o9_0 30 u46), cX8_28 cI g0 (stR o9_0 30 u46), cX8_29 cI g0 (stR o9_0 30 u46), cX8_30 cI g0 (stR o9_0 30 u46), cX8_31 cI g0 (stR o9_0 30 u46), cX8_32 cI g0 (stR o9_0 30 u46), cX8_33 cI g0 (stR o9_0 30 u46)]) H := hP
          have hD : va_D A ([cX8 a0 g0 (stR o9_0 30 u46), cX8_0 cI g0 (stR o9_0 30 u46), cX8_1 cI g0 (stR o9_0 30 u46), cX8_3 cI g0 (stR o9_0 30 u46), cX8_4 cI g0 (stR o9_0 30 u46), cX8_6 cI g0 (stR o9_0 30 u46), cX8_8 cI g0 (stR o9_0 30 u46), cX8_9 cI g0 (stR o9_0 30 u46), cX8_10 cI g0 (stR o9_0 30 u46), cX8_12 cI g0 (stR o9_0 30 u46), cX8_13 cI g0 (stR o9_0 30 u46), cX8_15 cI g0 (stR o9_0 30 u46), cX8_17 cI g0 (stR o9_0 30 u46), cX8_18 cI g0 (stR o9_0 30 u46), cX8_22 cB g0 (stR o9_0 30 u46), cX8_27 cI g0 (stR o9_0 30 u46), cX8_28 cI g0 (stR o9_0 30 u46), cX8_29 cI g0 (stR o9_0 30 u46), cX8_30 cI g0 (stR o9_0 30 u46), cX8_31 cI g0 (stR o9_0 30 u46), cX8_32 cI g0 (stR o9_0 30 u46), cX8_33 cI g0 (stR o9_0 30 u46)]) := hD
          obtain ⟨x47, hx47, h⟩ := bnd_e h
          refine lv_iinc (v := x47) (lv' := [(2, .int x47), (0, .ref a0), (1, .int v1)]) hx hb dX8_meeting_24 hl (k := 2) rfl (by rw [← hx47]; rfl) (by decide) rfl (fun ls hl => ?_)
          refine lv_goto (tgt := 9) hx hb dX8_meeting_27 (by decide) ?_
          exact ih9 x47 (stR o9_0 30 u46) h _ _ _ hP hD hS (lv_sub hl [1, 2, 0] rfl)
    exact lp9 FU (0 : Int32) o0 h _ _ _ hP hD hS (lv_sub hl [1, 2, 0] rfl)
  · have h := ite_f k1 h
    refine lv_iconst (v := (-1 : Int32)) hx hb dX8_meeting_5 (by decide) ?_
    have h := Option.some.inj h
    subst h
    subst hQ
    exact W.iret (v := (-1 : Int32)) hx hb hr (fun t ht hW => ⟨⟨rfl, by rw [ht]; exact hP, hD⟩, hS.F ht⟩) hS.2.2 dX8_meeting_6
