def f_X8_lowest_90 (x24_5 : Int32) (kL24 : (Int32 → Option (Int32))) : Option (Int32) := bnd (x24_5 + (1 : Int32)) fun x2 : Int32 => kL24 x2
def f_X8_lowest_60 (o0 : Ob) (v1 : Int32) (v2 : Int32) (v3 : Int32) (x24_5 : Int32) (kL24 : (Int32 → Option (Int32))) (y60_0 : Int32) : Option (Int32) := if y60_0 = v3 then (if ((v1 + (23 : Int32)) + v2) < 0 ∨ 312 ≤ ((v1 + (23 : Int32)) + v2).toNatClampNeg then none else bnd (f_X8_has ((o0.2 18) ((v1 + (23 : Int32)) + v2).toNatClampNeg) x24_5) fun q5 : Bool => if (b2i q5) = 0 then (some x24_5) else (f_X8_lowest_90 x24_5 kL24)) else (f_X8_lowest_90 x24_5 kL24)
def f_X8_lowest_24 (o0 : Ob) (v1 : Int32) (v2 : Int32) (v3 : Int32) (y19_0 : Int32) : Nat → Int32 → Option (Int32)
  | 0, _ => none
  | nn24+1, x24_5 => if y19_0 ≤ x24_5 then (some (-4 : Int32)) else (if v2 = 0 then ((f_X8_place o0 v1 x24_5).bind fun q9 : Int32 => f_X8_lowest_60 o0 v1 v2 v3 x24_5 (f_X8_lowest_24 o0 v1 v2 v3 y19_0 nn24) q9) else (if ((((6 : Int32) * v2) - (6 : Int32)) + x24_5) < 0 ∨ 12 ≤ ((((6 : Int32) * v2) - (6 : Int32)) + x24_5).toNatClampNeg then none else f_X8_lowest_60 o0 v1 v2 v3 x24_5 (f_X8_lowest_24 o0 v1 v2 v3 y19_0 nn24) ((o0.2 1) ((((6 : Int32) * v2) - (6 : Int32)) + x24_5).toNatClampNeg)))
def f_X8_lowest_19 (o0 : Ob) (v1 : Int32) (v2 : Int32) (v3 : Int32) (y19_0 : Int32) : Option (Int32) := f_X8_lowest_24 o0 v1 v2 v3 y19_0 FU (0 : Int32)
def f_X8_lowest (o0 : Ob) (v1 : Int32) (v2 : Int32) (v3 : Int32) : Option (Int32) := if v2 = 0 then (f_X8_lowest_19 o0 v1 v2 v3 (o0.1 2)) else (if (v2 - (1 : Int32)) < 0 ∨ 2 ≤ (v2 - (1 : Int32)).toNatClampNeg then none else f_X8_lowest_19 o0 v1 v2 v3 ((o0.2 0) (v2 - (1 : Int32)).toNatClampNeg))
abbrev rmX8_lowest : Room := { frames := 2, cells := 0, slots := 0, locals := 46 }
theorem dsc_X8_lowest : yX8_lowest.cls ≠ "java/lang/invoke/MethodHandle" ∧ yX8_lowest.cls ≠ "java/lang/invoke/VarHandle" ∧ (parseMethodDescriptor yX8_lowest.desc).map (fun d => d.parameters.length) = some 3 := by decide +kernel
set_option maxHeartbeats 4000000 in
set_option maxRecDepth 100000 in
theorem c_X8_lowest (l : Launch) (dC : Nat → ClassId) (dI : Nat → Nat → Nat) (cB cI cZ cO : ClassId) (a0 : Nat) (g0 : Nat → Nat) (o0 : Ob) (v1 : Int32) (v2 : Int32) (v3 : Int32) {r : Int32} (h : f_X8_lowest o0 v1 v2 v3 = some r) : Ct dC dI cB cI cZ cO l yX8_lowest wsX8_lowest rmX8_lowest [.ref a0, .int v1, .int v2, .int v3] ([cX8 a0 g0 o0, cX8_0 cI g0 o0, cX8_1 cI g0 o0, cX8_3 cI g0 o0, cX8_4 cI g0 o0, cX8_6 cI g0 o0, cX8_8 cI g0 o0, cX8_9 cI g0 o0, cX8_10 cI g0 o0, cX8_12 cI g0 o0, cX8_13 cI g0 o0, cX8_15 cI g0 o0, cX8_17 cI g0 o0, cX8_18 cI g0 o0, cX8_22 cB g0 o0, cX8_27 cI g0 o0, cX8_28 cI g0 o0, cX8_29 cI g0 o0, cX8_30 cI g0 o0, cX8_31 cI g0 o0, cX8_32 cI g0 o0, cX8_33 cI g0 o0]) (some (.int r)) ([cX8 a0 g0 o0, cX8_0 cI g0 o0, cX8_1 cI g0 o0, cX8_3 cI g0 o0, cX8_4 cI g0 o0, cX8_6 cI g0 o0, cX8_8 cI g0 o0, cX8_9 cI g0 o0, cX8_10 cI g0 o0, cX8_12 cI g0 o0, cX8_13 cI g0 o0, cX8_15 cI g0 o0, cX8_17 cI g0 o0, cX8_18 cI g0 o0, cX8_22 cB g0 o0, cX8_27 cI g0 o0, cX8_28 cI g0 o0, cX8_29 cI g0 o0, cX8_30 cI g0 o0, cX8_31 cI g0 o0, cX8_32 cI g0 o0, cX8_33 cI g0 o0]) := by
  intro sz
  refine Met.ofW (cc := cX8_lowest) (maxL := 7) (ret := (some .int)) (by decide) rfl ?_
  intro p e s m args below meth c s₁ B hml hv
  obtain ⟨rfl, hsz, hP, hKK, hD0⟩ := hv
  have hx := B.exec
  have hb := B.bytes
  have hr := B.returns
  have hts := atoms_spec (ws := wsX8_lowest) B.pre
  have hown : s.vm.findClass RX8 = some m.cls := findClass_of_methodNamed B.named
  have hlocks := B.notSynchronized
  have hiX8 : ∀ w ∈ u_ws RX8 TX8 36, w ∈ wsX8_lowest := fun w h => List.mem_cons_of_mem _ (List.mem_append_right _ h)
  subst hsz
  have hD := hD0.self (sz := s.heap.size)
  generalize hAe : va_A ([cX8 a0 g0 o0, cX8_0 cI g0 o0, cX8_1 cI g0 o0, cX8_3 cI g0 o0, cX8_4 cI g0 o0, cX8_6 cI g0 o0, cX8_8 cI g0 o0, cX8_9 cI g0 o0, cX8_10 cI g0 o0, cX8_12 cI g0 o0, cX8_13 cI g0 o0, cX8_15 cI g0 o0, cX8_17 cI g0 o0, cX8_18 cI g0 o0, cX8_22 cB g0 o0, cX8_27 cI g0 o0, cX8_28 cI g0 o0, cX8_29 cI g0 o0, cX8_30 cI g0 o0, cX8_31 cI g0 o0, cX8_32 cI g0 o0, cX8_33 cI g0 o0]) s.heap.size = A at hD ⊢
  have hA : ∀ q : Nat, s.heap.size ≤ q → A q := fun q h => by rw [← hAe]; exact Or.inr h
  have hS : va_S A s.heap s.heap [] := va_S.rf
  have hP : va_P (dC, dI) vwCl ([cX8 a0 g0 o0, cX8_0 cI g0 o0, cX8_1 cI g0 o0, cX8_3 cI g0 o0, cX8_4 cI g0 o0, cX8_6 cI g0 o0, cX8_8 cI g0 o0, cX8_9 cI g0 o0, cX8_10 cI g0 o0, cX8_12 cI g0 o0, cX8_13 cI g0 o0, cX8_15 cI g0 o0, cX8_17 cI g0 o0, cX8_18 cI g0 o0, cX8_22 cB g0 o0, cX8_27 cI g0 o0, cX8_28 cI g0 o0, cX8_29 cI g0 o0, cX8_30 cI g0 o0, cX8_31 cI g0 o0, cX8_32 cI g0 o0, cX8_33 cI g0 o0]) s.heap := hP
  have hD : va_D A ([cX8 a0 g0 o0, cX8_0 cI g0 o0, cX8_1 cI g0 o0, cX8_3 cI g0 o0, cX8_4 cI g0 o0, cX8_6 cI g0 o0, cX8_8 cI g0 o0, cX8_9 cI g0 o0, cX8_10 cI g0 o0, cX8_12 cI g0 o0, cX8_13 cI g0 o0, cX8_15 cI g0 o0, cX8_17 cI g0 o0, cX8_18 cI g0 o0, cX8_22 cB g0 o0, cX8_27 cI g0 o0, cX8_28 cI g0 o0, cX8_29 cI g0 o0, cX8_30 cI g0 o0, cX8_31 cI g0 o0, cX8_32 cI g0 o0, cX8_33 cI g0 o0]) := hD
  have hl := lv_entry ([.ref a0, .int v1, .int v2, .int v3]) (n := 7) (Nat.le_of_ble_eq_true rfl)
  rw [lg_entry_eq]
  generalize (lg_sl ([.ref a0, .int v1, .int v2, .int v3]) ++ List.replicate (7 - (lg_sl ([.ref a0, .int v1, .int v2, .int v3])).length) Slot.unset).toArray = ls at hl ⊢
  have hl : lv_has ls 7 [(0, .ref a0), (1, .int v1), (2, .int v2), (3, .int v3)] := hl
  obtain ⟨Q, hQ⟩ : ∃ Q, Q = MQ below (Qq dC dI (some (.int r)) ([cX8 a0 g0 o0, cX8_0 cI g0 o0, cX8_1 cI g0 o0, cX8_3 cI g0 o0, cX8_4 cI g0 o0, cX8_6 cI g0 o0, cX8_8 cI g0 o0, cX8_9 cI g0 o0, cX8_10 cI g0 o0, cX8_12 cI g0 o0, cX8_13 cI g0 o0, cX8_15 cI g0 o0, cX8_17 cI g0 o0, cX8_18 cI g0 o0, cX8_22 cB g0 o0, cX8_27 cI g0 o0, cX8_28 cI g0 o0, cX8_29 cI g0 o0, cX8_30 cI g0 o0, cX8_31 cI g0 o0, cX8_32 cI g0 o0, cX8_33 cI g0 o0]) A) ([.ref a0, .int v1, .int v2, .int v3] : List Value).toArray s 0 0 A := ⟨_, rfl⟩
  rw [← hQ]
  rw [f_X8_lowest] at h
  clear hAe hD0
  refine lv_iload_n hx hb dX8_lowest_0 rfl (lv_at hl 2 rfl) ?_
  have jn19 : ∀ (y19_0 : Int32), f_X8_lowest_19 o0 v1 v2 v3 y19_0 = some r → ∀ (H : Heap) (locs : List Loc) (ls : Array Slot), va_P (dC, dI) vwCl ([cX8 a0 g0 o0, cX8_0 cI g0 o0, cX8_1 cI g0 o0, cX8_3 cI g0 o0, cX8_4 cI g0 o0, cX8_6 cI g0 o0, cX8_8 cI g0 o0, cX8_9 cI g0 o0, cX8_10 cI g0 o0, cX8_12 cI g0 o0, cX8_13 cI g0 o0, cX8_15 cI g0 o0, cX8_17 cI g0 o0, cX8_18 cI g0 o0, cX8_22 cB g0 o0, cX8_27 cI g0 o0, cX8_28 cI g0 o0, cX8_29 cI g0 o0, cX8_30 cI g0 o0, cX8_31 cI g0 o0, cX8_32 cI g0 o0, cX8_33 cI g0 o0]) H → va_D A ([cX8 a0 g0 o0, cX8_0 cI g0 o0, cX8_1 cI g0 o0, cX8_3 cI g0 o0, cX8_4 cI g0 o0, cX8_6 cI g0 o0, cX8_8 cI g0 o0, cX8_9 cI g0 o0, cX8_10 cI g0 o0, cX8_12 cI g0 o0, cX8_13 cI g0 o0, cX8_15 cI g0 o0, cX8_17 cI g0 o0, cX8_18 cI g0 o0, cX8_22 cB g0 o0, cX8_27 cI g0 o0, cX8_28 cI g0 o0, cX8_29 cI g0 o0, cX8_30 cI g0 o0, cX8_31 cI g0 o0, cX8_32 cI g0 o0, cX8_33 cI g0 o0]) → va_S A s.heap H locs → lv_has ls 7 [(0, .ref a0), (1, .int v1), (2, .int v2), (3, .int v3)] → W p l e (headSpec wsX8_lowest rmX8_lowest).room s m ([.ref a0, .int v1, .int v2, .int v3] : List Value).toArray below meth c H locs 0 0 Q (F0 m 19 ls [.int y19_0]) := by
    intro y19_0 h H locs ls hP hD hS hl
    rw [f_X8_lowest_19] at h
    refine lv_istore (lv' := [(4, .int y19_0), (0, .ref a0), (1, .int v1), (2, .int v2), (3, .int v3)]) hx hb dX8_lowest_19 hl (by decide) rfl (fun ls hl => ?_)
    refine lv_iconst (v := (0 : Int32)) hx hb dX8_lowest_21 (by decide) ?_
    refine lv_istore (lv' := [(5, .int (0 : Int32)), (4, .int y19_0), (0, .ref a0), (1, .int v1), (2, .int v2), (3, .int v3)]) hx hb dX8_lowest_22 hl (by decide) rfl (fun ls hl => ?_)
    have lp24 : ∀ (nn24 : Nat) (x24_5 : Int32), f_X8_lowest_24 o0 v1 v2 v3 y19_0 nn24 x24_5 = some r → ∀ (H : Heap) (locs : List Loc) (ls : Array Slot), va_P (dC, dI) vwCl ([cX8 a0 g0 o0, cX8_0 cI g0 o0, cX8_1 cI g0 o0, cX8_3 cI g0 o0, cX8_4 cI g0 o0, cX8_6 cI g0 o0, cX8_8 cI g0 o0, cX8_9 cI g0 o0, cX8_10 cI g0 o0, cX8_12 cI g0 o0, cX8_13 cI g0 o0, cX8_15 cI g0 o0, cX8_17 cI g0 o0, cX8_18 cI g0 o0, cX8_22 cB g0 o0, cX8_27 cI g0 o0, cX8_28 cI g0 o0, cX8_29 cI g0 o0, cX8_30 cI g0 o0, cX8_31 cI g0 o0, cX8_32 cI g0 o0, cX8_33 cI g0 o0]) H → va_D A ([cX8 a0 g0 o0, cX8_0 cI g0 o0, cX8_1 cI g0 o0, cX8_3 cI g0 o0, cX8_4 cI g0 o0, cX8_6 cI g0 o0, cX8_8 cI g0 o0, cX8_9 cI g0 o0, cX8_10 cI g0 o0, cX8_12 cI g0 o0, cX8_13 cI g0 o0, cX8_15 cI g0 o0, cX8_17 cI g0 o0, cX8_18 cI g0 o0, cX8_22 cB g0 o0, cX8_27 cI g0 o0, cX8_28 cI g0 o0, cX8_29 cI g0 o0, cX8_30 cI g0 o0, cX8_31 cI g0 o0, cX8_32 cI g0 o0, cX8_33 cI g0 o0]) → va_S A s.heap H locs → lv_has ls 7 [(0, .ref a0), (1, .int v1), (2, .int v2), (3, .int v3), (4, .int y19_0), (5, .int x24_5)] → W p l e (headSpec wsX8_lowest rmX8_lowest).room s m ([.ref a0, .int v1, .int v2, .int v3] : List Value).toArray below meth c H locs 0 0 Q (F0 m 24 ls []) := by
      intro nn24
      induction nn24 with
      | zero => intro x24_5 h; rw [f_X8_lowest_24] at h; cases h
      | succ nn24 ih24 =>
        intro x24_5 h H locs ls hP hD hS hl
        rw [f_X8_lowest_24] at h
        refine lv_iload hx hb dX8_lowest_24 (lv_at hl 5 rfl) ?_
        refine lv_iload hx hb dX8_lowest_26 (lv_at hl 4 rfl) ?_
        refine lv_icmp_ge (tgt := 96) hx hb dX8_lowest_28 (by decide) (fun k1 => ?_) (fun k1 => ?_)
        · have h := ite_t k1 h
          refine lv_bipush (v := (-4 : Int32)) hx hb dX8_lowest_96 (by decide) ?_
          have h := Option.some.inj h
          subst h
          subst hQ
          exact W.iret (v := (-4 : Int32)) hx hb hr (fun t ht hW => ⟨⟨rfl, by rw [ht]; exact hP, hD⟩, hS.F ht⟩) hS.2.2 dX8_lowest_98
        · have h := ite_f k1 h
          refine lv_iload_n hx hb dX8_lowest_31 rfl (lv_at hl 2 rfl) ?_
          have jn60 : ∀ (y60_0 : Int32), f_X8_lowest_60 o0 v1 v2 v3 x24_5 (f_X8_lowest_24 o0 v1 v2 v3 y19_0 nn24) y60_0 = some r → ∀ (H : Heap) (locs : List Loc) (ls : Array Slot), va_P (dC, dI) vwCl ([cX8 a0 g0 o0, cX8_0 cI g0 o0, cX8_1 cI g0 o0, cX8_3 cI g0 o0, cX8_4 cI g0 o0, cX8_6 cI g0 o0, cX8_8 cI g0 o0, cX8_9 cI g0 o0, cX8_10 cI g0 o0, cX8_12 cI g0 o0, cX8_13 cI g0 o0, cX8_15 cI g0 o0, cX8_17 cI g0 o0, cX8_18 cI g0 o0, cX8_22 cB g0 o0, cX8_27 cI g0 o0, cX8_28 cI g0 o0, cX8_29 cI g0 o0, cX8_30 cI g0 o0, cX8_31 cI g0 o0, cX8_32 cI g0 o0, cX8_33 cI g0 o0]) H → va_D A ([cX8 a0 g0 o0, cX8_0 cI g0 o0, cX8_1 cI g0 o0, cX8_3 cI g0 o0, cX8_4 cI g0 o0, cX8_6 cI g0 o0, cX8_8 cI g0 o0, cX8_9 cI g0 o0, cX8_10 cI g0 o0, cX8_12 cI g0 o0, cX8_13 cI g0 o0, cX8_15 cI g0 o0, cX8_17 cI g0 o0, cX8_18 cI g0 o0, cX8_22 cB g0 o0, cX8_27 cI g0 o0, cX8_28 cI g0 o0, cX8_29 cI g0 o0, cX8_30 cI g0 o0, cX8_31 cI g0 o0, cX8_32 cI g0 o0, cX8_33 cI g0 o0]) → va_S A s.heap H locs → lv_has ls 7 [(0, .ref a0), (1, .int v1), (2, .int v2), (3, .int v3), (4, .int y19_0), (5, .int x24_5)] → W p l e (headSpec wsX8_lowest rmX8_lowest).room s m ([.ref a0, .int v1, .int v2, .int v3] : List Value).toArray below meth c H locs 0 0 Q (F0 m 60 ls [.int y60_0]) := by
            intro y60_0 h H locs ls hP hD hS hl
            rw [f_X8_lowest_60] at h
            refine lv_istore (lv' := [(6, .int y60_0), (0, .ref a0), (1, .int v1), (2, .int v2), (3, .int v3), (4, .int y19_0), (5, .int x24_5)]) hx hb dX8_lowest_60 hl (by decide) rfl (fun ls hl => ?_)
            refine lv_iload hx hb dX8_lowest_62 (lv_at hl 0 rfl) ?_
            refine lv_iload_n hx hb dX8_lowest_64 rfl (lv_at hl 4 rfl) ?_
            have jn90 : f_X8_lowest_90 x24_5 (f_X8_lowest_24 o0 v1 v2 v3 y19_0 nn24) = some r → ∀ (H : Heap) (locs : List Loc) (ls : Array Slot), va_P (dC, dI) vwCl ([cX8 a0 g0 o0, cX8_0 cI g0 o0, cX8_1 cI g0 o0, cX8_3 cI g0 o0, cX8_4 cI g0 o0, cX8_6 cI g0 o0, cX8_8 cI g0 o0, cX8_9 cI g0 o0, cX8_10 cI g0 o0, cX8_12 cI g0 o0, cX8_13 cI g0 o0, cX8_15 cI g0 o0, cX8_17 cI g0 o0, cX8_18 cI g0 o0, cX8_22 cB g0 o0, cX8_27 cI g0 o0, cX8_28 cI g0 o0, cX8_29 cI g0 o0, cX8_30 cI g0 o0, cX8_31 cI g0 o0, cX8_32 cI g0 o0, cX8_33 cI g0 o0]) H → va_D A ([cX8 a0 g0 o0, cX8_0 cI g0 o0, cX8_1 cI g0 o0, cX8_3 cI g0 o0, cX8_4 cI g0 o0, cX8_6 cI g0 o0, cX8_8 cI g0 o0, cX8_9 cI g0 o0, cX8_10 cI g0 o0, cX8_12 cI g0 o0, cX8_13 cI g0 o0, cX8_15 cI g0 o0, cX8_17 cI g0 o0, cX8_18 cI g0 o0, cX8_22 cB g0 o0, cX8_27 cI g0 o0, cX8_28 cI g0 o0, cX8_29 cI g0 o0, cX8_30 cI g0 o0, cX8_31 cI g0 o0, cX8_32 cI g0 o0, cX8_33 cI g0 o0]) → va_S A s.heap H locs → lv_has ls 7 [(0, .ref a0), (1, .int v1), (2, .int v2), (3, .int v3), (4, .int y19_0), (5, .int x24_5)] → W p l e (headSpec wsX8_lowest rmX8_lowest).room s m ([.ref a0, .int v1, .int v2, .int v3] : List Value).toArray below meth c H locs 0 0 Q (F0 m 90 ls []) := by
              intro h H locs ls hP hD hS hl
              rw [f_X8_lowest_90] at h
              obtain ⟨x2, hx2, h⟩ := bnd_e h
              refine lv_iinc (v := x2) (lv' := [(5, .int x2), (0, .ref a0), (1, .int v1), (2, .int v2), (3, .int v3), (4, .int y19_0)]) hx hb dX8_lowest_90 hl (k := 5) rfl (by rw [← hx2]; rfl) (by decide) rfl (fun ls hl => ?_)
              refine lv_goto (tgt := 24) hx hb dX8_lowest_93 (by decide) ?_
              exact ih24 x2 h _ _ _ hP hD hS (lv_sub hl [1, 2, 3, 4, 5, 0] rfl)
            refine lv_icmp_ne (tgt := 90) hx hb dX8_lowest_65 (by decide) (fun k3 => ?_) (fun k3 => ?_)
            · have h := ite_f k3 h
              exact jn90 h _ _ _ hP hD hS (lv_sub hl [1, 2, 3, 4, 5, 6] rfl)
            · have h := ite_t k3 h
              refine lv_aload_n hx hb dX8_lowest_68 rfl (lv_at hl 1 rfl) ?_
              refine va_get (D := (dC, dI)) (ci := 8) (v := .ref (g0 18)) (C := RX8) (T := TX8) (N := 36) hx hb hts hiX8 hown hKK.1 hP 0 rfl rfl 18 (by decide) (hts (.fieldLink RX8 46 "SlideLandModel" "slot" "[I") (List.mem_of_getElem? (i := 4) rfl)) (fun _ h9 => h9) rfl dX8_lowest_69 ?_
              refine lv_iload_n hx hb dX8_lowest_72 rfl (lv_at hl 2 rfl) ?_
              refine lv_bipush (v := (23 : Int32)) hx hb dX8_lowest_73 (by decide) ?_
              refine lv_iadd hx hb dX8_lowest_75 ?_
              refine lv_iload_n hx hb dX8_lowest_76 rfl (lv_at hl 3 rfl) ?_
              refine lv_iadd hx hb dX8_lowest_77 ?_
              obtain ⟨k4, h⟩ := ite_n h
              refine va_iald hx hb hKK.1 hP 13 1 rfl rfl k4 dX8_lowest_78 ?_
              refine lv_iload hx hb dX8_lowest_79 (lv_at hl 6 rfl) ?_
              obtain ⟨q5, hq5, h⟩ := bnd_e h
              refine kcS (rest := []) (w2 := ([cX8 a0 g0 o0, cX8_0 cI g0 o0, cX8_1 cI g0 o0, cX8_3 cI g0 o0, cX8_4 cI g0 o0, cX8_6 cI g0 o0, cX8_8 cI g0 o0, cX8_9 cI g0 o0, cX8_10 cI g0 o0, cX8_12 cI g0 o0, cX8_13 cI g0 o0, cX8_15 cI g0 o0, cX8_17 cI g0 o0, cX8_18 cI g0 o0, cX8_22 cB g0 o0, cX8_27 cI g0 o0, cX8_28 cI g0 o0, cX8_29 cI g0 o0, cX8_30 cI g0 o0, cX8_31 cI g0 o0, cX8_32 cI g0 o0, cX8_33 cI g0 o0])) hx hb hml hown hts hKK hP hD hS hA (c_X8_has l dC dI cB cI cZ cO ((o0.2 18) ((v1 + (23 : Int32)) + v2).toNatClampNeg) x24_5 hq5) [] (atAll_map trivial) (by decide +kernel) (sameAd_map trivial) (atAll_map trivial) (agr_refl _ _ _) (va_cwS 2 hts gX8_lowest_X8_has rfl rfl rfl dsc_X8_has ⟨Nat.le_of_ble_eq_true rfl, Nat.le_of_ble_eq_true rfl⟩) rfl hl.1 rfl (Nat.le_of_ble_eq_true rfl) dX8_lowest_81 ⟨Nat.zero_le _, Nat.zero_le _⟩ (fun H locs hP hD hS => ?_)
              refine lv_if_ne (tgt := 90) hx hb dX8_lowest_84 (by decide) (fun k6 => ?_) (fun k6 => ?_)
              · have h := ite_f k6 h
                exact jn90 h _ _ _ hP hD hS (lv_sub hl [1, 2, 3, 4, 5, 6] rfl)
              · have h := ite_t k6 h
                refine lv_iload hx hb dX8_lowest_87 (lv_at hl 6 rfl) ?_
                have h := Option.some.inj h
                subst h
                subst hQ
                exact W.iret (v := x24_5) hx hb hr (fun t ht hW => ⟨⟨rfl, by rw [ht]; exact hP, hD⟩, hS.F ht⟩) hS.2.2 dX8_lowest_89
          refine lv_if_ne (tgt := 45) hx hb dX8_lowest_32 (by decide) (fun k7 => ?_) (fun k7 => ?_)
          · have h := ite_f k7 h
            refine lv_aload_n hx hb dX8_lowest_45 rfl (lv_at hl 0 rfl) ?_
            refine va_get (D := (dC, dI)) (ci := 8) (v := .ref (g0 1)) (C := RX8) (T := TX8) (N := 36) hx hb hts hiX8 hown hKK.1 hP 0 rfl rfl 1 (by decide) (hts (.fieldLink RX8 13 "SlideLandModel" "inch" "[I") (List.mem_of_getElem? (i := 3) rfl)) (fun _ h9 => h9) rfl dX8_lowest_46 ?_
            refine lv_bipush (v := (6 : Int32)) hx hb dX8_lowest_49 (by decide) ?_
            refine lv_iload_n hx hb dX8_lowest_51 rfl (lv_at hl 2 rfl) ?_
            refine lv_imul hx hb dX8_lowest_52 ?_
            refine lv_bipush (v := (6 : Int32)) hx hb dX8_lowest_53 (by decide) ?_
            refine lv_isub hx hb dX8_lowest_55 ?_
            refine lv_iload hx hb dX8_lowest_56 (lv_at hl 5 rfl) ?_
            refine lv_iadd hx hb dX8_lowest_58 ?_
            obtain ⟨k8, h⟩ := ite_n h
            refine va_iald hx hb hKK.1 hP 2 1 rfl rfl k8 dX8_lowest_59 ?_
            exact jn60 ((o0.2 1) ((((6 : Int32) * v2) - (6 : Int32)) + x24_5).toNatClampNeg) h _ _ _ hP hD hS (lv_sub hl [0, 1, 2, 3, 4, 5] rfl)
          · have h := ite_t k7 h
            refine lv_aload_n hx hb dX8_lowest_35 rfl (lv_at hl 0 rfl) ?_
            refine lv_iload_n hx hb dX8_lowest_36 rfl (lv_at hl 1 rfl) ?_
            refine lv_iload hx hb dX8_lowest_37 (lv_at hl 5 rfl) ?_
            obtain ⟨q9, hq9, h⟩ := obd_e h
            refine kcV (rest := []) (w2 := ([cX8 a0 g0 o0, cX8_0 cI g0 o0, cX8_1 cI g0 o0, cX8_3 cI g0 o0, cX8_4 cI g0 o0, cX8_6 cI g0 o0, cX8_8 cI g0 o0, cX8_9 cI g0 o0, cX8_10 cI g0 o0, cX8_12 cI g0 o0, cX8_13 cI g0 o0, cX8_15 cI g0 o0, cX8_17 cI g0 o0, cX8_18 cI g0 o0, cX8_22 cB g0 o0, cX8_27 cI g0 o0, cX8_28 cI g0 o0, cX8_29 cI g0 o0, cX8_30 cI g0 o0, cX8_31 cI g0 o0, cX8_32 cI g0 o0, cX8_33 cI g0 o0])) hx hb hml hown hts hKK hP hD hS hA (c_X8_place l dC dI cB cI cZ cO a0 g0 o0 v1 x24_5 hq9) [0, 1, 2, 3, 4, 5, 6, 7, 8, 9, 10, 11, 12, 13, 14, 15, 16, 17, 18, 19, 20, 21] (atAll_map ⟨rfl, rfl, rfl, rfl, rfl, rfl, rfl, rfl, rfl, rfl, rfl, rfl, rfl, rfl, rfl, rfl, rfl, rfl, rfl, rfl, rfl, rfl, trivial⟩) (by decide +kernel) (sameAd_map ⟨rfl, rfl, rfl, rfl, rfl, rfl, rfl, rfl, rfl, rfl, rfl, rfl, rfl, rfl, rfl, rfl, rfl, rfl, rfl, rfl, rfl, rfl, trivial⟩) (atAll_map ⟨rfl, rfl, rfl, rfl, rfl, rfl, rfl, rfl, rfl, rfl, rfl, rfl, rfl, rfl, rfl, rfl, rfl, rfl, rfl, rfl, rfl, rfl, trivial⟩) (agr_refl _ _ _) (cwV 2 hts gX8_lowest_X8_place rfl rfl rfl ⟨rfl, dsc_X8_place⟩ ⟨Nat.le_of_ble_eq_true rfl, Nat.le_of_ble_eq_true rfl⟩) (va_recv hKK.1 hP (ci := 8) (q0 := 0) rfl rfl) rfl hl.1 rfl (Nat.le_of_ble_eq_true rfl) dX8_lowest_39 ⟨Nat.zero_le _, Nat.zero_le _⟩ (fun H locs hP hD hS => ?_)
            refine lv_goto (tgt := 60) hx hb dX8_lowest_42 (by decide) ?_
            exact jn60 q9 h _ _ _ hP hD hS (lv_sub hl [0, 1, 2, 3, 4, 5] rfl)
    exact lp24 FU (0 : Int32) h _ _ _ hP hD hS (lv_sub hl [2, 3, 4, 5, 1, 0] rfl)
  refine lv_if_ne (tgt := 11) hx hb dX8_lowest_1 (by decide) (fun k10 => ?_) (fun k10 => ?_)
  · have h := ite_f k10 h
    refine lv_aload_n hx hb dX8_lowest_11 rfl (lv_at hl 0 rfl) ?_
    refine va_get (D := (dC, dI)) (ci := 8) (v := .ref (g0 0)) (C := RX8) (T := TX8) (N := 36) hx hb hts hiX8 hown hKK.1 hP 0 rfl rfl 0 (by decide) (hts (.fieldLink RX8 7 "SlideLandModel" "many" "[I") (List.mem_of_getElem? (i := 2) rfl)) (fun _ h9 => h9) rfl dX8_lowest_12 ?_
    refine lv_iload_n hx hb dX8_lowest_15 rfl (lv_at hl 2 rfl) ?_
    refine lv_iconst (v := (1 : Int32)) hx hb dX8_lowest_16 (by decide) ?_
    refine lv_isub hx hb dX8_lowest_17 ?_
    obtain ⟨k11, h⟩ := ite_n h
    refine va_iald hx hb hKK.1 hP 1 1 rfl rfl k11 dX8_lowest_18 ?_
    exact jn19 ((o0.2 0) (v2 - (1 : Int32)).toNatClampNeg) h _ _ _ hP hD hS (lv_sub hl [0, 1, 2, 3] rfl)
  · have h := ite_t k10 h
    refine lv_aload_n hx hb dX8_lowest_4 rfl (lv_at hl 0 rfl) ?_
    refine va_get (D := (dC, dI)) (ci := 8) (v := .int (o0.1 2)) (C := RX8) (T := TX8) (N := 36) hx hb hts hiX8 hown hKK.1 hP 0 rfl rfl 2 (by decide) (hts (.fieldLink RX8 98 "SlideLandModel" "strips" "I") (List.mem_of_getElem? (i := 1) rfl)) (fun _ h9 => h9) rfl dX8_lowest_5 ?_
    refine lv_goto (tgt := 19) hx hb dX8_lowest_8 (by decide) ?_
    exact jn19 (o0.1 2) h _ _ _ hP hD hS (lv_sub hl [0, 1, 2, 3] rfl)
def f_X8_weds_181 (o0 : Ob) (v1 : Int32) (y40_0 : Bool) (y61_0 : Bool) (y88_0 : Bool) (u9 : Nat → Int32) (y181_3 : Int32) : Option (Bool × Ob) := if ((v1 + (23 : Int32)) + (2 : Int32)) < 0 ∨ 312 ≤ ((v1 + (23 : Int32)) + (2 : Int32)).toNatClampNeg then none else bnd (upd u9 ((v1 + (23 : Int32)) + (2 : Int32)).toNatClampNeg ((u9 ((v1 + (23 : Int32)) + (2 : Int32)).toNatClampNeg) ||| y181_3)) fun u12 : Nat → Int32 => if (b2i y40_0) = 0 then (if (b2i y61_0) = 0 then (if (b2i y88_0) = 0 then (some (false, (stR o0 18 u12))) else (some (true, (stR o0 18 u12)))) else (some (true, (stR o0 18 u12)))) else (some (true, (stR o0 18 u12)))
def f_X8_weds_173 (o0 : Ob) (v1 : Int32) (q3 : Int32) (y40_0 : Bool) (y61_0 : Bool) (y88_0 : Bool) (u9 : Nat → Int32) : Option (Bool × Ob) := f_X8_weds_181 o0 v1 y40_0 y61_0 y88_0 u9 ((1 : Int32) <<< (q3 &&& 31))
def f_X8_weds_149 (o0 : Ob) (v1 : Int32) (q3 : Int32) (y40_0 : Bool) (y61_0 : Bool) (y88_0 : Bool) (u6 : Nat → Int32) (y149_3 : Int32) : Option (Bool × Ob) := if ((v1 + (23 : Int32)) + (1 : Int32)) < 0 ∨ 312 ≤ ((v1 + (23 : Int32)) + (1 : Int32)).toNatClampNeg then none else bnd (upd u6 ((v1 + (23 : Int32)) + (1 : Int32)).toNatClampNeg ((u6 ((v1 + (23 : Int32)) + (1 : Int32)).toNatClampNeg) ||| y149_3)) fun u9 : Nat → Int32 => if ((v1 + (23 : Int32)) + (2 : Int32)) < 0 ∨ 312 ≤ ((v1 + (23 : Int32)) + (2 : Int32)).toNatClampNeg then none else if (b2i y61_0) = 0 then (if (b2i y88_0) = 0 then (f_X8_weds_181 o0 v1 y40_0 y61_0 y88_0 u9 (0 : Int32)) else (f_X8_weds_173 o0 v1 q3 y40_0 y61_0 y88_0 u9)) else (f_X8_weds_173 o0 v1 q3 y40_0 y61_0 y88_0 u9)
def f_X8_weds_141 (o0 : Ob) (v1 : Int32) (q2 : Int32) (q3 : Int32) (y40_0 : Bool) (y61_0 : Bool) (y88_0 : Bool) (u6 : Nat → Int32) : Option (Bool × Ob) := f_X8_weds_149 o0 v1 q3 y40_0 y61_0 y88_0 u6 ((1 : Int32) <<< (q2 &&& 31))
def f_X8_weds_117 (o0 : Ob) (v1 : Int32) (q2 : Int32) (q3 : Int32) (y40_0 : Bool) (y61_0 : Bool) (y88_0 : Bool) (y117_3 : Int32) : Option (Bool × Ob) := if (v1 + (23 : Int32)) < 0 ∨ 312 ≤ (v1 + (23 : Int32)).toNatClampNeg then none else bnd (upd (o0.2 18) (v1 + (23 : Int32)).toNatClampNeg (((o0.2 18) (v1 + (23 : Int32)).toNatClampNeg) ||| y117_3)) fun u6 : Nat → Int32 => if ((v1 + (23 : Int32)) + (1 : Int32)) < 0 ∨ 312 ≤ ((v1 + (23 : Int32)) + (1 : Int32)).toNatClampNeg then none else if (b2i y40_0) = 0 then (if (b2i y88_0) = 0 then (f_X8_weds_149 o0 v1 q3 y40_0 y61_0 y88_0 u6 (0 : Int32)) else (f_X8_weds_141 o0 v1 q2 q3 y40_0 y61_0 y88_0 u6)) else (f_X8_weds_141 o0 v1 q2 q3 y40_0 y61_0 y88_0 u6)
def f_X8_weds_110 (o0 : Ob) (v1 : Int32) (q1 : Int32) (q2 : Int32) (q3 : Int32) (y40_0 : Bool) (y61_0 : Bool) (y88_0 : Bool) : Option (Bool × Ob) := f_X8_weds_117 o0 v1 q2 q3 y40_0 y61_0 y88_0 ((1 : Int32) <<< (q1 &&& 31))
def f_X8_weds_88 (o0 : Ob) (v1 : Int32) (q1 : Int32) (q2 : Int32) (q3 : Int32) (y40_0 : Bool) (y61_0 : Bool) (y88_0 : Bool) : Option (Bool × Ob) := if (v1 + (23 : Int32)) < 0 ∨ 312 ≤ (v1 + (23 : Int32)).toNatClampNeg then none else if (b2i y40_0) = 0 then (if (b2i y61_0) = 0 then (f_X8_weds_117 o0 v1 q2 q3 y40_0 y61_0 y88_0 (0 : Int32)) else (f_X8_weds_110 o0 v1 q1 q2 q3 y40_0 y61_0 y88_0)) else (f_X8_weds_110 o0 v1 q1 q2 q3 y40_0 y61_0 y88_0)
def f_X8_weds_87 (o0 : Ob) (v1 : Int32) (q1 : Int32) (q2 : Int32) (q3 : Int32) (y40_0 : Bool) (y61_0 : Bool) : Option (Bool × Ob) := f_X8_weds_88 o0 v1 q1 q2 q3 y40_0 y61_0 false
def f_X8_weds_61 (o0 : Ob) (v1 : Int32) (q1 : Int32) (q2 : Int32) (q3 : Int32) (y40_0 : Bool) (y61_0 : Bool) : Option (Bool × Ob) := if (b2i y40_0) = 0 then (if (b2i y61_0) = 0 then (if q2 < 0 then (f_X8_weds_87 o0 v1 q1 q2 q3 y40_0 y61_0) else (if q3 < 0 then (f_X8_weds_87 o0 v1 q1 q2 q3 y40_0 y61_0) else (f_X8_weds_88 o0 v1 q1 q2 q3 y40_0 y61_0 true))) else (f_X8_weds_87 o0 v1 q1 q2 q3 y40_0 y61_0)) else (f_X8_weds_87 o0 v1 q1 q2 q3 y40_0 y61_0)
def f_X8_weds_60 (o0 : Ob) (v1 : Int32) (q1 : Int32) (q2 : Int32) (q3 : Int32) (y40_0 : Bool) : Option (Bool × Ob) := f_X8_weds_61 o0 v1 q1 q2 q3 y40_0 false
def f_X8_weds_40 (o0 : Ob) (v1 : Int32) (q1 : Int32) (q2 : Int32) (q3 : Int32) (y40_0 : Bool) : Option (Bool × Ob) := if (b2i y40_0) = 0 then (if q1 < 0 then (f_X8_weds_60 o0 v1 q1 q2 q3 y40_0) else (if q3 < 0 then (f_X8_weds_60 o0 v1 q1 q2 q3 y40_0) else (f_X8_weds_61 o0 v1 q1 q2 q3 y40_0 true))) else (f_X8_weds_60 o0 v1 q1 q2 q3 y40_0)
def f_X8_weds_39 (o0 : Ob) (v1 : Int32) (q1 : Int32) (q2 : Int32) (q3 : Int32) : Option (Bool × Ob) := f_X8_weds_40 o0 v1 q1 q2 q3 false
def f_X8_weds (o0 : Ob) (v1 : Int32) (v2 : Int32) : Option (Bool × Ob) := (f_X8_lowest o0 v1 (0 : Int32) v2).bind fun q1 : Int32 => (f_X8_lowest o0 v1 (1 : Int32) v2).bind fun q2 : Int32 => (f_X8_lowest o0 v1 (2 : Int32) v2).bind fun q3 : Int32 => if q2 < 0 then (f_X8_weds_39 o0 v1 q1 q2 q3) else (if q1 < 0 then (f_X8_weds_39 o0 v1 q1 q2 q3) else (f_X8_weds_40 o0 v1 q1 q2 q3 true))
abbrev rmX8_weds : Room := { frames := 3, cells := 0, slots := 0, locals := 72 }
theorem dsc_X8_weds : yX8_weds.cls ≠ "java/lang/invoke/MethodHandle" ∧ yX8_weds.cls ≠ "java/lang/invoke/VarHandle" ∧ (parseMethodDescriptor yX8_weds.desc).map (fun d => d.parameters.length) = some 2 := by decide +kernel
set_option maxHeartbeats 4000000 in
set_option maxRecDepth 100000 in
theorem c_X8_weds (l : Launch) (dC : Nat → ClassId) (dI : Nat → Nat → Nat) (cB cI cZ cO : ClassId) (a0 : Nat) (g0 : Nat → Nat) (o0 : Ob) (v1 : Int32) (v2 : Int32) {r : Bool × Ob} (h : f_X8_weds o0 v1 v2 = some r) : Ct dC dI cB cI cZ cO l yX8_weds wsX8_weds rmX8_weds [.ref a0, .int v1, .int v2] ([cX8 a0 g0 o0, cX8_0 cI g0 o0, cX8_1 cI g0 o0, cX8_3 cI g0 o0, cX8_4 cI g0 o0, cX8_6 cI g0 o0, cX8_8 cI g0 o0, cX8_9 cI g0 o0, cX8_10 cI g0 o0, cX8_12 cI g0 o0, cX8_13 cI g0 o0, cX8_15 cI g0 o0, cX8_17 cI g0 o0, cX8_18 cI g0 o0, cX8_22 cB g0 o0, cX8_27 cI g0 o0, cX8_28 cI g0 o0, cX8_29 cI g0 o0, cX8_30 cI g0 o0, cX8_31 cI g0 o0, cX8_32 cI g0 o0, cX8_33 cI g0 o0]) (some (.int (b2i r.1))) ([cX8 a0 g0 r.2, cX8_0 cI g0 r.2, cX8_1 cI g0 r.2, cX8_3 cI g0 r.2, cX8_4 cI g0 r.2, cX8_6 cI g0 r.2, cX8_8 cI g0 r.2, cX8_9 cI g0 r.2, cX8_10 cI g0 r.2, cX8_12 cI g0 r.2, cX8_13 cI g0 r.2, cX8_15 cI g0 r.2, cX8_17 cI g0 r.2, cX8_18 cI g0 r.2, cX8_22 cB g0 r.2, cX8_27 cI g0 r.2, cX8_28 cI g0 r.2, cX8_29 cI g0 r.2, cX8_30 cI g0 r.2, cX8_31 cI g0 r.2, cX8_32 cI g0 r.2, cX8_33 cI g0 r.2]) := by
  intro sz
  refine Met.ofW (cc := cX8_weds) (maxL := 9) (ret := (some .boolean)) (by decide) rfl ?_
  intro p e s m args below meth c s₁ B hml hv
  obtain ⟨rfl, hsz, hP, hKK, hD0⟩ := hv
  have hx := B.exec
  have hb := B.bytes
  have hr := B.returns
  have hts := atoms_spec (ws := wsX8_weds) B.pre
  have hown : s.vm.findClass RX8 = some m.cls := findClass_of_methodNamed B.named
  have hlocks := B.notSynchronized
  have hiX8 : ∀ w ∈ u_ws RX8 TX8 36, w ∈ wsX8_weds := fun w h => List.mem_cons_of_mem _ (List.mem_append_right _ h)
  subst hsz
  have hD := hD0.self (sz := s.heap.size)
  generalize hAe : va_A ([cX8 a0 g0 o0, cX8_0 cI g0 o0, cX8_1 cI g0 o0, cX8_3 cI g0 o0, cX8_4 cI g0 o0, cX8_6 cI g0 o0, cX8_8 cI g0 o0, cX8_9 cI g0 o0, cX8_10 cI g0 o0, cX8_12 cI g0 o0, cX8_13 cI g0 o0, cX8_15 cI g0 o0, cX8_17 cI g0 o0, cX8_18 cI g0 o0, cX8_22 cB g0 o0, cX8_27 cI g0 o0, cX8_28 cI g0 o0, cX8_29 cI g0 o0, cX8_30 cI g0 o0, cX8_31 cI g0 o0, cX8_32 cI g0 o0, cX8_33 cI g0 o0]) s.heap.size = A at hD ⊢
  have hA : ∀ q : Nat, s.heap.size ≤ q → A q := fun q h => by rw [← hAe]; exact Or.inr h
  have hS : va_S A s.heap s.heap [] := va_S.rf
  have hP : va_P (dC, dI) vwCl ([cX8 a0 g0 o0, cX8_0 cI g0 o0, cX8_1 cI g0 o0, cX8_3 cI g0 o0, cX8_4 cI g0 o0, cX8_6 cI g0 o0, cX8_8 cI g0 o0, cX8_9 cI g0 o0, cX8_10 cI g0 o0, cX8_12 cI g0 o0, cX8_13 cI g0 o0, cX8_15 cI g0 o0, cX8_17 cI g0 o0, cX8_18 cI g0 o0, cX8_22 cB g0 o0, cX8_27 cI g0 o0, cX8_28 cI g0 o0, cX8_29 cI g0 o0, cX8_30 cI g0 o0, cX8_31 cI g0 o0, cX8_32 cI g0 o0, cX8_33 cI g0 o0]) s.heap := hP
  have hD : va_D A ([cX8 a0 g0 o0, cX8_0 cI g0 o0, cX8_1 cI g0 o0, cX8_3 cI g0 o0, cX8_4 cI g0 o0, cX8_6 cI g0 o0, cX8_8 cI g0 o0, cX8_9 cI g0 o0, cX8_10 cI g0 o0, cX8_12 cI g0 o0, cX8_13 cI g0 o0, cX8_15 cI g0 o0, cX8_17 cI g0 o0, cX8_18 cI g0 o0, cX8_22 cB g0 o0, cX8_27 cI g0 o0, cX8_28 cI g0 o0, cX8_29 cI g0 o0, cX8_30 cI g0 o0, cX8_31 cI g0 o0, cX8_32 cI g0 o0, cX8_33 cI g0 o0]) := hD
  have hl := lv_entry ([.ref a0, .int v1, .int v2]) (n := 9) (Nat.le_of_ble_eq_true rfl)
  rw [lg_entry_eq]
  generalize (lg_sl ([.ref a0, .int v1, .int v2]) ++ List.replicate (9 - (lg_sl ([.ref a0, .int v1, .int v2])).length) Slot.unset).toArray = ls at hl ⊢
  have hl : lv_has ls 9 [(0, .ref a0), (1, .int v1), (2, .int v2)] := hl
  obtain ⟨Q, hQ⟩ : ∃ Q, Q = MQ below (Qq dC dI (some (.int (b2i r.1))) ([cX8 a0 g0 r.2, cX8_0 cI g0 r.2, cX8_1 cI g0 r.2, cX8_3 cI g0 r.2, cX8_4 cI g0 r.2, cX8_6 cI g0 r.2, cX8_8 cI g0 r.2, cX8_9 cI g0 r.2, cX8_10 cI g0 r.2, cX8_12 cI g0 r.2, cX8_13 cI g0 r.2, cX8_15 cI g0 r.2, cX8_17 cI g0 r.2, cX8_18 cI g0 r.2, cX8_22 cB g0 r.2, cX8_27 cI g0 r.2, cX8_28 cI g0 r.2, cX8_29 cI g0 r.2, cX8_30 cI g0 r.2, cX8_31 cI g0 r.2, cX8_32 cI g0 r.2, cX8_33 cI g0 r.2]) A) ([.ref a0, .int v1, .int v2] : List Value).toArray s 0 0 A := ⟨_, rfl⟩
  rw [← hQ]
  rw [f_X8_weds] at h
  clear hAe hD0
  refine lv_aload_n hx hb dX8_weds_0 rfl (lv_at hl 0 rfl) ?_
  refine lv_iload_n hx hb dX8_weds_1 rfl (lv_at hl 1 rfl) ?_
  refine lv_iconst (v := (0 : Int32)) hx hb dX8_weds_2 (by decide) ?_
  refine lv_iload_n hx hb dX8_weds_3 rfl (lv_at hl 2 rfl) ?_
  obtain ⟨q1, hq1, h⟩ := obd_e h
  refine kcV (rest := []) (w2 := ([cX8 a0 g0 o0, cX8_0 cI g0 o0, cX8_1 cI g0 o0, cX8_3 cI g0 o0, cX8_4 cI g0 o0, cX8_6 cI g0 o0, cX8_8 cI g0 o0, cX8_9 cI g0 o0, cX8_10 cI g0 o0, cX8_12 cI g0 o0, cX8_13 cI g0 o0, cX8_15 cI g0 o0, cX8_17 cI g0 o0, cX8_18 cI g0 o0, cX8_22 cB g0 o0, cX8_27 cI g0 o0, cX8_28 cI g0 o0, cX8_29 cI g0 o0, cX8_30 cI g0 o0, cX8_31 cI g0 o0, cX8_32 cI g0 o0, cX8_33 cI g0 o0])) hx hb hml hown hts hKK hP hD hS hA (c_X8_lowest l dC dI cB cI cZ cO a0 g0 o0 v1 (0 : Int32) v2 hq1) [0, 1, 2, 3, 4, 5, 6, 7, 8, 9, 10, 11, 12, 13, 14, 15, 16, 17, 18, 19, 20, 21] (atAll_map ⟨rfl, rfl, rfl, rfl, rfl, rfl, rfl, rfl, rfl, rfl, rfl, rfl, rfl, rfl, rfl, rfl, rfl, rfl, rfl, rfl, rfl, rfl, trivial⟩) (by decide +kernel) (sameAd_map ⟨rfl, rfl, rfl, rfl, rfl, rfl, rfl, rfl, rfl, rfl, rfl, rfl, rfl, rfl, rfl, rfl, rfl, rfl, rfl, rfl, rfl, rfl, trivial⟩) (atAll_map ⟨rfl, rfl, rfl, rfl, rfl, rfl, rfl, rfl, rfl, rfl, rfl, rfl, rfl, rfl, rfl, rfl, rfl, rfl, rfl, rfl, rfl, rfl, trivial⟩) (agr_refl _ _ _) (cwV 3 hts gX8_weds_X8_lowest rfl rfl rfl ⟨rfl, dsc_X8_lowest⟩ ⟨Nat.le_of_ble_eq_true rfl, Nat.le_of_ble_eq_true rfl⟩) (va_recv hKK.1 hP (ci := 8) (q0 := 0) rfl rfl) rfl hl.1 rfl (Nat.le_of_ble_eq_true rfl) dX8_weds_4 ⟨Nat.zero_le _, Nat.zero_le _⟩ (fun H locs hP hD hS => ?_)
  refine lv_istore_n (lv' := [(3, .int q1), (0, .ref a0), (1, .int v1), (2, .int v2)]) hx hb dX8_weds_7 rfl hl (by decide) rfl (fun ls hl => ?_)
  refine lv_aload_n hx hb dX8_weds_8 rfl (lv_at hl 1 rfl) ?_
  refine lv_iload_n hx hb dX8_weds_9 rfl (lv_at hl 2 rfl) ?_
  refine lv_iconst (v := (1 : Int32)) hx hb dX8_weds_10 (by decide) ?_
  refine lv_iload_n hx hb dX8_weds_11 rfl (lv_at hl 3 rfl) ?_
  obtain ⟨q2, hq2, h⟩ := obd_e h
  refine kcV (rest := []) (w2 := ([cX8 a0 g0 o0, cX8_0 cI g0 o0, cX8_1 cI g0 o0, cX8_3 cI g0 o0, cX8_4 cI g0 o0, cX8_6 cI g0 o0, cX8_8 cI g0 o0, cX8_9 cI g0 o0, cX8_10 cI g0 o0, cX8_12 cI g0 o0, cX8_13 cI g0 o0, cX8_15 cI g0 o0, cX8_17 cI g0 o0, cX8_18 cI g0 o0, cX8_22 cB g0 o0, cX8_27 cI g0 o0, cX8_28 cI g0 o0, cX8_29 cI g0 o0, cX8_30 cI g0 o0, cX8_31 cI g0 o0, cX8_32 cI g0 o0, cX8_33 cI g0 o0])) hx hb hml hown hts hKK hP hD hS hA (c_X8_lowest l dC dI cB cI cZ cO a0 g0 o0 v1 (1 : Int32) v2 hq2) [0, 1, 2, 3, 4, 5, 6, 7, 8, 9, 10, 11, 12, 13, 14, 15, 16, 17, 18, 19, 20, 21] (atAll_map ⟨rfl, rfl, rfl, rfl, rfl, rfl, rfl, rfl, rfl, rfl, rfl, rfl, rfl, rfl, rfl, rfl, rfl, rfl, rfl, rfl, rfl, rfl, trivial⟩) (by decide +kernel) (sameAd_map ⟨rfl, rfl, rfl, rfl, rfl, rfl, rfl, rfl, rfl, rfl, rfl, rfl, rfl, rfl, rfl, rfl, rfl, rfl, rfl, rfl, rfl, rfl, trivial⟩) (atAll_map ⟨rfl, rfl, rfl, rfl, rfl, rfl, rfl, rfl, rfl, rfl, rfl, rfl, rfl, rfl, rfl, rfl, rfl, rfl, rfl, rfl, rfl, rfl, trivial⟩) (agr_refl _ _ _) (cwV 3 hts gX8_weds_X8_lowest rfl rfl rfl ⟨rfl, dsc_X8_lowest⟩ ⟨Nat.le_of_ble_eq_true rfl, Nat.le_of_ble_eq_true rfl⟩) (va_recv hKK.1 hP (ci := 8) (q0 := 0) rfl rfl) rfl hl.1 rfl (Nat.le_of_ble_eq_true rfl) dX8_weds_12 ⟨Nat.zero_le _, Nat.zero_le _⟩ (fun H locs hP hD hS => ?_)
  refine lv_istore (lv' := [(4, .int q2), (3, .int q1), (0, .ref a0), (1, .int v1), (2, .int v2)]) hx hb dX8_weds_15 hl (by decide) rfl (fun ls hl => ?_)
  refine lv_aload_n hx hb dX8_weds_17 rfl (lv_at hl 2 rfl) ?_
  refine lv_iload_n hx hb dX8_weds_18 rfl (lv_at hl 3 rfl) ?_
  refine lv_iconst (v := (2 : Int32)) hx hb dX8_weds_19 (by decide) ?_
  refine lv_iload_n hx hb dX8_weds_20 rfl (lv_at hl 4 rfl) ?_
  obtain ⟨q3, hq3, h⟩ := obd_e h
  refine kcV (rest := []) (w2 := ([cX8 a0 g0 o0, cX8_0 cI g0 o0, cX8_1 cI g0 o0, cX8_3 cI g0 o0, cX8_4 cI g0 o0, cX8_6 cI g0 o0, cX8_8 cI g0 o0, cX8_9 cI g0 o0, cX8_10 cI g0 o0, cX8_12 cI g0 o0, cX8_13 cI g0 o0, cX8_15 cI g0 o0, cX8_17 cI g0 o0, cX8_18 cI g0 o0, cX8_22 cB g0 o0, cX8_27 cI g0 o0, cX8_28 cI g0 o0, cX8_29 cI g0 o0, cX8_30 cI g0 o0, cX8_31 cI g0 o0, cX8_32 cI g0 o0, cX8_33 cI g0 o0])) hx hb hml hown hts hKK hP hD hS hA (c_X8_lowest l dC dI cB cI cZ cO a0 g0 o0 v1 (2 : Int32) v2 hq3) [0, 1, 2, 3, 4, 5, 6, 7, 8, 9, 10, 11, 12, 13, 14, 15, 16, 17, 18, 19, 20, 21] (atAll_map ⟨rfl, rfl, rfl, rfl, rfl, rfl, rfl, rfl, rfl, rfl, rfl, rfl, rfl, rfl, rfl, rfl, rfl, rfl, rfl, rfl, rfl, rfl, trivial⟩) (by decide +kernel) (sameAd_map ⟨rfl, rfl, rfl, rfl, rfl, rfl, rfl, rfl, rfl, rfl, rfl, rfl, rfl, rfl, rfl, rfl, rfl, rfl, rfl, rfl, rfl, rfl, trivial⟩) (atAll_map ⟨rfl, rfl, rfl, rfl, rfl, rfl, rfl, rfl, rfl, rfl, rfl, rfl, rfl, rfl, rfl, rfl, rfl, rfl, rfl, rfl, rfl, rfl, trivial⟩) (agr_refl _ _ _) (cwV 3 hts gX8_weds_X8_lowest rfl rfl rfl ⟨rfl, dsc_X8_lowest⟩ ⟨Nat.le_of_ble_eq_true rfl, Nat.le_of_ble_eq_true rfl⟩) (va_recv hKK.1 hP (ci := 8) (q0 := 0) rfl rfl) rfl hl.1 rfl (Nat.le_of_ble_eq_true rfl) dX8_weds_21 ⟨Nat.zero_le _, Nat.zero_le _⟩ (fun H locs hP hD hS => ?_)
  refine lv_istore (lv' := [(5, .int q3), (4, .int q2), (3, .int q1), (0, .ref a0), (1, .int v1), (2, .int v2)]) hx hb dX8_weds_24 hl (by decide) rfl (fun ls hl => ?_)
  refine lv_iload hx hb dX8_weds_26 (lv_at hl 1 rfl) ?_
  have jn40 : ∀ (y40_0 : Bool), f_X8_weds_40 o0 v1 q1 q2 q3 y40_0 = some r → ∀ (H : Heap) (locs : List Loc) (ls : Array Slot), va_P (dC, dI) vwCl ([cX8 a0 g0 o0, cX8_0 cI g0 o0, cX8_1 cI g0 o0, cX8_3 cI g0 o0, cX8_4 cI g0 o0, cX8_6 cI g0 o0, cX8_8 cI g0 o0, cX8_9 cI g0 o0, cX8_10 cI g0 o0, cX8_12 cI g0 o0, cX8_13 cI g0 o0, cX8_15 cI g0 o0, cX8_17 cI g0 o0, cX8_18 cI g0 o0, cX8_22 cB g0 o0, cX8_27 cI g0 o0, cX8_28 cI g0 o0, cX8_29 cI g0 o0, cX8_30 cI g0 o0, cX8_31 cI g0 o0, cX8_32 cI g0 o0, cX8_33 cI g0 o0]) H → va_D A ([cX8 a0 g0 o0, cX8_0 cI g0 o0, cX8_1 cI g0 o0, cX8_3 cI g0 o0, cX8_4 cI g0 o0, cX8_6 cI g0 o0, cX8_8 cI g0 o0, cX8_9 cI g0 o0, cX8_10 cI g0 o0, cX8_12 cI g0 o0, cX8_13 cI g0 o0, cX8_15 cI g0 o0, cX8_17 cI g0 o0, cX8_18 cI g0 o0, cX8_22 cB g0 o0, cX8_27 cI g0 o0, cX8_28 cI g0 o0, cX8_29 cI g0 o0, cX8_30 cI g0 o0, cX8_31 cI g0 o0, cX8_32 cI g0 o0, cX8_33 cI g0 o0]) → va_S A s.heap H locs → lv_has ls 9 [(0, .ref a0), (1, .int v1), (3, .int q1), (4, .int q2), (5, .int q3)] → W p l e (headSpec wsX8_weds rmX8_weds).room s m ([.ref a0, .int v1, .int v2] : List Value).toArray below meth c H locs 0 0 Q (F0 m 40 ls [.int (b2i y40_0)]) := by
    intro y40_0 h H locs ls hP hD hS hl
    rw [f_X8_weds_40] at h
    refine lv_istore (lv' := [(6, .int (b2i y40_0)), (0, .ref a0), (1, .int v1), (3, .int q1), (4, .int q2), (5, .int q3)]) hx hb dX8_weds_40 hl (by decide) rfl (fun ls hl => ?_)
    refine lv_iload hx hb dX8_weds_42 (lv_at hl 0 rfl) ?_
    have jn61 : ∀ (y61_0 : Bool), f_X8_weds_61 o0 v1 q1 q2 q3 y40_0 y61_0 = some r → ∀ (H : Heap) (locs : List Loc) (ls : Array Slot), va_P (dC, dI) vwCl ([cX8 a0 g0 o0, cX8_0 cI g0 o0, cX8_1 cI g0 o0, cX8_3 cI g0 o0, cX8_4 cI g0 o0, cX8_6 cI g0 o0, cX8_8 cI g0 o0, cX8_9 cI g0 o0, cX8_10 cI g0 o0, cX8_12 cI g0 o0, cX8_13 cI g0 o0, cX8_15 cI g0 o0, cX8_17 cI g0 o0, cX8_18 cI g0 o0, cX8_22 cB g0 o0, cX8_27 cI g0 o0, cX8_28 cI g0 o0, cX8_29 cI g0 o0, cX8_30 cI g0 o0, cX8_31 cI g0 o0, cX8_32 cI g0 o0, cX8_33 cI g0 o0]) H → va_D A ([cX8 a0 g0 o0, cX8_0 cI g0 o0, cX8_1 cI g0 o0, cX8_3 cI g0 o0, cX8_4 cI g0 o0, cX8_6 cI g0 o0, cX8_8 cI g0 o0, cX8_9 cI g0 o0, cX8_10 cI g0 o0, cX8_12 cI g0 o0, cX8_13 cI g0 o0, cX8_15 cI g0 o0, cX8_17 cI g0 o0, cX8_18 cI g0 o0, cX8_22 cB g0 o0, cX8_27 cI g0 o0, cX8_28 cI g0 o0, cX8_29 cI g0 o0, cX8_30 cI g0 o0, cX8_31 cI g0 o0, cX8_32 cI g0 o0, cX8_33 cI g0 o0]) → va_S A s.heap H locs → lv_has ls 9 [(0, .ref a0), (1, .int v1), (3, .int q1), (4, .int q2), (5, .int q3), (6, .int (b2i y40_0))] → W p l e (headSpec wsX8_weds rmX8_weds).room s m ([.ref a0, .int v1, .int v2] : List Value).toArray below meth c H locs 0 0 Q (F0 m 61 ls [.int (b2i y61_0)]) := by
      intro y61_0 h H locs ls hP hD hS hl
      rw [f_X8_weds_61] at h
      refine lv_istore (lv' := [(7, .int (b2i y61_0)), (0, .ref a0), (1, .int v1), (3, .int q1), (4, .int q2), (5, .int q3), (6, .int (b2i y40_0))]) hx hb dX8_weds_61 hl (by decide) rfl (fun ls hl => ?_)
      refine lv_iload hx hb dX8_weds_63 (lv_at hl 6 rfl) ?_
      have jn88 : ∀ (y88_0 : Bool), f_X8_weds_88 o0 v1 q1 q2 q3 y40_0 y61_0 y88_0 = some r → ∀ (H : Heap) (locs : List Loc) (ls : Array Slot), va_P (dC, dI) vwCl ([cX8 a0 g0 o0, cX8_0 cI g0 o0, cX8_1 cI g0 o0, cX8_3 cI g0 o0, cX8_4 cI g0 o0, cX8_6 cI g0 o0, cX8_8 cI g0 o0, cX8_9 cI g0 o0, cX8_10 cI g0 o0, cX8_12 cI g0 o0, cX8_13 cI g0 o0, cX8_15 cI g0 o0, cX8_17 cI g0 o0, cX8_18 cI g0 o0, cX8_22 cB g0 o0, cX8_27 cI g0 o0, cX8_28 cI g0 o0, cX8_29 cI g0 o0, cX8_30 cI g0 o0, cX8_31 cI g0 o0, cX8_32 cI g0 o0, cX8_33 cI g0 o0]) H → va_D A ([cX8 a0 g0 o0, cX8_0 cI g0 o0, cX8_1 cI g0 o0, cX8_3 cI g0 o0, cX8_4 cI g0 o0, cX8_6 cI g0 o0, cX8_8 cI g0 o0, cX8_9 cI g0 o0, cX8_10 cI g0 o0, cX8_12 cI g0 o0, cX8_13 cI g0 o0, cX8_15 cI g0 o0, cX8_17 cI g0 o0, cX8_18 cI g0 o0, cX8_22 cB g0 o0, cX8_27 cI g0 o0, cX8_28 cI g0 o0, cX8_29 cI g0 o0, cX8_30 cI g0 o0, cX8_31 cI g0 o0, cX8_32 cI g0 o0, cX8_33 cI g0 o0]) → va_S A s.heap H locs → lv_has ls 9 [(0, .ref a0), (1, .int v1), (3, .int q1), (4, .int q2), (5, .int q3), (6, .int (b2i y40_0)), (7, .int (b2i y61_0))] → W p l e (headSpec wsX8_weds rmX8_weds).room s m ([.ref a0, .int v1, .int v2] : List Value).toArray below meth c H locs 0 0 Q (F0 m 88 ls [.int (b2i y88_0)]) := by
        intro y88_0 h H locs ls hP hD hS hl
        rw [f_X8_weds_88] at h
        refine lv_istore (lv' := [(8, .int (b2i y88_0)), (0, .ref a0), (1, .int v1), (3, .int q1), (4, .int q2), (5, .int q3), (6, .int (b2i y40_0)), (7, .int (b2i y61_0))]) hx hb dX8_weds_88 hl (by decide) rfl (fun ls hl => ?_)
        refine lv_aload_n hx hb dX8_weds_90 rfl (lv_at hl 1 rfl) ?_
        refine va_get (D := (dC, dI)) (ci := 8) (v := .ref (g0 18)) (C := RX8) (T := TX8) (N := 36) hx hb hts hiX8 hown hKK.1 hP 0 rfl rfl 18 (by decide) (hts (.fieldLink RX8 46 "SlideLandModel" "slot" "[I") (List.mem_of_getElem? (i := 1) rfl)) (fun _ h9 => h9) rfl dX8_weds_91 ?_
        refine lv_iload_n hx hb dX8_weds_94 rfl (lv_at hl 2 rfl) ?_
        refine lv_bipush (v := (23 : Int32)) hx hb dX8_weds_95 (by decide) ?_
        refine lv_iadd hx hb dX8_weds_97 ?_
        refine lv_dup2_11 hx hb dX8_weds_98 rfl rfl ?_
        obtain ⟨k4, h⟩ := ite_n h
        refine va_iald hx hb hKK.1 hP 13 1 rfl rfl k4 dX8_weds_99 ?_
        refine lv_iload hx hb dX8_weds_100 (lv_at hl 6 rfl) ?_
        have jn117 : ∀ (y117_3 : Int32), f_X8_weds_117 o0 v1 q2 q3 y40_0 y61_0 y88_0 y117_3 = some r → ∀ (H : Heap) (locs : List Loc) (ls : Array Slot), va_P (dC, dI) vwCl ([cX8 a0 g0 o0, cX8_0 cI g0 o0, cX8_1 cI g0 o0, cX8_3 cI g0 o0, cX8_4 cI g0 o0, cX8_6 cI g0 o0, cX8_8 cI g0 o0, cX8_9 cI g0 o0, cX8_10 cI g0 o0, cX8_12 cI g0 o0, cX8_13 cI g0 o0, cX8_15 cI g0 o0, cX8_17 cI g0 o0, cX8_18 cI g0 o0, cX8_22 cB g0 o0, cX8_27 cI g0 o0, cX8_28 cI g0 o0, cX8_29 cI g0 o0, cX8_30 cI g0 o0, cX8_31 cI g0 o0, cX8_32 cI g0 o0, cX8_33 cI g0 o0]) H → va_D A ([cX8 a0 g0 o0, cX8_0 cI g0 o0, cX8_1 cI g0 o0, cX8_3 cI g0 o0, cX8_4 cI g0 o0, cX8_6 cI g0 o0, cX8_8 cI g0 o0, cX8_9 cI g0 o0, cX8_10 cI g0 o0, cX8_12 cI g0 o0, cX8_13 cI g0 o0, cX8_15 cI g0 o0, cX8_17 cI g0 o0, cX8_18 cI g0 o0, cX8_22 cB g0 o0, cX8_27 cI g0 o0, cX8_28 cI g0 o0, cX8_29 cI g0 o0, cX8_30 cI g0 o0, cX8_31 cI g0 o0, cX8_32 cI g0 o0, cX8_33 cI g0 o0]) → va_S A s.heap H locs → lv_has ls 9 [(0, .ref a0), (1, .int v1), (4, .int q2), (5, .int q3), (6, .int (b2i y40_0)), (7, .int (b2i y61_0)), (8, .int (b2i y88_0))] → W p l e (headSpec wsX8_weds rmX8_weds).room s m ([.ref a0, .int v1, .int v2] : List Value).toArray below meth c H locs 0 0 Q (F0 m 117 ls [.int y117_3, .int ((o0.2 18) (v1 + (23 : Int32)).toNatClampNeg), .int (v1 + (23 : Int32)), .ref (g0 18)]) := by
          intro y117_3 h H locs ls hP hD hS hl
          rw [f_X8_weds_117] at h
          refine lv_ior hx hb dX8_weds_117 ?_
          obtain ⟨k5, h⟩ := ite_n h
          obtain ⟨u6, hu6, h⟩ := bnd_e h
          refine k_iast (f := (o0.2 18)) hx hb hKK.1 hP hD hS 13 1 hu6 rfl rfl k5 dX8_weds_118 (fun H locs hP hD hS => ?_)
          have hP : va_P (dC, dI) vwCl ([cX8 a0 g0 (stR o0 18 u6), cX8_0 cI g0 (stR o0 18 u6), cX8_1 cI g0 (stR o0 18 u6), cX8_3 cI g0 (stR o0 18 u6), cX8_4 cI g0 (stR o0 18 u6), cX8_6 cI g0 (stR o0 18 u6), cX8_8 cI g0 (stR o0 18 u6), cX8_9 cI g0 (stR o0 18 u6), cX8_10 cI g0 (stR o0 18 u6), cX8_12 cI g0 (stR o0 18 u6), cX8_13 cI g0 (stR o0 18 u6), cX8_15 cI g0 (stR o0 18 u6), cX8_17 cI g0 (stR o0 18 u6), cX8_18 cI g0 (stR o0 18 u6), cX8_22 cB g0 (stR o0 18 u6), cX8_27 cI g0 (stR o0 18 u6), cX8_28 cI g0 (stR o0 18 u6), cX8_29 cI g0 (stR o0 18 u6), cX8_30 cI g0 (stR o0 18 u6), cX8_31 cI g0 (stR o0 18 u6), cX8_32 cI g0 (stR o0 18 u6), cX8_33 cI g0 (stR o0 18 u6)]) H := hP
          have hD : va_D A ([cX8 a0 g0 (stR o0 18 u6), cX8_0 cI g0 (stR o0 18 u6), cX8_1 cI g0 (stR o0 18 u6), cX8_3 cI g0 (stR o0 18 u6), cX8_4 cI g0 (stR o0 18 u6), cX8_6 cI g0 (stR o0 18 u6), cX8_8 cI g0 (stR o0 18 u6), cX8_9 cI g0 (stR o0 18 u6), cX8_10 cI g0 (stR o0 18 u6), cX8_12 cI g0 (stR o0 18 u6), cX8_13 cI g0 (stR o0 18 u6), cX8_15 cI g0 (stR o0 18 u6), cX8_17 cI g0 (stR o0 18 u6), cX8_18 cI g0 (stR o0 18 u6), cX8_22 cB g0 (stR o0 18 u6), cX8_27 cI g0 (stR o0 18 u6), cX8_28 cI g0 (stR o0 18 u6), cX8_29 cI g0 (stR o0 18 u6), cX8_30 cI g0 (stR o0 18 u6), cX8_31 cI g0 (stR o0 18 u6), cX8_32 cI g0 (stR o0 18 u6), cX8_33 cI g0 (stR o0 18 u6)]) := hD
          refine lv_aload_n hx hb dX8_weds_119 rfl (lv_at hl 0 rfl) ?_
          refine va_get (D := (dC, dI)) (ci := 8) (v := .ref (g0 18)) (C := RX8) (T := TX8) (N := 36) hx hb hts hiX8 hown hKK.1 hP 0 rfl rfl 18 (by decide) (hts (.fieldLink RX8 46 "SlideLandModel" "slot" "[I") (List.mem_of_getElem? (i := 1) rfl)) (fun _ h9 => h9) rfl dX8_weds_120 ?_
          refine lv_iload_n hx hb dX8_weds_123 rfl (lv_at hl 1 rfl) ?_
          refine lv_bipush (v := (23 : Int32)) hx hb dX8_weds_124 (by decide) ?_
          refine lv_iadd hx hb dX8_weds_126 ?_
          refine lv_iconst (v := (1 : Int32)) hx hb dX8_weds_127 (by decide) ?_
          refine lv_iadd hx hb dX8_weds_128 ?_
          refine lv_dup2_11 hx hb dX8_weds_129 rfl rfl ?_
          obtain ⟨k7, h⟩ := ite_n h
          refine va_iald hx hb hKK.1 hP 13 1 rfl rfl k7 dX8_weds_130 ?_
          refine lv_iload hx hb dX8_weds_131 (lv_at hl 4 rfl) ?_
          have jn149 : ∀ (y149_3 : Int32), f_X8_weds_149 o0 v1 q3 y40_0 y61_0 y88_0 u6 y149_3 = some r → ∀ (H : Heap) (locs : List Loc) (ls : Array Slot), va_P (dC, dI) vwCl ([cX8 a0 g0 (stR o0 18 u6), cX8_0 cI g0 (stR o0 18 u6), cX8_1 cI g0 (stR o0 18 u6), cX8_3 cI g0 (stR o0 18 u6), cX8_4 cI g0 (stR o0 18 u6), cX8_6 cI g0 (stR o0 18 u6), cX8_8 cI g0 (stR o0 18 u6), cX8_9 cI g0 (stR o0 18 u6), cX8_10 cI g0 (stR o0 18 u6), cX8_12 cI g0 (stR o0 18 u6), cX8_13 cI g0 (stR o0 18 u6), cX8_15 cI g0 (stR o0 18 u6), cX8_17 cI g0 (stR o0 18 u6), cX8_18 cI g0 (stR o0 18 u6), cX8_22 cB g0 (stR o0 18 u6), cX8_27 cI g0 (stR o0 18 u6), cX8_28 cI g0 (stR o0 18 u6), cX8_29 cI g0 (stR o0 18 u6), cX8_30 cI g0 (stR o0 18 u6), cX8_31 cI g0 (stR o0 18 u6), cX8_32 cI g0 (stR o0 18 u6), cX8_33 cI g0 (stR o0 18 u6)]) H → va_D A ([cX8 a0 g0 (stR o0 18 u6), cX8_0 cI g0 (stR o0 18 u6), cX8_1 cI g0 (stR o0 18 u6), cX8_3 cI g0 (stR o0 18 u6), cX8_4 cI g0 (stR o0 18 u6), cX8_6 cI g0 (stR o0 18 u6), cX8_8 cI g0 (stR o0 18 u6), cX8_9 cI g0 (stR o0 18 u6), cX8_10 cI g0 (stR o0 18 u6), cX8_12 cI g0 (stR o0 18 u6), cX8_13 cI g0 (stR o0 18 u6), cX8_15 cI g0 (stR o0 18 u6), cX8_17 cI g0 (stR o0 18 u6), cX8_18 cI g0 (stR o0 18 u6), cX8_22 cB g0 (stR o0 18 u6), cX8_27 cI g0 (stR o0 18 u6), cX8_28 cI g0 (stR o0 18 u6), cX8_29 cI g0 (stR o0 18 u6), cX8_30 cI g0 (stR o0 18 u6), cX8_31 cI g0 (stR o0 18 u6), cX8_32 cI g0 (stR o0 18 u6), cX8_33 cI g0 (stR o0 18 u6)]) → va_S A s.heap H locs → lv_has ls 9 [(0, .ref a0), (1, .int v1), (5, .int q3), (6, .int (b2i y40_0)), (7, .int (b2i y61_0)), (8, .int (b2i y88_0))] → W p l e (headSpec wsX8_weds rmX8_weds).room s m ([.ref a0, .int v1, .int v2] : List Value).toArray below meth c H locs 0 0 Q (F0 m 149 ls [.int y149_3, .int (u6 ((v1 + (23 : Int32)) + (1 : Int32)).toNatClampNeg), .int ((v1 + (23 : Int32)) + (1 : Int32)), .ref (g0 18)]) := by
            intro y149_3 h H locs ls hP hD hS hl
            rw [f_X8_weds_149] at h
            refine lv_ior hx hb dX8_weds_149 ?_
            obtain ⟨k8, h⟩ := ite_n h
            obtain ⟨u9, hu9, h⟩ := bnd_e h
            refine k_iast (f := u6) hx hb hKK.1 hP hD hS 13 1 hu9 rfl rfl k8 dX8_weds_150 (fun H locs hP hD hS => ?_)
            have hP : va_P (dC, dI) vwCl ([cX8 a0 g0 (stR o0 18 u9), cX8_0 cI g0 (stR o0 18 u9), cX8_1 cI g0 (stR o0 18 u9), cX8_3 cI g0 (stR o0 18 u9), cX8_4 cI g0 (stR o0 18 u9), cX8_6 cI g0 (stR o0 18 u9), cX8_8 cI g0 (stR o0 18 u9), cX8_9 cI g0 (stR o0 18 u9), cX8_10 cI g0 (stR o0 18 u9), cX8_12 cI g0 (stR o0 18 u9), cX8_13 cI g0 (stR o0 18 u9), cX8_15 cI g0 (stR o0 18 u9), cX8_17 cI g0 (stR o0 18 u9), cX8_18 cI g0 (stR o0 18 u9), cX8_22 cB g0 (stR o0 18 u9), cX8_27 cI g0 (stR o0 18 u9), cX8_28 cI g0 (stR o0 18 u9), cX8_29 cI g0 (stR o0 18 u9), cX8_30 cI g0 (stR o0 18 u9), cX8_31 cI g0 (stR o0 18 u9), cX8_32 cI g0 (stR o0 18 u9), cX8_33 cI g0 (stR o0 18 u9)]) H := hP
            have hD : va_D A ([cX8 a0 g0 (stR o0 18 u9), cX8_0 cI g0 (stR o0 18 u9), cX8_1 cI g0 (stR o0 18 u9), cX8_3 cI g0 (stR o0 18 u9), cX8_4 cI g0 (stR o0 18 u9), cX8_6 cI g0 (stR o0 18 u9), cX8_8 cI g0 (stR o0 18 u9), cX8_9 cI g0 (stR o0 18 u9), cX8_10 cI g0 (stR o0 18 u9), cX8_12 cI g0 (stR o0 18 u9), cX8_13 cI g0 (stR o0 18 u9), cX8_15 cI g0 (stR o0 18 u9), cX8_17 cI g0 (stR o0 18 u9), cX8_18 cI g0 (stR o0 18 u9), cX8_22 cB g0 (stR o0 18 u9), cX8_27 cI g0 (stR o0 18 u9), cX8_28 cI g0 (stR o0 18 u9), cX8_29 cI g0 (stR o0 18 u9), cX8_30 cI g0 (stR o0 18 u9), cX8_31 cI g0 (stR o0 18 u9), cX8_32 cI g0 (stR o0 18 u9), cX8_33 cI g0 (stR o0 18 u9)]) := hD
            refine lv_aload_n hx hb dX8_weds_151 rfl (lv_at hl 0 rfl) ?_
            refine va_get (D := (dC, dI)) (ci := 8) (v := .ref (g0 18)) (C := RX8) (T := TX8) (N := 36) hx hb hts hiX8 hown hKK.1 hP 0 rfl rfl 18 (by decide) (hts (.fieldLink RX8 46 "SlideLandModel" "slot" "[I") (List.mem_of_getElem? (i := 1) rfl)) (fun _ h9 => h9) rfl dX8_weds_152 ?_
            refine lv_iload_n hx hb dX8_weds_155 rfl (lv_at hl 1 rfl) ?_
            refine lv_bipush (v := (23 : Int32)) hx hb dX8_weds_156 (by decide) ?_
            refine lv_iadd hx hb dX8_weds_158 ?_
            refine lv_iconst (v := (2 : Int32)) hx hb dX8_weds_159 (by decide) ?_
            refine lv_iadd hx hb dX8_weds_160 ?_
            refine lv_dup2_11 hx hb dX8_weds_161 rfl rfl ?_
            obtain ⟨k10, h⟩ := ite_n h
            refine va_iald hx hb hKK.1 hP 13 1 rfl rfl k10 dX8_weds_162 ?_
            refine lv_iload hx hb dX8_weds_163 (lv_at hl 4 rfl) ?_
            have jn181 : ∀ (y181_3 : Int32), f_X8_weds_181 o0 v1 y40_0 y61_0 y88_0 u9 y181_3 = some r → ∀ (H : Heap) (locs : List Loc) (ls : Array Slot), va_P (dC, dI) vwCl ([cX8 a0 g0 (stR o0 18 u9), cX8_0 cI g0 (stR o0 18 u9), cX8_1 cI g0 (stR o0 18 u9), cX8_3 cI g0 (stR o0 18 u9), cX8_4 cI g0 (stR o0 18 u9), cX8_6 cI g0 (stR o0 18 u9), cX8_8 cI g0 (stR o0 18 u9), cX8_9 cI g0 (stR o0 18 u9), cX8_10 cI g0 (stR o0 18 u9), cX8_12 cI g0 (stR o0 18 u9), cX8_13 cI g0 (stR o0 18 u9), cX8_15 cI g0 (stR o0 18 u9), cX8_17 cI g0 (stR o0 18 u9), cX8_18 cI g0 (stR o0 18 u9), cX8_22 cB g0 (stR o0 18 u9), cX8_27 cI g0 (stR o0 18 u9), cX8_28 cI g0 (stR o0 18 u9), cX8_29 cI g0 (stR o0 18 u9), cX8_30 cI g0 (stR o0 18 u9), cX8_31 cI g0 (stR o0 18 u9), cX8_32 cI g0 (stR o0 18 u9), cX8_33 cI g0 (stR o0 18 u9)]) H → va_D A ([cX8 a0 g0 (stR o0 18 u9), cX8_0 cI g0 (stR o0 18 u9), cX8_1 cI g0 (stR o0 18 u9), cX8_3 cI g0 (stR o0 18 u9), cX8_4 cI g0 (stR o0 18 u9), cX8_6 cI g0 (stR o0 18 u9), cX8_8 cI g0 (stR o0 18 u9), cX8_9 cI g0 (stR o0 18 u9), cX8_10 cI g0 (stR o0 18 u9), cX8_12 cI g0 (stR o0 18 u9), cX8_13 cI g0 (stR o0 18 u9), cX8_15 cI g0 (stR o0 18 u9), cX8_17 cI g0 (stR o0 18 u9), cX8_18 cI g0 (stR o0 18 u9), cX8_22 cB g0 (stR o0 18 u9), cX8_27 cI g0 (stR o0 18 u9), cX8_28 cI g0 (stR o0 18 u9), cX8_29 cI g0 (stR o0 18 u9), cX8_30 cI g0 (stR o0 18 u9), cX8_31 cI g0 (stR o0 18 u9), cX8_32 cI g0 (stR o0 18 u9), cX8_33 cI g0 (stR o0 18 u9)]) → va_S A s.heap H locs → lv_has ls 9 [(6, .int (b2i y40_0)), (7, .int (b2i y61_0)), (8, .int (b2i y88_0))] → W p l e (headSpec wsX8_weds rmX8_weds).room s m ([.ref a0, .int v1, .int v2] : List Value).toArray below meth c H locs 0 0 Q (F0 m 181 ls [.int y181_3, .int (u9 ((v1 + (23 : Int32)) + (2 : Int32)).toNatClampNeg), .int ((v1 + (23 : Int32)) + (2 : Int32)), .ref (g0 18)]) := by
              intro y181_3 h H locs ls hP hD hS hl
              rw [f_X8_weds_181] at h
              refine lv_ior hx hb dX8_weds_181 ?_
              obtain ⟨k11, h⟩ := ite_n h
              obtain ⟨u12, hu12, h⟩ := bnd_e h
              refine k_iast (f := u9) hx hb hKK.1 hP hD hS 13 1 hu12 rfl rfl k11 dX8_weds_182 (fun H locs hP hD hS => ?_)
              have hP : va_P (dC, dI) vwCl ([cX8 a0 g0 (stR o0 18 u12), cX8_0 cI g0 (stR o0 18 u12), cX8_1 cI g0 (stR o0 18 u12), cX8_3 cI g0 (stR o0 18 u12), cX8_4 cI g0 (stR o0 18 u12), cX8_6 cI g0 (stR o0 18 u12), cX8_8 cI g0 (stR o0 18 u12), cX8_9 cI g0 (stR o0 18 u12), cX8_10 cI g0 (stR o0 18 u12), cX8_12 cI g0 (stR o0 18 u12), cX8_13 cI g0 (stR o0 18 u12), cX8_15 cI g0 (stR o0 18 u12), cX8_17 cI g0 (stR o0 18 u12), cX8_18 cI g0 (stR o0 18 u12), cX8_22 cB g0 (stR o0 18 u12), cX8_27 cI g0 (stR o0 18 u12), cX8_28 cI g0 (stR o0 18 u12), cX8_29 cI g0 (stR o0 18 u12), cX8_30 cI g0 (stR o0 18 u12), cX8_31 cI g0 (stR o0 18 u12), cX8_32 cI g0 (stR o0 18 u12), cX8_33 cI g0 (stR o0 18 u12)]) H := hP
              have hD : va_D A ([cX8 a0 g0 (stR o0 18 u12), cX8_0 cI g0 (stR o0 18 u12), cX8_1 cI g0 (stR o0 18 u12), cX8_3 cI g0 (stR o0 18 u12), cX8_4 cI g0 (stR o0 18 u12), cX8_6 cI g0 (stR o0 18 u12), cX8_8 cI g0 (stR o0 18 u12), cX8_9 cI g0 (stR o0 18 u12), cX8_10 cI g0 (stR o0 18 u12), cX8_12 cI g0 (stR o0 18 u12), cX8_13 cI g0 (stR o0 18 u12), cX8_15 cI g0 (stR o0 18 u12), cX8_17 cI g0 (stR o0 18 u12), cX8_18 cI g0 (stR o0 18 u12), cX8_22 cB g0 (stR o0 18 u12), cX8_27 cI g0 (stR o0 18 u12), cX8_28 cI g0 (stR o0 18 u12), cX8_29 cI g0 (stR o0 18 u12), cX8_30 cI g0 (stR o0 18 u12), cX8_31 cI g0 (stR o0 18 u12), cX8_32 cI g0 (stR o0 18 u12), cX8_33 cI g0 (stR o0 18 u12)]) := hD
              refine lv_iload hx hb dX8_weds_183 (lv_at hl 0 rfl) ?_
              refine lv_if_ne (tgt := 198) hx hb dX8_weds_185 (by decide) (fun k13 => ?_) (fun k13 => ?_)
              · have h := ite_f k13 h
                refine lv_iconst (v := (1 : Int32)) hx hb dX8_weds_198 (by decide) ?_
                refine lv_goto (tgt := 203) hx hb dX8_weds_199 (by decide) ?_
                have h := Option.some.inj h
                subst h
                subst hQ
                exact W.zret (v := (1 : Int32)) hx hb hr rfl (fun t ht hW => ⟨⟨rfl, by rw [ht]; exact hP, hD⟩, hS.F ht⟩) hS.2.2 dX8_weds_203
              · have h := ite_t k13 h
                refine lv_iload hx hb dX8_weds_188 (lv_at hl 1 rfl) ?_
                refine lv_if_ne (tgt := 198) hx hb dX8_weds_190 (by decide) (fun k14 => ?_) (fun k14 => ?_)
                · have h := ite_f k14 h
                  refine lv_iconst (v := (1 : Int32)) hx hb dX8_weds_198 (by decide) ?_
                  refine lv_goto (tgt := 203) hx hb dX8_weds_199 (by decide) ?_
                  have h := Option.some.inj h
                  subst h
                  subst hQ
                  exact W.zret (v := (1 : Int32)) hx hb hr rfl (fun t ht hW => ⟨⟨rfl, by rw [ht]; exact hP, hD⟩, hS.F ht⟩) hS.2.2 dX8_weds_203
                · have h := ite_t k14 h
                  refine lv_iload hx hb dX8_weds_193 (lv_at hl 2 rfl) ?_
                  refine lv_if_eq (tgt := 202) hx hb dX8_weds_195 (by decide) (fun k15 => ?_) (fun k15 => ?_)
                  · have h := ite_t k15 h
                    refine lv_iconst (v := (0 : Int32)) hx hb dX8_weds_202 (by decide) ?_
                    have h := Option.some.inj h
                    subst h
                    subst hQ
                    exact W.zret (v := (0 : Int32)) hx hb hr rfl (fun t ht hW => ⟨⟨rfl, by rw [ht]; exact hP, hD⟩, hS.F ht⟩) hS.2.2 dX8_weds_203
                  · have h := ite_f k15 h
                    refine lv_iconst (v := (1 : Int32)) hx hb dX8_weds_198 (by decide) ?_
                    refine lv_goto (tgt := 203) hx hb dX8_weds_199 (by decide) ?_
                    have h := Option.some.inj h
                    subst h
                    subst hQ
                    exact W.zret (v := (1 : Int32)) hx hb hr rfl (fun t ht hW => ⟨⟨rfl, by rw [ht]; exact hP, hD⟩, hS.F ht⟩) hS.2.2 dX8_weds_203
            have jn173 : f_X8_weds_173 o0 v1 q3 y40_0 y61_0 y88_0 u9 = some r → ∀ (H : Heap) (locs : List Loc) (ls : Array Slot), va_P (dC, dI) vwCl ([cX8 a0 g0 (stR o0 18 u9), cX8_0 cI g0 (stR o0 18 u9), cX8_1 cI g0 (stR o0 18 u9), cX8_3 cI g0 (stR o0 18 u9), cX8_4 cI g0 (stR o0 18 u9), cX8_6 cI g0 (stR o0 18 u9), cX8_8 cI g0 (stR o0 18 u9), cX8_9 cI g0 (stR o0 18 u9), cX8_10 cI g0 (stR o0 18 u9), cX8_12 cI g0 (stR o0 18 u9), cX8_13 cI g0 (stR o0 18 u9), cX8_15 cI g0 (stR o0 18 u9), cX8_17 cI g0 (stR o0 18 u9), cX8_18 cI g0 (stR o0 18 u9), cX8_22 cB g0 (stR o0 18 u9), cX8_27 cI g0 (stR o0 18 u9), cX8_28 cI g0 (stR o0 18 u9), cX8_29 cI g0 (stR o0 18 u9), cX8_30 cI g0 (stR o0 18 u9), cX8_31 cI g0 (stR o0 18 u9), cX8_32 cI g0 (stR o0 18 u9), cX8_33 cI g0 (stR o0 18 u9)]) H → va_D A ([cX8 a0 g0 (stR o0 18 u9), cX8_0 cI g0 (stR o0 18 u9), cX8_1 cI g0 (stR o0 18 u9), cX8_3 cI g0 (stR o0 18 u9), cX8_4 cI g0 (stR o0 18 u9), cX8_6 cI g0 (stR o0 18 u9), cX8_8 cI g0 (stR o0 18 u9), cX8_9 cI g0 (stR o0 18 u9), cX8_10 cI g0 (stR o0 18 u9), cX8_12 cI g0 (stR o0 18 u9), cX8_13 cI g0 (stR o0 18 u9), cX8_15 cI g0 (stR o0 18 u9), cX8_17 cI g0 (stR o0 18 u9), cX8_18 cI g0 (stR o0 18 u9), cX8_22 cB g0 (stR o0 18 u9), cX8_27 cI g0 (stR o0 18 u9), cX8_28 cI g0 (stR o0 18 u9), cX8_29 cI g0 (stR o0 18 u9), cX8_30 cI g0 (stR o0 18 u9), cX8_31 cI g0 (stR o0 18 u9), cX8_32 cI g0 (stR o0 18 u9), cX8_33 cI g0 (stR o0 18 u9)]) → va_S A s.heap H locs → lv_has ls 9 [(5, .int q3), (6, .int (b2i y40_0)), (7, .int (b2i y61_0)), (8, .int (b2i y88_0))] → W p l e (headSpec wsX8_weds rmX8_weds).room s m ([.ref a0, .int v1, .int v2] : List Value).toArray below meth c H locs 0 0 Q (F0 m 173 ls [.int (u9 ((v1 + (23 : Int32)) + (2 : Int32)).toNatClampNeg), .int ((v1 + (23 : Int32)) + (2 : Int32)), .ref (g0 18)]) := by
              intro h H locs ls hP hD hS hl
              rw [f_X8_weds_173] at h
              refine lv_iconst (v := (1 : Int32)) hx hb dX8_weds_173 (by decide) ?_
              refine lv_iload hx hb dX8_weds_174 (lv_at hl 0 rfl) ?_
              refine lv_ishl hx hb dX8_weds_176 ?_
              refine lv_goto (tgt := 181) hx hb dX8_weds_177 (by decide) ?_
              exact jn181 ((1 : Int32) <<< (q3 &&& 31)) h _ _ _ hP hD hS (lv_sub hl [1, 2, 3] rfl)
            refine lv_if_ne (tgt := 173) hx hb dX8_weds_165 (by decide) (fun k16 => ?_) (fun k16 => ?_)
            · have h := ite_f k16 h
              exact jn173 h _ _ _ hP hD hS (lv_sub hl [2, 3, 4, 5] rfl)
            · have h := ite_t k16 h
              refine lv_iload hx hb dX8_weds_168 (lv_at hl 5 rfl) ?_
              refine lv_if_eq (tgt := 180) hx hb dX8_weds_170 (by decide) (fun k17 => ?_) (fun k17 => ?_)
              · have h := ite_t k17 h
                refine lv_iconst (v := (0 : Int32)) hx hb dX8_weds_180 (by decide) ?_
                exact jn181 (0 : Int32) h _ _ _ hP hD hS (lv_sub hl [3, 4, 5] rfl)
              · have h := ite_f k17 h
                exact jn173 h _ _ _ hP hD hS (lv_sub hl [2, 3, 4, 5] rfl)
          have jn141 : f_X8_weds_141 o0 v1 q2 q3 y40_0 y61_0 y88_0 u6 = some r → ∀ (H : Heap) (locs : List Loc) (ls : Array Slot), va_P (dC, dI) vwCl ([cX8 a0 g0 (stR o0 18 u6), cX8_0 cI g0 (stR o0 18 u6), cX8_1 cI g0 (stR o0 18 u6), cX8_3 cI g0 (stR o0 18 u6), cX8_4 cI g0 (stR o0 18 u6), cX8_6 cI g0 (stR o0 18 u6), cX8_8 cI g0 (stR o0 18 u6), cX8_9 cI g0 (stR o0 18 u6), cX8_10 cI g0 (stR o0 18 u6), cX8_12 cI g0 (stR o0 18 u6), cX8_13 cI g0 (stR o0 18 u6), cX8_15 cI g0 (stR o0 18 u6), cX8_17 cI g0 (stR o0 18 u6), cX8_18 cI g0 (stR o0 18 u6), cX8_22 cB g0 (stR o0 18 u6), cX8_27 cI g0 (stR o0 18 u6), cX8_28 cI g0 (stR o0 18 u6), cX8_29 cI g0 (stR o0 18 u6), cX8_30 cI g0 (stR o0 18 u6), cX8_31 cI g0 (stR o0 18 u6), cX8_32 cI g0 (stR o0 18 u6), cX8_33 cI g0 (stR o0 18 u6)]) H → va_D A ([cX8 a0 g0 (stR o0 18 u6), cX8_0 cI g0 (stR o0 18 u6), cX8_1 cI g0 (stR o0 18 u6), cX8_3 cI g0 (stR o0 18 u6), cX8_4 cI g0 (stR o0 18 u6), cX8_6 cI g0 (stR o0 18 u6), cX8_8 cI g0 (stR o0 18 u6), cX8_9 cI g0 (stR o0 18 u6), cX8_10 cI g0 (stR o0 18 u6), cX8_12 cI g0 (stR o0 18 u6), cX8_13 cI g0 (stR o0 18 u6), cX8_15 cI g0 (stR o0 18 u6), cX8_17 cI g0 (stR o0 18 u6), cX8_18 cI g0 (stR o0 18 u6), cX8_22 cB g0 (stR o0 18 u6), cX8_27 cI g0 (stR o0 18 u6), cX8_28 cI g0 (stR o0 18 u6), cX8_29 cI g0 (stR o0 18 u6), cX8_30 cI g0 (stR o0 18 u6), cX8_31 cI g0 (stR o0 18 u6), cX8_32 cI g0 (stR o0 18 u6), cX8_33 cI g0 (stR o0 18 u6)]) → va_S A s.heap H locs → lv_has ls 9 [(0, .ref a0), (1, .int v1), (4, .int q2), (5, .int q3), (6, .int (b2i y40_0)), (7, .int (b2i y61_0)), (8, .int (b2i y88_0))] → W p l e (headSpec wsX8_weds rmX8_weds).room s m ([.ref a0, .int v1, .int v2] : List Value).toArray below meth c H locs 0 0 Q (F0 m 141 ls [.int (u6 ((v1 + (23 : Int32)) + (1 : Int32)).toNatClampNeg), .int ((v1 + (23 : Int32)) + (1 : Int32)), .ref (g0 18)]) := by
            intro h H locs ls hP hD hS hl
            rw [f_X8_weds_141] at h
            refine lv_iconst (v := (1 : Int32)) hx hb dX8_weds_141 (by decide) ?_
            refine lv_iload hx hb dX8_weds_142 (lv_at hl 2 rfl) ?_
            refine lv_ishl hx hb dX8_weds_144 ?_
            refine lv_goto (tgt := 149) hx hb dX8_weds_145 (by decide) ?_
            exact jn149 ((1 : Int32) <<< (q2 &&& 31)) h _ _ _ hP hD hS (lv_sub hl [0, 1, 3, 4, 5, 6] rfl)
          refine lv_if_ne (tgt := 141) hx hb dX8_weds_133 (by decide) (fun k18 => ?_) (fun k18 => ?_)
          · have h := ite_f k18 h
            exact jn141 h _ _ _ hP hD hS (lv_sub hl [0, 1, 2, 3, 4, 5, 6] rfl)
          · have h := ite_t k18 h
            refine lv_iload hx hb dX8_weds_136 (lv_at hl 6 rfl) ?_
            refine lv_if_eq (tgt := 148) hx hb dX8_weds_138 (by decide) (fun k19 => ?_) (fun k19 => ?_)
            · have h := ite_t k19 h
              refine lv_iconst (v := (0 : Int32)) hx hb dX8_weds_148 (by decide) ?_
              exact jn149 (0 : Int32) h _ _ _ hP hD hS (lv_sub hl [0, 1, 3, 4, 5, 6] rfl)
            · have h := ite_f k19 h
              exact jn141 h _ _ _ hP hD hS (lv_sub hl [0, 1, 2, 3, 4, 5, 6] rfl)
        have jn110 : f_X8_weds_110 o0 v1 q1 q2 q3 y40_0 y61_0 y88_0 = some r → ∀ (H : Heap) (locs : List Loc) (ls : Array Slot), va_P (dC, dI) vwCl ([cX8 a0 g0 o0, cX8_0 cI g0 o0, cX8_1 cI g0 o0, cX8_3 cI g0 o0, cX8_4 cI g0 o0, cX8_6 cI g0 o0, cX8_8 cI g0 o0, cX8_9 cI g0 o0, cX8_10 cI g0 o0, cX8_12 cI g0 o0, cX8_13 cI g0 o0, cX8_15 cI g0 o0, cX8_17 cI g0 o0, cX8_18 cI g0 o0, cX8_22 cB g0 o0, cX8_27 cI g0 o0, cX8_28 cI g0 o0, cX8_29 cI g0 o0, cX8_30 cI g0 o0, cX8_31 cI g0 o0, cX8_32 cI g0 o0, cX8_33 cI g0 o0]) H → va_D A ([cX8 a0 g0 o0, cX8_0 cI g0 o0, cX8_1 cI g0 o0, cX8_3 cI g0 o0, cX8_4 cI g0 o0, cX8_6 cI g0 o0, cX8_8 cI g0 o0, cX8_9 cI g0 o0, cX8_10 cI g0 o0, cX8_12 cI g0 o0, cX8_13 cI g0 o0, cX8_15 cI g0 o0, cX8_17 cI g0 o0, cX8_18 cI g0 o0, cX8_22 cB g0 o0, cX8_27 cI g0 o0, cX8_28 cI g0 o0, cX8_29 cI g0 o0, cX8_30 cI g0 o0, cX8_31 cI g0 o0, cX8_32 cI g0 o0, cX8_33 cI g0 o0]) → va_S A s.heap H locs → lv_has ls 9 [(0, .ref a0), (1, .int v1), (3, .int q1), (4, .int q2), (5, .int q3), (6, .int (b2i y40_0)), (7, .int (b2i y61_0)), (8, .int (b2i y88_0))] → W p l e (headSpec wsX8_weds rmX8_weds).room s m ([.ref a0, .int v1, .int v2] : List Value).toArray below meth c H locs 0 0 Q (F0 m 110 ls [.int ((o0.2 18) (v1 + (23 : Int32)).toNatClampNeg), .int (v1 + (23 : Int32)), .ref (g0 18)]) := by
          intro h H locs ls hP hD hS hl
          rw [f_X8_weds_110] at h
          refine lv_iconst (v := (1 : Int32)) hx hb dX8_weds_110 (by decide) ?_
          refine lv_iload_n hx hb dX8_weds_111 rfl (lv_at hl 2 rfl) ?_
          refine lv_ishl hx hb dX8_weds_112 ?_
          refine lv_goto (tgt := 117) hx hb dX8_weds_113 (by decide) ?_
          exact jn117 ((1 : Int32) <<< (q1 &&& 31)) h _ _ _ hP hD hS (lv_sub hl [0, 1, 3, 4, 5, 6, 7] rfl)
        refine lv_if_ne (tgt := 110) hx hb dX8_weds_102 (by decide) (fun k20 => ?_) (fun k20 => ?_)
        · have h := ite_f k20 h
          exact jn110 h _ _ _ hP hD hS (lv_sub hl [1, 2, 3, 4, 5, 6, 7, 0] rfl)
        · have h := ite_t k20 h
          refine lv_iload hx hb dX8_weds_105 (lv_at hl 7 rfl) ?_
          refine lv_if_eq (tgt := 116) hx hb dX8_weds_107 (by decide) (fun k21 => ?_) (fun k21 => ?_)
          · have h := ite_t k21 h
            refine lv_iconst (v := (0 : Int32)) hx hb dX8_weds_116 (by decide) ?_
            exact jn117 (0 : Int32) h _ _ _ hP hD hS (lv_sub hl [1, 2, 4, 5, 6, 7, 0] rfl)
          · have h := ite_f k21 h
            exact jn110 h _ _ _ hP hD hS (lv_sub hl [1, 2, 3, 4, 5, 6, 7, 0] rfl)
      have jn87 : f_X8_weds_87 o0 v1 q1 q2 q3 y40_0 y61_0 = some r → ∀ (H : Heap) (locs : List Loc) (ls : Array Slot), va_P (dC, dI) vwCl ([cX8 a0 g0 o0, cX8_0 cI g0 o0, cX8_1 cI g0 o0, cX8_3 cI g0 o0, cX8_4 cI g0 o0, cX8_6 cI g0 o0, cX8_8 cI g0 o0, cX8_9 cI g0 o0, cX8_10 cI g0 o0, cX8_12 cI g0 o0, cX8_13 cI g0 o0, cX8_15 cI g0 o0, cX8_17 cI g0 o0, cX8_18 cI g0 o0, cX8_22 cB g0 o0, cX8_27 cI g0 o0, cX8_28 cI g0 o0, cX8_29 cI g0 o0, cX8_30 cI g0 o0, cX8_31 cI g0 o0, cX8_32 cI g0 o0, cX8_33 cI g0 o0]) H → va_D A ([cX8 a0 g0 o0, cX8_0 cI g0 o0, cX8_1 cI g0 o0, cX8_3 cI g0 o0, cX8_4 cI g0 o0, cX8_6 cI g0 o0, cX8_8 cI g0 o0, cX8_9 cI g0 o0, cX8_10 cI g0 o0, cX8_12 cI g0 o0, cX8_13 cI g0 o0, cX8_15 cI g0 o0, cX8_17 cI g0 o0, cX8_18 cI g0 o0, cX8_22 cB g0 o0, cX8_27 cI g0 o0, cX8_28 cI g0 o0, cX8_29 cI g0 o0, cX8_30 cI g0 o0, cX8_31 cI g0 o0, cX8_32 cI g0 o0, cX8_33 cI g0 o0]) → va_S A s.heap H locs → lv_has ls 9 [(0, .ref a0), (1, .int v1), (3, .int q1), (4, .int q2), (5, .int q3), (6, .int (b2i y40_0)), (7, .int (b2i y61_0))] → W p l e (headSpec wsX8_weds rmX8_weds).room s m ([.ref a0, .int v1, .int v2] : List Value).toArray below meth c H locs 0 0 Q (F0 m 87 ls []) := by
        intro h H locs ls hP hD hS hl
        rw [f_X8_weds_87] at h
        refine lv_iconst (v := (0 : Int32)) hx hb dX8_weds_87 (by decide) ?_
        exact jn88 false h _ _ _ hP hD hS (lv_sub hl [0, 1, 2, 3, 4, 5, 6] rfl)
      refine lv_if_ne (tgt := 87) hx hb dX8_weds_65 (by decide) (fun k22 => ?_) (fun k22 => ?_)
      · have h := ite_f k22 h
        exact jn87 h _ _ _ hP hD hS (lv_sub hl [1, 2, 3, 4, 5, 6, 0] rfl)
      · have h := ite_t k22 h
        refine lv_iload hx hb dX8_weds_68 (lv_at hl 0 rfl) ?_
        refine lv_if_ne (tgt := 87) hx hb dX8_weds_70 (by decide) (fun k23 => ?_) (fun k23 => ?_)
        · have h := ite_f k23 h
          exact jn87 h _ _ _ hP hD hS (lv_sub hl [1, 2, 3, 4, 5, 6, 0] rfl)
        · have h := ite_t k23 h
          refine lv_iload hx hb dX8_weds_73 (lv_at hl 4 rfl) ?_
          refine lv_if_lt (tgt := 87) hx hb dX8_weds_75 (by decide) (fun k24 => ?_) (fun k24 => ?_)
          · have h := ite_t k24 h
            exact jn87 h _ _ _ hP hD hS (lv_sub hl [1, 2, 3, 4, 5, 6, 0] rfl)
          · have h := ite_f k24 h
            refine lv_iload hx hb dX8_weds_78 (lv_at hl 5 rfl) ?_
            refine lv_if_lt (tgt := 87) hx hb dX8_weds_80 (by decide) (fun k25 => ?_) (fun k25 => ?_)
            · have h := ite_t k25 h
              exact jn87 h _ _ _ hP hD hS (lv_sub hl [1, 2, 3, 4, 5, 6, 0] rfl)
            · have h := ite_f k25 h
              refine lv_iconst (v := (1 : Int32)) hx hb dX8_weds_83 (by decide) ?_
              refine lv_goto (tgt := 88) hx hb dX8_weds_84 (by decide) ?_
              exact jn88 true h _ _ _ hP hD hS (lv_sub hl [1, 2, 3, 4, 5, 6, 0] rfl)
    have jn60 : f_X8_weds_60 o0 v1 q1 q2 q3 y40_0 = some r → ∀ (H : Heap) (locs : List Loc) (ls : Array Slot), va_P (dC, dI) vwCl ([cX8 a0 g0 o0, cX8_0 cI g0 o0, cX8_1 cI g0 o0, cX8_3 cI g0 o0, cX8_4 cI g0 o0, cX8_6 cI g0 o0, cX8_8 cI g0 o0, cX8_9 cI g0 o0, cX8_10 cI g0 o0, cX8_12 cI g0 o0, cX8_13 cI g0 o0, cX8_15 cI g0 o0, cX8_17 cI g0 o0, cX8_18 cI g0 o0, cX8_22 cB g0 o0, cX8_27 cI g0 o0, cX8_28 cI g0 o0, cX8_29 cI g0 o0, cX8_30 cI g0 o0, cX8_31 cI g0 o0, cX8_32 cI g0 o0, cX8_33 cI g0 o0]) H → va_D A ([cX8 a0 g0 o0, cX8_0 cI g0 o0, cX8_1 cI g0 o0, cX8_3 cI g0 o0, cX8_4 cI g0 o0, cX8_6 cI g0 o0, cX8_8 cI g0 o0, cX8_9 cI g0 o0, cX8_10 cI g0 o0, cX8_12 cI g0 o0, cX8_13 cI g0 o0, cX8_15 cI g0 o0, cX8_17 cI g0 o0, cX8_18 cI g0 o0, cX8_22 cB g0 o0, cX8_27 cI g0 o0, cX8_28 cI g0 o0, cX8_29 cI g0 o0, cX8_30 cI g0 o0, cX8_31 cI g0 o0, cX8_32 cI g0 o0, cX8_33 cI g0 o0]) → va_S A s.heap H locs → lv_has ls 9 [(0, .ref a0), (1, .int v1), (3, .int q1), (4, .int q2), (5, .int q3), (6, .int (b2i y40_0))] → W p l e (headSpec wsX8_weds rmX8_weds).room s m ([.ref a0, .int v1, .int v2] : List Value).toArray below meth c H locs 0 0 Q (F0 m 60 ls []) := by
      intro h H locs ls hP hD hS hl
      rw [f_X8_weds_60] at h
      refine lv_iconst (v := (0 : Int32)) hx hb dX8_weds_60 (by decide) ?_
      exact jn61 false h _ _ _ hP hD hS (lv_sub hl [0, 1, 2, 3, 4, 5] rfl)
    refine lv_if_ne (tgt := 60) hx hb dX8_weds_44 (by decide) (fun k26 => ?_) (fun k26 => ?_)
    · have h := ite_f k26 h
      exact jn60 h _ _ _ hP hD hS (lv_sub hl [1, 2, 3, 4, 5, 0] rfl)
    · have h := ite_t k26 h
      refine lv_iload_n hx hb dX8_weds_47 rfl (lv_at hl 3 rfl) ?_
      refine lv_if_lt (tgt := 60) hx hb dX8_weds_48 (by decide) (fun k27 => ?_) (fun k27 => ?_)
      · have h := ite_t k27 h
        exact jn60 h _ _ _ hP hD hS (lv_sub hl [1, 2, 3, 4, 5, 0] rfl)
      · have h := ite_f k27 h
        refine lv_iload hx hb dX8_weds_51 (lv_at hl 5 rfl) ?_
        refine lv_if_lt (tgt := 60) hx hb dX8_weds_53 (by decide) (fun k28 => ?_) (fun k28 => ?_)
        · have h := ite_t k28 h
          exact jn60 h _ _ _ hP hD hS (lv_sub hl [1, 2, 3, 4, 5, 0] rfl)
        · have h := ite_f k28 h
          refine lv_iconst (v := (1 : Int32)) hx hb dX8_weds_56 (by decide) ?_
          refine lv_goto (tgt := 61) hx hb dX8_weds_57 (by decide) ?_
          exact jn61 true h _ _ _ hP hD hS (lv_sub hl [1, 2, 3, 4, 5, 0] rfl)
  have jn39 : f_X8_weds_39 o0 v1 q1 q2 q3 = some r → ∀ (H : Heap) (locs : List Loc) (ls : Array Slot), va_P (dC, dI) vwCl ([cX8 a0 g0 o0, cX8_0 cI g0 o0, cX8_1 cI g0 o0, cX8_3 cI g0 o0, cX8_4 cI g0 o0, cX8_6 cI g0 o0, cX8_8 cI g0 o0, cX8_9 cI g0 o0, cX8_10 cI g0 o0, cX8_12 cI g0 o0, cX8_13 cI g0 o0, cX8_15 cI g0 o0, cX8_17 cI g0 o0, cX8_18 cI g0 o0, cX8_22 cB g0 o0, cX8_27 cI g0 o0, cX8_28 cI g0 o0, cX8_29 cI g0 o0, cX8_30 cI g0 o0, cX8_31 cI g0 o0, cX8_32 cI g0 o0, cX8_33 cI g0 o0]) H → va_D A ([cX8 a0 g0 o0, cX8_0 cI g0 o0, cX8_1 cI g0 o0, cX8_3 cI g0 o0, cX8_4 cI g0 o0, cX8_6 cI g0 o0, cX8_8 cI g0 o0, cX8_9 cI g0 o0, cX8_10 cI g0 o0, cX8_12 cI g0 o0, cX8_13 cI g0 o0, cX8_15 cI g0 o0, cX8_17 cI g0 o0, cX8_18 cI g0 o0, cX8_22 cB g0 o0, cX8_27 cI g0 o0, cX8_28 cI g0 o0, cX8_29 cI g0 o0, cX8_30 cI g0 o0, cX8_31 cI g0 o0, cX8_32 cI g0 o0, cX8_33 cI g0 o0]) → va_S A s.heap H locs → lv_has ls 9 [(0, .ref a0), (1, .int v1), (3, .int q1), (4, .int q2), (5, .int q3)] → W p l e (headSpec wsX8_weds rmX8_weds).room s m ([.ref a0, .int v1, .int v2] : List Value).toArray below meth c H locs 0 0 Q (F0 m 39 ls []) := by
    intro h H locs ls hP hD hS hl
    rw [f_X8_weds_39] at h
    refine lv_iconst (v := (0 : Int32)) hx hb dX8_weds_39 (by decide) ?_
    exact jn40 false h _ _ _ hP hD hS (lv_sub hl [0, 1, 2, 3, 4] rfl)
  refine lv_if_lt (tgt := 39) hx hb dX8_weds_28 (by decide) (fun k29 => ?_) (fun k29 => ?_)
  · have h := ite_t k29 h
    exact jn39 h _ _ _ hP hD hS (lv_sub hl [3, 4, 2, 1, 0] rfl)
  · have h := ite_f k29 h
    refine lv_iload_n hx hb dX8_weds_31 rfl (lv_at hl 2 rfl) ?_
    refine lv_if_lt (tgt := 39) hx hb dX8_weds_32 (by decide) (fun k30 => ?_) (fun k30 => ?_)
    · have h := ite_t k30 h
      exact jn39 h _ _ _ hP hD hS (lv_sub hl [3, 4, 2, 1, 0] rfl)
    · have h := ite_f k30 h
      refine lv_iconst (v := (1 : Int32)) hx hb dX8_weds_35 (by decide) ?_
      refine lv_goto (tgt := 40) hx hb dX8_weds_36 (by decide) ?_
      exact jn40 true h _ _ _ hP hD hS (lv_sub hl [3, 4, 2, 1, 0] rfl)
def f_X8_wed (o0 : Ob) (v1 : Int32) : Option (Int32) := if (v1 + (23 : Int32)) < 0 ∨ 312 ≤ (v1 + (23 : Int32)).toNatClampNeg then none else (f_X8_bits ((o0.2 18) (v1 + (23 : Int32)).toNatClampNeg)).bind fun q2 : Int32 => if ((v1 + (23 : Int32)) + (1 : Int32)) < 0 ∨ 312 ≤ ((v1 + (23 : Int32)) + (1 : Int32)).toNatClampNeg then none else (f_X8_bits ((o0.2 18) ((v1 + (23 : Int32)) + (1 : Int32)).toNatClampNeg)).bind fun q4 : Int32 => if ((v1 + (23 : Int32)) + (2 : Int32)) < 0 ∨ 312 ≤ ((v1 + (23 : Int32)) + (2 : Int32)).toNatClampNeg then none else (f_X8_bits ((o0.2 18) ((v1 + (23 : Int32)) + (2 : Int32)).toNatClampNeg)).bind fun q6 : Int32 => some ((q2 + q4) + q6)
abbrev rmX8_wed : Room := { frames := 1, cells := 0, slots := 0, locals := 22 }
theorem dsc_X8_wed : yX8_wed.cls ≠ "java/lang/invoke/MethodHandle" ∧ yX8_wed.cls ≠ "java/lang/invoke/VarHandle" ∧ (parseMethodDescriptor yX8_wed.desc).map (fun d => d.parameters.length) = some 1 := by decide +kernel
set_option maxHeartbeats 4000000 in
set_option maxRecDepth 100000 in
theorem c_X8_wed (l : Launch) (dC : Nat → ClassId) (dI : Nat → Nat → Nat) (cB cI cZ cO : ClassId) (a0 : Nat) (g0 : Nat → Nat) (o0 : Ob) (v1 : Int32) {r : Int32} (h : f_X8_wed o0 v1 = some r) : Ct dC dI cB cI cZ cO l yX8_wed wsX8_wed rmX8_wed [.ref a0, .int v1] ([cX8 a0 g0 o0, cX8_0 cI g0 o0, cX8_1 cI g0 o0, cX8_3 cI g0 o0, cX8_4 cI g0 o0, cX8_6 cI g0 o0, cX8_8 cI g0 o0, cX8_9 cI g0 o0, cX8_10 cI g0 o0, cX8_12 cI g0 o0, cX8_13 cI g0 o0, cX8_15 cI g0 o0, cX8_17 cI g0 o0, cX8_18 cI g0 o0, cX8_22 cB g0 o0, cX8_27 cI g0 o0, cX8_28 cI g0 o0, cX8_29 cI g0 o0, cX8_30 cI g0 o0, cX8_31 cI g0 o0, cX8_32 cI g0 o0, cX8_33 cI g0 o0]) (some (.int r)) ([cX8 a0 g0 o0, cX8_0 cI g0 o0, cX8_1 cI g0 o0, cX8_3 cI g0 o0, cX8_4 cI g0 o0, cX8_6 cI g0 o0, cX8_8 cI g0 o0, cX8_9 cI g0 o0, cX8_10 cI g0 o0, cX8_12 cI g0 o0, cX8_13 cI g0 o0, cX8_15 cI g0 o0, cX8_17 cI g0 o0, cX8_18 cI g0 o0, cX8_22 cB g0 o0, cX8_27 cI g0 o0, cX8_28 cI g0 o0, cX8_29 cI g0 o0, cX8_30 cI g0 o0, cX8_31 cI g0 o0, cX8_32 cI g0 o0, cX8_33 cI g0 o0]) := by
  intro sz
  refine Met.ofW (cc := cX8_wed) (maxL := 2) (ret := (some .int)) (by decide) rfl ?_
  intro p e s m args below meth c s₁ B hml hv
  obtain ⟨rfl, hsz, hP, hKK, hD0⟩ := hv
  have hx := B.exec
  have hb := B.bytes
  have hr := B.returns
  have hts := atoms_spec (ws := wsX8_wed) B.pre
  have hown : s.vm.findClass RX8 = some m.cls := findClass_of_methodNamed B.named
  have hlocks := B.notSynchronized
  have hiX8 : ∀ w ∈ u_ws RX8 TX8 36, w ∈ wsX8_wed := fun w h => List.mem_cons_of_mem _ (List.mem_append_right _ h)
  subst hsz
  have hD := hD0.self (sz := s.heap.size)
  generalize hAe : va_A ([cX8 a0 g0 o0, cX8_0 cI g0 o0, cX8_1 cI g0 o0, cX8_3 cI g0 o0, cX8_4 cI g0 o0, cX8_6 cI g0 o0, cX8_8 cI g0 o0, cX8_9 cI g0 o0, cX8_10 cI g0 o0, cX8_12 cI g0 o0, cX8_13 cI g0 o0, cX8_15 cI g0 o0, cX8_17 cI g0 o0, cX8_18 cI g0 o0, cX8_22 cB g0 o0, cX8_27 cI g0 o0, cX8_28 cI g0 o0, cX8_29 cI g0 o0, cX8_30 cI g0 o0, cX8_31 cI g0 o0, cX8_32 cI g0 o0, cX8_33 cI g0 o0]) s.heap.size = A at hD ⊢
  have hA : ∀ q : Nat, s.heap.size ≤ q → A q := fun q h => by rw [← hAe]; exact Or.inr h
  have hS : va_S A s.heap s.heap [] := va_S.rf
  have hP : va_P (dC, dI) vwCl ([cX8 a0 g0 o0, cX8_0 cI g0 o0, cX8_1 cI g0 o0, cX8_3 cI g0 o0, cX8_4 cI g0 o0, cX8_6 cI g0 o0, cX8_8 cI g0 o0, cX8_9 cI g0 o0, cX8_10 cI g0 o0, cX8_12 cI g0 o0, cX8_13 cI g0 o0, cX8_15 cI g0 o0, cX8_17 cI g0 o0, cX8_18 cI g0 o0, cX8_22 cB g0 o0, cX8_27 cI g0 o0, cX8_28 cI g0 o0, cX8_29 cI g0 o0, cX8_30 cI g0 o0, cX8_31 cI g0 o0, cX8_32 cI g0 o0, cX8_33 cI g0 o0]) s.heap := hP
  have hD : va_D A ([cX8 a0 g0 o0, cX8_0 cI g0 o0, cX8_1 cI g0 o0, cX8_3 cI g0 o0, cX8_4 cI g0 o0, cX8_6 cI g0 o0, cX8_8 cI g0 o0, cX8_9 cI g0 o0, cX8_10 cI g0 o0, cX8_12 cI g0 o0, cX8_13 cI g0 o0, cX8_15 cI g0 o0, cX8_17 cI g0 o0, cX8_18 cI g0 o0, cX8_22 cB g0 o0, cX8_27 cI g0 o0, cX8_28 cI g0 o0, cX8_29 cI g0 o0, cX8_30 cI g0 o0, cX8_31 cI g0 o0, cX8_32 cI g0 o0, cX8_33 cI g0 o0]) := hD
  have hl := lv_entry ([.ref a0, .int v1]) (n := 2) (Nat.le_of_ble_eq_true rfl)
  rw [lg_entry_eq]
  generalize (lg_sl ([.ref a0, .int v1]) ++ List.replicate (2 - (lg_sl ([.ref a0, .int v1])).length) Slot.unset).toArray = ls at hl ⊢
  have hl : lv_has ls 2 [(0, .ref a0), (1, .int v1)] := hl
  obtain ⟨Q, hQ⟩ : ∃ Q, Q = MQ below (Qq dC dI (some (.int r)) ([cX8 a0 g0 o0, cX8_0 cI g0 o0, cX8_1 cI g0 o0, cX8_3 cI g0 o0, cX8_4 cI g0 o0, cX8_6 cI g0 o0, cX8_8 cI g0 o0, cX8_9 cI g0 o0, cX8_10 cI g0 o0, cX8_12 cI g0 o0, cX8_13 cI g0 o0, cX8_15 cI g0 o0, cX8_17 cI g0 o0, cX8_18 cI g0 o0, cX8_22 cB g0 o0, cX8_27 cI g0 o0, cX8_28 cI g0 o0, cX8_29 cI g0 o0, cX8_30 cI g0 o0, cX8_31 cI g0 o0, cX8_32 cI g0 o0, cX8_33 cI g0 o0]) A) ([.ref a0, .int v1] : List Value).toArray s 0 0 A := ⟨_, rfl⟩
  rw [← hQ]
  rw [f_X8_wed] at h
  clear hAe hD0
  refine lv_aload_n hx hb dX8_wed_0 rfl (lv_at hl 0 rfl) ?_
  refine va_get (D := (dC, dI)) (ci := 8) (v := .ref (g0 18)) (C := RX8) (T := TX8) (N := 36) hx hb hts hiX8 hown hKK.1 hP 0 rfl rfl 18 (by decide) (hts (.fieldLink RX8 46 "SlideLandModel" "slot" "[I") (List.mem_of_getElem? (i := 1) rfl)) (fun _ h9 => h9) rfl dX8_wed_1 ?_
  refine lv_iload_n hx hb dX8_wed_4 rfl (lv_at hl 1 rfl) ?_
  refine lv_bipush (v := (23 : Int32)) hx hb dX8_wed_5 (by decide) ?_
  refine lv_iadd hx hb dX8_wed_7 ?_
  obtain ⟨k1, h⟩ := ite_n h
  refine va_iald hx hb hKK.1 hP 13 1 rfl rfl k1 dX8_wed_8 ?_
  obtain ⟨q2, hq2, h⟩ := obd_e h
  refine kcS (rest := []) (w2 := ([cX8 a0 g0 o0, cX8_0 cI g0 o0, cX8_1 cI g0 o0, cX8_3 cI g0 o0, cX8_4 cI g0 o0, cX8_6 cI g0 o0, cX8_8 cI g0 o0, cX8_9 cI g0 o0, cX8_10 cI g0 o0, cX8_12 cI g0 o0, cX8_13 cI g0 o0, cX8_15 cI g0 o0, cX8_17 cI g0 o0, cX8_18 cI g0 o0, cX8_22 cB g0 o0, cX8_27 cI g0 o0, cX8_28 cI g0 o0, cX8_29 cI g0 o0, cX8_30 cI g0 o0, cX8_31 cI g0 o0, cX8_32 cI g0 o0, cX8_33 cI g0 o0])) hx hb hml hown hts hKK hP hD hS hA (c_X8_bits l dC dI cB cI cZ cO ((o0.2 18) (v1 + (23 : Int32)).toNatClampNeg) hq2) [] (atAll_map trivial) (by decide +kernel) (sameAd_map trivial) (atAll_map trivial) (agr_refl _ _ _) (va_cwS 1 hts gX8_wed_X8_bits rfl rfl rfl dsc_X8_bits ⟨Nat.le_of_ble_eq_true rfl, Nat.le_of_ble_eq_true rfl⟩) rfl hl.1 rfl (Nat.le_of_ble_eq_true rfl) dX8_wed_9 ⟨Nat.zero_le _, Nat.zero_le _⟩ (fun H locs hP hD hS => ?_)
  refine lv_aload_n hx hb dX8_wed_12 rfl (lv_at hl 0 rfl) ?_
  refine va_get (D := (dC, dI)) (ci := 8) (v := .ref (g0 18)) (C := RX8) (T := TX8) (N := 36) hx hb hts hiX8 hown hKK.1 hP 0 rfl rfl 18 (by decide) (hts (.fieldLink RX8 46 "SlideLandModel" "slot" "[I") (List.mem_of_getElem? (i := 1) rfl)) (fun _ h9 => h9) rfl dX8_wed_13 ?_
  refine lv_iload_n hx hb dX8_wed_16 rfl (lv_at hl 1 rfl) ?_
  refine lv_bipush (v := (23 : Int32)) hx hb dX8_wed_17 (by decide) ?_
  refine lv_iadd hx hb dX8_wed_19 ?_
  refine lv_iconst (v := (1 : Int32)) hx hb dX8_wed_20 (by decide) ?_
  refine lv_iadd hx hb dX8_wed_21 ?_
  obtain ⟨k3, h⟩ := ite_n h
  refine va_iald hx hb hKK.1 hP 13 1 rfl rfl k3 dX8_wed_22 ?_
  obtain ⟨q4, hq4, h⟩ := obd_e h
  refine kcS (rest := [.int q2]) (w2 := ([cX8 a0 g0 o0, cX8_0 cI g0 o0, cX8_1 cI g0 o0, cX8_3 cI g0 o0, cX8_4 cI g0 o0, cX8_6 cI g0 o0, cX8_8 cI g0 o0, cX8_9 cI g0 o0, cX8_10 cI g0 o0, cX8_12 cI g0 o0, cX8_13 cI g0 o0, cX8_15 cI g0 o0, cX8_17 cI g0 o0, cX8_18 cI g0 o0, cX8_22 cB g0 o0, cX8_27 cI g0 o0, cX8_28 cI g0 o0, cX8_29 cI g0 o0, cX8_30 cI g0 o0, cX8_31 cI g0 o0, cX8_32 cI g0 o0, cX8_33 cI g0 o0])) hx hb hml hown hts hKK hP hD hS hA (c_X8_bits l dC dI cB cI cZ cO ((o0.2 18) ((v1 + (23 : Int32)) + (1 : Int32)).toNatClampNeg) hq4) [] (atAll_map trivial) (by decide +kernel) (sameAd_map trivial) (atAll_map trivial) (agr_refl _ _ _) (va_cwS 1 hts gX8_wed_X8_bits rfl rfl rfl dsc_X8_bits ⟨Nat.le_of_ble_eq_true rfl, Nat.le_of_ble_eq_true rfl⟩) rfl hl.1 rfl (Nat.le_of_ble_eq_true rfl) dX8_wed_23 ⟨Nat.zero_le _, Nat.zero_le _⟩ (fun H locs hP hD hS => ?_)
  refine lv_iadd hx hb dX8_wed_26 ?_
  refine lv_aload_n hx hb dX8_wed_27 rfl (lv_at hl 0 rfl) ?_
  refine va_get (D := (dC, dI)) (ci := 8) (v := .ref (g0 18)) (C := RX8) (T := TX8) (N := 36) hx hb hts hiX8 hown hKK.1 hP 0 rfl rfl 18 (by decide) (hts (.fieldLink RX8 46 "SlideLandModel" "slot" "[I") (List.mem_of_getElem? (i := 1) rfl)) (fun _ h9 => h9) rfl dX8_wed_28 ?_
  refine lv_iload_n hx hb dX8_wed_31 rfl (lv_at hl 1 rfl) ?_
  refine lv_bipush (v := (23 : Int32)) hx hb dX8_wed_32 (by decide) ?_
  refine lv_iadd hx hb dX8_wed_34 ?_
  refine lv_iconst (v := (2 : Int32)) hx hb dX8_wed_35 (by decide) ?_
  refine lv_iadd hx hb dX8_wed_36 ?_
  obtain ⟨k5, h⟩ := ite_n h
  refine va_iald hx hb hKK.1 hP 13 1 rfl rfl k5 dX8_wed_37 ?_
  obtain ⟨q6, hq6, h⟩ := obd_e h
  refine kcS (rest := [.int (q2 + q4)]) (w2 := ([cX8 a0 g0 o0, cX8_0 cI g0 o0, cX8_1 cI g0 o0, cX8_3 cI g0 o0, cX8_4 cI g0 o0, cX8_6 cI g0 o0, cX8_8 cI g0 o0, cX8_9 cI g0 o0, cX8_10 cI g0 o0, cX8_12 cI g0 o0, cX8_13 cI g0 o0, cX8_15 cI g0 o0, cX8_17 cI g0 o0, cX8_18 cI g0 o0, cX8_22 cB g0 o0, cX8_27 cI g0 o0, cX8_28 cI g0 o0, cX8_29 cI g0 o0, cX8_30 cI g0 o0, cX8_31 cI g0 o0, cX8_32 cI g0 o0, cX8_33 cI g0 o0])) hx hb hml hown hts hKK hP hD hS hA (c_X8_bits l dC dI cB cI cZ cO ((o0.2 18) ((v1 + (23 : Int32)) + (2 : Int32)).toNatClampNeg) hq6) [] (atAll_map trivial) (by decide +kernel) (sameAd_map trivial) (atAll_map trivial) (agr_refl _ _ _) (va_cwS 1 hts gX8_wed_X8_bits rfl rfl rfl dsc_X8_bits ⟨Nat.le_of_ble_eq_true rfl, Nat.le_of_ble_eq_true rfl⟩) rfl hl.1 rfl (Nat.le_of_ble_eq_true rfl) dX8_wed_38 ⟨Nat.zero_le _, Nat.zero_le _⟩ (fun H locs hP hD hS => ?_)
  refine lv_iadd hx hb dX8_wed_41 ?_
  have h := Option.some.inj h
  subst h
  subst hQ
  exact W.iret (v := ((q2 + q4) + q6)) hx hb hr (fun t ht hW => ⟨⟨rfl, by rw [ht]; exact hP, hD⟩, hS.F ht⟩) hS.2.2 dX8_wed_42
def f_X8_line (o0 : Ob) (v1 : Int32) : Option (Int32 × Ob) := bnd (f_X8_in (v1.toInt64) (-99 : Int64) (99 : Int64)) fun q1 : Bool => if (b2i q1) = 0 then (some ((-1 : Int32), o0)) else ((f_X8_copies o0 (0 : Int32) (286 : Int32)).bind fun q3 : Ob => (f_X8_weds q3 (286 : Int32) v1).bind fun q4 : Bool × Ob => if (b2i q4.1) = 0 then (some ((-2 : Int32), q4.2)) else ((f_X8_known q4.2).bind fun q6 : Ob => (f_X8_copies q6 (286 : Int32) (0 : Int32)).bind fun q7 : Ob => (f_X8_wed q7 (0 : Int32)).bind fun q8 : Int32 => some (q8, q7)))
abbrev rmX8_line : Room := { frames := 4, cells := 0, slots := 0, locals := 100 }
theorem dsc_X8_line : yX8_line.cls ≠ "java/lang/invoke/MethodHandle" ∧ yX8_line.cls ≠ "java/lang/invoke/VarHandle" ∧ (parseMethodDescriptor yX8_line.desc).map (fun d => d.parameters.length) = some 1 := by decide +kernel
set_option maxHeartbeats 4000000 in
set_option maxRecDepth 100000 in
theorem c_X8_line (l : Launch) (dC : Nat → ClassId) (dI : Nat → Nat → Nat) (cB cI cZ cO : ClassId) (a0 : Nat) (g0 : Nat → Nat) (o0 : Ob) (v1 : Int32) {r : Int32 × Ob} (h : f_X8_line o0 v1 = some r) : Ct dC dI cB cI cZ cO l yX8_line wsX8_line rmX8_line [.ref a0, .int v1] ([cX8 a0 g0 o0, cX8_0 cI g0 o0, cX8_1 cI g0 o0, cX8_3 cI g0 o0, cX8_4 cI g0 o0, cX8_6 cI g0 o0, cX8_8 cI g0 o0, cX8_9 cI g0 o0, cX8_10 cI g0 o0, cX8_12 cI g0 o0, cX8_13 cI g0 o0, cX8_15 cI g0 o0, cX8_17 cI g0 o0, cX8_18 cI g0 o0, cX8_22 cB g0 o0, cX8_27 cI g0 o0, cX8_28 cI g0 o0, cX8_29 cI g0 o0, cX8_30 cI g0 o0, cX8_31 cI g0 o0, cX8_32 cI g0 o0, cX8_33 cI g0 o0]) (some (.int r.1)) ([cX8 a0 g0 r.2, cX8_0 cI g0 r.2, cX8_1 cI g0 r.2, cX8_3 cI g0 r.2, cX8_4 cI g0 r.2, cX8_6 cI g0 r.2, cX8_8 cI g0 r.2, cX8_9 cI g0 r.2, cX8_10 cI g0 r.2, cX8_12 cI g0 r.2, cX8_13 cI g0 r.2, cX8_15 cI g0 r.2, cX8_17 cI g0 r.2, cX8_18 cI g0 r.2, cX8_22 cB g0 r.2, cX8_27 cI g0 r.2, cX8_28 cI g0 r.2, cX8_29 cI g0 r.2, cX8_30 cI g0 r.2, cX8_31 cI g0 r.2, cX8_32 cI g0 r.2, cX8_33 cI g0 r.2]) := by
  intro sz
  refine Met.ofW (cc := cX8_line) (maxL := 2) (ret := (some .int)) (by decide) rfl ?_
  intro p e s m args below meth c s₁ B hml hv
  obtain ⟨rfl, hsz, hP, hKK, hD0⟩ := hv
  have hx := B.exec
  have hb := B.bytes
  have hr := B.returns
  have hts := atoms_spec (ws := wsX8_line) B.pre
  have hown : s.vm.findClass RX8 = some m.cls := findClass_of_methodNamed B.named
  have hlocks := B.notSynchronized
  subst hsz
  have hD := hD0.self (sz := s.heap.size)
  generalize hAe : va_A ([cX8 a0 g0 o0, cX8_0 cI g0 o0, cX8_1 cI g0 o0, cX8_3 cI g0 o0, cX8_4 cI g0 o0, cX8_6 cI g0 o0, cX8_8 cI g0 o0, cX8_9 cI g0 o0, cX8_10 cI g0 o0, cX8_12 cI g0 o0, cX8_13 cI g0 o0, cX8_15 cI g0 o0, cX8_17 cI g0 o0, cX8_18 cI g0 o0, cX8_22 cB g0 o0, cX8_27 cI g0 o0, cX8_28 cI g0 o0, cX8_29 cI g0 o0, cX8_30 cI g0 o0, cX8_31 cI g0 o0, cX8_32 cI g0 o0, cX8_33 cI g0 o0]) s.heap.size = A at hD ⊢
  have hA : ∀ q : Nat, s.heap.size ≤ q → A q := fun q h => by rw [← hAe]; exact Or.inr h
  have hS : va_S A s.heap s.heap [] := va_S.rf
  have hP : va_P (dC, dI) vwCl ([cX8 a0 g0 o0, cX8_0 cI g0 o0, cX8_1 cI g0 o0, cX8_3 cI g0 o0, cX8_4 cI g0 o0, cX8_6 cI g0 o0, cX8_8 cI g0 o0, cX8_9 cI g0 o0, cX8_10 cI g0 o0, cX8_12 cI g0 o0, cX8_13 cI g0 o0, cX8_15 cI g0 o0, cX8_17 cI g0 o0, cX8_18 cI g0 o0, cX8_22 cB g0 o0, cX8_27 cI g0 o0, cX8_28 cI g0 o0, cX8_29 cI g0 o0, cX8_30 cI g0 o0, cX8_31 cI g0 o0, cX8_32 cI g0 o0, cX8_33 cI g0 o0]) s.heap := hP
  have hD : va_D A ([cX8 a0 g0 o0, cX8_0 cI g0 o0, cX8_1 cI g0 o0, cX8_3 cI g0 o0, cX8_4 cI g0 o0, cX8_6 cI g0 o0, cX8_8 cI g0 o0, cX8_9 cI g0 o0, cX8_10 cI g0 o0, cX8_12 cI g0 o0, cX8_13 cI g0 o0, cX8_15 cI g0 o0, cX8_17 cI g0 o0, cX8_18 cI g0 o0, cX8_22 cB g0 o0, cX8_27 cI g0 o0, cX8_28 cI g0 o0, cX8_29 cI g0 o0, cX8_30 cI g0 o0, cX8_31 cI g0 o0, cX8_32 cI g0 o0, cX8_33 cI g0 o0]) := hD
  have hl := lv_entry ([.ref a0, .int v1]) (n := 2) (Nat.le_of_ble_eq_true rfl)
  rw [lg_entry_eq]
  generalize (lg_sl ([.ref a0, .int v1]) ++ List.replicate (2 - (lg_sl ([.ref a0, .int v1])).length) Slot.unset).toArray = ls at hl ⊢
  have hl : lv_has ls 2 [(0, .ref a0), (1, .int v1)] := hl
  obtain ⟨Q, hQ⟩ : ∃ Q, Q = MQ below (Qq dC dI (some (.int r.1)) ([cX8 a0 g0 r.2, cX8_0 cI g0 r.2, cX8_1 cI g0 r.2, cX8_3 cI g0 r.2, cX8_4 cI g0 r.2, cX8_6 cI g0 r.2, cX8_8 cI g0 r.2, cX8_9 cI g0 r.2, cX8_10 cI g0 r.2, cX8_12 cI g0 r.2, cX8_13 cI g0 r.2, cX8_15 cI g0 r.2, cX8_17 cI g0 r.2, cX8_18 cI g0 r.2, cX8_22 cB g0 r.2, cX8_27 cI g0 r.2, cX8_28 cI g0 r.2, cX8_29 cI g0 r.2, cX8_30 cI g0 r.2, cX8_31 cI g0 r.2, cX8_32 cI g0 r.2, cX8_33 cI g0 r.2]) A) ([.ref a0, .int v1] : List Value).toArray s 0 0 A := ⟨_, rfl⟩
  rw [← hQ]
  rw [f_X8_line] at h
  clear hAe hD0
  refine lv_iload_n hx hb dX8_line_0 rfl (lv_at hl 1 rfl) ?_
  refine lv_i2l hx hb dX8_line_1 rfl ?_
  refine lv_ldc2 hx hb hown (hts (.constantLong RX8 242 (-99)) (List.mem_of_getElem? (i := 1) rfl)) dX8_line_2 ?_
  refine lv_ldc2 hx hb hown (hts (.constantLong RX8 202 (99)) (List.mem_of_getElem? (i := 2) rfl)) dX8_line_5 ?_
  obtain ⟨q1, hq1, h⟩ := bnd_e h
  refine kcS (rest := []) (w2 := ([cX8 a0 g0 o0, cX8_0 cI g0 o0, cX8_1 cI g0 o0, cX8_3 cI g0 o0, cX8_4 cI g0 o0, cX8_6 cI g0 o0, cX8_8 cI g0 o0, cX8_9 cI g0 o0, cX8_10 cI g0 o0, cX8_12 cI g0 o0, cX8_13 cI g0 o0, cX8_15 cI g0 o0, cX8_17 cI g0 o0, cX8_18 cI g0 o0, cX8_22 cB g0 o0, cX8_27 cI g0 o0, cX8_28 cI g0 o0, cX8_29 cI g0 o0, cX8_30 cI g0 o0, cX8_31 cI g0 o0, cX8_32 cI g0 o0, cX8_33 cI g0 o0])) hx hb hml hown hts hKK hP hD hS hA (c_X8_in l dC dI cB cI cZ cO (v1.toInt64) (-99 : Int64) (99 : Int64) hq1) [] (atAll_map trivial) (by decide +kernel) (sameAd_map trivial) (atAll_map trivial) (agr_refl _ _ _) (va_cwS 3 hts gX8_line_X8_in rfl rfl rfl dsc_X8_in ⟨Nat.le_of_ble_eq_true rfl, Nat.le_of_ble_eq_true rfl⟩) rfl hl.1 rfl (Nat.le_of_ble_eq_true rfl) dX8_line_8 ⟨Nat.zero_le _, Nat.zero_le _⟩ (fun H locs hP hD hS => ?_)
  refine lv_if_ne (tgt := 16) hx hb dX8_line_11 (by decide) (fun k2 => ?_) (fun k2 => ?_)
  · have h := ite_f k2 h
    refine lv_aload_n hx hb dX8_line_16 rfl (lv_at hl 0 rfl) ?_
    refine lv_iconst (v := (0 : Int32)) hx hb dX8_line_17 (by decide) ?_
    refine lv_sipush (v := (286 : Int32)) hx hb dX8_line_18 (by decide) ?_
    obtain ⟨q3, hq3, h⟩ := obd_e h
    refine kcV (rest := []) (w2 := ([cX8 a0 g0 q3, cX8_0 cI g0 q3, cX8_1 cI g0 q3, cX8_3 cI g0 q3, cX8_4 cI g0 q3, cX8_6 cI g0 q3, cX8_8 cI g0 q3, cX8_9 cI g0 q3, cX8_10 cI g0 q3, cX8_12 cI g0 q3, cX8_13 cI g0 q3, cX8_15 cI g0 q3, cX8_17 cI g0 q3, cX8_18 cI g0 q3, cX8_22 cB g0 q3, cX8_27 cI g0 q3, cX8_28 cI g0 q3, cX8_29 cI g0 q3, cX8_30 cI g0 q3, cX8_31 cI g0 q3, cX8_32 cI g0 q3, cX8_33 cI g0 q3])) hx hb hml hown hts hKK hP hD hS hA (c_X8_copies l dC dI cB cI cZ cO a0 g0 o0 (0 : Int32) (286 : Int32) hq3) [0, 1, 2, 3, 4, 5, 6, 7, 8, 9, 10, 11, 12, 13, 14, 15, 16, 17, 18, 19, 20, 21] (atAll_map ⟨rfl, rfl, rfl, rfl, rfl, rfl, rfl, rfl, rfl, rfl, rfl, rfl, rfl, rfl, rfl, rfl, rfl, rfl, rfl, rfl, rfl, rfl, trivial⟩) (by decide +kernel) (sameAd_map ⟨rfl, rfl, rfl, rfl, rfl, rfl, rfl, rfl, rfl, rfl, rfl, rfl, rfl, rfl, rfl, rfl, rfl, rfl, rfl, rfl, rfl, rfl, trivial⟩) (atAll_map ⟨rfl, rfl, rfl, rfl, rfl, rfl, rfl, rfl, rfl, rfl, rfl, rfl, rfl, rfl, rfl, rfl, rfl, rfl, rfl, rfl, rfl, rfl, trivial⟩) ⟨Or.inr (by decide), Or.inr (by decide), Or.inr (by decide), Or.inr (by decide), Or.inr (by decide), Or.inr (by decide), Or.inr (by decide), Or.inr (by decide), Or.inr (by decide), Or.inr (by decide), Or.inr (by decide), Or.inr (by decide), Or.inr (by decide), Or.inr (by decide), Or.inr (by decide), Or.inr (by decide), Or.inr (by decide), Or.inr (by decide), Or.inr (by decide), Or.inr (by decide), Or.inr (by decide), Or.inr (by decide), trivial⟩ (cwV 2 hts gX8_line_X8_copies rfl rfl rfl ⟨rfl, dsc_X8_copies⟩ ⟨Nat.le_of_ble_eq_true rfl, Nat.le_of_ble_eq_true rfl⟩) (va_recv hKK.1 hP (ci := 8) (q0 := 0) rfl rfl) rfl hl.1 rfl (Nat.le_of_ble_eq_true rfl) dX8_line_21 ⟨Nat.zero_le _, Nat.zero_le _⟩ (fun H locs hP hD hS => ?_)
    refine lv_aload_n hx hb dX8_line_24 rfl (lv_at hl 0 rfl) ?_
    refine lv_sipush (v := (286 : Int32)) hx hb dX8_line_25 (by decide) ?_
    refine lv_iload_n hx hb dX8_line_28 rfl (lv_at hl 1 rfl) ?_
    obtain ⟨q4, hq4, h⟩ := obd_e h
    refine kcV (rest := []) (w2 := ([cX8 a0 g0 q4.2, cX8_0 cI g0 q4.2, cX8_1 cI g0 q4.2, cX8_3 cI g0 q4.2, cX8_4 cI g0 q4.2, cX8_6 cI g0 q4.2, cX8_8 cI g0 q4.2, cX8_9 cI g0 q4.2, cX8_10 cI g0 q4.2, cX8_12 cI g0 q4.2, cX8_13 cI g0 q4.2, cX8_15 cI g0 q4.2, cX8_17 cI g0 q4.2, cX8_18 cI g0 q4.2, cX8_22 cB g0 q4.2, cX8_27 cI g0 q4.2, cX8_28 cI g0 q4.2, cX8_29 cI g0 q4.2, cX8_30 cI g0 q4.2, cX8_31 cI g0 q4.2, cX8_32 cI g0 q4.2, cX8_33 cI g0 q4.2])) hx hb hml hown hts hKK hP hD hS hA (c_X8_weds l dC dI cB cI cZ cO a0 g0 q3 (286 : Int32) v1 hq4) [0, 1, 2, 3, 4, 5, 6, 7, 8, 9, 10, 11, 12, 13, 14, 15, 16, 17, 18, 19, 20, 21] (atAll_map ⟨rfl, rfl, rfl, rfl, rfl, rfl, rfl, rfl, rfl, rfl, rfl, rfl, rfl, rfl, rfl, rfl, rfl, rfl, rfl, rfl, rfl, rfl, trivial⟩) (by decide +kernel) (sameAd_map ⟨rfl, rfl, rfl, rfl, rfl, rfl, rfl, rfl, rfl, rfl, rfl, rfl, rfl, rfl, rfl, rfl, rfl, rfl, rfl, rfl, rfl, rfl, trivial⟩) (atAll_map ⟨rfl, rfl, rfl, rfl, rfl, rfl, rfl, rfl, rfl, rfl, rfl, rfl, rfl, rfl, rfl, rfl, rfl, rfl, rfl, rfl, rfl, rfl, trivial⟩) ⟨Or.inr (by decide), Or.inr (by decide), Or.inr (by decide), Or.inr (by decide), Or.inr (by decide), Or.inr (by decide), Or.inr (by decide), Or.inr (by decide), Or.inr (by decide), Or.inr (by decide), Or.inr (by decide), Or.inr (by decide), Or.inr (by decide), Or.inr (by decide), Or.inr (by decide), Or.inr (by decide), Or.inr (by decide), Or.inr (by decide), Or.inr (by decide), Or.inr (by decide), Or.inr (by decide), Or.inr (by decide), trivial⟩ (cwV 2 hts gX8_line_X8_weds rfl rfl rfl ⟨rfl, dsc_X8_weds⟩ ⟨Nat.le_of_ble_eq_true rfl, Nat.le_of_ble_eq_true rfl⟩) (va_recv hKK.1 hP (ci := 8) (q0 := 0) rfl rfl) rfl hl.1 rfl (Nat.le_of_ble_eq_true rfl) dX8_line_29 ⟨Nat.zero_le _, Nat.zero_le _⟩ (fun H locs hP hD hS => ?_)
    refine lv_if_ne (tgt := 38) hx hb dX8_line_32 (by decide) (fun k5 => ?_) (fun k5 => ?_)
    · have h := ite_f k5 h
      refine lv_aload_n hx hb dX8_line_38 rfl (lv_at hl 0 rfl) ?_
      obtain ⟨q6, hq6, h⟩ := obd_e h
      refine kcV (rest := []) (w2 := ([cX8 a0 g0 q6, cX8_0 cI g0 q6, cX8_1 cI g0 q6, cX8_3 cI g0 q6, cX8_4 cI g0 q6, cX8_6 cI g0 q6, cX8_8 cI g0 q6, cX8_9 cI g0 q6, cX8_10 cI g0 q6, cX8_12 cI g0 q6, cX8_13 cI g0 q6, cX8_15 cI g0 q6, cX8_17 cI g0 q6, cX8_18 cI g0 q6, cX8_22 cB g0 q6, cX8_27 cI g0 q6, cX8_28 cI g0 q6, cX8_29 cI g0 q6, cX8_30 cI g0 q6, cX8_31 cI g0 q6, cX8_32 cI g0 q6, cX8_33 cI g0 q6])) hx hb hml hown hts hKK hP hD hS hA (c_X8_known l dC dI cB cI cZ cO a0 g0 q4.2 hq6) [0, 1, 2, 3, 4, 5, 6, 7, 8, 9, 10, 11, 12, 13, 14, 15, 16, 17, 18, 19, 20, 21] (atAll_map ⟨rfl, rfl, rfl, rfl, rfl, rfl, rfl, rfl, rfl, rfl, rfl, rfl, rfl, rfl, rfl, rfl, rfl, rfl, rfl, rfl, rfl, rfl, trivial⟩) (by decide +kernel) (sameAd_map ⟨rfl, rfl, rfl, rfl, rfl, rfl, rfl, rfl, rfl, rfl, rfl, rfl, rfl, rfl, rfl, rfl, rfl, rfl, rfl, rfl, rfl, rfl, trivial⟩) (atAll_map ⟨rfl, rfl, rfl, rfl, rfl, rfl, rfl, rfl, rfl, rfl, rfl, rfl, rfl, rfl, rfl, rfl, rfl, rfl, rfl, rfl, rfl, rfl, trivial⟩) ⟨Or.inr (by decide), Or.inr (by decide), Or.inr (by decide), Or.inr (by decide), Or.inr (by decide), Or.inr (by decide), Or.inr (by decide), Or.inr (by decide), Or.inr (by decide), Or.inr (by decide), Or.inr (by decide), Or.inr (by decide), Or.inr (by decide), Or.inr (by decide), Or.inr (by decide), Or.inr (by decide), Or.inr (by decide), Or.inr (by decide), Or.inr (by decide), Or.inr (by decide), Or.inr (by decide), Or.inr (by decide), trivial⟩ (cwV 0 hts gX8_line_X8_known rfl rfl rfl ⟨rfl, dsc_X8_known⟩ ⟨Nat.le_of_ble_eq_true rfl, Nat.le_of_ble_eq_true rfl⟩) (va_recv hKK.1 hP (ci := 8) (q0 := 0) rfl rfl) rfl hl.1 rfl (Nat.le_of_ble_eq_true rfl) dX8_line_39 ⟨Nat.zero_le _, Nat.zero_le _⟩ (fun H locs hP hD hS => ?_)
      refine lv_aload_n hx hb dX8_line_42 rfl (lv_at hl 0 rfl) ?_
      refine lv_sipush (v := (286 : Int32)) hx hb dX8_line_43 (by decide) ?_
      refine lv_iconst (v := (0 : Int32)) hx hb dX8_line_46 (by decide) ?_
      obtain ⟨q7, hq7, h⟩ := obd_e h
      refine kcV (rest := []) (w2 := ([cX8 a0 g0 q7, cX8_0 cI g0 q7, cX8_1 cI g0 q7, cX8_3 cI g0 q7, cX8_4 cI g0 q7, cX8_6 cI g0 q7, cX8_8 cI g0 q7, cX8_9 cI g0 q7, cX8_10 cI g0 q7, cX8_12 cI g0 q7, cX8_13 cI g0 q7, cX8_15 cI g0 q7, cX8_17 cI g0 q7, cX8_18 cI g0 q7, cX8_22 cB g0 q7, cX8_27 cI g0 q7, cX8_28 cI g0 q7, cX8_29 cI g0 q7, cX8_30 cI g0 q7, cX8_31 cI g0 q7, cX8_32 cI g0 q7, cX8_33 cI g0 q7])) hx hb hml hown hts hKK hP hD hS hA (c_X8_copies l dC dI cB cI cZ cO a0 g0 q6 (286 : Int32) (0 : Int32) hq7) [0, 1, 2, 3, 4, 5, 6, 7, 8, 9, 10, 11, 12, 13, 14, 15, 16, 17, 18, 19, 20, 21] (atAll_map ⟨rfl, rfl, rfl, rfl, rfl, rfl, rfl, rfl, rfl, rfl, rfl, rfl, rfl, rfl, rfl, rfl, rfl, rfl, rfl, rfl, rfl, rfl, trivial⟩) (by decide +kernel) (sameAd_map ⟨rfl, rfl, rfl, rfl, rfl, rfl, rfl, rfl, rfl, rfl, rfl, rfl, rfl, rfl, rfl, rfl, rfl, rfl, rfl, rfl, rfl, rfl, trivial⟩) (atAll_map ⟨rfl, rfl, rfl, rfl, rfl, rfl, rfl, rfl, rfl, rfl, rfl, rfl, rfl, rfl, rfl, rfl, rfl, rfl, rfl, rfl, rfl, rfl, trivial⟩) ⟨Or.inr (by decide), Or.inr (by decide), Or.inr (by decide), Or.inr (by decide), Or.inr (by decide), Or.inr (by decide), Or.inr (by decide), Or.inr (by decide), Or.inr (by decide), Or.inr (by decide), Or.inr (by decide), Or.inr (by decide), Or.inr (by decide), Or.inr (by decide), Or.inr (by decide), Or.inr (by decide), Or.inr (by decide), Or.inr (by decide), Or.inr (by decide), Or.inr (by decide), Or.inr (by decide), Or.inr (by decide), trivial⟩ (cwV 2 hts gX8_line_X8_copies rfl rfl rfl ⟨rfl, dsc_X8_copies⟩ ⟨Nat.le_of_ble_eq_true rfl, Nat.le_of_ble_eq_true rfl⟩) (va_recv hKK.1 hP (ci := 8) (q0 := 0) rfl rfl) rfl hl.1 rfl (Nat.le_of_ble_eq_true rfl) dX8_line_47 ⟨Nat.zero_le _, Nat.zero_le _⟩ (fun H locs hP hD hS => ?_)
      refine lv_aload_n hx hb dX8_line_50 rfl (lv_at hl 0 rfl) ?_
      refine lv_iconst (v := (0 : Int32)) hx hb dX8_line_51 (by decide) ?_
      obtain ⟨q8, hq8, h⟩ := obd_e h
      refine kcV (rest := []) (w2 := ([cX8 a0 g0 q7, cX8_0 cI g0 q7, cX8_1 cI g0 q7, cX8_3 cI g0 q7, cX8_4 cI g0 q7, cX8_6 cI g0 q7, cX8_8 cI g0 q7, cX8_9 cI g0 q7, cX8_10 cI g0 q7, cX8_12 cI g0 q7, cX8_13 cI g0 q7, cX8_15 cI g0 q7, cX8_17 cI g0 q7, cX8_18 cI g0 q7, cX8_22 cB g0 q7, cX8_27 cI g0 q7, cX8_28 cI g0 q7, cX8_29 cI g0 q7, cX8_30 cI g0 q7, cX8_31 cI g0 q7, cX8_32 cI g0 q7, cX8_33 cI g0 q7])) hx hb hml hown hts hKK hP hD hS hA (c_X8_wed l dC dI cB cI cZ cO a0 g0 q7 (0 : Int32) hq8) [0, 1, 2, 3, 4, 5, 6, 7, 8, 9, 10, 11, 12, 13, 14, 15, 16, 17, 18, 19, 20, 21] (atAll_map ⟨rfl, rfl, rfl, rfl, rfl, rfl, rfl, rfl, rfl, rfl, rfl, rfl, rfl, rfl, rfl, rfl, rfl, rfl, rfl, rfl, rfl, rfl, trivial⟩) (by decide +kernel) (sameAd_map ⟨rfl, rfl, rfl, rfl, rfl, rfl, rfl, rfl, rfl, rfl, rfl, rfl, rfl, rfl, rfl, rfl, rfl, rfl, rfl, rfl, rfl, rfl, trivial⟩) (atAll_map ⟨rfl, rfl, rfl, rfl, rfl, rfl, rfl, rfl, rfl, rfl, rfl, rfl, rfl, rfl, rfl, rfl, rfl, rfl, rfl, rfl, rfl, rfl, trivial⟩) (agr_refl _ _ _) (cwV 1 hts gX8_line_X8_wed rfl rfl rfl ⟨rfl, dsc_X8_wed⟩ ⟨Nat.le_of_ble_eq_true rfl, Nat.le_of_ble_eq_true rfl⟩) (va_recv hKK.1 hP (ci := 8) (q0 := 0) rfl rfl) rfl hl.1 rfl (Nat.le_of_ble_eq_true rfl) dX8_line_52 ⟨Nat.zero_le _, Nat.zero_le _⟩ (fun H locs hP hD hS => ?_)
      have h := Option.some.inj h
      subst h
      subst hQ
      exact W.iret (v := q8) hx hb hr (fun t ht hW => ⟨⟨rfl, by rw [ht]; exact hP, hD⟩, hS.F ht⟩) hS.2.2 dX8_line_55
    · have h := ite_t k5 h
      refine lv_bipush (v := (-2 : Int32)) hx hb dX8_line_35 (by decide) ?_
      have h := Option.some.inj h
      subst h
      subst hQ
      exact W.iret (v := (-2 : Int32)) hx hb hr (fun t ht hW => ⟨⟨rfl, by rw [ht]; exact hP, hD⟩, hS.F ht⟩) hS.2.2 dX8_line_37
  · have h := ite_t k2 h
    refine lv_iconst (v := (-1 : Int32)) hx hb dX8_line_14 (by decide) ?_
    have h := Option.some.inj h
    subst h
    subst hQ
    exact W.iret (v := (-1 : Int32)) hx hb hr (fun t ht hW => ⟨⟨rfl, by rw [ht]; exact hP, hD⟩, hS.F ht⟩) hS.2.2 dX8_line_15
def f_X8_undo (o0 : Ob) : Option (Int32 × Ob) := if (o0.1 19) = 0 then (some ((-2 : Int32), o0)) else ((f_X8_copies o0 ((o0.1 19) * (26 : Int32)) (0 : Int32)).bind fun q2 : Ob => bnd ((q2.1 19) - (1 : Int32)) fun x3 : Int32 => some (x3, (stF q2 19 x3)))
abbrev rmX8_undo : Room := { frames := 1, cells := 0, slots := 0, locals := 23 }
theorem dsc_X8_undo : yX8_undo.cls ≠ "java/lang/invoke/MethodHandle" ∧ yX8_undo.cls ≠ "java/lang/invoke/VarHandle" ∧ (parseMethodDescriptor yX8_undo.desc).map (fun d => d.parameters.length) = some 0 := by decide +kernel
set_option maxHeartbeats 4000000 in
set_option maxRecDepth 100000 in
theorem c_X8_undo (l : Launch) (dC : Nat → ClassId) (dI : Nat → Nat → Nat) (cB cI cZ cO : ClassId) (a0 : Nat) (g0 : Nat → Nat) (o0 : Ob) {r : Int32 × Ob} (h : f_X8_undo o0 = some r) : Ct dC dI cB cI cZ cO l yX8_undo wsX8_undo rmX8_undo [.ref a0] ([cX8 a0 g0 o0, cX8_0 cI g0 o0, cX8_1 cI g0 o0, cX8_3 cI g0 o0, cX8_4 cI g0 o0, cX8_6 cI g0 o0, cX8_8 cI g0 o0, cX8_9 cI g0 o0, cX8_10 cI g0 o0, cX8_12 cI g0 o0, cX8_13 cI g0 o0, cX8_15 cI g0 o0, cX8_17 cI g0 o0, cX8_18 cI g0 o0, cX8_22 cB g0 o0, cX8_27 cI g0 o0, cX8_28 cI g0 o0, cX8_29 cI g0 o0, cX8_30 cI g0 o0, cX8_31 cI g0 o0, cX8_32 cI g0 o0, cX8_33 cI g0 o0]) (some (.int r.1)) ([cX8 a0 g0 r.2, cX8_0 cI g0 r.2, cX8_1 cI g0 r.2, cX8_3 cI g0 r.2, cX8_4 cI g0 r.2, cX8_6 cI g0 r.2, cX8_8 cI g0 r.2, cX8_9 cI g0 r.2, cX8_10 cI g0 r.2, cX8_12 cI g0 r.2, cX8_13 cI g0 r.2, cX8_15 cI g0 r.2, cX8_17 cI g0 r.2, cX8_18 cI g0 r.2, cX8_22 cB g0 r.2, cX8_27 cI g0 r.2, cX8_28 cI g0 r.2, cX8_29 cI g0 r.2, cX8_30 cI g0 r.2, cX8_31 cI g0 r.2, cX8_32 cI g0 r.2, cX8_33 cI g0 r.2]) := by
  intro sz
  refine Met.ofW (cc := cX8_undo) (maxL := 1) (ret := (some .int)) (by decide) rfl ?_
  intro p e s m args below meth c s₁ B hml hv
  obtain ⟨rfl, hsz, hP, hKK, hD0⟩ := hv
  have hx := B.exec
  have hb := B.bytes
  have hr := B.returns
  have hts := atoms_spec (ws := wsX8_undo) B.pre
  have hown : s.vm.findClass RX8 = some m.cls := findClass_of_methodNamed B.named
  have hlocks := B.notSynchronized
  have hiX8 : ∀ w ∈ u_ws RX8 TX8 36, w ∈ wsX8_undo := fun w h => List.mem_cons_of_mem _ (List.mem_append_right _ h)
  subst hsz
  have hD := hD0.self (sz := s.heap.size)
  generalize hAe : va_A ([cX8 a0 g0 o0, cX8_0 cI g0 o0, cX8_1 cI g0 o0, cX8_3 cI g0 o0, cX8_4 cI g0 o0, cX8_6 cI g0 o0, cX8_8 cI g0 o0, cX8_9 cI g0 o0, cX8_10 cI g0 o0, cX8_12 cI g0 o0, cX8_13 cI g0 o0, cX8_15 cI g0 o0, cX8_17 cI g0 o0, cX8_18 cI g0 o0, cX8_22 cB g0 o0, cX8_27 cI g0 o0, cX8_28 cI g0 o0, cX8_29 cI g0 o0, cX8_30 cI g0 o0, cX8_31 cI g0 o0, cX8_32 cI g0 o0, cX8_33 cI g0 o0]) s.heap.size = A at hD ⊢
  have hA : ∀ q : Nat, s.heap.size ≤ q → A q := fun q h => by rw [← hAe]; exact Or.inr h
  have hS : va_S A s.heap s.heap [] := va_S.rf
  have hP : va_P (dC, dI) vwCl ([cX8 a0 g0 o0, cX8_0 cI g0 o0, cX8_1 cI g0 o0, cX8_3 cI g0 o0, cX8_4 cI g0 o0, cX8_6 cI g0 o0, cX8_8 cI g0 o0, cX8_9 cI g0 o0, cX8_10 cI g0 o0, cX8_12 cI g0 o0, cX8_13 cI g0 o0, cX8_15 cI g0 o0, cX8_17 cI g0 o0, cX8_18 cI g0 o0, cX8_22 cB g0 o0, cX8_27 cI g0 o0, cX8_28 cI g0 o0, cX8_29 cI g0 o0, cX8_30 cI g0 o0, cX8_31 cI g0 o0, cX8_32 cI g0 o0, cX8_33 cI g0 o0]) s.heap := hP
  have hD : va_D A ([cX8 a0 g0 o0, cX8_0 cI g0 o0, cX8_1 cI g0 o0, cX8_3 cI g0 o0, cX8_4 cI g0 o0, cX8_6 cI g0 o0, cX8_8 cI g0 o0, cX8_9 cI g0 o0, cX8_10 cI g0 o0, cX8_12 cI g0 o0, cX8_13 cI g0 o0, cX8_15 cI g0 o0, cX8_17 cI g0 o0, cX8_18 cI g0 o0, cX8_22 cB g0 o0, cX8_27 cI g0 o0, cX8_28 cI g0 o0, cX8_29 cI g0 o0, cX8_30 cI g0 o0, cX8_31 cI g0 o0, cX8_32 cI g0 o0, cX8_33 cI g0 o0]) := hD
  have hl := lv_entry ([.ref a0]) (n := 1) (Nat.le_of_ble_eq_true rfl)
  rw [lg_entry_eq]
  generalize (lg_sl ([.ref a0]) ++ List.replicate (1 - (lg_sl ([.ref a0])).length) Slot.unset).toArray = ls at hl ⊢
  have hl : lv_has ls 1 [(0, .ref a0)] := hl
  obtain ⟨Q, hQ⟩ : ∃ Q, Q = MQ below (Qq dC dI (some (.int r.1)) ([cX8 a0 g0 r.2, cX8_0 cI g0 r.2, cX8_1 cI g0 r.2, cX8_3 cI g0 r.2, cX8_4 cI g0 r.2, cX8_6 cI g0 r.2, cX8_8 cI g0 r.2, cX8_9 cI g0 r.2, cX8_10 cI g0 r.2, cX8_12 cI g0 r.2, cX8_13 cI g0 r.2, cX8_15 cI g0 r.2, cX8_17 cI g0 r.2, cX8_18 cI g0 r.2, cX8_22 cB g0 r.2, cX8_27 cI g0 r.2, cX8_28 cI g0 r.2, cX8_29 cI g0 r.2, cX8_30 cI g0 r.2, cX8_31 cI g0 r.2, cX8_32 cI g0 r.2, cX8_33 cI g0 r.2]) A) ([.ref a0] : List Value).toArray s 0 0 A := ⟨_, rfl⟩
  rw [← hQ]
  rw [f_X8_undo] at h
  clear hAe hD0
  refine lv_aload_n hx hb dX8_undo_0 rfl (lv_at hl 0 rfl) ?_
  refine va_get (D := (dC, dI)) (ci := 8) (v := .int (o0.1 19)) (C := RX8) (T := TX8) (N := 36) hx hb hts hiX8 hown hKK.1 hP 0 rfl rfl 19 (by decide) (hts (.fieldLink RX8 160 "SlideLandModel" "acts" "I") (List.mem_of_getElem? (i := 1) rfl)) (fun _ h9 => h9) rfl dX8_undo_1 ?_
  refine lv_if_ne (tgt := 10) hx hb dX8_undo_4 (by decide) (fun k1 => ?_) (fun k1 => ?_)
  · have h := ite_f k1 h
    refine lv_aload_n hx hb dX8_undo_10 rfl (lv_at hl 0 rfl) ?_
    refine lv_aload_n hx hb dX8_undo_11 rfl (lv_at hl 0 rfl) ?_
    refine va_get (D := (dC, dI)) (ci := 8) (v := .int (o0.1 19)) (C := RX8) (T := TX8) (N := 36) hx hb hts hiX8 hown hKK.1 hP 0 rfl rfl 19 (by decide) (hts (.fieldLink RX8 160 "SlideLandModel" "acts" "I") (List.mem_of_getElem? (i := 1) rfl)) (fun _ h9 => h9) rfl dX8_undo_12 ?_
    refine lv_bipush (v := (26 : Int32)) hx hb dX8_undo_15 (by decide) ?_
    refine lv_imul hx hb dX8_undo_17 ?_
    refine lv_iconst (v := (0 : Int32)) hx hb dX8_undo_18 (by decide) ?_
    obtain ⟨q2, hq2, h⟩ := obd_e h
    refine kcV (rest := []) (w2 := ([cX8 a0 g0 q2, cX8_0 cI g0 q2, cX8_1 cI g0 q2, cX8_3 cI g0 q2, cX8_4 cI g0 q2, cX8_6 cI g0 q2, cX8_8 cI g0 q2, cX8_9 cI g0 q2, cX8_10 cI g0 q2, cX8_12 cI g0 q2, cX8_13 cI g0 q2, cX8_15 cI g0 q2, cX8_17 cI g0 q2, cX8_18 cI g0 q2, cX8_22 cB g0 q2, cX8_27 cI g0 q2, cX8_28 cI g0 q2, cX8_29 cI g0 q2, cX8_30 cI g0 q2, cX8_31 cI g0 q2, cX8_32 cI g0 q2, cX8_33 cI g0 q2])) hx hb hml hown hts hKK hP hD hS hA (c_X8_copies l dC dI cB cI cZ cO a0 g0 o0 ((o0.1 19) * (26 : Int32)) (0 : Int32) hq2) [0, 1, 2, 3, 4, 5, 6, 7, 8, 9, 10, 11, 12, 13, 14, 15, 16, 17, 18, 19, 20, 21] (atAll_map ⟨rfl, rfl, rfl, rfl, rfl, rfl, rfl, rfl, rfl, rfl, rfl, rfl, rfl, rfl, rfl, rfl, rfl, rfl, rfl, rfl, rfl, rfl, trivial⟩) (by decide +kernel) (sameAd_map ⟨rfl, rfl, rfl, rfl, rfl, rfl, rfl, rfl, rfl, rfl, rfl, rfl, rfl, rfl, rfl, rfl, rfl, rfl, rfl, rfl, rfl, rfl, trivial⟩) (atAll_map ⟨rfl, rfl, rfl, rfl, rfl, rfl, rfl, rfl, rfl, rfl, rfl, rfl, rfl, rfl, rfl, rfl, rfl, rfl, rfl, rfl, rfl, rfl, trivial⟩) ⟨Or.inr (by decide), Or.inr (by decide), Or.inr (by decide), Or.inr (by decide), Or.inr (by decide), Or.inr (by decide), Or.inr (by decide), Or.inr (by decide), Or.inr (by decide), Or.inr (by decide), Or.inr (by decide), Or.inr (by decide), Or.inr (by decide), Or.inr (by decide), Or.inr (by decide), Or.inr (by decide), Or.inr (by decide), Or.inr (by decide), Or.inr (by decide), Or.inr (by decide), Or.inr (by decide), Or.inr (by decide), trivial⟩ (cwV 2 hts gX8_undo_X8_copies rfl rfl rfl ⟨rfl, dsc_X8_copies⟩ ⟨Nat.le_of_ble_eq_true rfl, Nat.le_of_ble_eq_true rfl⟩) (va_recv hKK.1 hP (ci := 8) (q0 := 0) rfl rfl) rfl hl.1 rfl (Nat.le_of_ble_eq_true rfl) dX8_undo_19 ⟨Nat.zero_le _, Nat.zero_le _⟩ (fun H locs hP hD hS => ?_)
    refine lv_aload_n hx hb dX8_undo_22 rfl (lv_at hl 0 rfl) ?_
    refine lv_dup hx hb dX8_undo_23 rfl ?_
    refine va_get (D := (dC, dI)) (ci := 8) (v := .int (q2.1 19)) (C := RX8) (T := TX8) (N := 36) hx hb hts hiX8 hown hKK.1 hP 0 rfl rfl 19 (by decide) (hts (.fieldLink RX8 160 "SlideLandModel" "acts" "I") (List.mem_of_getElem? (i := 1) rfl)) (fun _ h9 => h9) rfl dX8_undo_24 ?_
    refine lv_iconst (v := (1 : Int32)) hx hb dX8_undo_27 (by decide) ?_
    refine lv_isub hx hb dX8_undo_28 ?_
    obtain ⟨x3, hx3, h⟩ := bnd_e h
    rw [hx3]
    refine va_put (D := (dC, dI)) (ci := 8) (v := .int x3) (ty := .int) (C := RX8) (T := TX8) (N := 36) hx hb hts hiX8 tyX8 tyX8_ok nmX8 hown hKK.1 hP hD hS 0 rfl rfl 19 (by decide) (hts (.fieldLink RX8 160 "SlideLandModel" "acts" "I") (List.mem_of_getElem? (i := 1) rfl)) (fun _ h9 => h9) rfl (by decide +kernel) rfl rfl (Nat.le_of_ble_eq_true rfl) dX8_undo_29 (fun H locs hP hD hS => ?_)
    have hP : va_P (dC, dI) vwCl ([cX8 a0 g0 (stF q2 19 x3), cX8_0 cI g0 (stF q2 19 x3), cX8_1 cI g0 (stF q2 19 x3), cX8_3 cI g0 (stF q2 19 x3), cX8_4 cI g0 (stF q2 19 x3), cX8_6 cI g0 (stF q2 19 x3), cX8_8 cI g0 (stF q2 19 x3), cX8_9 cI g0 (stF q2 19 x3), cX8_10 cI g0 (stF q2 19 x3), cX8_12 cI g0 (stF q2 19 x3), cX8_13 cI g0 (stF q2 19 x3), cX8_15 cI g0 (stF q2 19 x3), cX8_17 cI g0 (stF q2 19 x3), cX8_18 cI g0 (stF q2 19 x3), cX8_22 cB g0 (stF q2 19 x3), cX8_27 cI g0 (stF q2 19 x3), cX8_28 cI g0 (stF q2 19 x3), cX8_29 cI g0 (stF q2 19 x3), cX8_30 cI g0 (stF q2 19 x3), cX8_31 cI g0 (stF q2 19 x3), cX8_32 cI g0 (stF q2 19 x3), cX8_33 cI g0 (stF q2 19 x3)]) H := hP
    have hD : va_D A ([cX8 a0 g0 (stF q2 19 x3), cX8_0 cI g0 (stF q2 19 x3), cX8_1 cI g0 (stF q2 19 x3), cX8_3 cI g0 (stF q2 19 x3), cX8_4 cI g0 (stF q2 19 x3), cX8_6 cI g0 (stF q2 19 x3), cX8_8 cI g0 (stF q2 19 x3), cX8_9 cI g0 (stF q2 19 x3), cX8_10 cI g0 (stF q2 19 x3), cX8_12 cI g0 (stF q2 19 x3), cX8_13 cI g0 (stF q2 19 x3), cX8_15 cI g0 (stF q2 19 x3), cX8_17 cI g0 (stF q2 19 x3), cX8_18 cI g0 (stF q2 19 x3), cX8_22 cB g0 (stF q2 19 x3), cX8_27 cI g0 (stF q2 19 x3), cX8_28 cI g0 (stF q2 19 x3), cX8_29 cI g0 (stF q2 19 x3), cX8_30 cI g0 (stF q2 19 x3), cX8_31 cI g0 (stF q2 19 x3), cX8_32 cI g0 (stF q2 19 x3), cX8_33 cI g0 (stF q2 19 x3)]) := hD
    refine lv_aload_n hx hb dX8_undo_32 rfl (lv_at hl 0 rfl) ?_
    refine va_get (D := (dC, dI)) (ci := 8) (v := .int x3) (C := RX8) (T := TX8) (N := 36) hx hb hts hiX8 hown hKK.1 hP 0 rfl rfl 19 (by decide) (hts (.fieldLink RX8 160 "SlideLandModel" "acts" "I") (List.mem_of_getElem? (i := 1) rfl)) (fun _ h9 => h9) rfl dX8_undo_33 ?_
    have h := Option.some.inj h
    subst h
    subst hQ
    exact W.iret (v := x3) hx hb hr (fun t ht hW => ⟨⟨rfl, by rw [ht]; exact hP, hD⟩, hS.F ht⟩) hS.2.2 dX8_undo_36
  · have h := ite_t k1 h
    refine lv_bipush (v := (-2 : Int32)) hx hb dX8_undo_7 (by decide) ?_
    have h := Option.some.inj h
    subst h
    subst hQ
    exact W.iret (v := (-2 : Int32)) hx hb hr (fun t ht hW => ⟨⟨rfl, by rw [ht]; exact hP, hD⟩, hS.F ht⟩) hS.2.2 dX8_undo_9
def f_X8_ask (o0 : Ob) (v1 : Int32) (v2 : Int32) (v3 : Int32) : Option (Int32 × Ob) := bnd (f_X8_isStrip o0 v1) fun q1 : Bool => if (b2i q1) = 0 then (some ((-1 : Int32), o0)) else ((f_X8_isOne o0 v2 v3).bind fun q3 : Bool => if (b2i q3) = 0 then (some ((-1 : Int32), o0)) else (if (o0.1 26) = (6 : Int32) then (some ((-3 : Int32), o0)) else (if (o0.1 26) < 0 ∨ 6 ≤ (o0.1 26).toNatClampNeg then none else bnd (upd (o0.2 27) (o0.1 26).toNatClampNeg v1) fun u7 : Nat → Int32 => if (o0.1 26) < 0 ∨ 6 ≤ (o0.1 26).toNatClampNeg then none else bnd (upd (o0.2 28) (o0.1 26).toNatClampNeg v2) fun u9 : Nat → Int32 => if (o0.1 26) < 0 ∨ 6 ≤ (o0.1 26).toNatClampNeg then none else bnd (upd (o0.2 29) (o0.1 26).toNatClampNeg v3) fun u11 : Nat → Int32 => bnd ((o0.1 26) + (1 : Int32)) fun x12 : Int32 => some (x12, (stR (stR (stR (stF o0 26 x12) 27 u7) 28 u9) 29 u11)))))
abbrev rmX8_ask : Room := { frames := 2, cells := 0, slots := 0, locals := 47 }
theorem dsc_X8_ask : yX8_ask.cls ≠ "java/lang/invoke/MethodHandle" ∧ yX8_ask.cls ≠ "java/lang/invoke/VarHandle" ∧ (parseMethodDescriptor yX8_ask.desc).map (fun d => d.parameters.length) = some 3 := by decide +kernel
set_option maxHeartbeats 4000000 in
set_option maxRecDepth 100000 in
theorem c_X8_ask (l : Launch) (dC : Nat → ClassId) (dI : Nat → Nat → Nat) (cB cI cZ cO : ClassId) (a0 : Nat) (g0 : Nat → Nat) (o0 : Ob) (v1 : Int32) (v2 : Int32) (v3 : Int32) {r : Int32 × Ob} (h : f_X8_ask o0 v1 v2 v3 = some r) : Ct dC dI cB cI cZ cO l yX8_ask wsX8_ask rmX8_ask [.ref a0, .int v1, .int v2, .int v3] ([cX8 a0 g0 o0, cX8_0 cI g0 o0, cX8_1 cI g0 o0, cX8_3 cI g0 o0, cX8_4 cI g0 o0, cX8_6 cI g0 o0, cX8_8 cI g0 o0, cX8_9 cI g0 o0, cX8_10 cI g0 o0, cX8_12 cI g0 o0, cX8_13 cI g0 o0, cX8_15 cI g0 o0, cX8_17 cI g0 o0, cX8_18 cI g0 o0, cX8_22 cB g0 o0, cX8_27 cI g0 o0, cX8_28 cI g0 o0, cX8_29 cI g0 o0, cX8_30 cI g0 o0, cX8_31 cI g0 o0, cX8_32 cI g0 o0, cX8_33 cI g0 o0]) (some (.int r.1)) ([cX8 a0 g0 r.2, cX8_0 cI g0 r.2, cX8_1 cI g0 r.2, cX8_3 cI g0 r.2, cX8_4 cI g0 r.2, cX8_6 cI g0 r.2, cX8_8 cI g0 r.2, cX8_9 cI g0 r.2, cX8_10 cI g0 r.2, cX8_12 cI g0 r.2, cX8_13 cI g0 r.2, cX8_15 cI g0 r.2, cX8_17 cI g0 r.2, cX8_18 cI g0 r.2, cX8_22 cB g0 r.2, cX8_27 cI g0 r.2, cX8_28 cI g0 r.2, cX8_29 cI g0 r.2, cX8_30 cI g0 r.2, cX8_31 cI g0 r.2, cX8_32 cI g0 r.2, cX8_33 cI g0 r.2]) := by
  intro sz
  refine Met.ofW (cc := cX8_ask) (maxL := 4) (ret := (some .int)) (by decide) rfl ?_
  intro p e s m args below meth c s₁ B hml hv
  obtain ⟨rfl, hsz, hP, hKK, hD0⟩ := hv
  have hx := B.exec
  have hb := B.bytes
  have hr := B.returns
  have hts := atoms_spec (ws := wsX8_ask) B.pre
  have hown : s.vm.findClass RX8 = some m.cls := findClass_of_methodNamed B.named
  have hlocks := B.notSynchronized
  have hiX8 : ∀ w ∈ u_ws RX8 TX8 36, w ∈ wsX8_ask := fun w h => List.mem_cons_of_mem _ (List.mem_append_right _ h)
  subst hsz
  have hD := hD0.self (sz := s.heap.size)
  generalize hAe : va_A ([cX8 a0 g0 o0, cX8_0 cI g0 o0, cX8_1 cI g0 o0, cX8_3 cI g0 o0, cX8_4 cI g0 o0, cX8_6 cI g0 o0, cX8_8 cI g0 o0, cX8_9 cI g0 o0, cX8_10 cI g0 o0, cX8_12 cI g0 o0, cX8_13 cI g0 o0, cX8_15 cI g0 o0, cX8_17 cI g0 o0, cX8_18 cI g0 o0, cX8_22 cB g0 o0, cX8_27 cI g0 o0, cX8_28 cI g0 o0, cX8_29 cI g0 o0, cX8_30 cI g0 o0, cX8_31 cI g0 o0, cX8_32 cI g0 o0, cX8_33 cI g0 o0]) s.heap.size = A at hD ⊢
  have hA : ∀ q : Nat, s.heap.size ≤ q → A q := fun q h => by rw [← hAe]; exact Or.inr h
  have hS : va_S A s.heap s.heap [] := va_S.rf
  have hP : va_P (dC, dI) vwCl ([cX8 a0 g0 o0, cX8_0 cI g0 o0, cX8_1 cI g0 o0, cX8_3 cI g0 o0, cX8_4 cI g0 o0, cX8_6 cI g0 o0, cX8_8 cI g0 o0, cX8_9 cI g0 o0, cX8_10 cI g0 o0, cX8_12 cI g0 o0, cX8_13 cI g0 o0, cX8_15 cI g0 o0, cX8_17 cI g0 o0, cX8_18 cI g0 o0, cX8_22 cB g0 o0, cX8_27 cI g0 o0, cX8_28 cI g0 o0, cX8_29 cI g0 o0, cX8_30 cI g0 o0, cX8_31 cI g0 o0, cX8_32 cI g0 o0, cX8_33 cI g0 o0]) s.heap := hP
  have hD : va_D A ([cX8 a0 g0 o0, cX8_0 cI g0 o0, cX8_1 cI g0 o0, cX8_3 cI g0 o0, cX8_4 cI g0 o0, cX8_6 cI g0 o0, cX8_8 cI g0 o0, cX8_9 cI g0 o0, cX8_10 cI g0 o0, cX8_12 cI g0 o0, cX8_13 cI g0 o0, cX8_15 cI g0 o0, cX8_17 cI g0 o0, cX8_18 cI g0 o0, cX8_22 cB g0 o0, cX8_27 cI g0 o0, cX8_28 cI g0 o0, cX8_29 cI g0 o0, cX8_30 cI g0 o0, cX8_31 cI g0 o0, cX8_32 cI g0 o0, cX8_33 cI g0 o0]) := hD
  have hl := lv_entry ([.ref a0, .int v1, .int v2, .int v3]) (n := 4) (Nat.le_of_ble_eq_true rfl)
  rw [lg_entry_eq]
  generalize (lg_sl ([.ref a0, .int v1, .int v2, .int v3]) ++ List.replicate (4 - (lg_sl ([.ref a0, .int v1, .int v2, .int v3])).length) Slot.unset).toArray = ls at hl ⊢
  have hl : lv_has ls 4 [(0, .ref a0), (1, .int v1), (2, .int v2), (3, .int v3)] := hl
  obtain ⟨Q, hQ⟩ : ∃ Q, Q = MQ below (Qq dC dI (some (.int r.1)) ([cX8 a0 g0 r.2, cX8_0 cI g0 r.2, cX8_1 cI g0 r.2, cX8_3 cI g0 r.2, cX8_4 cI g0 r.2, cX8_6 cI g0 r.2, cX8_8 cI g0 r.2, cX8_9 cI g0 r.2, cX8_10 cI g0 r.2, cX8_12 cI g0 r.2, cX8_13 cI g0 r.2, cX8_15 cI g0 r.2, cX8_17 cI g0 r.2, cX8_18 cI g0 r.2, cX8_22 cB g0 r.2, cX8_27 cI g0 r.2, cX8_28 cI g0 r.2, cX8_29 cI g0 r.2, cX8_30 cI g0 r.2, cX8_31 cI g0 r.2, cX8_32 cI g0 r.2, cX8_33 cI g0 r.2]) A) ([.ref a0, .int v1, .int v2, .int v3] : List Value).toArray s 0 0 A := ⟨_, rfl⟩
  rw [← hQ]
  rw [f_X8_ask] at h
  clear hAe hD0
  refine lv_aload_n hx hb dX8_ask_0 rfl (lv_at hl 0 rfl) ?_
  refine lv_iload_n hx hb dX8_ask_1 rfl (lv_at hl 1 rfl) ?_
  obtain ⟨q1, hq1, h⟩ := bnd_e h
  refine kcV (rest := []) (w2 := ([cX8 a0 g0 o0, cX8_0 cI g0 o0, cX8_1 cI g0 o0, cX8_3 cI g0 o0, cX8_4 cI g0 o0, cX8_6 cI g0 o0, cX8_8 cI g0 o0, cX8_9 cI g0 o0, cX8_10 cI g0 o0, cX8_12 cI g0 o0, cX8_13 cI g0 o0, cX8_15 cI g0 o0, cX8_17 cI g0 o0, cX8_18 cI g0 o0, cX8_22 cB g0 o0, cX8_27 cI g0 o0, cX8_28 cI g0 o0, cX8_29 cI g0 o0, cX8_30 cI g0 o0, cX8_31 cI g0 o0, cX8_32 cI g0 o0, cX8_33 cI g0 o0])) hx hb hml hown hts hKK hP hD hS hA (c_X8_isStrip l dC dI cB cI cZ cO a0 g0 o0 v1 hq1) [0, 1, 2, 3, 4, 5, 6, 7, 8, 9, 10, 11, 12, 13, 14, 15, 16, 17, 18, 19, 20, 21] (atAll_map ⟨rfl, rfl, rfl, rfl, rfl, rfl, rfl, rfl, rfl, rfl, rfl, rfl, rfl, rfl, rfl, rfl, rfl, rfl, rfl, rfl, rfl, rfl, trivial⟩) (by decide +kernel) (sameAd_map ⟨rfl, rfl, rfl, rfl, rfl, rfl, rfl, rfl, rfl, rfl, rfl, rfl, rfl, rfl, rfl, rfl, rfl, rfl, rfl, rfl, rfl, rfl, trivial⟩) (atAll_map ⟨rfl, rfl, rfl, rfl, rfl, rfl, rfl, rfl, rfl, rfl, rfl, rfl, rfl, rfl, rfl, rfl, rfl, rfl, rfl, rfl, rfl, rfl, trivial⟩) (agr_refl _ _ _) (cwV 1 hts gX8_ask_X8_isStrip rfl rfl rfl ⟨rfl, dsc_X8_isStrip⟩ ⟨Nat.le_of_ble_eq_true rfl, Nat.le_of_ble_eq_true rfl⟩) (va_recv hKK.1 hP (ci := 8) (q0 := 0) rfl rfl) rfl hl.1 rfl (Nat.le_of_ble_eq_true rfl) dX8_ask_2 ⟨Nat.zero_le _, Nat.zero_le _⟩ (fun H locs hP hD hS => ?_)
  refine lv_if_eq (tgt := 17) hx hb dX8_ask_5 (by decide) (fun k2 => ?_) (fun k2 => ?_)
  · have h := ite_t k2 h
    refine lv_iconst (v := (-1 : Int32)) hx hb dX8_ask_17 (by decide) ?_
    have h := Option.some.inj h
    subst h
    subst hQ
    exact W.iret (v := (-1 : Int32)) hx hb hr (fun t ht hW => ⟨⟨rfl, by rw [ht]; exact hP, hD⟩, hS.F ht⟩) hS.2.2 dX8_ask_18
  · have h := ite_f k2 h
    refine lv_aload_n hx hb dX8_ask_8 rfl (lv_at hl 0 rfl) ?_
    refine lv_iload_n hx hb dX8_ask_9 rfl (lv_at hl 2 rfl) ?_
    refine lv_iload_n hx hb dX8_ask_10 rfl (lv_at hl 3 rfl) ?_
    obtain ⟨q3, hq3, h⟩ := obd_e h
    refine kcV (rest := []) (w2 := ([cX8 a0 g0 o0, cX8_0 cI g0 o0, cX8_1 cI g0 o0, cX8_3 cI g0 o0, cX8_4 cI g0 o0, cX8_6 cI g0 o0, cX8_8 cI g0 o0, cX8_9 cI g0 o0, cX8_10 cI g0 o0, cX8_12 cI g0 o0, cX8_13 cI g0 o0, cX8_15 cI g0 o0, cX8_17 cI g0 o0, cX8_18 cI g0 o0, cX8_22 cB g0 o0, cX8_27 cI g0 o0, cX8_28 cI g0 o0, cX8_29 cI g0 o0, cX8_30 cI g0 o0, cX8_31 cI g0 o0, cX8_32 cI g0 o0, cX8_33 cI g0 o0])) hx hb hml hown hts hKK hP hD hS hA (c_X8_isOne l dC dI cB cI cZ cO a0 g0 o0 v2 v3 hq3) [0, 1, 2, 3, 4, 5, 6, 7, 8, 9, 10, 11, 12, 13, 14, 15, 16, 17, 18, 19, 20, 21] (atAll_map ⟨rfl, rfl, rfl, rfl, rfl, rfl, rfl, rfl, rfl, rfl, rfl, rfl, rfl, rfl, rfl, rfl, rfl, rfl, rfl, rfl, rfl, rfl, trivial⟩) (by decide +kernel) (sameAd_map ⟨rfl, rfl, rfl, rfl, rfl, rfl, rfl, rfl, rfl, rfl, rfl, rfl, rfl, rfl, rfl, rfl, rfl, rfl, rfl, rfl, rfl, rfl, trivial⟩) (atAll_map ⟨rfl, rfl, rfl, rfl, rfl, rfl, rfl, rfl, rfl, rfl, rfl, rfl, rfl, rfl, rfl, rfl, rfl, rfl, rfl, rfl, rfl, rfl, trivial⟩) (agr_refl _ _ _) (cwV 2 hts gX8_ask_X8_isOne rfl rfl rfl ⟨rfl, dsc_X8_isOne⟩ ⟨Nat.le_of_ble_eq_true rfl, Nat.le_of_ble_eq_true rfl⟩) (va_recv hKK.1 hP (ci := 8) (q0 := 0) rfl rfl) rfl hl.1 rfl (Nat.le_of_ble_eq_true rfl) dX8_ask_11 ⟨Nat.zero_le _, Nat.zero_le _⟩ (fun H locs hP hD hS => ?_)
    refine lv_if_ne (tgt := 19) hx hb dX8_ask_14 (by decide) (fun k4 => ?_) (fun k4 => ?_)
    · have h := ite_f k4 h
      refine lv_aload_n hx hb dX8_ask_19 rfl (lv_at hl 0 rfl) ?_
      refine va_get (D := (dC, dI)) (ci := 8) (v := .int (o0.1 26)) (C := RX8) (T := TX8) (N := 36) hx hb hts hiX8 hown hKK.1 hP 0 rfl rfl 26 (by decide) (hts (.fieldLink RX8 166 "SlideLandModel" "asks" "I") (List.mem_of_getElem? (i := 1) rfl)) (fun _ h9 => h9) rfl dX8_ask_20 ?_
      refine lv_bipush (v := (6 : Int32)) hx hb dX8_ask_23 (by decide) ?_
      refine lv_icmp_ne (tgt := 31) hx hb dX8_ask_25 (by decide) (fun k5 => ?_) (fun k5 => ?_)
      · have h := ite_f k5 h
        refine lv_aload_n hx hb dX8_ask_31 rfl (lv_at hl 0 rfl) ?_
        refine va_get (D := (dC, dI)) (ci := 8) (v := .ref (g0 27)) (C := RX8) (T := TX8) (N := 36) hx hb hts hiX8 hown hKK.1 hP 0 rfl rfl 27 (by decide) (hts (.fieldLink RX8 53 "SlideLandModel" "askedStrip" "[I") (List.mem_of_getElem? (i := 2) rfl)) (fun _ h9 => h9) rfl dX8_ask_32 ?_
        refine lv_aload_n hx hb dX8_ask_35 rfl (lv_at hl 0 rfl) ?_
        refine va_get (D := (dC, dI)) (ci := 8) (v := .int (o0.1 26)) (C := RX8) (T := TX8) (N := 36) hx hb hts hiX8 hown hKK.1 hP 0 rfl rfl 26 (by decide) (hts (.fieldLink RX8 166 "SlideLandModel" "asks" "I") (List.mem_of_getElem? (i := 1) rfl)) (fun _ h9 => h9) rfl dX8_ask_36 ?_
        refine lv_iload_n hx hb dX8_ask_39 rfl (lv_at hl 1 rfl) ?_
        obtain ⟨k6, h⟩ := ite_n h
        obtain ⟨u7, hu7, h⟩ := bnd_e h
        refine k_iast (f := (o0.2 27)) hx hb hKK.1 hP hD hS 15 1 hu7 rfl rfl k6 dX8_ask_40 (fun H locs hP hD hS => ?_)
        have hP : va_P (dC, dI) vwCl ([cX8 a0 g0 (stR o0 27 u7), cX8_0 cI g0 (stR o0 27 u7), cX8_1 cI g0 (stR o0 27 u7), cX8_3 cI g0 (stR o0 27 u7), cX8_4 cI g0 (stR o0 27 u7), cX8_6 cI g0 (stR o0 27 u7), cX8_8 cI g0 (stR o0 27 u7), cX8_9 cI g0 (stR o0 27 u7), cX8_10 cI g0 (stR o0 27 u7), cX8_12 cI g0 (stR o0 27 u7), cX8_13 cI g0 (stR o0 27 u7), cX8_15 cI g0 (stR o0 27 u7), cX8_17 cI g0 (stR o0 27 u7), cX8_18 cI g0 (stR o0 27 u7), cX8_22 cB g0 (stR o0 27 u7), cX8_27 cI g0 (stR o0 27 u7), cX8_28 cI g0 (stR o0 27 u7), cX8_29 cI g0 (stR o0 27 u7), cX8_30 cI g0 (stR o0 27 u7), cX8_31 cI g0 (stR o0 27 u7), cX8_32 cI g0 (stR o0 27 u7), cX8_33 cI g0 (stR o0 27 u7)]) H := hP
        have hD : va_D A ([cX8 a0 g0 (stR o0 27 u7), cX8_0 cI g0 (stR o0 27 u7), cX8_1 cI g0 (stR o0 27 u7), cX8_3 cI g0 (stR o0 27 u7), cX8_4 cI g0 (stR o0 27 u7), cX8_6 cI g0 (stR o0 27 u7), cX8_8 cI g0 (stR o0 27 u7), cX8_9 cI g0 (stR o0 27 u7), cX8_10 cI g0 (stR o0 27 u7), cX8_12 cI g0 (stR o0 27 u7), cX8_13 cI g0 (stR o0 27 u7), cX8_15 cI g0 (stR o0 27 u7), cX8_17 cI g0 (stR o0 27 u7), cX8_18 cI g0 (stR o0 27 u7), cX8_22 cB g0 (stR o0 27 u7), cX8_27 cI g0 (stR o0 27 u7), cX8_28 cI g0 (stR o0 27 u7), cX8_29 cI g0 (stR o0 27 u7), cX8_30 cI g0 (stR o0 27 u7), cX8_31 cI g0 (stR o0 27 u7), cX8_32 cI g0 (stR o0 27 u7), cX8_33 cI g0 (stR o0 27 u7)]) := hD
        refine lv_aload_n hx hb dX8_ask_41 rfl (lv_at hl 0 rfl) ?_
        refine va_get (D := (dC, dI)) (ci := 8) (v := .ref (g0 28)) (C := RX8) (T := TX8) (N := 36) hx hb hts hiX8 hown hKK.1 hP 0 rfl rfl 28 (by decide) (hts (.fieldLink RX8 56 "SlideLandModel" "askedLand" "[I") (List.mem_of_getElem? (i := 3) rfl)) (fun _ h9 => h9) rfl dX8_ask_42 ?_
        refine lv_aload_n hx hb dX8_ask_45 rfl (lv_at hl 0 rfl) ?_
        refine va_get (D := (dC, dI)) (ci := 8) (v := .int (o0.1 26)) (C := RX8) (T := TX8) (N := 36) hx hb hts hiX8 hown hKK.1 hP 0 rfl rfl 26 (by decide) (hts (.fieldLink RX8 166 "SlideLandModel" "asks" "I") (List.mem_of_getElem? (i := 1) rfl)) (fun _ h9 => h9) rfl dX8_ask_46 ?_
        refine lv_iload_n hx hb dX8_ask_49 rfl (lv_at hl 2 rfl) ?_
        obtain ⟨k8, h⟩ := ite_n h
        obtain ⟨u9, hu9, h⟩ := bnd_e h
        refine k_iast (f := (o0.2 28)) hx hb hKK.1 hP hD hS 16 1 hu9 rfl rfl k8 dX8_ask_50 (fun H locs hP hD hS => ?_)
        have hP : va_P (dC, dI) vwCl ([cX8 a0 g0 (stR (stR o0 27 u7) 28 u9), cX8_0 cI g0 (stR (stR o0 27 u7) 28 u9), cX8_1 cI g0 (stR (stR o0 27 u7) 28 u9), cX8_3 cI g0 (stR (stR o0 27 u7) 28 u9), cX8_4 cI g0 (stR (stR o0 27 u7) 28 u9), cX8_6 cI g0 (stR (stR o0 27 u7) 28 u9), cX8_8 cI g0 (stR (stR o0 27 u7) 28 u9), cX8_9 cI g0 (stR (stR o0 27 u7) 28 u9), cX8_10 cI g0 (stR (stR o0 27 u7) 28 u9), cX8_12 cI g0 (stR (stR o0 27 u7) 28 u9), cX8_13 cI g0 (stR (stR o0 27 u7) 28 u9), cX8_15 cI g0 (stR (stR o0 27 u7) 28 u9), cX8_17 cI g0 (stR (stR o0 27 u7) 28 u9), cX8_18 cI g0 (stR (stR o0 27 u7) 28 u9), cX8_22 cB g0 (stR (stR o0 27 u7) 28 u9), cX8_27 cI g0 (stR (stR o0 27 u7) 28 u9), cX8_28 cI g0 (stR (stR o0 27 u7) 28 u9), cX8_29 cI g0 (stR (stR o0 27 u7) 28 u9), cX8_30 cI g0 (stR (stR o0 27 u7) 28 u9), cX8_31 cI g0 (stR (stR o0 27 u7) 28 u9), cX8_32 cI g0 (stR (stR o0 27 u7) 28 u9), cX8_33 cI g0 (stR (stR o0 27 u7) 28 u9)]) H := hP
        have hD : va_D A ([cX8 a0 g0 (stR (stR o0 27 u7) 28 u9), cX8_0 cI g0 (stR (stR o0 27 u7) 28 u9), cX8_1 cI g0 (stR (stR o0 27 u7) 28 u9), cX8_3 cI g0 (stR (stR o0 27 u7) 28 u9), cX8_4 cI g0 (stR (stR o0 27 u7) 28 u9), cX8_6 cI g0 (stR (stR o0 27 u7) 28 u9), cX8_8 cI g0 (stR (stR o0 27 u7) 28 u9), cX8_9 cI g0 (stR (stR o0 27 u7) 28 u9), cX8_10 cI g0 (stR (stR o0 27 u7) 28 u9), cX8_12 cI g0 (stR (stR o0 27 u7) 28 u9), cX8_13 cI g0 (stR (stR o0 27 u7) 28 u9), cX8_15 cI g0 (stR (stR o0 27 u7) 28 u9), cX8_17 cI g0 (stR (stR o0 27 u7) 28 u9), cX8_18 cI g0 (stR (stR o0 27 u7) 28 u9), cX8_22 cB g0 (stR (stR o0 27 u7) 28 u9), cX8_27 cI g0 (stR (stR o0 27 u7) 28 u9), cX8_28 cI g0 (stR (stR o0 27 u7) 28 u9), cX8_29 cI g0 (stR (stR o0 27 u7) 28 u9), cX8_30 cI g0 (stR (stR o0 27 u7) 28 u9), cX8_31 cI g0 (stR (stR o0 27 u7) 28 u9), cX8_32 cI g0 (stR (stR o0 27 u7) 28 u9), cX8_33 cI g0 (stR (stR o0 27 u7) 28 u9)]) := hD
        refine lv_aload_n hx hb dX8_ask_51 rfl (lv_at hl 0 rfl) ?_
        refine va_get (D := (dC, dI)) (ci := 8) (v := .ref (g0 29)) (C := RX8) (T := TX8) (N := 36) hx hb hts hiX8 hown hKK.1 hP 0 rfl rfl 29 (by decide) (hts (.fieldLink RX8 59 "SlideLandModel" "askedWho" "[I") (List.mem_of_getElem? (i := 4) rfl)) (fun _ h9 => h9) rfl dX8_ask_52 ?_
        refine lv_aload_n hx hb dX8_ask_55 rfl (lv_at hl 0 rfl) ?_
        refine va_get (D := (dC, dI)) (ci := 8) (v := .int (o0.1 26)) (C := RX8) (T := TX8) (N := 36) hx hb hts hiX8 hown hKK.1 hP 0 rfl rfl 26 (by decide) (hts (.fieldLink RX8 166 "SlideLandModel" "asks" "I") (List.mem_of_getElem? (i := 1) rfl)) (fun _ h9 => h9) rfl dX8_ask_56 ?_
        refine lv_iload_n hx hb dX8_ask_59 rfl (lv_at hl 3 rfl) ?_
        obtain ⟨k10, h⟩ := ite_n h
        obtain ⟨u11, hu11, h⟩ := bnd_e h
        refine k_iast (f := (o0.2 29)) hx hb hKK.1 hP hD hS 17 1 hu11 rfl rfl k10 dX8_ask_60 (fun H locs hP hD hS => ?_)
        have hP : va_P (dC, dI) vwCl ([cX8 a0 g0 (stR (stR (stR o0 27 u7) 28 u9) 29 u11), cX8_0 cI g0 (stR (stR (stR o0 27 u7) 28 u9) 29 u11), cX8_1 cI g0 (stR (stR (stR o0 27 u7) 28 u9) 29 u11), cX8_3 cI g0 (stR (stR (stR o0 27 u7) 28 u9) 29 u11), cX8_4 cI g0 (stR (stR (stR o0 27 u7) 28 u9) 29 u11), cX8_6 cI g0 (stR (stR (stR o0 27 u7) 28 u9) 29 u11), cX8_8 cI g0 (stR (stR (stR o0 27 u7) 28 u9) 29 u11), cX8_9 cI g0 (stR (stR (stR o0 27 u7) 28 u9) 29 u11), cX8_10 cI g0 (stR (stR (stR o0 27 u7) 28 u9) 29 u11), cX8_12 cI g0 (stR (stR (stR o0 27 u7) 28 u9) 29 u11), cX8_13 cI g0 (stR (stR (stR o0 27 u7) 28 u9) 29 u11), cX8_15 cI g0 (stR (stR (stR o0 27 u7) 28 u9) 29 u11), cX8_17 cI g0 (stR (stR (stR o0 27 u7) 28 u9) 29 u11), cX8_18 cI g0 (stR (stR (stR o0 27 u7) 28 u9) 29 u11), cX8_22 cB g0 (stR (stR (stR o0 27 u7) 28 u9) 29 u11), cX8_27 cI g0 (stR (stR (stR o0 27 u7) 28 u9) 29 u11), cX8_28 cI g0 (stR (stR (stR o0 27 u7) 28 u9) 29 u11), cX8_29 cI g0 (stR (stR (stR o0 27 u7) 28 u9) 29 u11), cX8_30 cI g0 (stR (stR (stR o0 27 u7) 28 u9) 29 u11), cX8_31 cI g0 (stR (stR (stR o0 27 u7) 28 u9) 29 u11), cX8_32 cI g0 (stR (stR (stR o0 27 u7) 28 u9) 29 u11), cX8_33 cI g0 (stR (stR (stR o0 27 u7) 28 u9) 29 u11)]) H := hP
        have hD : va_D A ([cX8 a0 g0 (stR (stR (stR o0 27 u7) 28 u9) 29 u11), cX8_0 cI g0 (stR (stR (stR o0 27 u7) 28 u9) 29 u11), cX8_1 cI g0 (stR (stR (stR o0 27 u7) 28 u9) 29 u11), cX8_3 cI g0 (stR (stR (stR o0 27 u7) 28 u9) 29 u11), cX8_4 cI g0 (stR (stR (stR o0 27 u7) 28 u9) 29 u11), cX8_6 cI g0 (stR (stR (stR o0 27 u7) 28 u9) 29 u11), cX8_8 cI g0 (stR (stR (stR o0 27 u7) 28 u9) 29 u11), cX8_9 cI g0 (stR (stR (stR o0 27 u7) 28 u9) 29 u11), cX8_10 cI g0 (stR (stR (stR o0 27 u7) 28 u9) 29 u11), cX8_12 cI g0 (stR (stR (stR o0 27 u7) 28 u9) 29 u11), cX8_13 cI g0 (stR (stR (stR o0 27 u7) 28 u9) 29 u11), cX8_15 cI g0 (stR (stR (stR o0 27 u7) 28 u9) 29 u11), cX8_17 cI g0 (stR (stR (stR o0 27 u7) 28 u9) 29 u11), cX8_18 cI g0 (stR (stR (stR o0 27 u7) 28 u9) 29 u11), cX8_22 cB g0 (stR (stR (stR o0 27 u7) 28 u9) 29 u11), cX8_27 cI g0 (stR (stR (stR o0 27 u7) 28 u9) 29 u11), cX8_28 cI g0 (stR (stR (stR o0 27 u7) 28 u9) 29 u11), cX8_29 cI g0 (stR (stR (stR o0 27 u7) 28 u9) 29 u11), cX8_30 cI g0 (stR (stR (stR o0 27 u7) 28 u9) 29 u11), cX8_31 cI g0 (stR (stR (stR o0 27 u7) 28 u9) 29 u11), cX8_32 cI g0 (stR (stR (stR o0 27 u7) 28 u9) 29 u11), cX8_33 cI g0 (stR (stR (stR o0 27 u7) 28 u9) 29 u11)]) := hD
        refine lv_aload_n hx hb dX8_ask_61 rfl (lv_at hl 0 rfl) ?_
        refine lv_dup hx hb dX8_ask_62 rfl ?_
        refine va_get (D := (dC, dI)) (ci := 8) (v := .int (o0.1 26)) (C := RX8) (T := TX8) (N := 36) hx hb hts hiX8 hown hKK.1 hP 0 rfl rfl 26 (by decide) (hts (.fieldLink RX8 166 "SlideLandModel" "asks" "I") (List.mem_of_getElem? (i := 1) rfl)) (fun _ h9 => h9) rfl dX8_ask_63 ?_
        refine lv_iconst (v := (1 : Int32)) hx hb dX8_ask_66 (by decide) ?_
        refine lv_iadd hx hb dX8_ask_67 ?_
        obtain ⟨x12, hx12, h⟩ := bnd_e h
        rw [hx12]
        refine va_put (D := (dC, dI)) (ci := 8) (v := .int x12) (ty := .int) (C := RX8) (T := TX8) (N := 36) hx hb hts hiX8 tyX8 tyX8_ok nmX8 hown hKK.1 hP hD hS 0 rfl rfl 26 (by decide) (hts (.fieldLink RX8 166 "SlideLandModel" "asks" "I") (List.mem_of_getElem? (i := 1) rfl)) (fun _ h9 => h9) rfl (by decide +kernel) rfl rfl (Nat.le_of_ble_eq_true rfl) dX8_ask_68 (fun H locs hP hD hS => ?_)
        have hP : va_P (dC, dI) vwCl ([cX8 a0 g0 (stR (stR (stR (stF o0 26 x12) 27 u7) 28 u9) 29 u11), cX8_0 cI g0 (stR (stR (stR (stF o0 26 x12) 27 u7) 28 u9) 29 u11), cX8_1 cI g0 (stR (stR (stR (stF o0 26 x12) 27 u7) 28 u9) 29 u11), cX8_3 cI g0 (stR (stR (stR (stF o0 26 x12) 27 u7) 28 u9) 29 u11), cX8_4 cI g0 (stR (stR (stR (stF o0 26 x12) 27 u7) 28 u9) 29 u11), cX8_6 cI g0 (stR (stR (stR (stF o0 26 x12) 27 u7) 28 u9) 29 u11), cX8_8 cI g0 (stR (stR (stR (stF o0 26 x12) 27 u7) 28 u9) 29 u11), cX8_9 cI g0 (stR (stR (stR (stF o0 26 x12) 27 u7) 28 u9) 29 u11), cX8_10 cI g0 (stR (stR (stR (stF o0 26 x12) 27 u7) 28 u9) 29 u11), cX8_12 cI g0 (stR (stR (stR (stF o0 26 x12) 27 u7) 28 u9) 29 u11), cX8_13 cI g0 (stR (stR (stR (stF o0 26 x12) 27 u7) 28 u9) 29 u11), cX8_15 cI g0 (stR (stR (stR (stF o0 26 x12) 27 u7) 28 u9) 29 u11), cX8_17 cI g0 (stR (stR (stR (stF o0 26 x12) 27 u7) 28 u9) 29 u11), cX8_18 cI g0 (stR (stR (stR (stF o0 26 x12) 27 u7) 28 u9) 29 u11), cX8_22 cB g0 (stR (stR (stR (stF o0 26 x12) 27 u7) 28 u9) 29 u11), cX8_27 cI g0 (stR (stR (stR (stF o0 26 x12) 27 u7) 28 u9) 29 u11), cX8_28 cI g0 (stR (stR (stR (stF o0 26 x12) 27 u7) 28 u9) 29 u11), cX8_29 cI g0 (stR (stR (stR (stF o0 26 x12) 27 u7) 28 u9) 29 u11), cX8_30 cI g0 (stR (stR (stR (stF o0 26 x12) 27 u7) 28 u9) 29 u11), cX8_31 cI g0 (stR (stR (stR (stF o0 26 x12) 27 u7) 28 u9) 29 u11), cX8_32 cI g0 (stR (stR (stR (stF o0 26 x12) 27 u7) 28 u9) 29 u11), cX8_33 cI g0 (stR (stR (stR (stF o0 26 x12) 27 u7) 28 u9) 29 u11)]) H := hP
        have hD : va_D A ([cX8 a0 g0 (stR (stR (stR (stF o0 26 x12) 27 u7) 28 u9) 29 u11), cX8_0 cI g0 (stR (stR (stR (stF o0 26 x12) 27 u7) 28 u9) 29 u11), cX8_1 cI g0 (stR (stR (stR (stF o0 26 x12) 27 u7) 28 u9) 29 u11), cX8_3 cI g0 (stR (stR (stR (stF o0 26 x12) 27 u7) 28 u9) 29 u11), cX8_4 cI g0 (stR (stR (stR (stF o0 26 x12) 27 u7) 28 u9) 29 u11), cX8_6 cI g0 (stR (stR (stR (stF o0 26 x12) 27 u7) 28 u9) 29 u11), cX8_8 cI g0 (stR (stR (stR (stF o0 26 x12) 27 u7) 28 u9) 29 u11), cX8_9 cI g0 (stR (stR (stR (stF o0 26 x12) 27 u7) 28 u9) 29 u11), cX8_10 cI g0 (stR (stR (stR (stF o0 26 x12) 27 u7) 28 u9) 29 u11), cX8_12 cI g0 (stR (stR (stR (stF o0 26 x12) 27 u7) 28 u9) 29 u11), cX8_13 cI g0 (stR (stR (stR (stF o0 26 x12) 27 u7) 28 u9) 29 u11), cX8_15 cI g0 (stR (stR (stR (stF o0 26 x12) 27 u7) 28 u9) 29 u11), cX8_17 cI g0 (stR (stR (stR (stF o0 26 x12) 27 u7) 28 u9) 29 u11), cX8_18 cI g0 (stR (stR (stR (stF o0 26 x12) 27 u7) 28 u9) 29 u11), cX8_22 cB g0 (stR (stR (stR (stF o0 26 x12) 27 u7) 28 u9) 29 u11), cX8_27 cI g0 (stR (stR (stR (stF o0 26 x12) 27 u7) 28 u9) 29 u11), cX8_28 cI g0 (stR (stR (stR (stF o0 26 x12) 27 u7) 28 u9) 29 u11), cX8_29 cI g0 (stR (stR (stR (stF o0 26 x12) 27 u7) 28 u9) 29 u11), cX8_30 cI g0 (stR (stR (stR (stF o0 26 x12) 27 u7) 28 u9) 29 u11), cX8_31 cI g0 (stR (stR (stR (stF o0 26 x12) 27 u7) 28 u9) 29 u11), cX8_32 cI g0 (stR (stR (stR (stF o0 26 x12) 27 u7) 28 u9) 29 u11), cX8_33 cI g0 (stR (stR (stR (stF o0 26 x12) 27 u7) 28 u9) 29 u11)]) := hD
        refine lv_aload_n hx hb dX8_ask_71 rfl (lv_at hl 0 rfl) ?_
        refine va_get (D := (dC, dI)) (ci := 8) (v := .int x12) (C := RX8) (T := TX8) (N := 36) hx hb hts hiX8 hown hKK.1 hP 0 rfl rfl 26 (by decide) (hts (.fieldLink RX8 166 "SlideLandModel" "asks" "I") (List.mem_of_getElem? (i := 1) rfl)) (fun _ h9 => h9) rfl dX8_ask_72 ?_
        have h := Option.some.inj h
        subst h
        subst hQ
        exact W.iret (v := x12) hx hb hr (fun t ht hW => ⟨⟨rfl, by rw [ht]; exact hP, hD⟩, hS.F ht⟩) hS.2.2 dX8_ask_75
      · have h := ite_t k5 h
        refine lv_bipush (v := (-3 : Int32)) hx hb dX8_ask_28 (by decide) ?_
        have h := Option.some.inj h
        subst h
        subst hQ
        exact W.iret (v := (-3 : Int32)) hx hb hr (fun t ht hW => ⟨⟨rfl, by rw [ht]; exact hP, hD⟩, hS.F ht⟩) hS.2.2 dX8_ask_30
    · have h := ite_t k4 h
      refine lv_iconst (v := (-1 : Int32)) hx hb dX8_ask_17 (by decide) ?_
      have h := Option.some.inj h
      subst h
      subst hQ
      exact W.iret (v := (-1 : Int32)) hx hb hr (fun t ht hW => ⟨⟨rfl, by rw [ht]; exact hP, hD⟩, hS.F ht⟩) hS.2.2 dX8_ask_18
def f_X8_forget (o0 : Ob) : Int32 × Ob := bnd (o0.1 26) fun x1 : Int32 => (x1, (stF o0 26 (0 : Int32)))
abbrev rmX8_forget : Room := { frames := 0, cells := 0, slots := 0, locals := 0 }
theorem dsc_X8_forget : yX8_forget.cls ≠ "java/lang/invoke/MethodHandle" ∧ yX8_forget.cls ≠ "java/lang/invoke/VarHandle" ∧ (parseMethodDescriptor yX8_forget.desc).map (fun d => d.parameters.length) = some 0 := by decide +kernel
set_option maxHeartbeats 4000000 in
set_option maxRecDepth 100000 in
theorem c_X8_forget (l : Launch) (dC : Nat → ClassId) (dI : Nat → Nat → Nat) (cB cI cZ cO : ClassId) (a0 : Nat) (g0 : Nat → Nat) (o0 : Ob) {r : Int32 × Ob} (h : f_X8_forget o0 = r) : Ct dC dI cB cI cZ cO l yX8_forget wsX8_forget rmX8_forget [.ref a0] ([cX8 a0 g0 o0, cX8_0 cI g0 o0, cX8_1 cI g0 o0, cX8_3 cI g0 o0, cX8_4 cI g0 o0, cX8_6 cI g0 o0, cX8_8 cI g0 o0, cX8_9 cI g0 o0, cX8_10 cI g0 o0, cX8_12 cI g0 o0, cX8_13 cI g0 o0, cX8_15 cI g0 o0, cX8_17 cI g0 o0, cX8_18 cI g0 o0, cX8_22 cB g0 o0, cX8_27 cI g0 o0, cX8_28 cI g0 o0, cX8_29 cI g0 o0, cX8_30 cI g0 o0, cX8_31 cI g0 o0, cX8_32 cI g0 o0, cX8_33 cI g0 o0]) (some (.int r.1)) ([cX8 a0 g0 r.2, cX8_0 cI g0 r.2, cX8_1 cI g0 r.2, cX8_3 cI g0 r.2, cX8_4 cI g0 r.2, cX8_6 cI g0 r.2, cX8_8 cI g0 r.2, cX8_9 cI g0 r.2, cX8_10 cI g0 r.2, cX8_12 cI g0 r.2, cX8_13 cI g0 r.2, cX8_15 cI g0 r.2, cX8_17 cI g0 r.2, cX8_18 cI g0 r.2, cX8_22 cB g0 r.2, cX8_27 cI g0 r.2, cX8_28 cI g0 r.2, cX8_29 cI g0 r.2, cX8_30 cI g0 r.2, cX8_31 cI g0 r.2, cX8_32 cI g0 r.2, cX8_33 cI g0 r.2]) := by
  intro sz
  refine Met.ofW (cc := cX8_forget) (maxL := 2) (ret := (some .int)) (by decide) rfl ?_
  intro p e s m args below meth c s₁ B hml hv
  obtain ⟨rfl, hsz, hP, hKK, hD0⟩ := hv
  have hx := B.exec
  have hb := B.bytes
  have hr := B.returns
  have hts := atoms_spec (ws := wsX8_forget) B.pre
  have hown : s.vm.findClass RX8 = some m.cls := findClass_of_methodNamed B.named
  have hlocks := B.notSynchronized
  have hiX8 : ∀ w ∈ u_ws RX8 TX8 36, w ∈ wsX8_forget := fun w h => List.mem_cons_of_mem _ (List.mem_append_right _ h)
  subst hsz
  have hD := hD0.self (sz := s.heap.size)
  generalize hAe : va_A ([cX8 a0 g0 o0, cX8_0 cI g0 o0, cX8_1 cI g0 o0, cX8_3 cI g0 o0, cX8_4 cI g0 o0, cX8_6 cI g0 o0, cX8_8 cI g0 o0, cX8_9 cI g0 o0, cX8_10 cI g0 o0, cX8_12 cI g0 o0, cX8_13 cI g0 o0, cX8_15 cI g0 o0, cX8_17 cI g0 o0, cX8_18 cI g0 o0, cX8_22 cB g0 o0, cX8_27 cI g0 o0, cX8_28 cI g0 o0, cX8_29 cI g0 o0, cX8_30 cI g0 o0, cX8_31 cI g0 o0, cX8_32 cI g0 o0, cX8_33 cI g0 o0]) s.heap.size = A at hD ⊢
  have hA : ∀ q : Nat, s.heap.size ≤ q → A q := fun q h => by rw [← hAe]; exact Or.inr h
  have hS : va_S A s.heap s.heap [] := va_S.rf
  have hP : va_P (dC, dI) vwCl ([cX8 a0 g0 o0, cX8_0 cI g0 o0, cX8_1 cI g0 o0, cX8_3 cI g0 o0, cX8_4 cI g0 o0, cX8_6 cI g0 o0, cX8_8 cI g0 o0, cX8_9 cI g0 o0, cX8_10 cI g0 o0, cX8_12 cI g0 o0, cX8_13 cI g0 o0, cX8_15 cI g0 o0, cX8_17 cI g0 o0, cX8_18 cI g0 o0, cX8_22 cB g0 o0, cX8_27 cI g0 o0, cX8_28 cI g0 o0, cX8_29 cI g0 o0, cX8_30 cI g0 o0, cX8_31 cI g0 o0, cX8_32 cI g0 o0, cX8_33 cI g0 o0]) s.heap := hP
  have hD : va_D A ([cX8 a0 g0 o0, cX8_0 cI g0 o0, cX8_1 cI g0 o0, cX8_3 cI g0 o0, cX8_4 cI g0 o0, cX8_6 cI g0 o0, cX8_8 cI g0 o0, cX8_9 cI g0 o0, cX8_10 cI g0 o0, cX8_12 cI g0 o0, cX8_13 cI g0 o0, cX8_15 cI g0 o0, cX8_17 cI g0 o0, cX8_18 cI g0 o0, cX8_22 cB g0 o0, cX8_27 cI g0 o0, cX8_28 cI g0 o0, cX8_29 cI g0 o0, cX8_30 cI g0 o0, cX8_31 cI g0 o0, cX8_32 cI g0 o0, cX8_33 cI g0 o0]) := hD
  have hl := lv_entry ([.ref a0]) (n := 2) (Nat.le_of_ble_eq_true rfl)
  rw [lg_entry_eq]
  generalize (lg_sl ([.ref a0]) ++ List.replicate (2 - (lg_sl ([.ref a0])).length) Slot.unset).toArray = ls at hl ⊢
  have hl : lv_has ls 2 [(0, .ref a0)] := hl
  obtain ⟨Q, hQ⟩ : ∃ Q, Q = MQ below (Qq dC dI (some (.int r.1)) ([cX8 a0 g0 r.2, cX8_0 cI g0 r.2, cX8_1 cI g0 r.2, cX8_3 cI g0 r.2, cX8_4 cI g0 r.2, cX8_6 cI g0 r.2, cX8_8 cI g0 r.2, cX8_9 cI g0 r.2, cX8_10 cI g0 r.2, cX8_12 cI g0 r.2, cX8_13 cI g0 r.2, cX8_15 cI g0 r.2, cX8_17 cI g0 r.2, cX8_18 cI g0 r.2, cX8_22 cB g0 r.2, cX8_27 cI g0 r.2, cX8_28 cI g0 r.2, cX8_29 cI g0 r.2, cX8_30 cI g0 r.2, cX8_31 cI g0 r.2, cX8_32 cI g0 r.2, cX8_33 cI g0 r.2]) A) ([.ref a0] : List Value).toArray s 0 0 A := ⟨_, rfl⟩
  rw [← hQ]
  rw [f_X8_forget] at h
  clear hAe hD0
  refine lv_aload_n hx hb dX8_forget_0 rfl (lv_at hl 0 rfl) ?_
  refine va_get (D := (dC, dI)) (ci := 8) (v := .int (o0.1 26)) (C := RX8) (T := TX8) (N := 36) hx hb hts hiX8 hown hKK.1 hP 0 rfl rfl 26 (by decide) (hts (.fieldLink RX8 166 "SlideLandModel" "asks" "I") (List.mem_of_getElem? (i := 1) rfl)) (fun _ h9 => h9) rfl dX8_forget_1 ?_
  obtain ⟨x1, hx1, h⟩ := bnd_e h
  refine lv_topE hx1 ?_
  refine lv_istore_n (lv' := [(1, .int x1), (0, .ref a0)]) hx hb dX8_forget_4 rfl hl (by decide) rfl (fun ls hl => ?_)
  refine lv_aload_n hx hb dX8_forget_5 rfl (lv_at hl 1 rfl) ?_
  refine lv_iconst (v := (0 : Int32)) hx hb dX8_forget_6 (by decide) ?_
  refine va_put (D := (dC, dI)) (ci := 8) (v := .int (0 : Int32)) (ty := .int) (C := RX8) (T := TX8) (N := 36) hx hb hts hiX8 tyX8 tyX8_ok nmX8 hown hKK.1 hP hD hS 0 rfl rfl 26 (by decide) (hts (.fieldLink RX8 166 "SlideLandModel" "asks" "I") (List.mem_of_getElem? (i := 1) rfl)) (fun _ h9 => h9) rfl (by decide +kernel) rfl rfl (Nat.le_of_ble_eq_true rfl) dX8_forget_7 (fun H locs hP hD hS => ?_)
  have hP : va_P (dC, dI) vwCl ([cX8 a0 g0 (stF o0 26 (0 : Int32)), cX8_0 cI g0 (stF o0 26 (0 : Int32)), cX8_1 cI g0 (stF o0 26 (0 : Int32)), cX8_3 cI g0 (stF o0 26 (0 : Int32)), cX8_4 cI g0 (stF o0 26 (0 : Int32)), cX8_6 cI g0 (stF o0 26 (0 : Int32)), cX8_8 cI g0 (stF o0 26 (0 : Int32)), cX8_9 cI g0 (stF o0 26 (0 : Int32)), cX8_10 cI g0 (stF o0 26 (0 : Int32)), cX8_12 cI g0 (stF o0 26 (0 : Int32)), cX8_13 cI g0 (stF o0 26 (0 : Int32)), cX8_15 cI g0 (stF o0 26 (0 : Int32)), cX8_17 cI g0 (stF o0 26 (0 : Int32)), cX8_18 cI g0 (stF o0 26 (0 : Int32)), cX8_22 cB g0 (stF o0 26 (0 : Int32)), cX8_27 cI g0 (stF o0 26 (0 : Int32)), cX8_28 cI g0 (stF o0 26 (0 : Int32)), cX8_29 cI g0 (stF o0 26 (0 : Int32)), cX8_30 cI g0 (stF o0 26 (0 : Int32)), cX8_31 cI g0 (stF o0 26 (0 : Int32)), cX8_32 cI g0 (stF o0 26 (0 : Int32)), cX8_33 cI g0 (stF o0 26 (0 : Int32))]) H := hP
  have hD : va_D A ([cX8 a0 g0 (stF o0 26 (0 : Int32)), cX8_0 cI g0 (stF o0 26 (0 : Int32)), cX8_1 cI g0 (stF o0 26 (0 : Int32)), cX8_3 cI g0 (stF o0 26 (0 : Int32)), cX8_4 cI g0 (stF o0 26 (0 : Int32)), cX8_6 cI g0 (stF o0 26 (0 : Int32)), cX8_8 cI g0 (stF o0 26 (0 : Int32)), cX8_9 cI g0 (stF o0 26 (0 : Int32)), cX8_10 cI g0 (stF o0 26 (0 : Int32)), cX8_12 cI g0 (stF o0 26 (0 : Int32)), cX8_13 cI g0 (stF o0 26 (0 : Int32)), cX8_15 cI g0 (stF o0 26 (0 : Int32)), cX8_17 cI g0 (stF o0 26 (0 : Int32)), cX8_18 cI g0 (stF o0 26 (0 : Int32)), cX8_22 cB g0 (stF o0 26 (0 : Int32)), cX8_27 cI g0 (stF o0 26 (0 : Int32)), cX8_28 cI g0 (stF o0 26 (0 : Int32)), cX8_29 cI g0 (stF o0 26 (0 : Int32)), cX8_30 cI g0 (stF o0 26 (0 : Int32)), cX8_31 cI g0 (stF o0 26 (0 : Int32)), cX8_32 cI g0 (stF o0 26 (0 : Int32)), cX8_33 cI g0 (stF o0 26 (0 : Int32))]) := hD
  refine lv_iload_n hx hb dX8_forget_10 rfl (lv_at hl 0 rfl) ?_
  subst h
  subst hQ
  exact W.iret (v := x1) hx hb hr (fun t ht hW => ⟨⟨rfl, by rw [ht]; exact hP, hD⟩, hS.F ht⟩) hS.2.2 dX8_forget_11
