def f_X8_in (v0 : Int64) (v2 : Int64) (v4 : Int64) : Bool := if (lg_cmp v0 v2) < 0 then false else (if 0 < (lg_cmp v0 v4) then false else true)
abbrev rmX8_in : Room := { frames := 0, cells := 0, slots := 0, locals := 0 }
theorem dsc_X8_in : yX8_in.cls ≠ "java/lang/invoke/MethodHandle" ∧ yX8_in.cls ≠ "java/lang/invoke/VarHandle" ∧ (parseMethodDescriptor yX8_in.desc).map (fun d => d.parameters.length) = some 3 := by decide +kernel
set_option maxHeartbeats 4000000 in
set_option maxRecDepth 100000 in
theorem c_X8_in (l : Launch) (dC : Nat → ClassId) (dI : Nat → Nat → Nat) (cB cI cZ cO : ClassId) (v0 : Int64) (v2 : Int64) (v4 : Int64) {r : Bool} (h : f_X8_in v0 v2 v4 = r) : Ct dC dI cB cI cZ cO l yX8_in wsX8_in rmX8_in [.long v0, .long v2, .long v4] ([]) (some (.int (b2i r))) ([]) := by
  intro sz
  refine Met.ofW (cc := cX8_in) (maxL := 6) (ret := (some .boolean)) (by decide) rfl ?_
  intro p e s m args below meth c s₁ B hml hv
  obtain ⟨rfl, hsz, hP, hKK, hD0⟩ := hv
  have hx := B.exec
  have hb := B.bytes
  have hr := B.returns
  have hts := atoms_spec (ws := wsX8_in) B.pre
  have hown : s.vm.findClass RX8 = some m.cls := findClass_of_methodNamed B.named
  have hlocks := B.notSynchronized
  subst hsz
  have hD := hD0.self (sz := s.heap.size)
  generalize hAe : va_A ([]) s.heap.size = A at hD ⊢
  have hA : ∀ q : Nat, s.heap.size ≤ q → A q := fun q h => by rw [← hAe]; exact Or.inr h
  have hS : va_S A s.heap s.heap [] := va_S.rf
  have hP : va_P (dC, dI) vwCl ([]) s.heap := hP
  have hD : va_D A ([]) := hD
  have hl := lv_entry ([.long v0, .long v2, .long v4]) (n := 6) (Nat.le_of_ble_eq_true rfl)
  rw [lg_entry_eq]
  generalize (lg_sl ([.long v0, .long v2, .long v4]) ++ List.replicate (6 - (lg_sl ([.long v0, .long v2, .long v4])).length) Slot.unset).toArray = ls at hl ⊢
  have hl : lv_has ls 6 [(0, .long v0), (2, .long v2), (4, .long v4)] := hl
  obtain ⟨Q, hQ⟩ : ∃ Q, Q = MQ below (Qq dC dI (some (.int (b2i r))) ([]) A) ([.long v0, .long v2, .long v4] : List Value).toArray s 0 0 A := ⟨_, rfl⟩
  rw [← hQ]
  rw [f_X8_in] at h
  clear hAe hD0
  refine lv_lload_n hx hb dX8_in_0 rfl (lv_at hl 0 rfl) ?_
  refine lv_lload_n hx hb dX8_in_1 rfl (lv_at hl 1 rfl) ?_
  refine W.lcmp hx hb dX8_in_2 ?_
  refine lv_if_lt (tgt := 17) hx hb dX8_in_3 (by decide) (fun k1 => ?_) (fun k1 => ?_)
  · have h := ite_t k1 h
    refine lv_iconst (v := (0 : Int32)) hx hb dX8_in_17 (by decide) ?_
    subst h
    subst hQ
    exact W.zret (v := (0 : Int32)) hx hb hr rfl (fun t ht hW => ⟨⟨rfl, by rw [ht]; exact hP, hD⟩, hS.F ht⟩) hS.2.2 dX8_in_18
  · have h := ite_f k1 h
    refine lv_lload_n hx hb dX8_in_6 rfl (lv_at hl 0 rfl) ?_
    refine lv_lload hx hb dX8_in_7 (lv_at hl 2 rfl) ?_
    refine W.lcmp hx hb dX8_in_9 ?_
    refine lv_if_gt (tgt := 17) hx hb dX8_in_10 (by decide) (fun k2 => ?_) (fun k2 => ?_)
    · have h := ite_t k2 h
      refine lv_iconst (v := (0 : Int32)) hx hb dX8_in_17 (by decide) ?_
      subst h
      subst hQ
      exact W.zret (v := (0 : Int32)) hx hb hr rfl (fun t ht hW => ⟨⟨rfl, by rw [ht]; exact hP, hD⟩, hS.F ht⟩) hS.2.2 dX8_in_18
    · have h := ite_f k2 h
      refine lv_iconst (v := (1 : Int32)) hx hb dX8_in_13 (by decide) ?_
      refine lv_goto (tgt := 18) hx hb dX8_in_14 (by decide) ?_
      subst h
      subst hQ
      exact W.zret (v := (1 : Int32)) hx hb hr rfl (fun t ht hW => ⟨⟨rfl, by rw [ht]; exact hP, hD⟩, hS.F ht⟩) hS.2.2 dX8_in_18
def f_X8_has (v0 : Int32) (v1 : Int32) : Bool := if ((v0 >>> (v1 &&& 31)) &&& (1 : Int32)) = (1 : Int32) then true else false
abbrev rmX8_has : Room := { frames := 0, cells := 0, slots := 0, locals := 0 }
theorem dsc_X8_has : yX8_has.cls ≠ "java/lang/invoke/MethodHandle" ∧ yX8_has.cls ≠ "java/lang/invoke/VarHandle" ∧ (parseMethodDescriptor yX8_has.desc).map (fun d => d.parameters.length) = some 2 := by decide +kernel
set_option maxHeartbeats 4000000 in
set_option maxRecDepth 100000 in
theorem c_X8_has (l : Launch) (dC : Nat → ClassId) (dI : Nat → Nat → Nat) (cB cI cZ cO : ClassId) (v0 : Int32) (v1 : Int32) {r : Bool} (h : f_X8_has v0 v1 = r) : Ct dC dI cB cI cZ cO l yX8_has wsX8_has rmX8_has [.int v0, .int v1] ([]) (some (.int (b2i r))) ([]) := by
  intro sz
  refine Met.ofW (cc := cX8_has) (maxL := 2) (ret := (some .boolean)) (by decide) rfl ?_
  intro p e s m args below meth c s₁ B hml hv
  obtain ⟨rfl, hsz, hP, hKK, hD0⟩ := hv
  have hx := B.exec
  have hb := B.bytes
  have hr := B.returns
  have hts := atoms_spec (ws := wsX8_has) B.pre
  have hown : s.vm.findClass RX8 = some m.cls := findClass_of_methodNamed B.named
  have hlocks := B.notSynchronized
  subst hsz
  have hD := hD0.self (sz := s.heap.size)
  generalize hAe : va_A ([]) s.heap.size = A at hD ⊢
  have hA : ∀ q : Nat, s.heap.size ≤ q → A q := fun q h => by rw [← hAe]; exact Or.inr h
  have hS : va_S A s.heap s.heap [] := va_S.rf
  have hP : va_P (dC, dI) vwCl ([]) s.heap := hP
  have hD : va_D A ([]) := hD
  have hl := lv_entry ([.int v0, .int v1]) (n := 2) (Nat.le_of_ble_eq_true rfl)
  rw [lg_entry_eq]
  generalize (lg_sl ([.int v0, .int v1]) ++ List.replicate (2 - (lg_sl ([.int v0, .int v1])).length) Slot.unset).toArray = ls at hl ⊢
  have hl : lv_has ls 2 [(0, .int v0), (1, .int v1)] := hl
  obtain ⟨Q, hQ⟩ : ∃ Q, Q = MQ below (Qq dC dI (some (.int (b2i r))) ([]) A) ([.int v0, .int v1] : List Value).toArray s 0 0 A := ⟨_, rfl⟩
  rw [← hQ]
  rw [f_X8_has] at h
  clear hAe hD0
  refine lv_iload_n hx hb dX8_has_0 rfl (lv_at hl 0 rfl) ?_
  refine lv_iload_n hx hb dX8_has_1 rfl (lv_at hl 1 rfl) ?_
  refine lv_ishr hx hb dX8_has_2 ?_
  refine lv_iconst (v := (1 : Int32)) hx hb dX8_has_3 (by decide) ?_
  refine lv_iand hx hb dX8_has_4 ?_
  refine lv_iconst (v := (1 : Int32)) hx hb dX8_has_5 (by decide) ?_
  refine lv_icmp_ne (tgt := 13) hx hb dX8_has_6 (by decide) (fun k1 => ?_) (fun k1 => ?_)
  · have h := ite_f k1 h
    refine lv_iconst (v := (0 : Int32)) hx hb dX8_has_13 (by decide) ?_
    subst h
    subst hQ
    exact W.zret (v := (0 : Int32)) hx hb hr rfl (fun t ht hW => ⟨⟨rfl, by rw [ht]; exact hP, hD⟩, hS.F ht⟩) hS.2.2 dX8_has_14
  · have h := ite_t k1 h
    refine lv_iconst (v := (1 : Int32)) hx hb dX8_has_9 (by decide) ?_
    refine lv_goto (tgt := 14) hx hb dX8_has_10 (by decide) ?_
    subst h
    subst hQ
    exact W.zret (v := (1 : Int32)) hx hb hr rfl (fun t ht hW => ⟨⟨rfl, by rw [ht]; exact hP, hD⟩, hS.F ht⟩) hS.2.2 dX8_has_14
def f_X8_bits_4 (v0 : Int32) : Nat → Int32 → Int32 → Option (Int32)
  | 0, _, _ => none
  | nn4+1, x4_1, x4_2 => if (12 : Int32) ≤ x4_2 then (some x4_1) else (bnd (x4_1 + ((v0 >>> (x4_2 &&& 31)) &&& (1 : Int32))) fun x2 : Int32 => bnd (x4_2 + (1 : Int32)) fun x3 : Int32 => (f_X8_bits_4 v0 nn4) x2 x3)
def f_X8_bits (v0 : Int32) : Option (Int32) := f_X8_bits_4 v0 FU (0 : Int32) (0 : Int32)
abbrev rmX8_bits : Room := { frames := 0, cells := 0, slots := 0, locals := 0 }
theorem dsc_X8_bits : yX8_bits.cls ≠ "java/lang/invoke/MethodHandle" ∧ yX8_bits.cls ≠ "java/lang/invoke/VarHandle" ∧ (parseMethodDescriptor yX8_bits.desc).map (fun d => d.parameters.length) = some 1 := by decide +kernel
set_option maxHeartbeats 4000000 in
set_option maxRecDepth 100000 in
theorem c_X8_bits (l : Launch) (dC : Nat → ClassId) (dI : Nat → Nat → Nat) (cB cI cZ cO : ClassId) (v0 : Int32) {r : Int32} (h : f_X8_bits v0 = some r) : Ct dC dI cB cI cZ cO l yX8_bits wsX8_bits rmX8_bits [.int v0] ([]) (some (.int r)) ([]) := by
  intro sz
  refine Met.ofW (cc := cX8_bits) (maxL := 3) (ret := (some .int)) (by decide) rfl ?_
  intro p e s m args below meth c s₁ B hml hv
  obtain ⟨rfl, hsz, hP, hKK, hD0⟩ := hv
  have hx := B.exec
  have hb := B.bytes
  have hr := B.returns
  have hts := atoms_spec (ws := wsX8_bits) B.pre
  have hown : s.vm.findClass RX8 = some m.cls := findClass_of_methodNamed B.named
  have hlocks := B.notSynchronized
  subst hsz
  have hD := hD0.self (sz := s.heap.size)
  generalize hAe : va_A ([]) s.heap.size = A at hD ⊢
  have hA : ∀ q : Nat, s.heap.size ≤ q → A q := fun q h => by rw [← hAe]; exact Or.inr h
  have hS : va_S A s.heap s.heap [] := va_S.rf
  have hP : va_P (dC, dI) vwCl ([]) s.heap := hP
  have hD : va_D A ([]) := hD
  have hl := lv_entry ([.int v0]) (n := 3) (Nat.le_of_ble_eq_true rfl)
  rw [lg_entry_eq]
  generalize (lg_sl ([.int v0]) ++ List.replicate (3 - (lg_sl ([.int v0])).length) Slot.unset).toArray = ls at hl ⊢
  have hl : lv_has ls 3 [(0, .int v0)] := hl
  obtain ⟨Q, hQ⟩ : ∃ Q, Q = MQ below (Qq dC dI (some (.int r)) ([]) A) ([.int v0] : List Value).toArray s 0 0 A := ⟨_, rfl⟩
  rw [← hQ]
  rw [f_X8_bits] at h
  clear hAe hD0
  refine lv_iconst (v := (0 : Int32)) hx hb dX8_bits_0 (by decide) ?_
  refine lv_istore_n (lv' := [(1, .int (0 : Int32)), (0, .int v0)]) hx hb dX8_bits_1 rfl hl (by decide) rfl (fun ls hl => ?_)
  refine lv_iconst (v := (0 : Int32)) hx hb dX8_bits_2 (by decide) ?_
  refine lv_istore_n (lv' := [(2, .int (0 : Int32)), (1, .int (0 : Int32)), (0, .int v0)]) hx hb dX8_bits_3 rfl hl (by decide) rfl (fun ls hl => ?_)
  have lp4 : ∀ (nn4 : Nat) (x4_1 : Int32) (x4_2 : Int32), f_X8_bits_4 v0 nn4 x4_1 x4_2 = some r → ∀ (H : Heap) (locs : List Loc) (ls : Array Slot), va_P (dC, dI) vwCl ([]) H → va_D A ([]) → va_S A s.heap H locs → lv_has ls 3 [(0, .int v0), (1, .int x4_1), (2, .int x4_2)] → W p l e (headSpec wsX8_bits rmX8_bits).room s m ([.int v0] : List Value).toArray below meth c H locs 0 0 Q (F0 m 4 ls []) := by
    intro nn4
    induction nn4 with
    | zero => intro x4_1 x4_2 h; rw [f_X8_bits_4] at h; cases h
    | succ nn4 ih4 =>
      intro x4_1 x4_2 h H locs ls hP hD hS hl
      rw [f_X8_bits_4] at h
      refine lv_iload_n hx hb dX8_bits_4 rfl (lv_at hl 2 rfl) ?_
      refine lv_bipush (v := (12 : Int32)) hx hb dX8_bits_5 (by decide) ?_
      refine lv_icmp_ge (tgt := 24) hx hb dX8_bits_7 (by decide) (fun k1 => ?_) (fun k1 => ?_)
      · have h := ite_t k1 h
        refine lv_iload_n hx hb dX8_bits_24 rfl (lv_at hl 1 rfl) ?_
        have h := Option.some.inj h
        subst h
        subst hQ
        exact W.iret (v := x4_1) hx hb hr (fun t ht hW => ⟨⟨rfl, by rw [ht]; exact hP, hD⟩, hS.F ht⟩) hS.2.2 dX8_bits_25
      · have h := ite_f k1 h
        refine lv_iload_n hx hb dX8_bits_10 rfl (lv_at hl 1 rfl) ?_
        refine lv_iload_n hx hb dX8_bits_11 rfl (lv_at hl 0 rfl) ?_
        refine lv_iload_n hx hb dX8_bits_12 rfl (lv_at hl 2 rfl) ?_
        refine lv_ishr hx hb dX8_bits_13 ?_
        refine lv_iconst (v := (1 : Int32)) hx hb dX8_bits_14 (by decide) ?_
        refine lv_iand hx hb dX8_bits_15 ?_
        refine lv_iadd hx hb dX8_bits_16 ?_
        obtain ⟨x2, hx2, h⟩ := bnd_e h
        refine lv_topE hx2 ?_
        refine lv_istore_n (lv' := [(1, .int x2), (0, .int v0), (2, .int x4_2)]) hx hb dX8_bits_17 rfl hl (by decide) rfl (fun ls hl => ?_)
        obtain ⟨x3, hx3, h⟩ := bnd_e h
        refine lv_iinc (v := x3) (lv' := [(2, .int x3), (1, .int x2), (0, .int v0)]) hx hb dX8_bits_18 hl (k := 2) rfl (by rw [← hx3]; rfl) (by decide) rfl (fun ls hl => ?_)
        refine lv_goto (tgt := 4) hx hb dX8_bits_21 (by decide) ?_
        exact ih4 x2 x3 h _ _ _ hP hD hS (lv_sub hl [2, 1, 0] rfl)
  exact lp4 FU (0 : Int32) (0 : Int32) h _ _ _ hP hD hS (lv_sub hl [2, 1, 0] rfl)
def f_X8_smaller (v0 : Int32) (v1 : Int32) : Int32 := if v1 ≤ v0 then v1 else v0
abbrev rmX8_smaller : Room := { frames := 0, cells := 0, slots := 0, locals := 0 }
theorem dsc_X8_smaller : yX8_smaller.cls ≠ "java/lang/invoke/MethodHandle" ∧ yX8_smaller.cls ≠ "java/lang/invoke/VarHandle" ∧ (parseMethodDescriptor yX8_smaller.desc).map (fun d => d.parameters.length) = some 2 := by decide +kernel
set_option maxHeartbeats 4000000 in
set_option maxRecDepth 100000 in
theorem c_X8_smaller (l : Launch) (dC : Nat → ClassId) (dI : Nat → Nat → Nat) (cB cI cZ cO : ClassId) (v0 : Int32) (v1 : Int32) {r : Int32} (h : f_X8_smaller v0 v1 = r) : Ct dC dI cB cI cZ cO l yX8_smaller wsX8_smaller rmX8_smaller [.int v0, .int v1] ([]) (some (.int r)) ([]) := by
  intro sz
  refine Met.ofW (cc := cX8_smaller) (maxL := 2) (ret := (some .int)) (by decide) rfl ?_
  intro p e s m args below meth c s₁ B hml hv
  obtain ⟨rfl, hsz, hP, hKK, hD0⟩ := hv
  have hx := B.exec
  have hb := B.bytes
  have hr := B.returns
  have hts := atoms_spec (ws := wsX8_smaller) B.pre
  have hown : s.vm.findClass RX8 = some m.cls := findClass_of_methodNamed B.named
  have hlocks := B.notSynchronized
  subst hsz
  have hD := hD0.self (sz := s.heap.size)
  generalize hAe : va_A ([]) s.heap.size = A at hD ⊢
  have hA : ∀ q : Nat, s.heap.size ≤ q → A q := fun q h => by rw [← hAe]; exact Or.inr h
  have hS : va_S A s.heap s.heap [] := va_S.rf
  have hP : va_P (dC, dI) vwCl ([]) s.heap := hP
  have hD : va_D A ([]) := hD
  have hl := lv_entry ([.int v0, .int v1]) (n := 2) (Nat.le_of_ble_eq_true rfl)
  rw [lg_entry_eq]
  generalize (lg_sl ([.int v0, .int v1]) ++ List.replicate (2 - (lg_sl ([.int v0, .int v1])).length) Slot.unset).toArray = ls at hl ⊢
  have hl : lv_has ls 2 [(0, .int v0), (1, .int v1)] := hl
  obtain ⟨Q, hQ⟩ : ∃ Q, Q = MQ below (Qq dC dI (some (.int r)) ([]) A) ([.int v0, .int v1] : List Value).toArray s 0 0 A := ⟨_, rfl⟩
  rw [← hQ]
  rw [f_X8_smaller] at h
  clear hAe hD0
  refine lv_iload_n hx hb dX8_smaller_0 rfl (lv_at hl 0 rfl) ?_
  refine lv_iload_n hx hb dX8_smaller_1 rfl (lv_at hl 1 rfl) ?_
  refine lv_icmp_ge (tgt := 9) hx hb dX8_smaller_2 (by decide) (fun k1 => ?_) (fun k1 => ?_)
  · have h := ite_t k1 h
    refine lv_iload_n hx hb dX8_smaller_9 rfl (lv_at hl 1 rfl) ?_
    subst h
    subst hQ
    exact W.iret (v := v1) hx hb hr (fun t ht hW => ⟨⟨rfl, by rw [ht]; exact hP, hD⟩, hS.F ht⟩) hS.2.2 dX8_smaller_10
  · have h := ite_f k1 h
    refine lv_iload_n hx hb dX8_smaller_5 rfl (lv_at hl 0 rfl) ?_
    refine lv_goto (tgt := 10) hx hb dX8_smaller_6 (by decide) ?_
    subst h
    subst hQ
    exact W.iret (v := v0) hx hb hr (fun t ht hW => ⟨⟨rfl, by rw [ht]; exact hP, hD⟩, hS.F ht⟩) hS.2.2 dX8_smaller_10
def f_X8_larger (v0 : Int32) (v1 : Int32) : Int32 := if v1 ≤ v0 then v0 else v1
abbrev rmX8_larger : Room := { frames := 0, cells := 0, slots := 0, locals := 0 }
theorem dsc_X8_larger : yX8_larger.cls ≠ "java/lang/invoke/MethodHandle" ∧ yX8_larger.cls ≠ "java/lang/invoke/VarHandle" ∧ (parseMethodDescriptor yX8_larger.desc).map (fun d => d.parameters.length) = some 2 := by decide +kernel
set_option maxHeartbeats 4000000 in
set_option maxRecDepth 100000 in
theorem c_X8_larger (l : Launch) (dC : Nat → ClassId) (dI : Nat → Nat → Nat) (cB cI cZ cO : ClassId) (v0 : Int32) (v1 : Int32) {r : Int32} (h : f_X8_larger v0 v1 = r) : Ct dC dI cB cI cZ cO l yX8_larger wsX8_larger rmX8_larger [.int v0, .int v1] ([]) (some (.int r)) ([]) := by
  intro sz
  refine Met.ofW (cc := cX8_larger) (maxL := 2) (ret := (some .int)) (by decide) rfl ?_
  intro p e s m args below meth c s₁ B hml hv
  obtain ⟨rfl, hsz, hP, hKK, hD0⟩ := hv
  have hx := B.exec
  have hb := B.bytes
  have hr := B.returns
  have hts := atoms_spec (ws := wsX8_larger) B.pre
  have hown : s.vm.findClass RX8 = some m.cls := findClass_of_methodNamed B.named
  have hlocks := B.notSynchronized
  subst hsz
  have hD := hD0.self (sz := s.heap.size)
  generalize hAe : va_A ([]) s.heap.size = A at hD ⊢
  have hA : ∀ q : Nat, s.heap.size ≤ q → A q := fun q h => by rw [← hAe]; exact Or.inr h
  have hS : va_S A s.heap s.heap [] := va_S.rf
  have hP : va_P (dC, dI) vwCl ([]) s.heap := hP
  have hD : va_D A ([]) := hD
  have hl := lv_entry ([.int v0, .int v1]) (n := 2) (Nat.le_of_ble_eq_true rfl)
  rw [lg_entry_eq]
  generalize (lg_sl ([.int v0, .int v1]) ++ List.replicate (2 - (lg_sl ([.int v0, .int v1])).length) Slot.unset).toArray = ls at hl ⊢
  have hl : lv_has ls 2 [(0, .int v0), (1, .int v1)] := hl
  obtain ⟨Q, hQ⟩ : ∃ Q, Q = MQ below (Qq dC dI (some (.int r)) ([]) A) ([.int v0, .int v1] : List Value).toArray s 0 0 A := ⟨_, rfl⟩
  rw [← hQ]
  rw [f_X8_larger] at h
  clear hAe hD0
  refine lv_iload_n hx hb dX8_larger_0 rfl (lv_at hl 0 rfl) ?_
  refine lv_iload_n hx hb dX8_larger_1 rfl (lv_at hl 1 rfl) ?_
  refine lv_icmp_ge (tgt := 9) hx hb dX8_larger_2 (by decide) (fun k1 => ?_) (fun k1 => ?_)
  · have h := ite_t k1 h
    refine lv_iload_n hx hb dX8_larger_9 rfl (lv_at hl 0 rfl) ?_
    subst h
    subst hQ
    exact W.iret (v := v0) hx hb hr (fun t ht hW => ⟨⟨rfl, by rw [ht]; exact hP, hD⟩, hS.F ht⟩) hS.2.2 dX8_larger_10
  · have h := ite_f k1 h
    refine lv_iload_n hx hb dX8_larger_5 rfl (lv_at hl 1 rfl) ?_
    refine lv_goto (tgt := 10) hx hb dX8_larger_6 (by decide) ?_
    subst h
    subst hQ
    exact W.iret (v := v1) hx hb hr (fun t ht hW => ⟨⟨rfl, by rw [ht]; exact hP, hD⟩, hS.F ht⟩) hS.2.2 dX8_larger_10
def f_X8_isAgainst_19 (v0 : Int32) (v1 : Int32) : Bool := if v0 = (2 : Int32) then (if v1 = (2 : Int32) then true else false) else false
def f_X8_isAgainst (v0 : Int32) (v1 : Int32) : Bool := if v1 = 0 then true else (if v0 = (1 : Int32) then (if v1 = (1 : Int32) then true else (if v1 = (-1 : Int32) then true else (f_X8_isAgainst_19 v0 v1))) else (f_X8_isAgainst_19 v0 v1))
abbrev rmX8_isAgainst : Room := { frames := 0, cells := 0, slots := 0, locals := 0 }
theorem dsc_X8_isAgainst : yX8_isAgainst.cls ≠ "java/lang/invoke/MethodHandle" ∧ yX8_isAgainst.cls ≠ "java/lang/invoke/VarHandle" ∧ (parseMethodDescriptor yX8_isAgainst.desc).map (fun d => d.parameters.length) = some 2 := by decide +kernel
set_option maxHeartbeats 4000000 in
set_option maxRecDepth 100000 in
theorem c_X8_isAgainst (l : Launch) (dC : Nat → ClassId) (dI : Nat → Nat → Nat) (cB cI cZ cO : ClassId) (v0 : Int32) (v1 : Int32) {r : Bool} (h : f_X8_isAgainst v0 v1 = r) : Ct dC dI cB cI cZ cO l yX8_isAgainst wsX8_isAgainst rmX8_isAgainst [.int v0, .int v1] ([]) (some (.int (b2i r))) ([]) := by
  intro sz
  refine Met.ofW (cc := cX8_isAgainst) (maxL := 2) (ret := (some .boolean)) (by decide) rfl ?_
  intro p e s m args below meth c s₁ B hml hv
  obtain ⟨rfl, hsz, hP, hKK, hD0⟩ := hv
  have hx := B.exec
  have hb := B.bytes
  have hr := B.returns
  have hts := atoms_spec (ws := wsX8_isAgainst) B.pre
  have hown : s.vm.findClass RX8 = some m.cls := findClass_of_methodNamed B.named
  have hlocks := B.notSynchronized
  subst hsz
  have hD := hD0.self (sz := s.heap.size)
  generalize hAe : va_A ([]) s.heap.size = A at hD ⊢
  have hA : ∀ q : Nat, s.heap.size ≤ q → A q := fun q h => by rw [← hAe]; exact Or.inr h
  have hS : va_S A s.heap s.heap [] := va_S.rf
  have hP : va_P (dC, dI) vwCl ([]) s.heap := hP
  have hD : va_D A ([]) := hD
  have hl := lv_entry ([.int v0, .int v1]) (n := 2) (Nat.le_of_ble_eq_true rfl)
  rw [lg_entry_eq]
  generalize (lg_sl ([.int v0, .int v1]) ++ List.replicate (2 - (lg_sl ([.int v0, .int v1])).length) Slot.unset).toArray = ls at hl ⊢
  have hl : lv_has ls 2 [(0, .int v0), (1, .int v1)] := hl
  obtain ⟨Q, hQ⟩ : ∃ Q, Q = MQ below (Qq dC dI (some (.int (b2i r))) ([]) A) ([.int v0, .int v1] : List Value).toArray s 0 0 A := ⟨_, rfl⟩
  rw [← hQ]
  rw [f_X8_isAgainst] at h
  clear hAe hD0
  refine lv_iload_n hx hb dX8_isAgainst_0 rfl (lv_at hl 1 rfl) ?_
  refine lv_if_eq (tgt := 29) hx hb dX8_isAgainst_1 (by decide) (fun k1 => ?_) (fun k1 => ?_)
  · have h := ite_t k1 h
    refine lv_iconst (v := (1 : Int32)) hx hb dX8_isAgainst_29 (by decide) ?_
    refine lv_goto (tgt := 34) hx hb dX8_isAgainst_30 (by decide) ?_
    subst h
    subst hQ
    exact W.zret (v := (1 : Int32)) hx hb hr rfl (fun t ht hW => ⟨⟨rfl, by rw [ht]; exact hP, hD⟩, hS.F ht⟩) hS.2.2 dX8_isAgainst_34
  · have h := ite_f k1 h
    refine lv_iload_n hx hb dX8_isAgainst_4 rfl (lv_at hl 0 rfl) ?_
    refine lv_iconst (v := (1 : Int32)) hx hb dX8_isAgainst_5 (by decide) ?_
    have jn19 : f_X8_isAgainst_19 v0 v1 = r → ∀ (H : Heap) (locs : List Loc) (ls : Array Slot), va_P (dC, dI) vwCl ([]) H → va_D A ([]) → va_S A s.heap H locs → lv_has ls 2 [(0, .int v0), (1, .int v1)] → W p l e (headSpec wsX8_isAgainst rmX8_isAgainst).room s m ([.int v0, .int v1] : List Value).toArray below meth c H locs 0 0 Q (F0 m 19 ls []) := by
      intro h H locs ls hP hD hS hl
      rw [f_X8_isAgainst_19] at h
      refine lv_iload_n hx hb dX8_isAgainst_19 rfl (lv_at hl 0 rfl) ?_
      refine lv_iconst (v := (2 : Int32)) hx hb dX8_isAgainst_20 (by decide) ?_
      refine lv_icmp_ne (tgt := 33) hx hb dX8_isAgainst_21 (by decide) (fun k2 => ?_) (fun k2 => ?_)
      · have h := ite_f k2 h
        refine lv_iconst (v := (0 : Int32)) hx hb dX8_isAgainst_33 (by decide) ?_
        subst h
        subst hQ
        exact W.zret (v := (0 : Int32)) hx hb hr rfl (fun t ht hW => ⟨⟨rfl, by rw [ht]; exact hP, hD⟩, hS.F ht⟩) hS.2.2 dX8_isAgainst_34
      · have h := ite_t k2 h
        refine lv_iload_n hx hb dX8_isAgainst_24 rfl (lv_at hl 1 rfl) ?_
        refine lv_iconst (v := (2 : Int32)) hx hb dX8_isAgainst_25 (by decide) ?_
        refine lv_icmp_ne (tgt := 33) hx hb dX8_isAgainst_26 (by decide) (fun k3 => ?_) (fun k3 => ?_)
        · have h := ite_f k3 h
          refine lv_iconst (v := (0 : Int32)) hx hb dX8_isAgainst_33 (by decide) ?_
          subst h
          subst hQ
          exact W.zret (v := (0 : Int32)) hx hb hr rfl (fun t ht hW => ⟨⟨rfl, by rw [ht]; exact hP, hD⟩, hS.F ht⟩) hS.2.2 dX8_isAgainst_34
        · have h := ite_t k3 h
          refine lv_iconst (v := (1 : Int32)) hx hb dX8_isAgainst_29 (by decide) ?_
          refine lv_goto (tgt := 34) hx hb dX8_isAgainst_30 (by decide) ?_
          subst h
          subst hQ
          exact W.zret (v := (1 : Int32)) hx hb hr rfl (fun t ht hW => ⟨⟨rfl, by rw [ht]; exact hP, hD⟩, hS.F ht⟩) hS.2.2 dX8_isAgainst_34
    refine lv_icmp_ne (tgt := 19) hx hb dX8_isAgainst_6 (by decide) (fun k4 => ?_) (fun k4 => ?_)
    · have h := ite_f k4 h
      exact jn19 h _ _ _ hP hD hS (lv_sub hl [0, 1] rfl)
    · have h := ite_t k4 h
      refine lv_iload_n hx hb dX8_isAgainst_9 rfl (lv_at hl 1 rfl) ?_
      refine lv_iconst (v := (1 : Int32)) hx hb dX8_isAgainst_10 (by decide) ?_
      refine lv_icmp_eq (tgt := 29) hx hb dX8_isAgainst_11 (by decide) (fun k5 => ?_) (fun k5 => ?_)
      · have h := ite_t k5 h
        refine lv_iconst (v := (1 : Int32)) hx hb dX8_isAgainst_29 (by decide) ?_
        refine lv_goto (tgt := 34) hx hb dX8_isAgainst_30 (by decide) ?_
        subst h
        subst hQ
        exact W.zret (v := (1 : Int32)) hx hb hr rfl (fun t ht hW => ⟨⟨rfl, by rw [ht]; exact hP, hD⟩, hS.F ht⟩) hS.2.2 dX8_isAgainst_34
      · have h := ite_f k5 h
        refine lv_iload_n hx hb dX8_isAgainst_14 rfl (lv_at hl 1 rfl) ?_
        refine lv_iconst (v := (-1 : Int32)) hx hb dX8_isAgainst_15 (by decide) ?_
        refine lv_icmp_eq (tgt := 29) hx hb dX8_isAgainst_16 (by decide) (fun k6 => ?_) (fun k6 => ?_)
        · have h := ite_t k6 h
          refine lv_iconst (v := (1 : Int32)) hx hb dX8_isAgainst_29 (by decide) ?_
          refine lv_goto (tgt := 34) hx hb dX8_isAgainst_30 (by decide) ?_
          subst h
          subst hQ
          exact W.zret (v := (1 : Int32)) hx hb hr rfl (fun t ht hW => ⟨⟨rfl, by rw [ht]; exact hP, hD⟩, hS.F ht⟩) hS.2.2 dX8_isAgainst_34
        · have h := ite_f k6 h
          exact jn19 h _ _ _ hP hD hS (lv_sub hl [0, 1] rfl)
def f_X8_pushed (v0 : Int32) (v1 : Int32) (v2 : Int32) : Int32 := if v2 = 0 then (bnd (f_X8_smaller (40 : Int32) (v0 + v1)) fun q3 : Int32 => q3) else (bnd (f_X8_larger (-40 : Int32) (v0 - v1)) fun q2 : Int32 => q2)
abbrev rmX8_pushed : Room := { frames := 1, cells := 0, slots := 0, locals := 21 }
theorem dsc_X8_pushed : yX8_pushed.cls ≠ "java/lang/invoke/MethodHandle" ∧ yX8_pushed.cls ≠ "java/lang/invoke/VarHandle" ∧ (parseMethodDescriptor yX8_pushed.desc).map (fun d => d.parameters.length) = some 3 := by decide +kernel
set_option maxHeartbeats 4000000 in
set_option maxRecDepth 100000 in
theorem c_X8_pushed (l : Launch) (dC : Nat → ClassId) (dI : Nat → Nat → Nat) (cB cI cZ cO : ClassId) (v0 : Int32) (v1 : Int32) (v2 : Int32) {r : Int32} (h : f_X8_pushed v0 v1 v2 = r) : Ct dC dI cB cI cZ cO l yX8_pushed wsX8_pushed rmX8_pushed [.int v0, .int v1, .int v2] ([]) (some (.int r)) ([]) := by
  intro sz
  refine Met.ofW (cc := cX8_pushed) (maxL := 3) (ret := (some .int)) (by decide) rfl ?_
  intro p e s m args below meth c s₁ B hml hv
  obtain ⟨rfl, hsz, hP, hKK, hD0⟩ := hv
  have hx := B.exec
  have hb := B.bytes
  have hr := B.returns
  have hts := atoms_spec (ws := wsX8_pushed) B.pre
  have hown : s.vm.findClass RX8 = some m.cls := findClass_of_methodNamed B.named
  have hlocks := B.notSynchronized
  subst hsz
  have hD := hD0.self (sz := s.heap.size)
  generalize hAe : va_A ([]) s.heap.size = A at hD ⊢
  have hA : ∀ q : Nat, s.heap.size ≤ q → A q := fun q h => by rw [← hAe]; exact Or.inr h
  have hS : va_S A s.heap s.heap [] := va_S.rf
  have hP : va_P (dC, dI) vwCl ([]) s.heap := hP
  have hD : va_D A ([]) := hD
  have hl := lv_entry ([.int v0, .int v1, .int v2]) (n := 3) (Nat.le_of_ble_eq_true rfl)
  rw [lg_entry_eq]
  generalize (lg_sl ([.int v0, .int v1, .int v2]) ++ List.replicate (3 - (lg_sl ([.int v0, .int v1, .int v2])).length) Slot.unset).toArray = ls at hl ⊢
  have hl : lv_has ls 3 [(0, .int v0), (1, .int v1), (2, .int v2)] := hl
  obtain ⟨Q, hQ⟩ : ∃ Q, Q = MQ below (Qq dC dI (some (.int r)) ([]) A) ([.int v0, .int v1, .int v2] : List Value).toArray s 0 0 A := ⟨_, rfl⟩
  rw [← hQ]
  rw [f_X8_pushed] at h
  clear hAe hD0
  refine lv_iload_n hx hb dX8_pushed_0 rfl (lv_at hl 2 rfl) ?_
  refine lv_if_ne (tgt := 15) hx hb dX8_pushed_1 (by decide) (fun k1 => ?_) (fun k1 => ?_)
  · have h := ite_f k1 h
    refine lv_bipush (v := (-40 : Int32)) hx hb dX8_pushed_15 (by decide) ?_
    refine lv_iload_n hx hb dX8_pushed_17 rfl (lv_at hl 0 rfl) ?_
    refine lv_iload_n hx hb dX8_pushed_18 rfl (lv_at hl 1 rfl) ?_
    refine lv_isub hx hb dX8_pushed_19 ?_
    obtain ⟨q2, hq2, h⟩ := bnd_e h
    refine kcS (rest := []) (w2 := ([])) hx hb hml hown hts hKK hP hD hS hA (c_X8_larger l dC dI cB cI cZ cO (-40 : Int32) (v0 - v1) hq2) [] (atAll_map trivial) (by decide +kernel) (sameAd_map trivial) (atAll_map trivial) (agr_refl _ _ _) (va_cwS 2 hts gX8_pushed_X8_larger rfl rfl rfl dsc_X8_larger ⟨Nat.le_of_ble_eq_true rfl, Nat.le_of_ble_eq_true rfl⟩) rfl hl.1 rfl (Nat.le_of_ble_eq_true rfl) dX8_pushed_20 ⟨Nat.zero_le _, Nat.zero_le _⟩ (fun H locs hP hD hS => ?_)
    subst h
    subst hQ
    exact W.iret (v := q2) hx hb hr (fun t ht hW => ⟨⟨rfl, by rw [ht]; exact hP, hD⟩, hS.F ht⟩) hS.2.2 dX8_pushed_23
  · have h := ite_t k1 h
    refine lv_bipush (v := (40 : Int32)) hx hb dX8_pushed_4 (by decide) ?_
    refine lv_iload_n hx hb dX8_pushed_6 rfl (lv_at hl 0 rfl) ?_
    refine lv_iload_n hx hb dX8_pushed_7 rfl (lv_at hl 1 rfl) ?_
    refine lv_iadd hx hb dX8_pushed_8 ?_
    obtain ⟨q3, hq3, h⟩ := bnd_e h
    refine kcS (rest := []) (w2 := ([])) hx hb hml hown hts hKK hP hD hS hA (c_X8_smaller l dC dI cB cI cZ cO (40 : Int32) (v0 + v1) hq3) [] (atAll_map trivial) (by decide +kernel) (sameAd_map trivial) (atAll_map trivial) (agr_refl _ _ _) (va_cwS 2 hts gX8_pushed_X8_smaller rfl rfl rfl dsc_X8_smaller ⟨Nat.le_of_ble_eq_true rfl, Nat.le_of_ble_eq_true rfl⟩) rfl hl.1 rfl (Nat.le_of_ble_eq_true rfl) dX8_pushed_9 ⟨Nat.zero_le _, Nat.zero_le _⟩ (fun H locs hP hD hS => ?_)
    refine lv_goto (tgt := 23) hx hb dX8_pushed_12 (by decide) ?_
    subst h
    subst hQ
    exact W.iret (v := q3) hx hb hr (fun t ht hW => ⟨⟨rfl, by rw [ht]; exact hP, hD⟩, hS.F ht⟩) hS.2.2 dX8_pushed_23
def f_X8_state (v0 : Int32) (v1 : Int32) : Int32 := ((((81 : Int32) * (v0 + (40 : Int32))) + v1) + (40 : Int32))
abbrev rmX8_state : Room := { frames := 0, cells := 0, slots := 0, locals := 0 }
theorem dsc_X8_state : yX8_state.cls ≠ "java/lang/invoke/MethodHandle" ∧ yX8_state.cls ≠ "java/lang/invoke/VarHandle" ∧ (parseMethodDescriptor yX8_state.desc).map (fun d => d.parameters.length) = some 2 := by decide +kernel
set_option maxHeartbeats 4000000 in
set_option maxRecDepth 100000 in
theorem c_X8_state (l : Launch) (dC : Nat → ClassId) (dI : Nat → Nat → Nat) (cB cI cZ cO : ClassId) (v0 : Int32) (v1 : Int32) {r : Int32} (h : f_X8_state v0 v1 = r) : Ct dC dI cB cI cZ cO l yX8_state wsX8_state rmX8_state [.int v0, .int v1] ([]) (some (.int r)) ([]) := by
  intro sz
  refine Met.ofW (cc := cX8_state) (maxL := 2) (ret := (some .int)) (by decide) rfl ?_
  intro p e s m args below meth c s₁ B hml hv
  obtain ⟨rfl, hsz, hP, hKK, hD0⟩ := hv
  have hx := B.exec
  have hb := B.bytes
  have hr := B.returns
  have hts := atoms_spec (ws := wsX8_state) B.pre
  have hown : s.vm.findClass RX8 = some m.cls := findClass_of_methodNamed B.named
  have hlocks := B.notSynchronized
  subst hsz
  have hD := hD0.self (sz := s.heap.size)
  generalize hAe : va_A ([]) s.heap.size = A at hD ⊢
  have hA : ∀ q : Nat, s.heap.size ≤ q → A q := fun q h => by rw [← hAe]; exact Or.inr h
  have hS : va_S A s.heap s.heap [] := va_S.rf
  have hP : va_P (dC, dI) vwCl ([]) s.heap := hP
  have hD : va_D A ([]) := hD
  have hl := lv_entry ([.int v0, .int v1]) (n := 2) (Nat.le_of_ble_eq_true rfl)
  rw [lg_entry_eq]
  generalize (lg_sl ([.int v0, .int v1]) ++ List.replicate (2 - (lg_sl ([.int v0, .int v1])).length) Slot.unset).toArray = ls at hl ⊢
  have hl : lv_has ls 2 [(0, .int v0), (1, .int v1)] := hl
  obtain ⟨Q, hQ⟩ : ∃ Q, Q = MQ below (Qq dC dI (some (.int r)) ([]) A) ([.int v0, .int v1] : List Value).toArray s 0 0 A := ⟨_, rfl⟩
  rw [← hQ]
  rw [f_X8_state] at h
  clear hAe hD0
  refine lv_bipush (v := (81 : Int32)) hx hb dX8_state_0 (by decide) ?_
  refine lv_iload_n hx hb dX8_state_2 rfl (lv_at hl 0 rfl) ?_
  refine lv_bipush (v := (40 : Int32)) hx hb dX8_state_3 (by decide) ?_
  refine lv_iadd hx hb dX8_state_5 ?_
  refine lv_imul hx hb dX8_state_6 ?_
  refine lv_iload_n hx hb dX8_state_7 rfl (lv_at hl 1 rfl) ?_
  refine lv_iadd hx hb dX8_state_8 ?_
  refine lv_bipush (v := (40 : Int32)) hx hb dX8_state_9 (by decide) ?_
  refine lv_iadd hx hb dX8_state_11 ?_
  subst h
  subst hQ
  exact W.iret (v := ((((81 : Int32) * (v0 + (40 : Int32))) + v1) + (40 : Int32))) hx hb hr (fun t ht hW => ⟨⟨rfl, by rw [ht]; exact hP, hD⟩, hS.F ht⟩) hS.2.2 dX8_state_12
