theorem ge_ofNat {n : Nat} (hn : n < 2 ^ 31) {i : Int32} (h : ¬ i < 0) : Int32.ofNat n ≤ i ↔ n ≤ i.toNatClampNeg := by
  obtain ⟨j, hj, rfl⟩ := nI_of h
  rw [nI_clamp hj]
  exact nI_leI hn hj
abbrev cPa (cO : ClassId) (g : Nat → Nat) (cap : Nat) (ad pf : Nat → Nat) : Nat × va_E := (g 0, .inl (cO, cap, .inr (.inr (.inr (.inr (fun j => some (ad (pf j))))))))
def stU (st : Nat → Ob) (k : Nat) (o : Ob) : Nat → Ob := fun i => bif Nat.beq i k then o else st i
theorem up_some (ad pf : Nat → Nat) (k v : Nat) : va_up (fun j => some (ad (pf j))) k (some (ad v)) = fun j => some (ad (va_up pf k v j)) := by
  funext j
  by_cases h : j = k <;> simp [va_up, h]
theorem lv_has_ext {ls : Array Slot} {n : Nat} {a b : List (Nat × Value)} (h : lv_has ls n a) (e : a = b) : lv_has ls n b := e ▸ h
def f_X3_isFull (o0 : Ob) (cap : Nat) : Bool := if o0.1 1 < Int32.ofNat cap then false else true
abbrev rmX3_isFull : Room := { frames := 0, cells := 0, slots := 0, locals := 0 }
theorem dsc_X3_isFull : yX3_isFull.cls ≠ "java/lang/invoke/MethodHandle" ∧ yX3_isFull.cls ≠ "java/lang/invoke/VarHandle" ∧ (parseMethodDescriptor yX3_isFull.desc).map (fun d => d.parameters.length) = some 0 := by decide +kernel
set_option maxHeartbeats 4000000 in
set_option maxRecDepth 100000 in
theorem c_X3_isFull (l : Launch) (dC : Nat → ClassId) (dI : Nat → Nat → Nat) (cB cI cZ cO : ClassId) (a0 : Nat) (g0 : Nat → Nat) (o0 : Ob) (cap : Nat) (ad pf : Nat → Nat) {r : Bool} (h : f_X3_isFull o0 cap = r) : Ct dC dI cB cI cZ cO l yX3_isFull wsX3_isFull rmX3_isFull [.ref a0] [cX3 a0 g0 o0, cPa cO g0 cap ad pf] (some (.int (b2i r))) [cX3 a0 g0 o0, cPa cO g0 cap ad pf] := by
  intro sz
  refine Met.ofW (cc := cX3_isFull) (maxL := 1) (ret := (some .boolean)) (by decide) rfl ?_
  intro p e s m args below meth c s₁ B hml hv
  obtain ⟨rfl, hsz, hP, hKK, hD0⟩ := hv
  have hx := B.exec
  have hb := B.bytes
  have hr := B.returns
  have hts := atoms_spec (ws := wsX3_isFull) B.pre
  have hown : s.vm.findClass RX3 = some m.cls := findClass_of_methodNamed B.named
  have hlocks := B.notSynchronized
  have hiX3 : ∀ w ∈ u_ws RX3 TX3 2, w ∈ wsX3_isFull := fun w h => List.mem_cons_of_mem _ (List.mem_append_right _ h)
  subst hsz
  have hD := hD0.self (sz := s.heap.size)
  generalize hAe : va_A [cX3 a0 g0 o0, cPa cO g0 cap ad pf] s.heap.size = A at hD ⊢
  have hA : ∀ q : Nat, s.heap.size ≤ q → A q := fun q h => by rw [← hAe]; exact Or.inr h
  have hS : va_S A s.heap s.heap [] := va_S.rf
  have hP : va_P (dC, dI) vwCl [cX3 a0 g0 o0, cPa cO g0 cap ad pf] s.heap := hP
  have hl := lv_entry [.ref a0] (n := 1) (Nat.le_of_ble_eq_true rfl)
  rw [lg_entry_eq]
  generalize (lg_sl [.ref a0] ++ List.replicate (1 - (lg_sl [.ref a0]).length) Slot.unset).toArray = ls at hl ⊢
  clear hAe hD0
  have hl : lv_has ls 1 [(0, .ref a0)] := hl
  rw [f_X3_isFull] at h
  refine lv_aload_n hx hb dX3_isFull_0 rfl (lv_at hl 0 rfl) ?_
  refine va_get (D := (dC, dI)) (ci := 3) (v := .int (o0.1 1)) (C := RX3) (T := TX3) (N := 2) hx hb hts hiX3 hown hKK.1 hP 0 rfl rfl 1 (by decide) (hts (.fieldLink RX3 16 "SlideLand$Pile" "size" "I") (List.mem_of_getElem? (i := 1) rfl)) (fun _ h9 => h9) rfl dX3_isFull_1 ?_
  refine lv_aload_n hx hb dX3_isFull_4 rfl (lv_at hl 0 rfl) ?_
  refine va_get (D := (dC, dI)) (ci := 3) (v := .ref (g0 0)) (C := RX3) (T := TX3) (N := 2) hx hb hts hiX3 hown hKK.1 hP 0 rfl rfl 0 (by decide) (hts (.fieldLink RX3 9 "SlideLand$Pile" "stands" "[LSlideLand$Stand;") (List.mem_of_getElem? (i := 2) rfl)) (fun _ h9 => h9) rfl dX3_isFull_5 ?_
  refine va_alen (v := (Int32.ofNat cap)) hx hb hKK.1 hP 1 3 rfl (ty := .object "SlideLand$Stand") rfl rfl dX3_isFull_8 ?_
  refine lv_icmp_lt (tgt := 16) hx hb dX3_isFull_9 (by decide) (fun k => ?_) (fun k => ?_)
  · have h := ite_t k h
    subst h
    refine lv_iconst (v := (0 : Int32)) hx hb dX3_isFull_16 (by decide) ?_
    exact W.zret (v := (0 : Int32)) hx hb hr rfl (fun t ht hW => ⟨⟨rfl, by rw [ht]; exact hP, hD⟩, hS.F ht⟩) hS.2.2 dX3_isFull_17
  · have h := ite_f k h
    subst h
    refine lv_iconst (v := (1 : Int32)) hx hb dX3_isFull_12 (by decide) ?_
    refine lv_goto (tgt := 17) hx hb dX3_isFull_13 (by decide) ?_
    exact W.zret (v := (1 : Int32)) hx hb hr rfl (fun t ht hW => ⟨⟨rfl, by rw [ht]; exact hP, hD⟩, hS.F ht⟩) hS.2.2 dX3_isFull_17
abbrev rmX3_standAt : Room := { frames := 0, cells := 0, slots := 0, locals := 0 }
theorem dsc_X3_standAt : yX3_standAt.cls ≠ "java/lang/invoke/MethodHandle" ∧ yX3_standAt.cls ≠ "java/lang/invoke/VarHandle" ∧ (parseMethodDescriptor yX3_standAt.desc).map (fun d => d.parameters.length) = some 1 := by decide +kernel
set_option maxHeartbeats 4000000 in
set_option maxRecDepth 100000 in
theorem c_X3_standAt_in (l : Launch) (dC : Nat → ClassId) (dI : Nat → Nat → Nat) (cB cI cZ cO : ClassId) (a0 : Nat) (g0 : Nat → Nat) (o0 : Ob) (cap : Nat) (ad pf : Nat → Nat) (v1 : Int32) (hin : vp_in v1 cap) (hc : cap < 2 ^ 31) : Ct dC dI cB cI cZ cO l yX3_standAt wsX3_standAt rmX3_standAt [.ref a0, .int v1] [cX3 a0 g0 o0, cPa cO g0 cap ad pf] (some (.ref (ad (pf v1.toNatClampNeg)))) [cX3 a0 g0 o0, cPa cO g0 cap ad pf] := by
  intro sz
  refine Met.ofW (cc := cX3_standAt) (maxL := 2) (ret := (some (.object "SlideLand$Stand"))) (by decide) rfl ?_
  intro p e s m args below meth c s₁ B hml hv
  obtain ⟨rfl, hsz, hP, hKK, hD0⟩ := hv
  have hx := B.exec
  have hb := B.bytes
  have hr := B.returns
  have hts := atoms_spec (ws := wsX3_standAt) B.pre
  have hown : s.vm.findClass RX3 = some m.cls := findClass_of_methodNamed B.named
  have hlocks := B.notSynchronized
  have hiX3 : ∀ w ∈ u_ws RX3 TX3 2, w ∈ wsX3_standAt := fun w h => List.mem_cons_of_mem _ (List.mem_append_right _ h)
  subst hsz
  have hD := hD0.self (sz := s.heap.size)
  generalize hAe : va_A [cX3 a0 g0 o0, cPa cO g0 cap ad pf] s.heap.size = A at hD ⊢
  have hA : ∀ q : Nat, s.heap.size ≤ q → A q := fun q h => by rw [← hAe]; exact Or.inr h
  have hS : va_S A s.heap s.heap [] := va_S.rf
  have hP : va_P (dC, dI) vwCl [cX3 a0 g0 o0, cPa cO g0 cap ad pf] s.heap := hP
  have hl := lv_entry [.ref a0, .int v1] (n := 2) (Nat.le_of_ble_eq_true rfl)
  rw [lg_entry_eq]
  generalize (lg_sl [.ref a0, .int v1] ++ List.replicate (2 - (lg_sl [.ref a0, .int v1]).length) Slot.unset).toArray = ls at hl ⊢
  clear hAe hD0
  have hl : lv_has ls 2 [(0, .ref a0), (1, .int v1)] := hl
  refine lv_iload_n hx hb dX3_standAt_0 rfl (lv_at hl 1 rfl) ?_
  refine lv_if_lt (tgt := 22) hx hb dX3_standAt_1 (by decide) (fun k => ?_) (fun k => ?_)
  · exact absurd (Or.inl k) hin
  · refine lv_iload_n hx hb dX3_standAt_4 rfl (lv_at hl 1 rfl) ?_
    refine lv_aload_n hx hb dX3_standAt_5 rfl (lv_at hl 0 rfl) ?_
    refine va_get (D := (dC, dI)) (ci := 3) (v := .ref (g0 0)) (C := RX3) (T := TX3) (N := 2) hx hb hts hiX3 hown hKK.1 hP 0 rfl rfl 0 (by decide) (hts (.fieldLink RX3 9 "SlideLand$Pile" "stands" "[LSlideLand$Stand;") (List.mem_of_getElem? (i := 1) rfl)) (fun _ h9 => h9) rfl dX3_standAt_6 ?_
    refine va_alen (v := (Int32.ofNat cap)) hx hb hKK.1 hP 1 3 rfl (ty := .object "SlideLand$Stand") rfl rfl dX3_standAt_9 ?_
    refine lv_icmp_ge (tgt := 22) hx hb dX3_standAt_10 (by decide) (fun k2 => ?_) (fun k2 => ?_)
    · exact absurd (Or.inr ((ge_ofNat hc k).mp k2)) hin
    · refine lv_aload_n hx hb dX3_standAt_13 rfl (lv_at hl 0 rfl) ?_
      refine va_get (D := (dC, dI)) (ci := 3) (v := .ref (g0 0)) (C := RX3) (T := TX3) (N := 2) hx hb hts hiX3 hown hKK.1 hP 0 rfl rfl 0 (by decide) (hts (.fieldLink RX3 9 "SlideLand$Pile" "stands" "[LSlideLand$Stand;") (List.mem_of_getElem? (i := 1) rfl)) (fun _ h9 => h9) rfl dX3_standAt_14 ?_
      refine lv_iload_n hx hb dX3_standAt_17 rfl (lv_at hl 1 rfl) ?_
      refine va_aldq hx hb hKK.1 hP 1 3 rfl rfl hin dX3_standAt_18 ?_
      refine lv_goto (tgt := 23) hx hb dX3_standAt_19 (by decide) ?_
      exact W.aret (v := .ref (ad (pf v1.toNatClampNeg))) hx hb hr (Or.inl ⟨_, rfl⟩) (Or.inr ⟨_, rfl⟩) (fun t ht hW => ⟨⟨rfl, by rw [ht]; exact hP, hD⟩, hS.F ht⟩) hS.2.2 dX3_standAt_23
set_option maxHeartbeats 4000000 in
set_option maxRecDepth 100000 in
theorem c_X3_standAt_out (l : Launch) (dC : Nat → ClassId) (dI : Nat → Nat → Nat) (cB cI cZ cO : ClassId) (a0 : Nat) (g0 : Nat → Nat) (o0 : Ob) (cap : Nat) (ad pf : Nat → Nat) (v1 : Int32) (hout : ¬ vp_in v1 cap) (hc : cap < 2 ^ 31) : Ct dC dI cB cI cZ cO l yX3_standAt wsX3_standAt rmX3_standAt [.ref a0, .int v1] [cX3 a0 g0 o0, cPa cO g0 cap ad pf] (some .null) [cX3 a0 g0 o0, cPa cO g0 cap ad pf] := by
  intro sz
  refine Met.ofW (cc := cX3_standAt) (maxL := 2) (ret := (some (.object "SlideLand$Stand"))) (by decide) rfl ?_
  intro p e s m args below meth c s₁ B hml hv
  obtain ⟨rfl, hsz, hP, hKK, hD0⟩ := hv
  have hx := B.exec
  have hb := B.bytes
  have hr := B.returns
  have hts := atoms_spec (ws := wsX3_standAt) B.pre
  have hown : s.vm.findClass RX3 = some m.cls := findClass_of_methodNamed B.named
  have hlocks := B.notSynchronized
  have hiX3 : ∀ w ∈ u_ws RX3 TX3 2, w ∈ wsX3_standAt := fun w h => List.mem_cons_of_mem _ (List.mem_append_right _ h)
  subst hsz
  have hD := hD0.self (sz := s.heap.size)
  generalize hAe : va_A [cX3 a0 g0 o0, cPa cO g0 cap ad pf] s.heap.size = A at hD ⊢
  have hA : ∀ q : Nat, s.heap.size ≤ q → A q := fun q h => by rw [← hAe]; exact Or.inr h
  have hS : va_S A s.heap s.heap [] := va_S.rf
  have hP : va_P (dC, dI) vwCl [cX3 a0 g0 o0, cPa cO g0 cap ad pf] s.heap := hP
  have hl := lv_entry [.ref a0, .int v1] (n := 2) (Nat.le_of_ble_eq_true rfl)
  rw [lg_entry_eq]
  generalize (lg_sl [.ref a0, .int v1] ++ List.replicate (2 - (lg_sl [.ref a0, .int v1]).length) Slot.unset).toArray = ls at hl ⊢
  clear hAe hD0
  have hl : lv_has ls 2 [(0, .ref a0), (1, .int v1)] := hl
  refine lv_iload_n hx hb dX3_standAt_0 rfl (lv_at hl 1 rfl) ?_
  refine lv_if_lt (tgt := 22) hx hb dX3_standAt_1 (by decide) (fun k => ?_) (fun k => ?_)
  · refine lv_null hx hb dX3_standAt_22 ?_
    exact W.aret (v := .null) hx hb hr (Or.inl ⟨_, rfl⟩) (Or.inl rfl) (fun t ht hW => ⟨⟨rfl, by rw [ht]; exact hP, hD⟩, hS.F ht⟩) hS.2.2 dX3_standAt_23
  · refine lv_iload_n hx hb dX3_standAt_4 rfl (lv_at hl 1 rfl) ?_
    refine lv_aload_n hx hb dX3_standAt_5 rfl (lv_at hl 0 rfl) ?_
    refine va_get (D := (dC, dI)) (ci := 3) (v := .ref (g0 0)) (C := RX3) (T := TX3) (N := 2) hx hb hts hiX3 hown hKK.1 hP 0 rfl rfl 0 (by decide) (hts (.fieldLink RX3 9 "SlideLand$Pile" "stands" "[LSlideLand$Stand;") (List.mem_of_getElem? (i := 1) rfl)) (fun _ h9 => h9) rfl dX3_standAt_6 ?_
    refine va_alen (v := (Int32.ofNat cap)) hx hb hKK.1 hP 1 3 rfl (ty := .object "SlideLand$Stand") rfl rfl dX3_standAt_9 ?_
    refine lv_icmp_ge (tgt := 22) hx hb dX3_standAt_10 (by decide) (fun k2 => ?_) (fun k2 => ?_)
    · refine lv_null hx hb dX3_standAt_22 ?_
      exact W.aret (v := .null) hx hb hr (Or.inl ⟨_, rfl⟩) (Or.inl rfl) (fun t ht hW => ⟨⟨rfl, by rw [ht]; exact hP, hD⟩, hS.F ht⟩) hS.2.2 dX3_standAt_23
    · exact absurd (fun z => z.elim k (fun z => k2 ((ge_ofNat hc k).mpr z))) hout
theorem pl8_get {cI cO : ClassId} {a0 : Nat} {g0 ad pf : Nat → Nat} {h : Nat → Nat → Nat} {o0 : Ob} {st : Nat → Ob} : ∀ (k : Nat), k < 8 → [cX3 a0 g0 o0, cPa cO g0 8 ad pf, cX5 (ad 0) (h 0) (st 0), cX5_5 cI (h 0) (st 0), cX5_6 cI (h 0) (st 0), cX5 (ad 1) (h 1) (st 1), cX5_5 cI (h 1) (st 1), cX5_6 cI (h 1) (st 1), cX5 (ad 2) (h 2) (st 2), cX5_5 cI (h 2) (st 2), cX5_6 cI (h 2) (st 2), cX5 (ad 3) (h 3) (st 3), cX5_5 cI (h 3) (st 3), cX5_6 cI (h 3) (st 3), cX5 (ad 4) (h 4) (st 4), cX5_5 cI (h 4) (st 4), cX5_6 cI (h 4) (st 4), cX5 (ad 5) (h 5) (st 5), cX5_5 cI (h 5) (st 5), cX5_6 cI (h 5) (st 5), cX5 (ad 6) (h 6) (st 6), cX5_5 cI (h 6) (st 6), cX5_6 cI (h 6) (st 6), cX5 (ad 7) (h 7) (st 7), cX5_5 cI (h 7) (st 7), cX5_6 cI (h 7) (st 7)][2 + 3 * k]? = some (cX5 (ad k) (h k) (st k))
  | 0, _ => rfl
  | 1, _ => rfl
  | 2, _ => rfl
  | 3, _ => rfl
  | 4, _ => rfl
  | 5, _ => rfl
  | 6, _ => rfl
  | 7, _ => rfl
  | k + 8, z => absurd z (by omega)
theorem pl8_A {cI cO : ClassId} {a0 a1 : Nat} {g0 g1 ad pf : Nat → Nat} {h : Nat → Nat → Nat} {o0 o1 : Ob} {st : Nat → Ob} : ∀ (k : Nat), k < 8 → atAll [cX5 a1 g1 o1, cX5_5 cI g1 o1, cX5_6 cI g1 o1, cX3 a0 g0 o0, cPa cO g0 8 ad pf, cX5 (ad 0) (h 0) (st 0), cX5_5 cI (h 0) (st 0), cX5_6 cI (h 0) (st 0), cX5 (ad 1) (h 1) (st 1), cX5_5 cI (h 1) (st 1), cX5_6 cI (h 1) (st 1), cX5 (ad 2) (h 2) (st 2), cX5_5 cI (h 2) (st 2), cX5_6 cI (h 2) (st 2), cX5 (ad 3) (h 3) (st 3), cX5_5 cI (h 3) (st 3), cX5_6 cI (h 3) (st 3), cX5 (ad 4) (h 4) (st 4), cX5_5 cI (h 4) (st 4), cX5_6 cI (h 4) (st 4), cX5 (ad 5) (h 5) (st 5), cX5_5 cI (h 5) (st 5), cX5_6 cI (h 5) (st 5), cX5 (ad 6) (h 6) (st 6), cX5_5 cI (h 6) (st 6), cX5_6 cI (h 6) (st 6), cX5 (ad 7) (h 7) (st 7), cX5_5 cI (h 7) (st 7), cX5_6 cI (h 7) (st 7)] [5 + 3 * k, 5 + 3 * k + 1, 5 + 3 * k + 2, 0, 1, 2] [cX5 (ad k) (h k) (st k), cX5_5 cI (h k) (st k), cX5_6 cI (h k) (st k), cX5 a1 g1 o1, cX5_5 cI g1 o1, cX5_6 cI g1 o1]
  | 0, _ => ⟨rfl, rfl, rfl, rfl, rfl, rfl, trivial⟩
  | 1, _ => ⟨rfl, rfl, rfl, rfl, rfl, rfl, trivial⟩
  | 2, _ => ⟨rfl, rfl, rfl, rfl, rfl, rfl, trivial⟩
  | 3, _ => ⟨rfl, rfl, rfl, rfl, rfl, rfl, trivial⟩
  | 4, _ => ⟨rfl, rfl, rfl, rfl, rfl, rfl, trivial⟩
  | 5, _ => ⟨rfl, rfl, rfl, rfl, rfl, rfl, trivial⟩
  | 6, _ => ⟨rfl, rfl, rfl, rfl, rfl, rfl, trivial⟩
  | 7, _ => ⟨rfl, rfl, rfl, rfl, rfl, rfl, trivial⟩
  | k + 8, z => absurd z (by omega)
theorem pl8_A2 {cI cO : ClassId} {a0 a1 : Nat} {g0 g1 ad pf : Nat → Nat} {h : Nat → Nat → Nat} {o0 o1 : Ob} {st : Nat → Ob} {o : Ob} : ∀ (k : Nat), k < 8 → atAll [cX5 a1 g1 o1, cX5_5 cI g1 o1, cX5_6 cI g1 o1, cX3 a0 g0 o0, cPa cO g0 8 ad pf, cX5 (ad 0) (h 0) ((stU st k o) 0), cX5_5 cI (h 0) ((stU st k o) 0), cX5_6 cI (h 0) ((stU st k o) 0), cX5 (ad 1) (h 1) ((stU st k o) 1), cX5_5 cI (h 1) ((stU st k o) 1), cX5_6 cI (h 1) ((stU st k o) 1), cX5 (ad 2) (h 2) ((stU st k o) 2), cX5_5 cI (h 2) ((stU st k o) 2), cX5_6 cI (h 2) ((stU st k o) 2), cX5 (ad 3) (h 3) ((stU st k o) 3), cX5_5 cI (h 3) ((stU st k o) 3), cX5_6 cI (h 3) ((stU st k o) 3), cX5 (ad 4) (h 4) ((stU st k o) 4), cX5_5 cI (h 4) ((stU st k o) 4), cX5_6 cI (h 4) ((stU st k o) 4), cX5 (ad 5) (h 5) ((stU st k o) 5), cX5_5 cI (h 5) ((stU st k o) 5), cX5_6 cI (h 5) ((stU st k o) 5), cX5 (ad 6) (h 6) ((stU st k o) 6), cX5_5 cI (h 6) ((stU st k o) 6), cX5_6 cI (h 6) ((stU st k o) 6), cX5 (ad 7) (h 7) ((stU st k o) 7), cX5_5 cI (h 7) ((stU st k o) 7), cX5_6 cI (h 7) ((stU st k o) 7)] [5 + 3 * k, 5 + 3 * k + 1, 5 + 3 * k + 2, 0, 1, 2] [cX5 (ad k) (h k) o, cX5_5 cI (h k) o, cX5_6 cI (h k) o, cX5 a1 g1 o1, cX5_5 cI g1 o1, cX5_6 cI g1 o1]
  | 0, _ => ⟨rfl, rfl, rfl, rfl, rfl, rfl, trivial⟩
  | 1, _ => ⟨rfl, rfl, rfl, rfl, rfl, rfl, trivial⟩
  | 2, _ => ⟨rfl, rfl, rfl, rfl, rfl, rfl, trivial⟩
  | 3, _ => ⟨rfl, rfl, rfl, rfl, rfl, rfl, trivial⟩
  | 4, _ => ⟨rfl, rfl, rfl, rfl, rfl, rfl, trivial⟩
  | 5, _ => ⟨rfl, rfl, rfl, rfl, rfl, rfl, trivial⟩
  | 6, _ => ⟨rfl, rfl, rfl, rfl, rfl, rfl, trivial⟩
  | 7, _ => ⟨rfl, rfl, rfl, rfl, rfl, rfl, trivial⟩
  | k + 8, z => absurd z (by omega)
theorem pl8_A3 {cI cO : ClassId} {a0 a1 : Nat} {g0 g1 ad pf : Nat → Nat} {h : Nat → Nat → Nat} {o0 o1 : Ob} {st : Nat → Ob} {o : Ob} : ∀ (k : Nat), k < 8 → agr 0 [cX5 a1 g1 o1, cX5_5 cI g1 o1, cX5_6 cI g1 o1, cX3 a0 g0 o0, cPa cO g0 8 ad pf, cX5 (ad 0) (h 0) (st 0), cX5_5 cI (h 0) (st 0), cX5_6 cI (h 0) (st 0), cX5 (ad 1) (h 1) (st 1), cX5_5 cI (h 1) (st 1), cX5_6 cI (h 1) (st 1), cX5 (ad 2) (h 2) (st 2), cX5_5 cI (h 2) (st 2), cX5_6 cI (h 2) (st 2), cX5 (ad 3) (h 3) (st 3), cX5_5 cI (h 3) (st 3), cX5_6 cI (h 3) (st 3), cX5 (ad 4) (h 4) (st 4), cX5_5 cI (h 4) (st 4), cX5_6 cI (h 4) (st 4), cX5 (ad 5) (h 5) (st 5), cX5_5 cI (h 5) (st 5), cX5_6 cI (h 5) (st 5), cX5 (ad 6) (h 6) (st 6), cX5_5 cI (h 6) (st 6), cX5_6 cI (h 6) (st 6), cX5 (ad 7) (h 7) (st 7), cX5_5 cI (h 7) (st 7), cX5_6 cI (h 7) (st 7)] [cX5 a1 g1 o1, cX5_5 cI g1 o1, cX5_6 cI g1 o1, cX3 a0 g0 o0, cPa cO g0 8 ad pf, cX5 (ad 0) (h 0) ((stU st k o) 0), cX5_5 cI (h 0) ((stU st k o) 0), cX5_6 cI (h 0) ((stU st k o) 0), cX5 (ad 1) (h 1) ((stU st k o) 1), cX5_5 cI (h 1) ((stU st k o) 1), cX5_6 cI (h 1) ((stU st k o) 1), cX5 (ad 2) (h 2) ((stU st k o) 2), cX5_5 cI (h 2) ((stU st k o) 2), cX5_6 cI (h 2) ((stU st k o) 2), cX5 (ad 3) (h 3) ((stU st k o) 3), cX5_5 cI (h 3) ((stU st k o) 3), cX5_6 cI (h 3) ((stU st k o) 3), cX5 (ad 4) (h 4) ((stU st k o) 4), cX5_5 cI (h 4) ((stU st k o) 4), cX5_6 cI (h 4) ((stU st k o) 4), cX5 (ad 5) (h 5) ((stU st k o) 5), cX5_5 cI (h 5) ((stU st k o) 5), cX5_6 cI (h 5) ((stU st k o) 5), cX5 (ad 6) (h 6) ((stU st k o) 6), cX5_5 cI (h 6) ((stU st k o) 6), cX5_6 cI (h 6) ((stU st k o) 6), cX5 (ad 7) (h 7) ((stU st k o) 7), cX5_5 cI (h 7) ((stU st k o) 7), cX5_6 cI (h 7) ((stU st k o) 7)] [5 + 3 * k, 5 + 3 * k + 1, 5 + 3 * k + 2, 0, 1, 2]
  | 0, _ => ⟨Or.inl rfl, Or.inl rfl, Or.inl rfl, Or.inl rfl, Or.inl rfl, Or.inr (by decide), Or.inr (by decide), Or.inr (by decide), Or.inl rfl, Or.inl rfl, Or.inl rfl, Or.inl rfl, Or.inl rfl, Or.inl rfl, Or.inl rfl, Or.inl rfl, Or.inl rfl, Or.inl rfl, Or.inl rfl, Or.inl rfl, Or.inl rfl, Or.inl rfl, Or.inl rfl, Or.inl rfl, Or.inl rfl, Or.inl rfl, Or.inl rfl, Or.inl rfl, Or.inl rfl, trivial⟩
  | 1, _ => ⟨Or.inl rfl, Or.inl rfl, Or.inl rfl, Or.inl rfl, Or.inl rfl, Or.inl rfl, Or.inl rfl, Or.inl rfl, Or.inr (by decide), Or.inr (by decide), Or.inr (by decide), Or.inl rfl, Or.inl rfl, Or.inl rfl, Or.inl rfl, Or.inl rfl, Or.inl rfl, Or.inl rfl, Or.inl rfl, Or.inl rfl, Or.inl rfl, Or.inl rfl, Or.inl rfl, Or.inl rfl, Or.inl rfl, Or.inl rfl, Or.inl rfl, Or.inl rfl, Or.inl rfl, trivial⟩
  | 2, _ => ⟨Or.inl rfl, Or.inl rfl, Or.inl rfl, Or.inl rfl, Or.inl rfl, Or.inl rfl, Or.inl rfl, Or.inl rfl, Or.inl rfl, Or.inl rfl, Or.inl rfl, Or.inr (by decide), Or.inr (by decide), Or.inr (by decide), Or.inl rfl, Or.inl rfl, Or.inl rfl, Or.inl rfl, Or.inl rfl, Or.inl rfl, Or.inl rfl, Or.inl rfl, Or.inl rfl, Or.inl rfl, Or.inl rfl, Or.inl rfl, Or.inl rfl, Or.inl rfl, Or.inl rfl, trivial⟩
  | 3, _ => ⟨Or.inl rfl, Or.inl rfl, Or.inl rfl, Or.inl rfl, Or.inl rfl, Or.inl rfl, Or.inl rfl, Or.inl rfl, Or.inl rfl, Or.inl rfl, Or.inl rfl, Or.inl rfl, Or.inl rfl, Or.inl rfl, Or.inr (by decide), Or.inr (by decide), Or.inr (by decide), Or.inl rfl, Or.inl rfl, Or.inl rfl, Or.inl rfl, Or.inl rfl, Or.inl rfl, Or.inl rfl, Or.inl rfl, Or.inl rfl, Or.inl rfl, Or.inl rfl, Or.inl rfl, trivial⟩
  | 4, _ => ⟨Or.inl rfl, Or.inl rfl, Or.inl rfl, Or.inl rfl, Or.inl rfl, Or.inl rfl, Or.inl rfl, Or.inl rfl, Or.inl rfl, Or.inl rfl, Or.inl rfl, Or.inl rfl, Or.inl rfl, Or.inl rfl, Or.inl rfl, Or.inl rfl, Or.inl rfl, Or.inr (by decide), Or.inr (by decide), Or.inr (by decide), Or.inl rfl, Or.inl rfl, Or.inl rfl, Or.inl rfl, Or.inl rfl, Or.inl rfl, Or.inl rfl, Or.inl rfl, Or.inl rfl, trivial⟩
  | 5, _ => ⟨Or.inl rfl, Or.inl rfl, Or.inl rfl, Or.inl rfl, Or.inl rfl, Or.inl rfl, Or.inl rfl, Or.inl rfl, Or.inl rfl, Or.inl rfl, Or.inl rfl, Or.inl rfl, Or.inl rfl, Or.inl rfl, Or.inl rfl, Or.inl rfl, Or.inl rfl, Or.inl rfl, Or.inl rfl, Or.inl rfl, Or.inr (by decide), Or.inr (by decide), Or.inr (by decide), Or.inl rfl, Or.inl rfl, Or.inl rfl, Or.inl rfl, Or.inl rfl, Or.inl rfl, trivial⟩
  | 6, _ => ⟨Or.inl rfl, Or.inl rfl, Or.inl rfl, Or.inl rfl, Or.inl rfl, Or.inl rfl, Or.inl rfl, Or.inl rfl, Or.inl rfl, Or.inl rfl, Or.inl rfl, Or.inl rfl, Or.inl rfl, Or.inl rfl, Or.inl rfl, Or.inl rfl, Or.inl rfl, Or.inl rfl, Or.inl rfl, Or.inl rfl, Or.inl rfl, Or.inl rfl, Or.inl rfl, Or.inr (by decide), Or.inr (by decide), Or.inr (by decide), Or.inl rfl, Or.inl rfl, Or.inl rfl, trivial⟩
  | 7, _ => ⟨Or.inl rfl, Or.inl rfl, Or.inl rfl, Or.inl rfl, Or.inl rfl, Or.inl rfl, Or.inl rfl, Or.inl rfl, Or.inl rfl, Or.inl rfl, Or.inl rfl, Or.inl rfl, Or.inl rfl, Or.inl rfl, Or.inl rfl, Or.inl rfl, Or.inl rfl, Or.inl rfl, Or.inl rfl, Or.inl rfl, Or.inl rfl, Or.inl rfl, Or.inl rfl, Or.inl rfl, Or.inl rfl, Or.inl rfl, Or.inr (by decide), Or.inr (by decide), Or.inr (by decide), trivial⟩
  | k + 8, z => absurd z (by omega)
theorem pl8_B {cI cO : ClassId} {a0 a1 : Nat} {g0 g1 ad pf : Nat → Nat} {h : Nat → Nat → Nat} {o0 o : Ob} {st : Nat → Ob} : ∀ (k : Nat), k < 8 → atAll [cX5 a1 g1 o, cX5_5 cI g1 o, cX5_6 cI g1 o, cX3 a0 g0 o0, cPa cO g0 8 ad pf, cX5 (ad 0) (h 0) (st 0), cX5_5 cI (h 0) (st 0), cX5_6 cI (h 0) (st 0), cX5 (ad 1) (h 1) (st 1), cX5_5 cI (h 1) (st 1), cX5_6 cI (h 1) (st 1), cX5 (ad 2) (h 2) (st 2), cX5_5 cI (h 2) (st 2), cX5_6 cI (h 2) (st 2), cX5 (ad 3) (h 3) (st 3), cX5_5 cI (h 3) (st 3), cX5_6 cI (h 3) (st 3), cX5 (ad 4) (h 4) (st 4), cX5_5 cI (h 4) (st 4), cX5_6 cI (h 4) (st 4), cX5 (ad 5) (h 5) (st 5), cX5_5 cI (h 5) (st 5), cX5_6 cI (h 5) (st 5), cX5 (ad 6) (h 6) (st 6), cX5_5 cI (h 6) (st 6), cX5_6 cI (h 6) (st 6), cX5 (ad 7) (h 7) (st 7), cX5_5 cI (h 7) (st 7), cX5_6 cI (h 7) (st 7)] [0, 1, 2, 5 + 3 * k, 5 + 3 * k + 1, 5 + 3 * k + 2] [cX5 a1 g1 o, cX5_5 cI g1 o, cX5_6 cI g1 o, cX5 (ad k) (h k) (st k), cX5_5 cI (h k) (st k), cX5_6 cI (h k) (st k)]
  | 0, _ => ⟨rfl, rfl, rfl, rfl, rfl, rfl, trivial⟩
  | 1, _ => ⟨rfl, rfl, rfl, rfl, rfl, rfl, trivial⟩
  | 2, _ => ⟨rfl, rfl, rfl, rfl, rfl, rfl, trivial⟩
  | 3, _ => ⟨rfl, rfl, rfl, rfl, rfl, rfl, trivial⟩
  | 4, _ => ⟨rfl, rfl, rfl, rfl, rfl, rfl, trivial⟩
  | 5, _ => ⟨rfl, rfl, rfl, rfl, rfl, rfl, trivial⟩
  | 6, _ => ⟨rfl, rfl, rfl, rfl, rfl, rfl, trivial⟩
  | 7, _ => ⟨rfl, rfl, rfl, rfl, rfl, rfl, trivial⟩
  | k + 8, z => absurd z (by omega)
theorem pl8_B3 {cI cO : ClassId} {a0 a1 : Nat} {g0 g1 ad pf : Nat → Nat} {h : Nat → Nat → Nat} {o0 o1 : Ob} {st : Nat → Ob} {o : Ob} (k : Nat) : agr 0 [cX5 a1 g1 o1, cX5_5 cI g1 o1, cX5_6 cI g1 o1, cX3 a0 g0 o0, cPa cO g0 8 ad pf, cX5 (ad 0) (h 0) (st 0), cX5_5 cI (h 0) (st 0), cX5_6 cI (h 0) (st 0), cX5 (ad 1) (h 1) (st 1), cX5_5 cI (h 1) (st 1), cX5_6 cI (h 1) (st 1), cX5 (ad 2) (h 2) (st 2), cX5_5 cI (h 2) (st 2), cX5_6 cI (h 2) (st 2), cX5 (ad 3) (h 3) (st 3), cX5_5 cI (h 3) (st 3), cX5_6 cI (h 3) (st 3), cX5 (ad 4) (h 4) (st 4), cX5_5 cI (h 4) (st 4), cX5_6 cI (h 4) (st 4), cX5 (ad 5) (h 5) (st 5), cX5_5 cI (h 5) (st 5), cX5_6 cI (h 5) (st 5), cX5 (ad 6) (h 6) (st 6), cX5_5 cI (h 6) (st 6), cX5_6 cI (h 6) (st 6), cX5 (ad 7) (h 7) (st 7), cX5_5 cI (h 7) (st 7), cX5_6 cI (h 7) (st 7)] [cX5 a1 g1 o, cX5_5 cI g1 o, cX5_6 cI g1 o, cX3 a0 g0 o0, cPa cO g0 8 ad pf, cX5 (ad 0) (h 0) (st 0), cX5_5 cI (h 0) (st 0), cX5_6 cI (h 0) (st 0), cX5 (ad 1) (h 1) (st 1), cX5_5 cI (h 1) (st 1), cX5_6 cI (h 1) (st 1), cX5 (ad 2) (h 2) (st 2), cX5_5 cI (h 2) (st 2), cX5_6 cI (h 2) (st 2), cX5 (ad 3) (h 3) (st 3), cX5_5 cI (h 3) (st 3), cX5_6 cI (h 3) (st 3), cX5 (ad 4) (h 4) (st 4), cX5_5 cI (h 4) (st 4), cX5_6 cI (h 4) (st 4), cX5 (ad 5) (h 5) (st 5), cX5_5 cI (h 5) (st 5), cX5_6 cI (h 5) (st 5), cX5 (ad 6) (h 6) (st 6), cX5_5 cI (h 6) (st 6), cX5_6 cI (h 6) (st 6), cX5 (ad 7) (h 7) (st 7), cX5_5 cI (h 7) (st 7), cX5_6 cI (h 7) (st 7)] [0, 1, 2, 5 + 3 * k, 5 + 3 * k + 1, 5 + 3 * k + 2] := ⟨Or.inr (by simp), Or.inr (by simp), Or.inr (by simp), Or.inl rfl, Or.inl rfl, Or.inl rfl, Or.inl rfl, Or.inl rfl, Or.inl rfl, Or.inl rfl, Or.inl rfl, Or.inl rfl, Or.inl rfl, Or.inl rfl, Or.inl rfl, Or.inl rfl, Or.inl rfl, Or.inl rfl, Or.inl rfl, Or.inl rfl, Or.inl rfl, Or.inl rfl, Or.inl rfl, Or.inl rfl, Or.inl rfl, Or.inl rfl, Or.inl rfl, Or.inl rfl, Or.inl rfl, trivial⟩
theorem nd_A (k : Nat) : va_nd [5 + 3 * k, 5 + 3 * k + 1, 5 + 3 * k + 2, 0, 1, 2] = true := by
  simp only [va_nd, Bool.and_eq_true, decide_eq_true_eq, List.mem_cons, List.not_mem_nil, or_false, not_false_eq_true]
  exact ⟨by omega, by omega, by omega, by omega, by omega, trivial, trivial⟩
theorem nd_B (k : Nat) : va_nd [0, 1, 2, 5 + 3 * k, 5 + 3 * k + 1, 5 + 3 * k + 2] = true := by
  simp only [va_nd, Bool.and_eq_true, decide_eq_true_eq, List.mem_cons, List.not_mem_nil, or_false, not_false_eq_true]
  exact ⟨by omega, by omega, by omega, by omega, by omega, trivial, trivial⟩
theorem pl2_get {cI cO : ClassId} {a0 : Nat} {g0 ad pf : Nat → Nat} {h : Nat → Nat → Nat} {o0 : Ob} {st : Nat → Ob} : ∀ (k : Nat), k < 2 → [cX3 a0 g0 o0, cPa cO g0 2 ad pf, cX5 (ad 0) (h 0) (st 0), cX5_5 cI (h 0) (st 0), cX5_6 cI (h 0) (st 0), cX5 (ad 1) (h 1) (st 1), cX5_5 cI (h 1) (st 1), cX5_6 cI (h 1) (st 1)][2 + 3 * k]? = some (cX5 (ad k) (h k) (st k))
  | 0, _ => rfl
  | 1, _ => rfl
  | k + 2, z => absurd z (by omega)
theorem pl2_A {cI cO : ClassId} {a0 a1 : Nat} {g0 g1 ad pf : Nat → Nat} {h : Nat → Nat → Nat} {o0 o1 : Ob} {st : Nat → Ob} : ∀ (k : Nat), k < 2 → atAll [cX5 a1 g1 o1, cX5_5 cI g1 o1, cX5_6 cI g1 o1, cX3 a0 g0 o0, cPa cO g0 2 ad pf, cX5 (ad 0) (h 0) (st 0), cX5_5 cI (h 0) (st 0), cX5_6 cI (h 0) (st 0), cX5 (ad 1) (h 1) (st 1), cX5_5 cI (h 1) (st 1), cX5_6 cI (h 1) (st 1)] [5 + 3 * k, 5 + 3 * k + 1, 5 + 3 * k + 2, 0, 1, 2] [cX5 (ad k) (h k) (st k), cX5_5 cI (h k) (st k), cX5_6 cI (h k) (st k), cX5 a1 g1 o1, cX5_5 cI g1 o1, cX5_6 cI g1 o1]
  | 0, _ => ⟨rfl, rfl, rfl, rfl, rfl, rfl, trivial⟩
  | 1, _ => ⟨rfl, rfl, rfl, rfl, rfl, rfl, trivial⟩
  | k + 2, z => absurd z (by omega)
theorem pl2_A2 {cI cO : ClassId} {a0 a1 : Nat} {g0 g1 ad pf : Nat → Nat} {h : Nat → Nat → Nat} {o0 o1 : Ob} {st : Nat → Ob} {o : Ob} : ∀ (k : Nat), k < 2 → atAll [cX5 a1 g1 o1, cX5_5 cI g1 o1, cX5_6 cI g1 o1, cX3 a0 g0 o0, cPa cO g0 2 ad pf, cX5 (ad 0) (h 0) ((stU st k o) 0), cX5_5 cI (h 0) ((stU st k o) 0), cX5_6 cI (h 0) ((stU st k o) 0), cX5 (ad 1) (h 1) ((stU st k o) 1), cX5_5 cI (h 1) ((stU st k o) 1), cX5_6 cI (h 1) ((stU st k o) 1)] [5 + 3 * k, 5 + 3 * k + 1, 5 + 3 * k + 2, 0, 1, 2] [cX5 (ad k) (h k) o, cX5_5 cI (h k) o, cX5_6 cI (h k) o, cX5 a1 g1 o1, cX5_5 cI g1 o1, cX5_6 cI g1 o1]
  | 0, _ => ⟨rfl, rfl, rfl, rfl, rfl, rfl, trivial⟩
  | 1, _ => ⟨rfl, rfl, rfl, rfl, rfl, rfl, trivial⟩
  | k + 2, z => absurd z (by omega)
theorem pl2_A3 {cI cO : ClassId} {a0 a1 : Nat} {g0 g1 ad pf : Nat → Nat} {h : Nat → Nat → Nat} {o0 o1 : Ob} {st : Nat → Ob} {o : Ob} : ∀ (k : Nat), k < 2 → agr 0 [cX5 a1 g1 o1, cX5_5 cI g1 o1, cX5_6 cI g1 o1, cX3 a0 g0 o0, cPa cO g0 2 ad pf, cX5 (ad 0) (h 0) (st 0), cX5_5 cI (h 0) (st 0), cX5_6 cI (h 0) (st 0), cX5 (ad 1) (h 1) (st 1), cX5_5 cI (h 1) (st 1), cX5_6 cI (h 1) (st 1)] [cX5 a1 g1 o1, cX5_5 cI g1 o1, cX5_6 cI g1 o1, cX3 a0 g0 o0, cPa cO g0 2 ad pf, cX5 (ad 0) (h 0) ((stU st k o) 0), cX5_5 cI (h 0) ((stU st k o) 0), cX5_6 cI (h 0) ((stU st k o) 0), cX5 (ad 1) (h 1) ((stU st k o) 1), cX5_5 cI (h 1) ((stU st k o) 1), cX5_6 cI (h 1) ((stU st k o) 1)] [5 + 3 * k, 5 + 3 * k + 1, 5 + 3 * k + 2, 0, 1, 2]
  | 0, _ => ⟨Or.inl rfl, Or.inl rfl, Or.inl rfl, Or.inl rfl, Or.inl rfl, Or.inr (by decide), Or.inr (by decide), Or.inr (by decide), Or.inl rfl, Or.inl rfl, Or.inl rfl, trivial⟩
  | 1, _ => ⟨Or.inl rfl, Or.inl rfl, Or.inl rfl, Or.inl rfl, Or.inl rfl, Or.inl rfl, Or.inl rfl, Or.inl rfl, Or.inr (by decide), Or.inr (by decide), Or.inr (by decide), trivial⟩
  | k + 2, z => absurd z (by omega)
theorem pl2_B {cI cO : ClassId} {a0 a1 : Nat} {g0 g1 ad pf : Nat → Nat} {h : Nat → Nat → Nat} {o0 o : Ob} {st : Nat → Ob} : ∀ (k : Nat), k < 2 → atAll [cX5 a1 g1 o, cX5_5 cI g1 o, cX5_6 cI g1 o, cX3 a0 g0 o0, cPa cO g0 2 ad pf, cX5 (ad 0) (h 0) (st 0), cX5_5 cI (h 0) (st 0), cX5_6 cI (h 0) (st 0), cX5 (ad 1) (h 1) (st 1), cX5_5 cI (h 1) (st 1), cX5_6 cI (h 1) (st 1)] [0, 1, 2, 5 + 3 * k, 5 + 3 * k + 1, 5 + 3 * k + 2] [cX5 a1 g1 o, cX5_5 cI g1 o, cX5_6 cI g1 o, cX5 (ad k) (h k) (st k), cX5_5 cI (h k) (st k), cX5_6 cI (h k) (st k)]
  | 0, _ => ⟨rfl, rfl, rfl, rfl, rfl, rfl, trivial⟩
  | 1, _ => ⟨rfl, rfl, rfl, rfl, rfl, rfl, trivial⟩
  | k + 2, z => absurd z (by omega)
theorem pl2_B3 {cI cO : ClassId} {a0 a1 : Nat} {g0 g1 ad pf : Nat → Nat} {h : Nat → Nat → Nat} {o0 o1 : Ob} {st : Nat → Ob} {o : Ob} (k : Nat) : agr 0 [cX5 a1 g1 o1, cX5_5 cI g1 o1, cX5_6 cI g1 o1, cX3 a0 g0 o0, cPa cO g0 2 ad pf, cX5 (ad 0) (h 0) (st 0), cX5_5 cI (h 0) (st 0), cX5_6 cI (h 0) (st 0), cX5 (ad 1) (h 1) (st 1), cX5_5 cI (h 1) (st 1), cX5_6 cI (h 1) (st 1)] [cX5 a1 g1 o, cX5_5 cI g1 o, cX5_6 cI g1 o, cX3 a0 g0 o0, cPa cO g0 2 ad pf, cX5 (ad 0) (h 0) (st 0), cX5_5 cI (h 0) (st 0), cX5_6 cI (h 0) (st 0), cX5 (ad 1) (h 1) (st 1), cX5_5 cI (h 1) (st 1), cX5_6 cI (h 1) (st 1)] [0, 1, 2, 5 + 3 * k, 5 + 3 * k + 1, 5 + 3 * k + 2] := ⟨Or.inr (by simp), Or.inr (by simp), Or.inr (by simp), Or.inl rfl, Or.inl rfl, Or.inl rfl, Or.inl rfl, Or.inl rfl, Or.inl rfl, Or.inl rfl, Or.inl rfl, trivial⟩
theorem c_X3_standAt_n (l : Launch) (dC : Nat → ClassId) (dI : Nat → Nat → Nat) (cB cI cZ cO : ClassId) (a0 : Nat) (g0 : Nat → Nat) (o0 : Ob) (cap : Nat) (ad pf : Nat → Nat) (j : Nat) (hj : j < cap) (hc : cap < 2 ^ 31) : Ct dC dI cB cI cZ cO l yX3_standAt wsX3_standAt rmX3_standAt [.ref a0, .int (nI j)] [cX3 a0 g0 o0, cPa cO g0 cap ad pf] (some (.ref (ad (pf j)))) [cX3 a0 g0 o0, cPa cO g0 cap ad pf] := by
  have h := c_X3_standAt_in l dC dI cB cI cZ cO a0 g0 o0 cap ad pf (nI j) (vp_in_nI hj hc) hc
  rw [nI_clamp (by omega)] at h
  exact h
abbrev rmX3_dropLowest : Room := { frames := 1, cells := 0, slots := 0, locals := 21 }
theorem dsc_X3_dropLowest : yX3_dropLowest.cls ≠ "java/lang/invoke/MethodHandle" ∧ yX3_dropLowest.cls ≠ "java/lang/invoke/VarHandle" ∧ (parseMethodDescriptor yX3_dropLowest.desc).map (fun d => d.parameters.length) = some 0 := by decide +kernel
abbrev rmX3_put : Room := { frames := 2, cells := 0, slots := 0, locals := 43 }
theorem dsc_X3_put : yX3_put.cls ≠ "java/lang/invoke/MethodHandle" ∧ yX3_put.cls ≠ "java/lang/invoke/VarHandle" ∧ (parseMethodDescriptor yX3_put.desc).map (fun d => d.parameters.length) = some 1 := by decide +kernel
abbrev rmX3_takeInto : Room := { frames := 2, cells := 0, slots := 0, locals := 43 }
theorem dsc_X3_takeInto : yX3_takeInto.cls ≠ "java/lang/invoke/MethodHandle" ∧ yX3_takeInto.cls ≠ "java/lang/invoke/VarHandle" ∧ (parseMethodDescriptor yX3_takeInto.desc).map (fun d => d.parameters.length) = some 1 := by decide +kernel
def rot8 (pf : Nat → Nat) : Nat → Nat := (va_up (va_up (va_up (va_up (va_up (va_up (va_up (va_up pf 0 (pf 1)) 1 (pf 2)) 2 (pf 3)) 3 (pf 4)) 4 (pf 5)) 5 (pf 6)) 6 (pf 7)) 7 (pf 0))
set_option maxHeartbeats 4000000 in
set_option maxRecDepth 100000 in
theorem c_X3_dropLowest_8 (l : Launch) (dC : Nat → ClassId) (dI : Nat → Nat → Nat) (cB cI cZ cO : ClassId) (a0 : Nat) (g0 : Nat → Nat) (o0 : Ob) (ad pf : Nat → Nat) (h : Nat → Nat → Nat) (st : Nat → Ob) (hpf : ∀ j, j < 8 → pf j < 8) {x : Int32} (hx1 : o0.1 1 - (1 : Int32) = x) : Ct dC dI cB cI cZ cO l yX3_dropLowest wsX3_dropLowest rmX3_dropLowest [.ref a0] [cX3 a0 g0 o0, cPa cO g0 8 ad pf, cX5 (ad 0) (h 0) (st 0), cX5_5 cI (h 0) (st 0), cX5_6 cI (h 0) (st 0), cX5 (ad 1) (h 1) (st 1), cX5_5 cI (h 1) (st 1), cX5_6 cI (h 1) (st 1), cX5 (ad 2) (h 2) (st 2), cX5_5 cI (h 2) (st 2), cX5_6 cI (h 2) (st 2), cX5 (ad 3) (h 3) (st 3), cX5_5 cI (h 3) (st 3), cX5_6 cI (h 3) (st 3), cX5 (ad 4) (h 4) (st 4), cX5_5 cI (h 4) (st 4), cX5_6 cI (h 4) (st 4), cX5 (ad 5) (h 5) (st 5), cX5_5 cI (h 5) (st 5), cX5_6 cI (h 5) (st 5), cX5 (ad 6) (h 6) (st 6), cX5_5 cI (h 6) (st 6), cX5_6 cI (h 6) (st 6), cX5 (ad 7) (h 7) (st 7), cX5_5 cI (h 7) (st 7), cX5_6 cI (h 7) (st 7)] none [cX3 a0 g0 (stF o0 1 x), cPa cO g0 8 ad (rot8 pf), cX5 (ad 0) (h 0) (st 0), cX5_5 cI (h 0) (st 0), cX5_6 cI (h 0) (st 0), cX5 (ad 1) (h 1) (st 1), cX5_5 cI (h 1) (st 1), cX5_6 cI (h 1) (st 1), cX5 (ad 2) (h 2) (st 2), cX5_5 cI (h 2) (st 2), cX5_6 cI (h 2) (st 2), cX5 (ad 3) (h 3) (st 3), cX5_5 cI (h 3) (st 3), cX5_6 cI (h 3) (st 3), cX5 (ad 4) (h 4) (st 4), cX5_5 cI (h 4) (st 4), cX5_6 cI (h 4) (st 4), cX5 (ad 5) (h 5) (st 5), cX5_5 cI (h 5) (st 5), cX5_6 cI (h 5) (st 5), cX5 (ad 6) (h 6) (st 6), cX5_5 cI (h 6) (st 6), cX5_6 cI (h 6) (st 6), cX5 (ad 7) (h 7) (st 7), cX5_5 cI (h 7) (st 7), cX5_6 cI (h 7) (st 7)] := by
  intro sz
  refine Met.ofW (cc := cX3_dropLowest) (maxL := 3) (ret := none) (by decide) rfl ?_
  intro p e s m args below meth c s₁ B hml hv
  obtain ⟨rfl, hsz, hP, hKK, hD0⟩ := hv
  have hx := B.exec
  have hb := B.bytes
  have hr := B.returns
  have hts := atoms_spec (ws := wsX3_dropLowest) B.pre
  have hown : s.vm.findClass RX3 = some m.cls := findClass_of_methodNamed B.named
  have hlocks := B.notSynchronized
  have hiX3 : ∀ w ∈ u_ws RX3 TX3 2, w ∈ wsX3_dropLowest := fun w h => List.mem_cons_of_mem _ (List.mem_append_right _ h)
  subst hsz
  have hD := hD0.self (sz := s.heap.size)
  generalize hAe : va_A [cX3 a0 g0 o0, cPa cO g0 8 ad pf, cX5 (ad 0) (h 0) (st 0), cX5_5 cI (h 0) (st 0), cX5_6 cI (h 0) (st 0), cX5 (ad 1) (h 1) (st 1), cX5_5 cI (h 1) (st 1), cX5_6 cI (h 1) (st 1), cX5 (ad 2) (h 2) (st 2), cX5_5 cI (h 2) (st 2), cX5_6 cI (h 2) (st 2), cX5 (ad 3) (h 3) (st 3), cX5_5 cI (h 3) (st 3), cX5_6 cI (h 3) (st 3), cX5 (ad 4) (h 4) (st 4), cX5_5 cI (h 4) (st 4), cX5_6 cI (h 4) (st 4), cX5 (ad 5) (h 5) (st 5), cX5_5 cI (h 5) (st 5), cX5_6 cI (h 5) (st 5), cX5 (ad 6) (h 6) (st 6), cX5_5 cI (h 6) (st 6), cX5_6 cI (h 6) (st 6), cX5 (ad 7) (h 7) (st 7), cX5_5 cI (h 7) (st 7), cX5_6 cI (h 7) (st 7)] s.heap.size = A at hD ⊢
  have hA : ∀ q : Nat, s.heap.size ≤ q → A q := fun q h => by rw [← hAe]; exact Or.inr h
  have hS : va_S A s.heap s.heap [] := va_S.rf
  have hP : va_P (dC, dI) vwCl [cX3 a0 g0 o0, cPa cO g0 8 ad pf, cX5 (ad 0) (h 0) (st 0), cX5_5 cI (h 0) (st 0), cX5_6 cI (h 0) (st 0), cX5 (ad 1) (h 1) (st 1), cX5_5 cI (h 1) (st 1), cX5_6 cI (h 1) (st 1), cX5 (ad 2) (h 2) (st 2), cX5_5 cI (h 2) (st 2), cX5_6 cI (h 2) (st 2), cX5 (ad 3) (h 3) (st 3), cX5_5 cI (h 3) (st 3), cX5_6 cI (h 3) (st 3), cX5 (ad 4) (h 4) (st 4), cX5_5 cI (h 4) (st 4), cX5_6 cI (h 4) (st 4), cX5 (ad 5) (h 5) (st 5), cX5_5 cI (h 5) (st 5), cX5_6 cI (h 5) (st 5), cX5 (ad 6) (h 6) (st 6), cX5_5 cI (h 6) (st 6), cX5_6 cI (h 6) (st 6), cX5 (ad 7) (h 7) (st 7), cX5_5 cI (h 7) (st 7), cX5_6 cI (h 7) (st 7)] s.heap := hP
  have hl := lv_entry [.ref a0] (n := 3) (Nat.le_of_ble_eq_true rfl)
  rw [lg_entry_eq]
  generalize (lg_sl [.ref a0] ++ List.replicate (3 - (lg_sl [.ref a0]).length) Slot.unset).toArray = ls at hl ⊢
  clear hAe hD0
  have hl : lv_has ls 3 [(0, .ref a0)] := hl
  refine lv_aload_n hx hb dX3_dropLowest_0 rfl (lv_at hl 0 rfl) ?_
  refine lv_iconst (v := nI 0) hx hb dX3_dropLowest_1 (by decide) ?_
  refine kcV (rest := []) (w2 := [cX3 a0 g0 o0, cPa cO g0 8 ad pf, cX5 (ad 0) (h 0) (st 0), cX5_5 cI (h 0) (st 0), cX5_6 cI (h 0) (st 0), cX5 (ad 1) (h 1) (st 1), cX5_5 cI (h 1) (st 1), cX5_6 cI (h 1) (st 1), cX5 (ad 2) (h 2) (st 2), cX5_5 cI (h 2) (st 2), cX5_6 cI (h 2) (st 2), cX5 (ad 3) (h 3) (st 3), cX5_5 cI (h 3) (st 3), cX5_6 cI (h 3) (st 3), cX5 (ad 4) (h 4) (st 4), cX5_5 cI (h 4) (st 4), cX5_6 cI (h 4) (st 4), cX5 (ad 5) (h 5) (st 5), cX5_5 cI (h 5) (st 5), cX5_6 cI (h 5) (st 5), cX5 (ad 6) (h 6) (st 6), cX5_5 cI (h 6) (st 6), cX5_6 cI (h 6) (st 6), cX5 (ad 7) (h 7) (st 7), cX5_5 cI (h 7) (st 7), cX5_6 cI (h 7) (st 7)]) hx hb hml hown hts hKK hP hD hS hA (c_X3_standAt_n l dC dI cB cI cZ cO a0 g0 o0 8 ad pf 0 (by decide) (by decide)) [0, 1] (atAll_map ⟨rfl, rfl, trivial⟩) (by decide +kernel) (sameAd_map ⟨rfl, rfl, trivial⟩) (atAll_map ⟨rfl, rfl, trivial⟩) (agr_refl _ _ _) (cwV 1 hts gX3_dropLowest_X3_standAt rfl rfl rfl ⟨rfl, dsc_X3_standAt⟩ ⟨Nat.le_of_ble_eq_true rfl, Nat.le_of_ble_eq_true rfl⟩) (va_recv hKK.1 hP (ci := 3) (q0 := 0) rfl rfl) rfl hl.1 rfl (Nat.le_of_ble_eq_true rfl) dX3_dropLowest_2 ⟨Nat.zero_le _, Nat.zero_le _⟩ (fun H locs hP hD hS => ?_)
  refine lv_astore_n (lv' := [(1, .ref (ad (pf 0))), (0, .ref a0)]) hx hb dX3_dropLowest_5 rfl hl (by decide) rfl (fun ls hl => ?_)
  refine lv_aload_n hx hb dX3_dropLowest_6 rfl (lv_at hl 0 rfl) ?_
  refine lv_ifnull hx hb dX3_dropLowest_7 ?_
  refine lv_iconst (v := (1 : Int32)) hx hb dX3_dropLowest_10 (by decide) ?_
  refine lv_istore_n (lv' := [(2, .int (1 : Int32)), (1, .ref (ad (pf 0))), (0, .ref a0)]) hx hb dX3_dropLowest_11 rfl hl (by decide) rfl (fun ls hl => ?_)
  refine W.eq (g2 := F0 m 12 ls []) rfl ?_
  refine lv_iload_n hx hb dX3_dropLowest_12 rfl (lv_at hl 0 rfl) ?_
  refine lv_aload_n hx hb dX3_dropLowest_13 rfl (lv_at hl 2 rfl) ?_
  refine va_get (D := (dC, dI)) (ci := 3) (v := .ref (g0 0)) (C := RX3) (T := TX3) (N := 2) hx hb hts hiX3 hown hKK.1 hP 0 rfl rfl 0 (by decide) (hts (.fieldLink RX3 9 "SlideLand$Pile" "stands" "[LSlideLand$Stand;") (List.mem_of_getElem? (i := 1) rfl)) (fun _ h9 => h9) rfl dX3_dropLowest_14 ?_
  refine va_alen (v := (8 : Int32)) hx hb hKK.1 hP 1 3 rfl (ty := .object "SlideLand$Stand") rfl (show Int32.ofNat 8 = (8 : Int32) from by decide) dX3_dropLowest_17 ?_
  refine lv_icmp_ge (tgt := 41) hx hb dX3_dropLowest_18 (by decide) (fun k => absurd k (by decide)) (fun _ => ?_)
  refine lv_aload_n hx hb dX3_dropLowest_21 rfl (lv_at hl 2 rfl) ?_
  refine va_get (D := (dC, dI)) (ci := 3) (v := .ref (g0 0)) (C := RX3) (T := TX3) (N := 2) hx hb hts hiX3 hown hKK.1 hP 0 rfl rfl 0 (by decide) (hts (.fieldLink RX3 9 "SlideLand$Pile" "stands" "[LSlideLand$Stand;") (List.mem_of_getElem? (i := 1) rfl)) (fun _ h9 => h9) rfl dX3_dropLowest_22 ?_
  refine lv_iload_n hx hb dX3_dropLowest_25 rfl (lv_at hl 0 rfl) ?_
  refine lv_iconst (v := (1 : Int32)) hx hb dX3_dropLowest_26 (by decide) ?_
  refine lv_isub hx hb dX3_dropLowest_27 ?_
  refine lv_topE (show (1 : Int32) - (1 : Int32) = (0 : Int32) from by decide) ?_
  refine lv_aload_n hx hb dX3_dropLowest_28 rfl (lv_at hl 2 rfl) ?_
  refine va_get (D := (dC, dI)) (ci := 3) (v := .ref (g0 0)) (C := RX3) (T := TX3) (N := 2) hx hb hts hiX3 hown hKK.1 hP 0 rfl rfl 0 (by decide) (hts (.fieldLink RX3 9 "SlideLand$Pile" "stands" "[LSlideLand$Stand;") (List.mem_of_getElem? (i := 1) rfl)) (fun _ h9 => h9) rfl dX3_dropLowest_29 ?_
  refine lv_iload_n hx hb dX3_dropLowest_32 rfl (lv_at hl 0 rfl) ?_
  refine va_aldq (f := fun j => some (ad (pf j))) hx hb hKK.1 hP 1 3 rfl rfl (show ¬ ((1 : Int32) < 0 ∨ 8 ≤ (1 : Int32).toNatClampNeg) from by decide) dX3_dropLowest_33 ?_
  refine W.eq (g2 := F0 m 34 ls [.ref (ad (pf 1)), .int (0 : Int32), .ref (g0 0)]) rfl ?_
  refine va_astq (f := fun j => some (ad (pf j))) hx hb hKK.1 hP hD hS 1 3 (2 + 3 * pf 1) 5 rfl rfl (pl8_get (pf 1) (hpf 1 (by decide))) rfl (show ¬ ((0 : Int32) < 0 ∨ 8 ≤ (0 : Int32).toNatClampNeg) from by decide) dX3_dropLowest_34 (fun H locs hP hD hS => ?_)
  rw [show va_up (fun j => some (ad (pf j))) (0 : Int32).toNatClampNeg (some (ad (pf 1))) = fun j => some (ad ((va_up pf 0 (pf 1)) j)) from up_some ad pf 0 (pf 1)] at hP hD
  have hP : va_P (dC, dI) vwCl [cX3 a0 g0 o0, cPa cO g0 8 ad (va_up pf 0 (pf 1)), cX5 (ad 0) (h 0) (st 0), cX5_5 cI (h 0) (st 0), cX5_6 cI (h 0) (st 0), cX5 (ad 1) (h 1) (st 1), cX5_5 cI (h 1) (st 1), cX5_6 cI (h 1) (st 1), cX5 (ad 2) (h 2) (st 2), cX5_5 cI (h 2) (st 2), cX5_6 cI (h 2) (st 2), cX5 (ad 3) (h 3) (st 3), cX5_5 cI (h 3) (st 3), cX5_6 cI (h 3) (st 3), cX5 (ad 4) (h 4) (st 4), cX5_5 cI (h 4) (st 4), cX5_6 cI (h 4) (st 4), cX5 (ad 5) (h 5) (st 5), cX5_5 cI (h 5) (st 5), cX5_6 cI (h 5) (st 5), cX5 (ad 6) (h 6) (st 6), cX5_5 cI (h 6) (st 6), cX5_6 cI (h 6) (st 6), cX5 (ad 7) (h 7) (st 7), cX5_5 cI (h 7) (st 7), cX5_6 cI (h 7) (st 7)] H := hP
  have hD : va_D A [cX3 a0 g0 o0, cPa cO g0 8 ad (va_up pf 0 (pf 1)), cX5 (ad 0) (h 0) (st 0), cX5_5 cI (h 0) (st 0), cX5_6 cI (h 0) (st 0), cX5 (ad 1) (h 1) (st 1), cX5_5 cI (h 1) (st 1), cX5_6 cI (h 1) (st 1), cX5 (ad 2) (h 2) (st 2), cX5_5 cI (h 2) (st 2), cX5_6 cI (h 2) (st 2), cX5 (ad 3) (h 3) (st 3), cX5_5 cI (h 3) (st 3), cX5_6 cI (h 3) (st 3), cX5 (ad 4) (h 4) (st 4), cX5_5 cI (h 4) (st 4), cX5_6 cI (h 4) (st 4), cX5 (ad 5) (h 5) (st 5), cX5_5 cI (h 5) (st 5), cX5_6 cI (h 5) (st 5), cX5 (ad 6) (h 6) (st 6), cX5_5 cI (h 6) (st 6), cX5_6 cI (h 6) (st 6), cX5 (ad 7) (h 7) (st 7), cX5_5 cI (h 7) (st 7), cX5_6 cI (h 7) (st 7)] := hD
  refine lv_iinc (v := (2 : Int32)) (lv' := [(2, .int (2 : Int32)), (1, .ref (ad (pf 0))), (0, .ref a0)]) hx hb dX3_dropLowest_35 hl (k := 0) rfl (by decide) (by decide) rfl (fun ls hl => ?_)
  refine lv_goto (tgt := 12) hx hb dX3_dropLowest_38 (by decide) ?_
  refine lv_iload_n hx hb dX3_dropLowest_12 rfl (lv_at hl 0 rfl) ?_
  refine lv_aload_n hx hb dX3_dropLowest_13 rfl (lv_at hl 2 rfl) ?_
  refine va_get (D := (dC, dI)) (ci := 3) (v := .ref (g0 0)) (C := RX3) (T := TX3) (N := 2) hx hb hts hiX3 hown hKK.1 hP 0 rfl rfl 0 (by decide) (hts (.fieldLink RX3 9 "SlideLand$Pile" "stands" "[LSlideLand$Stand;") (List.mem_of_getElem? (i := 1) rfl)) (fun _ h9 => h9) rfl dX3_dropLowest_14 ?_
  refine va_alen (v := (8 : Int32)) hx hb hKK.1 hP 1 3 rfl (ty := .object "SlideLand$Stand") rfl (show Int32.ofNat 8 = (8 : Int32) from by decide) dX3_dropLowest_17 ?_
  refine lv_icmp_ge (tgt := 41) hx hb dX3_dropLowest_18 (by decide) (fun k => absurd k (by decide)) (fun _ => ?_)
  refine lv_aload_n hx hb dX3_dropLowest_21 rfl (lv_at hl 2 rfl) ?_
  refine va_get (D := (dC, dI)) (ci := 3) (v := .ref (g0 0)) (C := RX3) (T := TX3) (N := 2) hx hb hts hiX3 hown hKK.1 hP 0 rfl rfl 0 (by decide) (hts (.fieldLink RX3 9 "SlideLand$Pile" "stands" "[LSlideLand$Stand;") (List.mem_of_getElem? (i := 1) rfl)) (fun _ h9 => h9) rfl dX3_dropLowest_22 ?_
  refine lv_iload_n hx hb dX3_dropLowest_25 rfl (lv_at hl 0 rfl) ?_
  refine lv_iconst (v := (1 : Int32)) hx hb dX3_dropLowest_26 (by decide) ?_
  refine lv_isub hx hb dX3_dropLowest_27 ?_
  refine lv_topE (show (2 : Int32) - (1 : Int32) = (1 : Int32) from by decide) ?_
  refine lv_aload_n hx hb dX3_dropLowest_28 rfl (lv_at hl 2 rfl) ?_
  refine va_get (D := (dC, dI)) (ci := 3) (v := .ref (g0 0)) (C := RX3) (T := TX3) (N := 2) hx hb hts hiX3 hown hKK.1 hP 0 rfl rfl 0 (by decide) (hts (.fieldLink RX3 9 "SlideLand$Pile" "stands" "[LSlideLand$Stand;") (List.mem_of_getElem? (i := 1) rfl)) (fun _ h9 => h9) rfl dX3_dropLowest_29 ?_
  refine lv_iload_n hx hb dX3_dropLowest_32 rfl (lv_at hl 0 rfl) ?_
  refine va_aldq (f := fun j => some (ad ((va_up pf 0 (pf 1)) j))) hx hb hKK.1 hP 1 3 rfl rfl (show ¬ ((2 : Int32) < 0 ∨ 8 ≤ (2 : Int32).toNatClampNeg) from by decide) dX3_dropLowest_33 ?_
  refine W.eq (g2 := F0 m 34 ls [.ref (ad (pf 2)), .int (1 : Int32), .ref (g0 0)]) rfl ?_
  refine va_astq (f := fun j => some (ad ((va_up pf 0 (pf 1)) j))) hx hb hKK.1 hP hD hS 1 3 (2 + 3 * pf 2) 5 rfl rfl (pl8_get (pf 2) (hpf 2 (by decide))) rfl (show ¬ ((1 : Int32) < 0 ∨ 8 ≤ (1 : Int32).toNatClampNeg) from by decide) dX3_dropLowest_34 (fun H locs hP hD hS => ?_)
  rw [show va_up (fun j => some (ad ((va_up pf 0 (pf 1)) j))) (1 : Int32).toNatClampNeg (some (ad (pf 2))) = fun j => some (ad ((va_up (va_up pf 0 (pf 1)) 1 (pf 2)) j)) from up_some ad (va_up pf 0 (pf 1)) 1 (pf 2)] at hP hD
  have hP : va_P (dC, dI) vwCl [cX3 a0 g0 o0, cPa cO g0 8 ad (va_up (va_up pf 0 (pf 1)) 1 (pf 2)), cX5 (ad 0) (h 0) (st 0), cX5_5 cI (h 0) (st 0), cX5_6 cI (h 0) (st 0), cX5 (ad 1) (h 1) (st 1), cX5_5 cI (h 1) (st 1), cX5_6 cI (h 1) (st 1), cX5 (ad 2) (h 2) (st 2), cX5_5 cI (h 2) (st 2), cX5_6 cI (h 2) (st 2), cX5 (ad 3) (h 3) (st 3), cX5_5 cI (h 3) (st 3), cX5_6 cI (h 3) (st 3), cX5 (ad 4) (h 4) (st 4), cX5_5 cI (h 4) (st 4), cX5_6 cI (h 4) (st 4), cX5 (ad 5) (h 5) (st 5), cX5_5 cI (h 5) (st 5), cX5_6 cI (h 5) (st 5), cX5 (ad 6) (h 6) (st 6), cX5_5 cI (h 6) (st 6), cX5_6 cI (h 6) (st 6), cX5 (ad 7) (h 7) (st 7), cX5_5 cI (h 7) (st 7), cX5_6 cI (h 7) (st 7)] H := hP
  have hD : va_D A [cX3 a0 g0 o0, cPa cO g0 8 ad (va_up (va_up pf 0 (pf 1)) 1 (pf 2)), cX5 (ad 0) (h 0) (st 0), cX5_5 cI (h 0) (st 0), cX5_6 cI (h 0) (st 0), cX5 (ad 1) (h 1) (st 1), cX5_5 cI (h 1) (st 1), cX5_6 cI (h 1) (st 1), cX5 (ad 2) (h 2) (st 2), cX5_5 cI (h 2) (st 2), cX5_6 cI (h 2) (st 2), cX5 (ad 3) (h 3) (st 3), cX5_5 cI (h 3) (st 3), cX5_6 cI (h 3) (st 3), cX5 (ad 4) (h 4) (st 4), cX5_5 cI (h 4) (st 4), cX5_6 cI (h 4) (st 4), cX5 (ad 5) (h 5) (st 5), cX5_5 cI (h 5) (st 5), cX5_6 cI (h 5) (st 5), cX5 (ad 6) (h 6) (st 6), cX5_5 cI (h 6) (st 6), cX5_6 cI (h 6) (st 6), cX5 (ad 7) (h 7) (st 7), cX5_5 cI (h 7) (st 7), cX5_6 cI (h 7) (st 7)] := hD
  refine lv_iinc (v := (3 : Int32)) (lv' := [(2, .int (3 : Int32)), (1, .ref (ad (pf 0))), (0, .ref a0)]) hx hb dX3_dropLowest_35 hl (k := 0) rfl (by decide) (by decide) rfl (fun ls hl => ?_)
  refine lv_goto (tgt := 12) hx hb dX3_dropLowest_38 (by decide) ?_
  refine lv_iload_n hx hb dX3_dropLowest_12 rfl (lv_at hl 0 rfl) ?_
  refine lv_aload_n hx hb dX3_dropLowest_13 rfl (lv_at hl 2 rfl) ?_
  refine va_get (D := (dC, dI)) (ci := 3) (v := .ref (g0 0)) (C := RX3) (T := TX3) (N := 2) hx hb hts hiX3 hown hKK.1 hP 0 rfl rfl 0 (by decide) (hts (.fieldLink RX3 9 "SlideLand$Pile" "stands" "[LSlideLand$Stand;") (List.mem_of_getElem? (i := 1) rfl)) (fun _ h9 => h9) rfl dX3_dropLowest_14 ?_
  refine va_alen (v := (8 : Int32)) hx hb hKK.1 hP 1 3 rfl (ty := .object "SlideLand$Stand") rfl (show Int32.ofNat 8 = (8 : Int32) from by decide) dX3_dropLowest_17 ?_
  refine lv_icmp_ge (tgt := 41) hx hb dX3_dropLowest_18 (by decide) (fun k => absurd k (by decide)) (fun _ => ?_)
  refine lv_aload_n hx hb dX3_dropLowest_21 rfl (lv_at hl 2 rfl) ?_
  refine va_get (D := (dC, dI)) (ci := 3) (v := .ref (g0 0)) (C := RX3) (T := TX3) (N := 2) hx hb hts hiX3 hown hKK.1 hP 0 rfl rfl 0 (by decide) (hts (.fieldLink RX3 9 "SlideLand$Pile" "stands" "[LSlideLand$Stand;") (List.mem_of_getElem? (i := 1) rfl)) (fun _ h9 => h9) rfl dX3_dropLowest_22 ?_
  refine lv_iload_n hx hb dX3_dropLowest_25 rfl (lv_at hl 0 rfl) ?_
  refine lv_iconst (v := (1 : Int32)) hx hb dX3_dropLowest_26 (by decide) ?_
  refine lv_isub hx hb dX3_dropLowest_27 ?_
  refine lv_topE (show (3 : Int32) - (1 : Int32) = (2 : Int32) from by decide) ?_
  refine lv_aload_n hx hb dX3_dropLowest_28 rfl (lv_at hl 2 rfl) ?_
  refine va_get (D := (dC, dI)) (ci := 3) (v := .ref (g0 0)) (C := RX3) (T := TX3) (N := 2) hx hb hts hiX3 hown hKK.1 hP 0 rfl rfl 0 (by decide) (hts (.fieldLink RX3 9 "SlideLand$Pile" "stands" "[LSlideLand$Stand;") (List.mem_of_getElem? (i := 1) rfl)) (fun _ h9 => h9) rfl dX3_dropLowest_29 ?_
  refine lv_iload_n hx hb dX3_dropLowest_32 rfl (lv_at hl 0 rfl) ?_
  refine va_aldq (f := fun j => some (ad ((va_up (va_up pf 0 (pf 1)) 1 (pf 2)) j))) hx hb hKK.1 hP 1 3 rfl rfl (show ¬ ((3 : Int32) < 0 ∨ 8 ≤ (3 : Int32).toNatClampNeg) from by decide) dX3_dropLowest_33 ?_
  refine W.eq (g2 := F0 m 34 ls [.ref (ad (pf 3)), .int (2 : Int32), .ref (g0 0)]) rfl ?_
  refine va_astq (f := fun j => some (ad ((va_up (va_up pf 0 (pf 1)) 1 (pf 2)) j))) hx hb hKK.1 hP hD hS 1 3 (2 + 3 * pf 3) 5 rfl rfl (pl8_get (pf 3) (hpf 3 (by decide))) rfl (show ¬ ((2 : Int32) < 0 ∨ 8 ≤ (2 : Int32).toNatClampNeg) from by decide) dX3_dropLowest_34 (fun H locs hP hD hS => ?_)
  rw [show va_up (fun j => some (ad ((va_up (va_up pf 0 (pf 1)) 1 (pf 2)) j))) (2 : Int32).toNatClampNeg (some (ad (pf 3))) = fun j => some (ad ((va_up (va_up (va_up pf 0 (pf 1)) 1 (pf 2)) 2 (pf 3)) j)) from up_some ad (va_up (va_up pf 0 (pf 1)) 1 (pf 2)) 2 (pf 3)] at hP hD
  have hP : va_P (dC, dI) vwCl [cX3 a0 g0 o0, cPa cO g0 8 ad (va_up (va_up (va_up pf 0 (pf 1)) 1 (pf 2)) 2 (pf 3)), cX5 (ad 0) (h 0) (st 0), cX5_5 cI (h 0) (st 0), cX5_6 cI (h 0) (st 0), cX5 (ad 1) (h 1) (st 1), cX5_5 cI (h 1) (st 1), cX5_6 cI (h 1) (st 1), cX5 (ad 2) (h 2) (st 2), cX5_5 cI (h 2) (st 2), cX5_6 cI (h 2) (st 2), cX5 (ad 3) (h 3) (st 3), cX5_5 cI (h 3) (st 3), cX5_6 cI (h 3) (st 3), cX5 (ad 4) (h 4) (st 4), cX5_5 cI (h 4) (st 4), cX5_6 cI (h 4) (st 4), cX5 (ad 5) (h 5) (st 5), cX5_5 cI (h 5) (st 5), cX5_6 cI (h 5) (st 5), cX5 (ad 6) (h 6) (st 6), cX5_5 cI (h 6) (st 6), cX5_6 cI (h 6) (st 6), cX5 (ad 7) (h 7) (st 7), cX5_5 cI (h 7) (st 7), cX5_6 cI (h 7) (st 7)] H := hP
  have hD : va_D A [cX3 a0 g0 o0, cPa cO g0 8 ad (va_up (va_up (va_up pf 0 (pf 1)) 1 (pf 2)) 2 (pf 3)), cX5 (ad 0) (h 0) (st 0), cX5_5 cI (h 0) (st 0), cX5_6 cI (h 0) (st 0), cX5 (ad 1) (h 1) (st 1), cX5_5 cI (h 1) (st 1), cX5_6 cI (h 1) (st 1), cX5 (ad 2) (h 2) (st 2), cX5_5 cI (h 2) (st 2), cX5_6 cI (h 2) (st 2), cX5 (ad 3) (h 3) (st 3), cX5_5 cI (h 3) (st 3), cX5_6 cI (h 3) (st 3), cX5 (ad 4) (h 4) (st 4), cX5_5 cI (h 4) (st 4), cX5_6 cI (h 4) (st 4), cX5 (ad 5) (h 5) (st 5), cX5_5 cI (h 5) (st 5), cX5_6 cI (h 5) (st 5), cX5 (ad 6) (h 6) (st 6), cX5_5 cI (h 6) (st 6), cX5_6 cI (h 6) (st 6), cX5 (ad 7) (h 7) (st 7), cX5_5 cI (h 7) (st 7), cX5_6 cI (h 7) (st 7)] := hD
  refine lv_iinc (v := (4 : Int32)) (lv' := [(2, .int (4 : Int32)), (1, .ref (ad (pf 0))), (0, .ref a0)]) hx hb dX3_dropLowest_35 hl (k := 0) rfl (by decide) (by decide) rfl (fun ls hl => ?_)
  refine lv_goto (tgt := 12) hx hb dX3_dropLowest_38 (by decide) ?_
  refine lv_iload_n hx hb dX3_dropLowest_12 rfl (lv_at hl 0 rfl) ?_
  refine lv_aload_n hx hb dX3_dropLowest_13 rfl (lv_at hl 2 rfl) ?_
  refine va_get (D := (dC, dI)) (ci := 3) (v := .ref (g0 0)) (C := RX3) (T := TX3) (N := 2) hx hb hts hiX3 hown hKK.1 hP 0 rfl rfl 0 (by decide) (hts (.fieldLink RX3 9 "SlideLand$Pile" "stands" "[LSlideLand$Stand;") (List.mem_of_getElem? (i := 1) rfl)) (fun _ h9 => h9) rfl dX3_dropLowest_14 ?_
  refine va_alen (v := (8 : Int32)) hx hb hKK.1 hP 1 3 rfl (ty := .object "SlideLand$Stand") rfl (show Int32.ofNat 8 = (8 : Int32) from by decide) dX3_dropLowest_17 ?_
  refine lv_icmp_ge (tgt := 41) hx hb dX3_dropLowest_18 (by decide) (fun k => absurd k (by decide)) (fun _ => ?_)
  refine lv_aload_n hx hb dX3_dropLowest_21 rfl (lv_at hl 2 rfl) ?_
  refine va_get (D := (dC, dI)) (ci := 3) (v := .ref (g0 0)) (C := RX3) (T := TX3) (N := 2) hx hb hts hiX3 hown hKK.1 hP 0 rfl rfl 0 (by decide) (hts (.fieldLink RX3 9 "SlideLand$Pile" "stands" "[LSlideLand$Stand;") (List.mem_of_getElem? (i := 1) rfl)) (fun _ h9 => h9) rfl dX3_dropLowest_22 ?_
  refine lv_iload_n hx hb dX3_dropLowest_25 rfl (lv_at hl 0 rfl) ?_
  refine lv_iconst (v := (1 : Int32)) hx hb dX3_dropLowest_26 (by decide) ?_
  refine lv_isub hx hb dX3_dropLowest_27 ?_
  refine lv_topE (show (4 : Int32) - (1 : Int32) = (3 : Int32) from by decide) ?_
  refine lv_aload_n hx hb dX3_dropLowest_28 rfl (lv_at hl 2 rfl) ?_
  refine va_get (D := (dC, dI)) (ci := 3) (v := .ref (g0 0)) (C := RX3) (T := TX3) (N := 2) hx hb hts hiX3 hown hKK.1 hP 0 rfl rfl 0 (by decide) (hts (.fieldLink RX3 9 "SlideLand$Pile" "stands" "[LSlideLand$Stand;") (List.mem_of_getElem? (i := 1) rfl)) (fun _ h9 => h9) rfl dX3_dropLowest_29 ?_
  refine lv_iload_n hx hb dX3_dropLowest_32 rfl (lv_at hl 0 rfl) ?_
  refine va_aldq (f := fun j => some (ad ((va_up (va_up (va_up pf 0 (pf 1)) 1 (pf 2)) 2 (pf 3)) j))) hx hb hKK.1 hP 1 3 rfl rfl (show ¬ ((4 : Int32) < 0 ∨ 8 ≤ (4 : Int32).toNatClampNeg) from by decide) dX3_dropLowest_33 ?_
  refine W.eq (g2 := F0 m 34 ls [.ref (ad (pf 4)), .int (3 : Int32), .ref (g0 0)]) rfl ?_
  refine va_astq (f := fun j => some (ad ((va_up (va_up (va_up pf 0 (pf 1)) 1 (pf 2)) 2 (pf 3)) j))) hx hb hKK.1 hP hD hS 1 3 (2 + 3 * pf 4) 5 rfl rfl (pl8_get (pf 4) (hpf 4 (by decide))) rfl (show ¬ ((3 : Int32) < 0 ∨ 8 ≤ (3 : Int32).toNatClampNeg) from by decide) dX3_dropLowest_34 (fun H locs hP hD hS => ?_)
  rw [show va_up (fun j => some (ad ((va_up (va_up (va_up pf 0 (pf 1)) 1 (pf 2)) 2 (pf 3)) j))) (3 : Int32).toNatClampNeg (some (ad (pf 4))) = fun j => some (ad ((va_up (va_up (va_up (va_up pf 0 (pf 1)) 1 (pf 2)) 2 (pf 3)) 3 (pf 4)) j)) from up_some ad (va_up (va_up (va_up pf 0 (pf 1)) 1 (pf 2)) 2 (pf 3)) 3 (pf 4)] at hP hD
  have hP : va_P (dC, dI) vwCl [cX3 a0 g0 o0, cPa cO g0 8 ad (va_up (va_up (va_up (va_up pf 0 (pf 1)) 1 (pf 2)) 2 (pf 3)) 3 (pf 4)), cX5 (ad 0) (h 0) (st 0), cX5_5 cI (h 0) (st 0), cX5_6 cI (h 0) (st 0), cX5 (ad 1) (h 1) (st 1), cX5_5 cI (h 1) (st 1), cX5_6 cI (h 1) (st 1), cX5 (ad 2) (h 2) (st 2), cX5_5 cI (h 2) (st 2), cX5_6 cI (h 2) (st 2), cX5 (ad 3) (h 3) (st 3), cX5_5 cI (h 3) (st 3), cX5_6 cI (h 3) (st 3), cX5 (ad 4) (h 4) (st 4), cX5_5 cI (h 4) (st 4), cX5_6 cI (h 4) (st 4), cX5 (ad 5) (h 5) (st 5), cX5_5 cI (h 5) (st 5), cX5_6 cI (h 5) (st 5), cX5 (ad 6) (h 6) (st 6), cX5_5 cI (h 6) (st 6), cX5_6 cI (h 6) (st 6), cX5 (ad 7) (h 7) (st 7), cX5_5 cI (h 7) (st 7), cX5_6 cI (h 7) (st 7)] H := hP
  have hD : va_D A [cX3 a0 g0 o0, cPa cO g0 8 ad (va_up (va_up (va_up (va_up pf 0 (pf 1)) 1 (pf 2)) 2 (pf 3)) 3 (pf 4)), cX5 (ad 0) (h 0) (st 0), cX5_5 cI (h 0) (st 0), cX5_6 cI (h 0) (st 0), cX5 (ad 1) (h 1) (st 1), cX5_5 cI (h 1) (st 1), cX5_6 cI (h 1) (st 1), cX5 (ad 2) (h 2) (st 2), cX5_5 cI (h 2) (st 2), cX5_6 cI (h 2) (st 2), cX5 (ad 3) (h 3) (st 3), cX5_5 cI (h 3) (st 3), cX5_6 cI (h 3) (st 3), cX5 (ad 4) (h 4) (st 4), cX5_5 cI (h 4) (st 4), cX5_6 cI (h 4) (st 4), cX5 (ad 5) (h 5) (st 5), cX5_5 cI (h 5) (st 5), cX5_6 cI (h 5) (st 5), cX5 (ad 6) (h 6) (st 6), cX5_5 cI (h 6) (st 6), cX5_6 cI (h 6) (st 6), cX5 (ad 7) (h 7) (st 7), cX5_5 cI (h 7) (st 7), cX5_6 cI (h 7) (st 7)] := hD
  refine lv_iinc (v := (5 : Int32)) (lv' := [(2, .int (5 : Int32)), (1, .ref (ad (pf 0))), (0, .ref a0)]) hx hb dX3_dropLowest_35 hl (k := 0) rfl (by decide) (by decide) rfl (fun ls hl => ?_)
  refine lv_goto (tgt := 12) hx hb dX3_dropLowest_38 (by decide) ?_
  refine lv_iload_n hx hb dX3_dropLowest_12 rfl (lv_at hl 0 rfl) ?_
  refine lv_aload_n hx hb dX3_dropLowest_13 rfl (lv_at hl 2 rfl) ?_
  refine va_get (D := (dC, dI)) (ci := 3) (v := .ref (g0 0)) (C := RX3) (T := TX3) (N := 2) hx hb hts hiX3 hown hKK.1 hP 0 rfl rfl 0 (by decide) (hts (.fieldLink RX3 9 "SlideLand$Pile" "stands" "[LSlideLand$Stand;") (List.mem_of_getElem? (i := 1) rfl)) (fun _ h9 => h9) rfl dX3_dropLowest_14 ?_
  refine va_alen (v := (8 : Int32)) hx hb hKK.1 hP 1 3 rfl (ty := .object "SlideLand$Stand") rfl (show Int32.ofNat 8 = (8 : Int32) from by decide) dX3_dropLowest_17 ?_
  refine lv_icmp_ge (tgt := 41) hx hb dX3_dropLowest_18 (by decide) (fun k => absurd k (by decide)) (fun _ => ?_)
  refine lv_aload_n hx hb dX3_dropLowest_21 rfl (lv_at hl 2 rfl) ?_
  refine va_get (D := (dC, dI)) (ci := 3) (v := .ref (g0 0)) (C := RX3) (T := TX3) (N := 2) hx hb hts hiX3 hown hKK.1 hP 0 rfl rfl 0 (by decide) (hts (.fieldLink RX3 9 "SlideLand$Pile" "stands" "[LSlideLand$Stand;") (List.mem_of_getElem? (i := 1) rfl)) (fun _ h9 => h9) rfl dX3_dropLowest_22 ?_
  refine lv_iload_n hx hb dX3_dropLowest_25 rfl (lv_at hl 0 rfl) ?_
  refine lv_iconst (v := (1 : Int32)) hx hb dX3_dropLowest_26 (by decide) ?_
  refine lv_isub hx hb dX3_dropLowest_27 ?_
  refine lv_topE (show (5 : Int32) - (1 : Int32) = (4 : Int32) from by decide) ?_
  refine lv_aload_n hx hb dX3_dropLowest_28 rfl (lv_at hl 2 rfl) ?_
  refine va_get (D := (dC, dI)) (ci := 3) (v := .ref (g0 0)) (C := RX3) (T := TX3) (N := 2) hx hb hts hiX3 hown hKK.1 hP 0 rfl rfl 0 (by decide) (hts (.fieldLink RX3 9 "SlideLand$Pile" "stands" "[LSlideLand$Stand;") (List.mem_of_getElem? (i := 1) rfl)) (fun _ h9 => h9) rfl dX3_dropLowest_29 ?_
  refine lv_iload_n hx hb dX3_dropLowest_32 rfl (lv_at hl 0 rfl) ?_
  refine va_aldq (f := fun j => some (ad ((va_up (va_up (va_up (va_up pf 0 (pf 1)) 1 (pf 2)) 2 (pf 3)) 3 (pf 4)) j))) hx hb hKK.1 hP 1 3 rfl rfl (show ¬ ((5 : Int32) < 0 ∨ 8 ≤ (5 : Int32).toNatClampNeg) from by decide) dX3_dropLowest_33 ?_
  refine W.eq (g2 := F0 m 34 ls [.ref (ad (pf 5)), .int (4 : Int32), .ref (g0 0)]) rfl ?_
  refine va_astq (f := fun j => some (ad ((va_up (va_up (va_up (va_up pf 0 (pf 1)) 1 (pf 2)) 2 (pf 3)) 3 (pf 4)) j))) hx hb hKK.1 hP hD hS 1 3 (2 + 3 * pf 5) 5 rfl rfl (pl8_get (pf 5) (hpf 5 (by decide))) rfl (show ¬ ((4 : Int32) < 0 ∨ 8 ≤ (4 : Int32).toNatClampNeg) from by decide) dX3_dropLowest_34 (fun H locs hP hD hS => ?_)
  rw [show va_up (fun j => some (ad ((va_up (va_up (va_up (va_up pf 0 (pf 1)) 1 (pf 2)) 2 (pf 3)) 3 (pf 4)) j))) (4 : Int32).toNatClampNeg (some (ad (pf 5))) = fun j => some (ad ((va_up (va_up (va_up (va_up (va_up pf 0 (pf 1)) 1 (pf 2)) 2 (pf 3)) 3 (pf 4)) 4 (pf 5)) j)) from up_some ad (va_up (va_up (va_up (va_up pf 0 (pf 1)) 1 (pf 2)) 2 (pf 3)) 3 (pf 4)) 4 (pf 5)] at hP hD
  have hP : va_P (dC, dI) vwCl [cX3 a0 g0 o0, cPa cO g0 8 ad (va_up (va_up (va_up (va_up (va_up pf 0 (pf 1)) 1 (pf 2)) 2 (pf 3)) 3 (pf 4)) 4 (pf 5)), cX5 (ad 0) (h 0) (st 0), cX5_5 cI (h 0) (st 0), cX5_6 cI (h 0) (st 0), cX5 (ad 1) (h 1) (st 1), cX5_5 cI (h 1) (st 1), cX5_6 cI (h 1) (st 1), cX5 (ad 2) (h 2) (st 2), cX5_5 cI (h 2) (st 2), cX5_6 cI (h 2) (st 2), cX5 (ad 3) (h 3) (st 3), cX5_5 cI (h 3) (st 3), cX5_6 cI (h 3) (st 3), cX5 (ad 4) (h 4) (st 4), cX5_5 cI (h 4) (st 4), cX5_6 cI (h 4) (st 4), cX5 (ad 5) (h 5) (st 5), cX5_5 cI (h 5) (st 5), cX5_6 cI (h 5) (st 5), cX5 (ad 6) (h 6) (st 6), cX5_5 cI (h 6) (st 6), cX5_6 cI (h 6) (st 6), cX5 (ad 7) (h 7) (st 7), cX5_5 cI (h 7) (st 7), cX5_6 cI (h 7) (st 7)] H := hP
  have hD : va_D A [cX3 a0 g0 o0, cPa cO g0 8 ad (va_up (va_up (va_up (va_up (va_up pf 0 (pf 1)) 1 (pf 2)) 2 (pf 3)) 3 (pf 4)) 4 (pf 5)), cX5 (ad 0) (h 0) (st 0), cX5_5 cI (h 0) (st 0), cX5_6 cI (h 0) (st 0), cX5 (ad 1) (h 1) (st 1), cX5_5 cI (h 1) (st 1), cX5_6 cI (h 1) (st 1), cX5 (ad 2) (h 2) (st 2), cX5_5 cI (h 2) (st 2), cX5_6 cI (h 2) (st 2), cX5 (ad 3) (h 3) (st 3), cX5_5 cI (h 3) (st 3), cX5_6 cI (h 3) (st 3), cX5 (ad 4) (h 4) (st 4), cX5_5 cI (h 4) (st 4), cX5_6 cI (h 4) (st 4), cX5 (ad 5) (h 5) (st 5), cX5_5 cI (h 5) (st 5), cX5_6 cI (h 5) (st 5), cX5 (ad 6) (h 6) (st 6), cX5_5 cI (h 6) (st 6), cX5_6 cI (h 6) (st 6), cX5 (ad 7) (h 7) (st 7), cX5_5 cI (h 7) (st 7), cX5_6 cI (h 7) (st 7)] := hD
  refine lv_iinc (v := (6 : Int32)) (lv' := [(2, .int (6 : Int32)), (1, .ref (ad (pf 0))), (0, .ref a0)]) hx hb dX3_dropLowest_35 hl (k := 0) rfl (by decide) (by decide) rfl (fun ls hl => ?_)
  refine lv_goto (tgt := 12) hx hb dX3_dropLowest_38 (by decide) ?_
  refine lv_iload_n hx hb dX3_dropLowest_12 rfl (lv_at hl 0 rfl) ?_
  refine lv_aload_n hx hb dX3_dropLowest_13 rfl (lv_at hl 2 rfl) ?_
  refine va_get (D := (dC, dI)) (ci := 3) (v := .ref (g0 0)) (C := RX3) (T := TX3) (N := 2) hx hb hts hiX3 hown hKK.1 hP 0 rfl rfl 0 (by decide) (hts (.fieldLink RX3 9 "SlideLand$Pile" "stands" "[LSlideLand$Stand;") (List.mem_of_getElem? (i := 1) rfl)) (fun _ h9 => h9) rfl dX3_dropLowest_14 ?_
  refine va_alen (v := (8 : Int32)) hx hb hKK.1 hP 1 3 rfl (ty := .object "SlideLand$Stand") rfl (show Int32.ofNat 8 = (8 : Int32) from by decide) dX3_dropLowest_17 ?_
  refine lv_icmp_ge (tgt := 41) hx hb dX3_dropLowest_18 (by decide) (fun k => absurd k (by decide)) (fun _ => ?_)
  refine lv_aload_n hx hb dX3_dropLowest_21 rfl (lv_at hl 2 rfl) ?_
  refine va_get (D := (dC, dI)) (ci := 3) (v := .ref (g0 0)) (C := RX3) (T := TX3) (N := 2) hx hb hts hiX3 hown hKK.1 hP 0 rfl rfl 0 (by decide) (hts (.fieldLink RX3 9 "SlideLand$Pile" "stands" "[LSlideLand$Stand;") (List.mem_of_getElem? (i := 1) rfl)) (fun _ h9 => h9) rfl dX3_dropLowest_22 ?_
  refine lv_iload_n hx hb dX3_dropLowest_25 rfl (lv_at hl 0 rfl) ?_
  refine lv_iconst (v := (1 : Int32)) hx hb dX3_dropLowest_26 (by decide) ?_
  refine lv_isub hx hb dX3_dropLowest_27 ?_
  refine lv_topE (show (6 : Int32) - (1 : Int32) = (5 : Int32) from by decide) ?_
  refine lv_aload_n hx hb dX3_dropLowest_28 rfl (lv_at hl 2 rfl) ?_
  refine va_get (D := (dC, dI)) (ci := 3) (v := .ref (g0 0)) (C := RX3) (T := TX3) (N := 2) hx hb hts hiX3 hown hKK.1 hP 0 rfl rfl 0 (by decide) (hts (.fieldLink RX3 9 "SlideLand$Pile" "stands" "[LSlideLand$Stand;") (List.mem_of_getElem? (i := 1) rfl)) (fun _ h9 => h9) rfl dX3_dropLowest_29 ?_
  refine lv_iload_n hx hb dX3_dropLowest_32 rfl (lv_at hl 0 rfl) ?_
  refine va_aldq (f := fun j => some (ad ((va_up (va_up (va_up (va_up (va_up pf 0 (pf 1)) 1 (pf 2)) 2 (pf 3)) 3 (pf 4)) 4 (pf 5)) j))) hx hb hKK.1 hP 1 3 rfl rfl (show ¬ ((6 : Int32) < 0 ∨ 8 ≤ (6 : Int32).toNatClampNeg) from by decide) dX3_dropLowest_33 ?_
  refine W.eq (g2 := F0 m 34 ls [.ref (ad (pf 6)), .int (5 : Int32), .ref (g0 0)]) rfl ?_
  refine va_astq (f := fun j => some (ad ((va_up (va_up (va_up (va_up (va_up pf 0 (pf 1)) 1 (pf 2)) 2 (pf 3)) 3 (pf 4)) 4 (pf 5)) j))) hx hb hKK.1 hP hD hS 1 3 (2 + 3 * pf 6) 5 rfl rfl (pl8_get (pf 6) (hpf 6 (by decide))) rfl (show ¬ ((5 : Int32) < 0 ∨ 8 ≤ (5 : Int32).toNatClampNeg) from by decide) dX3_dropLowest_34 (fun H locs hP hD hS => ?_)
  rw [show va_up (fun j => some (ad ((va_up (va_up (va_up (va_up (va_up pf 0 (pf 1)) 1 (pf 2)) 2 (pf 3)) 3 (pf 4)) 4 (pf 5)) j))) (5 : Int32).toNatClampNeg (some (ad (pf 6))) = fun j => some (ad ((va_up (va_up (va_up (va_up (va_up (va_up pf 0 (pf 1)) 1 (pf 2)) 2 (pf 3)) 3 (pf 4)) 4 (pf 5)) 5 (pf 6)) j)) from up_some ad (va_up (va_up (va_up (va_up (va_up pf 0 (pf 1)) 1 (pf 2)) 2 (pf 3)) 3 (pf 4)) 4 (pf 5)) 5 (pf 6)] at hP hD
  have hP : va_P (dC, dI) vwCl [cX3 a0 g0 o0, cPa cO g0 8 ad (va_up (va_up (va_up (va_up (va_up (va_up pf 0 (pf 1)) 1 (pf 2)) 2 (pf 3)) 3 (pf 4)) 4 (pf 5)) 5 (pf 6)), cX5 (ad 0) (h 0) (st 0), cX5_5 cI (h 0) (st 0), cX5_6 cI (h 0) (st 0), cX5 (ad 1) (h 1) (st 1), cX5_5 cI (h 1) (st 1), cX5_6 cI (h 1) (st 1), cX5 (ad 2) (h 2) (st 2), cX5_5 cI (h 2) (st 2), cX5_6 cI (h 2) (st 2), cX5 (ad 3) (h 3) (st 3), cX5_5 cI (h 3) (st 3), cX5_6 cI (h 3) (st 3), cX5 (ad 4) (h 4) (st 4), cX5_5 cI (h 4) (st 4), cX5_6 cI (h 4) (st 4), cX5 (ad 5) (h 5) (st 5), cX5_5 cI (h 5) (st 5), cX5_6 cI (h 5) (st 5), cX5 (ad 6) (h 6) (st 6), cX5_5 cI (h 6) (st 6), cX5_6 cI (h 6) (st 6), cX5 (ad 7) (h 7) (st 7), cX5_5 cI (h 7) (st 7), cX5_6 cI (h 7) (st 7)] H := hP
  have hD : va_D A [cX3 a0 g0 o0, cPa cO g0 8 ad (va_up (va_up (va_up (va_up (va_up (va_up pf 0 (pf 1)) 1 (pf 2)) 2 (pf 3)) 3 (pf 4)) 4 (pf 5)) 5 (pf 6)), cX5 (ad 0) (h 0) (st 0), cX5_5 cI (h 0) (st 0), cX5_6 cI (h 0) (st 0), cX5 (ad 1) (h 1) (st 1), cX5_5 cI (h 1) (st 1), cX5_6 cI (h 1) (st 1), cX5 (ad 2) (h 2) (st 2), cX5_5 cI (h 2) (st 2), cX5_6 cI (h 2) (st 2), cX5 (ad 3) (h 3) (st 3), cX5_5 cI (h 3) (st 3), cX5_6 cI (h 3) (st 3), cX5 (ad 4) (h 4) (st 4), cX5_5 cI (h 4) (st 4), cX5_6 cI (h 4) (st 4), cX5 (ad 5) (h 5) (st 5), cX5_5 cI (h 5) (st 5), cX5_6 cI (h 5) (st 5), cX5 (ad 6) (h 6) (st 6), cX5_5 cI (h 6) (st 6), cX5_6 cI (h 6) (st 6), cX5 (ad 7) (h 7) (st 7), cX5_5 cI (h 7) (st 7), cX5_6 cI (h 7) (st 7)] := hD
  refine lv_iinc (v := (7 : Int32)) (lv' := [(2, .int (7 : Int32)), (1, .ref (ad (pf 0))), (0, .ref a0)]) hx hb dX3_dropLowest_35 hl (k := 0) rfl (by decide) (by decide) rfl (fun ls hl => ?_)
  refine lv_goto (tgt := 12) hx hb dX3_dropLowest_38 (by decide) ?_
  refine lv_iload_n hx hb dX3_dropLowest_12 rfl (lv_at hl 0 rfl) ?_
  refine lv_aload_n hx hb dX3_dropLowest_13 rfl (lv_at hl 2 rfl) ?_
  refine va_get (D := (dC, dI)) (ci := 3) (v := .ref (g0 0)) (C := RX3) (T := TX3) (N := 2) hx hb hts hiX3 hown hKK.1 hP 0 rfl rfl 0 (by decide) (hts (.fieldLink RX3 9 "SlideLand$Pile" "stands" "[LSlideLand$Stand;") (List.mem_of_getElem? (i := 1) rfl)) (fun _ h9 => h9) rfl dX3_dropLowest_14 ?_
  refine va_alen (v := (8 : Int32)) hx hb hKK.1 hP 1 3 rfl (ty := .object "SlideLand$Stand") rfl (show Int32.ofNat 8 = (8 : Int32) from by decide) dX3_dropLowest_17 ?_
  refine lv_icmp_ge (tgt := 41) hx hb dX3_dropLowest_18 (by decide) (fun k => absurd k (by decide)) (fun _ => ?_)
  refine lv_aload_n hx hb dX3_dropLowest_21 rfl (lv_at hl 2 rfl) ?_
  refine va_get (D := (dC, dI)) (ci := 3) (v := .ref (g0 0)) (C := RX3) (T := TX3) (N := 2) hx hb hts hiX3 hown hKK.1 hP 0 rfl rfl 0 (by decide) (hts (.fieldLink RX3 9 "SlideLand$Pile" "stands" "[LSlideLand$Stand;") (List.mem_of_getElem? (i := 1) rfl)) (fun _ h9 => h9) rfl dX3_dropLowest_22 ?_
  refine lv_iload_n hx hb dX3_dropLowest_25 rfl (lv_at hl 0 rfl) ?_
  refine lv_iconst (v := (1 : Int32)) hx hb dX3_dropLowest_26 (by decide) ?_
  refine lv_isub hx hb dX3_dropLowest_27 ?_
  refine lv_topE (show (7 : Int32) - (1 : Int32) = (6 : Int32) from by decide) ?_
  refine lv_aload_n hx hb dX3_dropLowest_28 rfl (lv_at hl 2 rfl) ?_
  refine va_get (D := (dC, dI)) (ci := 3) (v := .ref (g0 0)) (C := RX3) (T := TX3) (N := 2) hx hb hts hiX3 hown hKK.1 hP 0 rfl rfl 0 (by decide) (hts (.fieldLink RX3 9 "SlideLand$Pile" "stands" "[LSlideLand$Stand;") (List.mem_of_getElem? (i := 1) rfl)) (fun _ h9 => h9) rfl dX3_dropLowest_29 ?_
  refine lv_iload_n hx hb dX3_dropLowest_32 rfl (lv_at hl 0 rfl) ?_
  refine va_aldq (f := fun j => some (ad ((va_up (va_up (va_up (va_up (va_up (va_up pf 0 (pf 1)) 1 (pf 2)) 2 (pf 3)) 3 (pf 4)) 4 (pf 5)) 5 (pf 6)) j))) hx hb hKK.1 hP 1 3 rfl rfl (show ¬ ((7 : Int32) < 0 ∨ 8 ≤ (7 : Int32).toNatClampNeg) from by decide) dX3_dropLowest_33 ?_
  refine W.eq (g2 := F0 m 34 ls [.ref (ad (pf 7)), .int (6 : Int32), .ref (g0 0)]) rfl ?_
  refine va_astq (f := fun j => some (ad ((va_up (va_up (va_up (va_up (va_up (va_up pf 0 (pf 1)) 1 (pf 2)) 2 (pf 3)) 3 (pf 4)) 4 (pf 5)) 5 (pf 6)) j))) hx hb hKK.1 hP hD hS 1 3 (2 + 3 * pf 7) 5 rfl rfl (pl8_get (pf 7) (hpf 7 (by decide))) rfl (show ¬ ((6 : Int32) < 0 ∨ 8 ≤ (6 : Int32).toNatClampNeg) from by decide) dX3_dropLowest_34 (fun H locs hP hD hS => ?_)
  rw [show va_up (fun j => some (ad ((va_up (va_up (va_up (va_up (va_up (va_up pf 0 (pf 1)) 1 (pf 2)) 2 (pf 3)) 3 (pf 4)) 4 (pf 5)) 5 (pf 6)) j))) (6 : Int32).toNatClampNeg (some (ad (pf 7))) = fun j => some (ad ((va_up (va_up (va_up (va_up (va_up (va_up (va_up pf 0 (pf 1)) 1 (pf 2)) 2 (pf 3)) 3 (pf 4)) 4 (pf 5)) 5 (pf 6)) 6 (pf 7)) j)) from up_some ad (va_up (va_up (va_up (va_up (va_up (va_up pf 0 (pf 1)) 1 (pf 2)) 2 (pf 3)) 3 (pf 4)) 4 (pf 5)) 5 (pf 6)) 6 (pf 7)] at hP hD
  have hP : va_P (dC, dI) vwCl [cX3 a0 g0 o0, cPa cO g0 8 ad (va_up (va_up (va_up (va_up (va_up (va_up (va_up pf 0 (pf 1)) 1 (pf 2)) 2 (pf 3)) 3 (pf 4)) 4 (pf 5)) 5 (pf 6)) 6 (pf 7)), cX5 (ad 0) (h 0) (st 0), cX5_5 cI (h 0) (st 0), cX5_6 cI (h 0) (st 0), cX5 (ad 1) (h 1) (st 1), cX5_5 cI (h 1) (st 1), cX5_6 cI (h 1) (st 1), cX5 (ad 2) (h 2) (st 2), cX5_5 cI (h 2) (st 2), cX5_6 cI (h 2) (st 2), cX5 (ad 3) (h 3) (st 3), cX5_5 cI (h 3) (st 3), cX5_6 cI (h 3) (st 3), cX5 (ad 4) (h 4) (st 4), cX5_5 cI (h 4) (st 4), cX5_6 cI (h 4) (st 4), cX5 (ad 5) (h 5) (st 5), cX5_5 cI (h 5) (st 5), cX5_6 cI (h 5) (st 5), cX5 (ad 6) (h 6) (st 6), cX5_5 cI (h 6) (st 6), cX5_6 cI (h 6) (st 6), cX5 (ad 7) (h 7) (st 7), cX5_5 cI (h 7) (st 7), cX5_6 cI (h 7) (st 7)] H := hP
  have hD : va_D A [cX3 a0 g0 o0, cPa cO g0 8 ad (va_up (va_up (va_up (va_up (va_up (va_up (va_up pf 0 (pf 1)) 1 (pf 2)) 2 (pf 3)) 3 (pf 4)) 4 (pf 5)) 5 (pf 6)) 6 (pf 7)), cX5 (ad 0) (h 0) (st 0), cX5_5 cI (h 0) (st 0), cX5_6 cI (h 0) (st 0), cX5 (ad 1) (h 1) (st 1), cX5_5 cI (h 1) (st 1), cX5_6 cI (h 1) (st 1), cX5 (ad 2) (h 2) (st 2), cX5_5 cI (h 2) (st 2), cX5_6 cI (h 2) (st 2), cX5 (ad 3) (h 3) (st 3), cX5_5 cI (h 3) (st 3), cX5_6 cI (h 3) (st 3), cX5 (ad 4) (h 4) (st 4), cX5_5 cI (h 4) (st 4), cX5_6 cI (h 4) (st 4), cX5 (ad 5) (h 5) (st 5), cX5_5 cI (h 5) (st 5), cX5_6 cI (h 5) (st 5), cX5 (ad 6) (h 6) (st 6), cX5_5 cI (h 6) (st 6), cX5_6 cI (h 6) (st 6), cX5 (ad 7) (h 7) (st 7), cX5_5 cI (h 7) (st 7), cX5_6 cI (h 7) (st 7)] := hD
  refine lv_iinc (v := (8 : Int32)) (lv' := [(2, .int (8 : Int32)), (1, .ref (ad (pf 0))), (0, .ref a0)]) hx hb dX3_dropLowest_35 hl (k := 0) rfl (by decide) (by decide) rfl (fun ls hl => ?_)
  refine lv_goto (tgt := 12) hx hb dX3_dropLowest_38 (by decide) ?_
  refine lv_iload_n hx hb dX3_dropLowest_12 rfl (lv_at hl 0 rfl) ?_
  refine lv_aload_n hx hb dX3_dropLowest_13 rfl (lv_at hl 2 rfl) ?_
  refine va_get (D := (dC, dI)) (ci := 3) (v := .ref (g0 0)) (C := RX3) (T := TX3) (N := 2) hx hb hts hiX3 hown hKK.1 hP 0 rfl rfl 0 (by decide) (hts (.fieldLink RX3 9 "SlideLand$Pile" "stands" "[LSlideLand$Stand;") (List.mem_of_getElem? (i := 1) rfl)) (fun _ h9 => h9) rfl dX3_dropLowest_14 ?_
  refine va_alen (v := (8 : Int32)) hx hb hKK.1 hP 1 3 rfl (ty := .object "SlideLand$Stand") rfl (show Int32.ofNat 8 = (8 : Int32) from by decide) dX3_dropLowest_17 ?_
  refine lv_icmp_ge (tgt := 41) hx hb dX3_dropLowest_18 (by decide) (fun _ => ?_) (fun k => absurd (show (8 : Int32) ≤ (8 : Int32) from by decide) k)
  refine lv_aload_n hx hb dX3_dropLowest_41 rfl (lv_at hl 2 rfl) ?_
  refine va_get (D := (dC, dI)) (ci := 3) (v := .ref (g0 0)) (C := RX3) (T := TX3) (N := 2) hx hb hts hiX3 hown hKK.1 hP 0 rfl rfl 0 (by decide) (hts (.fieldLink RX3 9 "SlideLand$Pile" "stands" "[LSlideLand$Stand;") (List.mem_of_getElem? (i := 1) rfl)) (fun _ h9 => h9) rfl dX3_dropLowest_42 ?_
  refine lv_aload_n hx hb dX3_dropLowest_45 rfl (lv_at hl 2 rfl) ?_
  refine va_get (D := (dC, dI)) (ci := 3) (v := .ref (g0 0)) (C := RX3) (T := TX3) (N := 2) hx hb hts hiX3 hown hKK.1 hP 0 rfl rfl 0 (by decide) (hts (.fieldLink RX3 9 "SlideLand$Pile" "stands" "[LSlideLand$Stand;") (List.mem_of_getElem? (i := 1) rfl)) (fun _ h9 => h9) rfl dX3_dropLowest_46 ?_
  refine va_alen (v := (8 : Int32)) hx hb hKK.1 hP 1 3 rfl (ty := .object "SlideLand$Stand") rfl (show Int32.ofNat 8 = (8 : Int32) from by decide) dX3_dropLowest_49 ?_
  refine lv_iconst (v := (1 : Int32)) hx hb dX3_dropLowest_50 (by decide) ?_
  refine lv_isub hx hb dX3_dropLowest_51 ?_
  refine lv_topE (show (8 : Int32) - (1 : Int32) = (7 : Int32) from by decide) ?_
  refine lv_aload_n hx hb dX3_dropLowest_52 rfl (lv_at hl 1 rfl) ?_
  refine va_astq (f := fun j => some (ad ((va_up (va_up (va_up (va_up (va_up (va_up (va_up pf 0 (pf 1)) 1 (pf 2)) 2 (pf 3)) 3 (pf 4)) 4 (pf 5)) 5 (pf 6)) 6 (pf 7)) j))) hx hb hKK.1 hP hD hS 1 3 (2 + 3 * pf 0) 5 rfl rfl (pl8_get (pf 0) (hpf 0 (by decide))) rfl (show ¬ ((7 : Int32) < 0 ∨ 8 ≤ (7 : Int32).toNatClampNeg) from by decide) dX3_dropLowest_53 (fun H locs hP hD hS => ?_)
  rw [show va_up (fun j => some (ad ((va_up (va_up (va_up (va_up (va_up (va_up (va_up pf 0 (pf 1)) 1 (pf 2)) 2 (pf 3)) 3 (pf 4)) 4 (pf 5)) 5 (pf 6)) 6 (pf 7)) j))) (7 : Int32).toNatClampNeg (some (ad (pf 0))) = fun j => some (ad (rot8 pf j)) from up_some ad (va_up (va_up (va_up (va_up (va_up (va_up (va_up pf 0 (pf 1)) 1 (pf 2)) 2 (pf 3)) 3 (pf 4)) 4 (pf 5)) 5 (pf 6)) 6 (pf 7)) 7 (pf 0)] at hP hD
  have hP : va_P (dC, dI) vwCl [cX3 a0 g0 o0, cPa cO g0 8 ad (rot8 pf), cX5 (ad 0) (h 0) (st 0), cX5_5 cI (h 0) (st 0), cX5_6 cI (h 0) (st 0), cX5 (ad 1) (h 1) (st 1), cX5_5 cI (h 1) (st 1), cX5_6 cI (h 1) (st 1), cX5 (ad 2) (h 2) (st 2), cX5_5 cI (h 2) (st 2), cX5_6 cI (h 2) (st 2), cX5 (ad 3) (h 3) (st 3), cX5_5 cI (h 3) (st 3), cX5_6 cI (h 3) (st 3), cX5 (ad 4) (h 4) (st 4), cX5_5 cI (h 4) (st 4), cX5_6 cI (h 4) (st 4), cX5 (ad 5) (h 5) (st 5), cX5_5 cI (h 5) (st 5), cX5_6 cI (h 5) (st 5), cX5 (ad 6) (h 6) (st 6), cX5_5 cI (h 6) (st 6), cX5_6 cI (h 6) (st 6), cX5 (ad 7) (h 7) (st 7), cX5_5 cI (h 7) (st 7), cX5_6 cI (h 7) (st 7)] H := hP
  have hD : va_D A [cX3 a0 g0 o0, cPa cO g0 8 ad (rot8 pf), cX5 (ad 0) (h 0) (st 0), cX5_5 cI (h 0) (st 0), cX5_6 cI (h 0) (st 0), cX5 (ad 1) (h 1) (st 1), cX5_5 cI (h 1) (st 1), cX5_6 cI (h 1) (st 1), cX5 (ad 2) (h 2) (st 2), cX5_5 cI (h 2) (st 2), cX5_6 cI (h 2) (st 2), cX5 (ad 3) (h 3) (st 3), cX5_5 cI (h 3) (st 3), cX5_6 cI (h 3) (st 3), cX5 (ad 4) (h 4) (st 4), cX5_5 cI (h 4) (st 4), cX5_6 cI (h 4) (st 4), cX5 (ad 5) (h 5) (st 5), cX5_5 cI (h 5) (st 5), cX5_6 cI (h 5) (st 5), cX5 (ad 6) (h 6) (st 6), cX5_5 cI (h 6) (st 6), cX5_6 cI (h 6) (st 6), cX5 (ad 7) (h 7) (st 7), cX5_5 cI (h 7) (st 7), cX5_6 cI (h 7) (st 7)] := hD
  refine lv_aload_n hx hb dX3_dropLowest_54 rfl (lv_at hl 2 rfl) ?_
  refine lv_dup hx hb dX3_dropLowest_55 rfl ?_
  refine va_get (D := (dC, dI)) (ci := 3) (v := .int (o0.1 1)) (C := RX3) (T := TX3) (N := 2) hx hb hts hiX3 hown hKK.1 hP 0 rfl rfl 1 (by decide) (hts (.fieldLink RX3 16 "SlideLand$Pile" "size" "I") (List.mem_of_getElem? (i := 2) rfl)) (fun _ h9 => h9) rfl dX3_dropLowest_56 ?_
  refine lv_iconst (v := (1 : Int32)) hx hb dX3_dropLowest_59 (by decide) ?_
  refine lv_isub hx hb dX3_dropLowest_60 ?_
  refine lv_topE hx1 ?_
  refine va_put (D := (dC, dI)) (ci := 3) (v := .int x) (ty := .int) (C := RX3) (T := TX3) (N := 2) hx hb hts hiX3 tyX3 tyX3_ok nmX3 hown hKK.1 hP hD hS 0 rfl rfl 1 (by decide) (hts (.fieldLink RX3 16 "SlideLand$Pile" "size" "I") (List.mem_of_getElem? (i := 2) rfl)) (fun _ h9 => h9) rfl (by decide +kernel) rfl rfl (Nat.le_of_ble_eq_true rfl) dX3_dropLowest_61 (fun H locs hP hD hS => ?_)
  have hP : va_P (dC, dI) vwCl [cX3 a0 g0 (stF o0 1 x), cPa cO g0 8 ad (rot8 pf), cX5 (ad 0) (h 0) (st 0), cX5_5 cI (h 0) (st 0), cX5_6 cI (h 0) (st 0), cX5 (ad 1) (h 1) (st 1), cX5_5 cI (h 1) (st 1), cX5_6 cI (h 1) (st 1), cX5 (ad 2) (h 2) (st 2), cX5_5 cI (h 2) (st 2), cX5_6 cI (h 2) (st 2), cX5 (ad 3) (h 3) (st 3), cX5_5 cI (h 3) (st 3), cX5_6 cI (h 3) (st 3), cX5 (ad 4) (h 4) (st 4), cX5_5 cI (h 4) (st 4), cX5_6 cI (h 4) (st 4), cX5 (ad 5) (h 5) (st 5), cX5_5 cI (h 5) (st 5), cX5_6 cI (h 5) (st 5), cX5 (ad 6) (h 6) (st 6), cX5_5 cI (h 6) (st 6), cX5_6 cI (h 6) (st 6), cX5 (ad 7) (h 7) (st 7), cX5_5 cI (h 7) (st 7), cX5_6 cI (h 7) (st 7)] H := hP
  have hD : va_D A [cX3 a0 g0 (stF o0 1 x), cPa cO g0 8 ad (rot8 pf), cX5 (ad 0) (h 0) (st 0), cX5_5 cI (h 0) (st 0), cX5_6 cI (h 0) (st 0), cX5 (ad 1) (h 1) (st 1), cX5_5 cI (h 1) (st 1), cX5_6 cI (h 1) (st 1), cX5 (ad 2) (h 2) (st 2), cX5_5 cI (h 2) (st 2), cX5_6 cI (h 2) (st 2), cX5 (ad 3) (h 3) (st 3), cX5_5 cI (h 3) (st 3), cX5_6 cI (h 3) (st 3), cX5 (ad 4) (h 4) (st 4), cX5_5 cI (h 4) (st 4), cX5_6 cI (h 4) (st 4), cX5 (ad 5) (h 5) (st 5), cX5_5 cI (h 5) (st 5), cX5_6 cI (h 5) (st 5), cX5 (ad 6) (h 6) (st 6), cX5_5 cI (h 6) (st 6), cX5_6 cI (h 6) (st 6), cX5 (ad 7) (h 7) (st 7), cX5_5 cI (h 7) (st 7), cX5_6 cI (h 7) (st 7)] := hD
  exact W.vret hx hb hr (fun t ht hW => ⟨⟨rfl, by rw [ht]; exact hP, hD⟩, hS.F ht⟩) hS.2.2 dX3_dropLowest_64
set_option maxHeartbeats 4000000 in
set_option maxRecDepth 100000 in
theorem c_X3_put_8 (l : Launch) (dC : Nat → ClassId) (dI : Nat → Nat → Nat) (cB cI cZ cO : ClassId) (a0 : Nat) (g0 : Nat → Nat) (o0 : Ob) (ad pf : Nat → Nat) (h : Nat → Nat → Nat) (st : Nat → Ob) (a1 : Nat) (g1 : Nat → Nat) (o1 : Ob) (n n1 : Nat) (pf1 : Nat → Nat) (hpf : ∀ j, j < 8 → pf j < 8) (hsz0 : o0.1 1 = nI n) (hcase : (n < 8 ∧ pf1 = pf ∧ n1 = n) ∨ (n = 8 ∧ pf1 = rot8 pf ∧ n1 = 7)) {o : Ob} (hcp : f_X5_copy (st (pf1 n1)) o1 = some o) : Ct dC dI cB cI cZ cO l yX3_put wsX3_put rmX3_put [.ref a0, .ref a1] [cX5 a1 g1 o1, cX5_5 cI g1 o1, cX5_6 cI g1 o1, cX3 a0 g0 o0, cPa cO g0 8 ad pf, cX5 (ad 0) (h 0) (st 0), cX5_5 cI (h 0) (st 0), cX5_6 cI (h 0) (st 0), cX5 (ad 1) (h 1) (st 1), cX5_5 cI (h 1) (st 1), cX5_6 cI (h 1) (st 1), cX5 (ad 2) (h 2) (st 2), cX5_5 cI (h 2) (st 2), cX5_6 cI (h 2) (st 2), cX5 (ad 3) (h 3) (st 3), cX5_5 cI (h 3) (st 3), cX5_6 cI (h 3) (st 3), cX5 (ad 4) (h 4) (st 4), cX5_5 cI (h 4) (st 4), cX5_6 cI (h 4) (st 4), cX5 (ad 5) (h 5) (st 5), cX5_5 cI (h 5) (st 5), cX5_6 cI (h 5) (st 5), cX5 (ad 6) (h 6) (st 6), cX5_5 cI (h 6) (st 6), cX5_6 cI (h 6) (st 6), cX5 (ad 7) (h 7) (st 7), cX5_5 cI (h 7) (st 7), cX5_6 cI (h 7) (st 7)] none [cX5 a1 g1 o1, cX5_5 cI g1 o1, cX5_6 cI g1 o1, cX3 a0 g0 (stF o0 1 (nI (n1 + 1))), cPa cO g0 8 ad pf1, cX5 (ad 0) (h 0) ((stU st (pf1 n1) o) 0), cX5_5 cI (h 0) ((stU st (pf1 n1) o) 0), cX5_6 cI (h 0) ((stU st (pf1 n1) o) 0), cX5 (ad 1) (h 1) ((stU st (pf1 n1) o) 1), cX5_5 cI (h 1) ((stU st (pf1 n1) o) 1), cX5_6 cI (h 1) ((stU st (pf1 n1) o) 1), cX5 (ad 2) (h 2) ((stU st (pf1 n1) o) 2), cX5_5 cI (h 2) ((stU st (pf1 n1) o) 2), cX5_6 cI (h 2) ((stU st (pf1 n1) o) 2), cX5 (ad 3) (h 3) ((stU st (pf1 n1) o) 3), cX5_5 cI (h 3) ((stU st (pf1 n1) o) 3), cX5_6 cI (h 3) ((stU st (pf1 n1) o) 3), cX5 (ad 4) (h 4) ((stU st (pf1 n1) o) 4), cX5_5 cI (h 4) ((stU st (pf1 n1) o) 4), cX5_6 cI (h 4) ((stU st (pf1 n1) o) 4), cX5 (ad 5) (h 5) ((stU st (pf1 n1) o) 5), cX5_5 cI (h 5) ((stU st (pf1 n1) o) 5), cX5_6 cI (h 5) ((stU st (pf1 n1) o) 5), cX5 (ad 6) (h 6) ((stU st (pf1 n1) o) 6), cX5_5 cI (h 6) ((stU st (pf1 n1) o) 6), cX5_6 cI (h 6) ((stU st (pf1 n1) o) 6), cX5 (ad 7) (h 7) ((stU st (pf1 n1) o) 7), cX5_5 cI (h 7) ((stU st (pf1 n1) o) 7), cX5_6 cI (h 7) ((stU st (pf1 n1) o) 7)] := by
  intro sz
  refine Met.ofW (cc := cX3_put) (maxL := 3) (ret := none) (by decide) rfl ?_
  intro p e s m args below meth c s₁ B hml hv
  obtain ⟨rfl, hsz, hP, hKK, hD0⟩ := hv
  have hx := B.exec
  have hb := B.bytes
  have hr := B.returns
  have hts := atoms_spec (ws := wsX3_put) B.pre
  have hown : s.vm.findClass RX3 = some m.cls := findClass_of_methodNamed B.named
  have hlocks := B.notSynchronized
  have hiX3 : ∀ w ∈ u_ws RX3 TX3 2, w ∈ wsX3_put := fun w h => List.mem_cons_of_mem _ (List.mem_append_left _ (List.mem_append_right _ h))
  have hiX5 : ∀ w ∈ u_ws RX5 TX5 7, w ∈ wsX3_put := fun w h => List.mem_cons_of_mem _ (List.mem_append_right _ h)
  subst hsz
  have hD := hD0.self (sz := s.heap.size)
  generalize hAe : va_A [cX5 a1 g1 o1, cX5_5 cI g1 o1, cX5_6 cI g1 o1, cX3 a0 g0 o0, cPa cO g0 8 ad pf, cX5 (ad 0) (h 0) (st 0), cX5_5 cI (h 0) (st 0), cX5_6 cI (h 0) (st 0), cX5 (ad 1) (h 1) (st 1), cX5_5 cI (h 1) (st 1), cX5_6 cI (h 1) (st 1), cX5 (ad 2) (h 2) (st 2), cX5_5 cI (h 2) (st 2), cX5_6 cI (h 2) (st 2), cX5 (ad 3) (h 3) (st 3), cX5_5 cI (h 3) (st 3), cX5_6 cI (h 3) (st 3), cX5 (ad 4) (h 4) (st 4), cX5_5 cI (h 4) (st 4), cX5_6 cI (h 4) (st 4), cX5 (ad 5) (h 5) (st 5), cX5_5 cI (h 5) (st 5), cX5_6 cI (h 5) (st 5), cX5 (ad 6) (h 6) (st 6), cX5_5 cI (h 6) (st 6), cX5_6 cI (h 6) (st 6), cX5 (ad 7) (h 7) (st 7), cX5_5 cI (h 7) (st 7), cX5_6 cI (h 7) (st 7)] s.heap.size = A at hD ⊢
  have hA : ∀ q : Nat, s.heap.size ≤ q → A q := fun q h => by rw [← hAe]; exact Or.inr h
  have hS : va_S A s.heap s.heap [] := va_S.rf
  have hP : va_P (dC, dI) vwCl [cX5 a1 g1 o1, cX5_5 cI g1 o1, cX5_6 cI g1 o1, cX3 a0 g0 o0, cPa cO g0 8 ad pf, cX5 (ad 0) (h 0) (st 0), cX5_5 cI (h 0) (st 0), cX5_6 cI (h 0) (st 0), cX5 (ad 1) (h 1) (st 1), cX5_5 cI (h 1) (st 1), cX5_6 cI (h 1) (st 1), cX5 (ad 2) (h 2) (st 2), cX5_5 cI (h 2) (st 2), cX5_6 cI (h 2) (st 2), cX5 (ad 3) (h 3) (st 3), cX5_5 cI (h 3) (st 3), cX5_6 cI (h 3) (st 3), cX5 (ad 4) (h 4) (st 4), cX5_5 cI (h 4) (st 4), cX5_6 cI (h 4) (st 4), cX5 (ad 5) (h 5) (st 5), cX5_5 cI (h 5) (st 5), cX5_6 cI (h 5) (st 5), cX5 (ad 6) (h 6) (st 6), cX5_5 cI (h 6) (st 6), cX5_6 cI (h 6) (st 6), cX5 (ad 7) (h 7) (st 7), cX5_5 cI (h 7) (st 7), cX5_6 cI (h 7) (st 7)] s.heap := hP
  have hl := lv_entry [.ref a0, .ref a1] (n := 3) (Nat.le_of_ble_eq_true rfl)
  rw [lg_entry_eq]
  generalize (lg_sl [.ref a0, .ref a1] ++ List.replicate (3 - (lg_sl [.ref a0, .ref a1]).length) Slot.unset).toArray = ls at hl ⊢
  clear hAe hD0
  have hl : lv_has ls 3 [(0, .ref a0), (1, .ref a1)] := hl
  obtain ⟨Q, hQ⟩ : ∃ Q, Q = MQ below (Qq dC dI none [cX5 a1 g1 o1, cX5_5 cI g1 o1, cX5_6 cI g1 o1, cX3 a0 g0 (stF o0 1 (nI (n1 + 1))), cPa cO g0 8 ad pf1, cX5 (ad 0) (h 0) ((stU st (pf1 n1) o) 0), cX5_5 cI (h 0) ((stU st (pf1 n1) o) 0), cX5_6 cI (h 0) ((stU st (pf1 n1) o) 0), cX5 (ad 1) (h 1) ((stU st (pf1 n1) o) 1), cX5_5 cI (h 1) ((stU st (pf1 n1) o) 1), cX5_6 cI (h 1) ((stU st (pf1 n1) o) 1), cX5 (ad 2) (h 2) ((stU st (pf1 n1) o) 2), cX5_5 cI (h 2) ((stU st (pf1 n1) o) 2), cX5_6 cI (h 2) ((stU st (pf1 n1) o) 2), cX5 (ad 3) (h 3) ((stU st (pf1 n1) o) 3), cX5_5 cI (h 3) ((stU st (pf1 n1) o) 3), cX5_6 cI (h 3) ((stU st (pf1 n1) o) 3), cX5 (ad 4) (h 4) ((stU st (pf1 n1) o) 4), cX5_5 cI (h 4) ((stU st (pf1 n1) o) 4), cX5_6 cI (h 4) ((stU st (pf1 n1) o) 4), cX5 (ad 5) (h 5) ((stU st (pf1 n1) o) 5), cX5_5 cI (h 5) ((stU st (pf1 n1) o) 5), cX5_6 cI (h 5) ((stU st (pf1 n1) o) 5), cX5 (ad 6) (h 6) ((stU st (pf1 n1) o) 6), cX5_5 cI (h 6) ((stU st (pf1 n1) o) 6), cX5_6 cI (h 6) ((stU st (pf1 n1) o) 6), cX5 (ad 7) (h 7) ((stU st (pf1 n1) o) 7), cX5_5 cI (h 7) ((stU st (pf1 n1) o) 7), cX5_6 cI (h 7) ((stU st (pf1 n1) o) 7)] A) ([.ref a0, .ref a1] : List Value).toArray s 0 0 A := ⟨_, rfl⟩
  rw [← hQ]
  have tl : ∀ (oz : Ob) (hz : oz.1 1 = nI n1) (hn1 : n1 < 8) (hk1 : pf1 n1 < 8) (H : Heap) (locs : List Loc) (hP : va_P (dC, dI) vwCl [cX5 a1 g1 o1, cX5_5 cI g1 o1, cX5_6 cI g1 o1, cX3 a0 g0 oz, cPa cO g0 8 ad pf1, cX5 (ad 0) (h 0) (st 0), cX5_5 cI (h 0) (st 0), cX5_6 cI (h 0) (st 0), cX5 (ad 1) (h 1) (st 1), cX5_5 cI (h 1) (st 1), cX5_6 cI (h 1) (st 1), cX5 (ad 2) (h 2) (st 2), cX5_5 cI (h 2) (st 2), cX5_6 cI (h 2) (st 2), cX5 (ad 3) (h 3) (st 3), cX5_5 cI (h 3) (st 3), cX5_6 cI (h 3) (st 3), cX5 (ad 4) (h 4) (st 4), cX5_5 cI (h 4) (st 4), cX5_6 cI (h 4) (st 4), cX5 (ad 5) (h 5) (st 5), cX5_5 cI (h 5) (st 5), cX5_6 cI (h 5) (st 5), cX5 (ad 6) (h 6) (st 6), cX5_5 cI (h 6) (st 6), cX5_6 cI (h 6) (st 6), cX5 (ad 7) (h 7) (st 7), cX5_5 cI (h 7) (st 7), cX5_6 cI (h 7) (st 7)] H) (hD : va_D A [cX5 a1 g1 o1, cX5_5 cI g1 o1, cX5_6 cI g1 o1, cX3 a0 g0 oz, cPa cO g0 8 ad pf1, cX5 (ad 0) (h 0) (st 0), cX5_5 cI (h 0) (st 0), cX5_6 cI (h 0) (st 0), cX5 (ad 1) (h 1) (st 1), cX5_5 cI (h 1) (st 1), cX5_6 cI (h 1) (st 1), cX5 (ad 2) (h 2) (st 2), cX5_5 cI (h 2) (st 2), cX5_6 cI (h 2) (st 2), cX5 (ad 3) (h 3) (st 3), cX5_5 cI (h 3) (st 3), cX5_6 cI (h 3) (st 3), cX5 (ad 4) (h 4) (st 4), cX5_5 cI (h 4) (st 4), cX5_6 cI (h 4) (st 4), cX5 (ad 5) (h 5) (st 5), cX5_5 cI (h 5) (st 5), cX5_6 cI (h 5) (st 5), cX5 (ad 6) (h 6) (st 6), cX5_5 cI (h 6) (st 6), cX5_6 cI (h 6) (st 6), cX5 (ad 7) (h 7) (st 7), cX5_5 cI (h 7) (st 7), cX5_6 cI (h 7) (st 7)]) (hS : va_S A s.heap H locs), W p l e (headSpec wsX3_put rmX3_put).room s m ([.ref a0, .ref a1] : List Value).toArray below meth c H locs 0 0 Q (F0 m 11 ls []) := by
    intro oz hz hn1 hk1 H locs hP hD hS
    refine lv_aload_n hx hb dX3_put_11 rfl (lv_at hl 0 rfl) ?_
    refine lv_aload_n hx hb dX3_put_12 rfl (lv_at hl 0 rfl) ?_
    refine va_get (D := (dC, dI)) (ci := 3) (v := .int (oz.1 1)) (C := RX3) (T := TX3) (N := 2) hx hb hts hiX3 hown hKK.1 hP 3 rfl rfl 1 (by decide) (hts (.fieldLink RX3 16 "SlideLand$Pile" "size" "I") (List.mem_of_getElem? (i := 1) rfl)) (fun _ h9 => h9) rfl dX3_put_13 ?_
    refine lv_topE hz ?_
    refine kcV (rest := []) (w2 := [cX5 a1 g1 o1, cX5_5 cI g1 o1, cX5_6 cI g1 o1, cX3 a0 g0 oz, cPa cO g0 8 ad pf1, cX5 (ad 0) (h 0) (st 0), cX5_5 cI (h 0) (st 0), cX5_6 cI (h 0) (st 0), cX5 (ad 1) (h 1) (st 1), cX5_5 cI (h 1) (st 1), cX5_6 cI (h 1) (st 1), cX5 (ad 2) (h 2) (st 2), cX5_5 cI (h 2) (st 2), cX5_6 cI (h 2) (st 2), cX5 (ad 3) (h 3) (st 3), cX5_5 cI (h 3) (st 3), cX5_6 cI (h 3) (st 3), cX5 (ad 4) (h 4) (st 4), cX5_5 cI (h 4) (st 4), cX5_6 cI (h 4) (st 4), cX5 (ad 5) (h 5) (st 5), cX5_5 cI (h 5) (st 5), cX5_6 cI (h 5) (st 5), cX5 (ad 6) (h 6) (st 6), cX5_5 cI (h 6) (st 6), cX5_6 cI (h 6) (st 6), cX5 (ad 7) (h 7) (st 7), cX5_5 cI (h 7) (st 7), cX5_6 cI (h 7) (st 7)]) hx hb hml hown hts hKK hP hD hS hA (c_X3_standAt_n l dC dI cB cI cZ cO a0 g0 oz 8 ad pf1 n1 hn1 (by decide)) [3, 4] (atAll_map ⟨rfl, rfl, trivial⟩) (by decide +kernel) (sameAd_map ⟨rfl, rfl, trivial⟩) (atAll_map ⟨rfl, rfl, trivial⟩) (agr_refl _ _ _) (cwV 1 hts gX3_put_X3_standAt rfl rfl rfl ⟨rfl, dsc_X3_standAt⟩ ⟨Nat.le_of_ble_eq_true rfl, Nat.le_of_ble_eq_true rfl⟩) (va_recv hKK.1 hP (ci := 3) (q0 := 3) rfl rfl) rfl hl.1 rfl (Nat.le_of_ble_eq_true rfl) dX3_put_16 ⟨Nat.zero_le _, Nat.zero_le _⟩ (fun H locs hP hD hS => ?_)
    refine lv_astore_n (lv' := [(2, .ref (ad (pf1 n1))), (0, .ref a0), (1, .ref a1)]) hx hb dX3_put_19 rfl hl (by decide) rfl (fun ls hl => ?_)
    refine lv_aload_n hx hb dX3_put_20 rfl (lv_at hl 0 rfl) ?_
    refine lv_ifnull hx hb dX3_put_21 ?_
    refine lv_aload_n hx hb dX3_put_24 rfl (lv_at hl 0 rfl) ?_
    refine lv_aload_n hx hb dX3_put_25 rfl (lv_at hl 2 rfl) ?_
    refine kcV (rest := []) (w2 := [cX5 a1 g1 o1, cX5_5 cI g1 o1, cX5_6 cI g1 o1, cX3 a0 g0 oz, cPa cO g0 8 ad pf1, cX5 (ad 0) (h 0) ((stU st (pf1 n1) o) 0), cX5_5 cI (h 0) ((stU st (pf1 n1) o) 0), cX5_6 cI (h 0) ((stU st (pf1 n1) o) 0), cX5 (ad 1) (h 1) ((stU st (pf1 n1) o) 1), cX5_5 cI (h 1) ((stU st (pf1 n1) o) 1), cX5_6 cI (h 1) ((stU st (pf1 n1) o) 1), cX5 (ad 2) (h 2) ((stU st (pf1 n1) o) 2), cX5_5 cI (h 2) ((stU st (pf1 n1) o) 2), cX5_6 cI (h 2) ((stU st (pf1 n1) o) 2), cX5 (ad 3) (h 3) ((stU st (pf1 n1) o) 3), cX5_5 cI (h 3) ((stU st (pf1 n1) o) 3), cX5_6 cI (h 3) ((stU st (pf1 n1) o) 3), cX5 (ad 4) (h 4) ((stU st (pf1 n1) o) 4), cX5_5 cI (h 4) ((stU st (pf1 n1) o) 4), cX5_6 cI (h 4) ((stU st (pf1 n1) o) 4), cX5 (ad 5) (h 5) ((stU st (pf1 n1) o) 5), cX5_5 cI (h 5) ((stU st (pf1 n1) o) 5), cX5_6 cI (h 5) ((stU st (pf1 n1) o) 5), cX5 (ad 6) (h 6) ((stU st (pf1 n1) o) 6), cX5_5 cI (h 6) ((stU st (pf1 n1) o) 6), cX5_6 cI (h 6) ((stU st (pf1 n1) o) 6), cX5 (ad 7) (h 7) ((stU st (pf1 n1) o) 7), cX5_5 cI (h 7) ((stU st (pf1 n1) o) 7), cX5_6 cI (h 7) ((stU st (pf1 n1) o) 7)]) hx hb hml hown hts hKK hP hD hS hA (c_X5_copy l dC dI cB cI cZ cO (ad (pf1 n1)) (h (pf1 n1)) (st (pf1 n1)) a1 g1 o1 hcp) [5 + 3 * pf1 n1, 5 + 3 * pf1 n1 + 1, 5 + 3 * pf1 n1 + 2, 0, 1, 2] (atAll_map (pl8_A (pf1 n1) hk1)) (nd_A (pf1 n1)) (sameAd_map ⟨rfl, rfl, rfl, rfl, rfl, rfl, trivial⟩) (atAll_map (pl8_A2 (pf1 n1) hk1)) (pl8_A3 (pf1 n1) hk1) (cwV 1 hts gX3_put_X5_copy rfl rfl rfl ⟨rfl, dsc_X5_copy⟩ ⟨Nat.le_of_ble_eq_true rfl, Nat.le_of_ble_eq_true rfl⟩) (va_recv hKK.1 hP (ci := 5) (q0 := 5 + 3 * pf1 n1) rfl (pl8_A (pf1 n1) hk1).1) rfl hl.1 rfl (Nat.le_of_ble_eq_true rfl) dX3_put_26 ⟨Nat.zero_le _, Nat.zero_le _⟩ (fun H locs hP hD hS => ?_)
    refine lv_aload_n hx hb dX3_put_29 rfl (lv_at hl 1 rfl) ?_
    refine lv_dup hx hb dX3_put_30 rfl ?_
    refine va_get (D := (dC, dI)) (ci := 3) (v := .int (oz.1 1)) (C := RX3) (T := TX3) (N := 2) hx hb hts hiX3 hown hKK.1 hP 3 rfl rfl 1 (by decide) (hts (.fieldLink RX3 16 "SlideLand$Pile" "size" "I") (List.mem_of_getElem? (i := 1) rfl)) (fun _ h9 => h9) rfl dX3_put_31 ?_
    refine lv_iconst (v := (1 : Int32)) hx hb dX3_put_34 (by decide) ?_
    refine lv_iadd hx hb dX3_put_35 ?_
    refine lv_topE (show oz.1 1 + (1 : Int32) = nI (n1 + 1) from by rw [hz]; exact nI_1 n1) ?_
    refine va_put (D := (dC, dI)) (ci := 3) (v := .int (nI (n1 + 1))) (ty := .int) (C := RX3) (T := TX3) (N := 2) hx hb hts hiX3 tyX3 tyX3_ok nmX3 hown hKK.1 hP hD hS 3 rfl rfl 1 (by decide) (hts (.fieldLink RX3 16 "SlideLand$Pile" "size" "I") (List.mem_of_getElem? (i := 1) rfl)) (fun _ h9 => h9) rfl (by decide +kernel) rfl rfl (Nat.le_of_ble_eq_true rfl) dX3_put_36 (fun H locs hP hD hS => ?_)
    have hP : va_P (dC, dI) vwCl [cX5 a1 g1 o1, cX5_5 cI g1 o1, cX5_6 cI g1 o1, cX3 a0 g0 (stF o0 1 (nI (n1 + 1))), cPa cO g0 8 ad pf1, cX5 (ad 0) (h 0) ((stU st (pf1 n1) o) 0), cX5_5 cI (h 0) ((stU st (pf1 n1) o) 0), cX5_6 cI (h 0) ((stU st (pf1 n1) o) 0), cX5 (ad 1) (h 1) ((stU st (pf1 n1) o) 1), cX5_5 cI (h 1) ((stU st (pf1 n1) o) 1), cX5_6 cI (h 1) ((stU st (pf1 n1) o) 1), cX5 (ad 2) (h 2) ((stU st (pf1 n1) o) 2), cX5_5 cI (h 2) ((stU st (pf1 n1) o) 2), cX5_6 cI (h 2) ((stU st (pf1 n1) o) 2), cX5 (ad 3) (h 3) ((stU st (pf1 n1) o) 3), cX5_5 cI (h 3) ((stU st (pf1 n1) o) 3), cX5_6 cI (h 3) ((stU st (pf1 n1) o) 3), cX5 (ad 4) (h 4) ((stU st (pf1 n1) o) 4), cX5_5 cI (h 4) ((stU st (pf1 n1) o) 4), cX5_6 cI (h 4) ((stU st (pf1 n1) o) 4), cX5 (ad 5) (h 5) ((stU st (pf1 n1) o) 5), cX5_5 cI (h 5) ((stU st (pf1 n1) o) 5), cX5_6 cI (h 5) ((stU st (pf1 n1) o) 5), cX5 (ad 6) (h 6) ((stU st (pf1 n1) o) 6), cX5_5 cI (h 6) ((stU st (pf1 n1) o) 6), cX5_6 cI (h 6) ((stU st (pf1 n1) o) 6), cX5 (ad 7) (h 7) ((stU st (pf1 n1) o) 7), cX5_5 cI (h 7) ((stU st (pf1 n1) o) 7), cX5_6 cI (h 7) ((stU st (pf1 n1) o) 7)] H := hP
    have hD : va_D A [cX5 a1 g1 o1, cX5_5 cI g1 o1, cX5_6 cI g1 o1, cX3 a0 g0 (stF o0 1 (nI (n1 + 1))), cPa cO g0 8 ad pf1, cX5 (ad 0) (h 0) ((stU st (pf1 n1) o) 0), cX5_5 cI (h 0) ((stU st (pf1 n1) o) 0), cX5_6 cI (h 0) ((stU st (pf1 n1) o) 0), cX5 (ad 1) (h 1) ((stU st (pf1 n1) o) 1), cX5_5 cI (h 1) ((stU st (pf1 n1) o) 1), cX5_6 cI (h 1) ((stU st (pf1 n1) o) 1), cX5 (ad 2) (h 2) ((stU st (pf1 n1) o) 2), cX5_5 cI (h 2) ((stU st (pf1 n1) o) 2), cX5_6 cI (h 2) ((stU st (pf1 n1) o) 2), cX5 (ad 3) (h 3) ((stU st (pf1 n1) o) 3), cX5_5 cI (h 3) ((stU st (pf1 n1) o) 3), cX5_6 cI (h 3) ((stU st (pf1 n1) o) 3), cX5 (ad 4) (h 4) ((stU st (pf1 n1) o) 4), cX5_5 cI (h 4) ((stU st (pf1 n1) o) 4), cX5_6 cI (h 4) ((stU st (pf1 n1) o) 4), cX5 (ad 5) (h 5) ((stU st (pf1 n1) o) 5), cX5_5 cI (h 5) ((stU st (pf1 n1) o) 5), cX5_6 cI (h 5) ((stU st (pf1 n1) o) 5), cX5 (ad 6) (h 6) ((stU st (pf1 n1) o) 6), cX5_5 cI (h 6) ((stU st (pf1 n1) o) 6), cX5_6 cI (h 6) ((stU st (pf1 n1) o) 6), cX5 (ad 7) (h 7) ((stU st (pf1 n1) o) 7), cX5_5 cI (h 7) ((stU st (pf1 n1) o) 7), cX5_6 cI (h 7) ((stU st (pf1 n1) o) 7)] := hD
    subst hQ
    exact W.vret hx hb hr (fun t ht hW => ⟨⟨rfl, by rw [ht]; exact hP, hD⟩, hS.F ht⟩) hS.2.2 dX3_put_39
  refine lv_aload_n hx hb dX3_put_0 rfl (lv_at hl 0 rfl) ?_
  rcases hcase with ⟨hn, rfl, rfl⟩ | ⟨rfl, rfl, rfl⟩
  · have hf : f_X3_isFull o0 8 = false := by rw [f_X3_isFull, hsz0, if_pos (show nI n1 < Int32.ofNat 8 from nI_lt hn (by decide))]
    refine kcV (rest := []) (w2 := [cX5 a1 g1 o1, cX5_5 cI g1 o1, cX5_6 cI g1 o1, cX3 a0 g0 o0, cPa cO g0 8 ad pf1, cX5 (ad 0) (h 0) (st 0), cX5_5 cI (h 0) (st 0), cX5_6 cI (h 0) (st 0), cX5 (ad 1) (h 1) (st 1), cX5_5 cI (h 1) (st 1), cX5_6 cI (h 1) (st 1), cX5 (ad 2) (h 2) (st 2), cX5_5 cI (h 2) (st 2), cX5_6 cI (h 2) (st 2), cX5 (ad 3) (h 3) (st 3), cX5_5 cI (h 3) (st 3), cX5_6 cI (h 3) (st 3), cX5 (ad 4) (h 4) (st 4), cX5_5 cI (h 4) (st 4), cX5_6 cI (h 4) (st 4), cX5 (ad 5) (h 5) (st 5), cX5_5 cI (h 5) (st 5), cX5_6 cI (h 5) (st 5), cX5 (ad 6) (h 6) (st 6), cX5_5 cI (h 6) (st 6), cX5_6 cI (h 6) (st 6), cX5 (ad 7) (h 7) (st 7), cX5_5 cI (h 7) (st 7), cX5_6 cI (h 7) (st 7)]) hx hb hml hown hts hKK hP hD hS hA (c_X3_isFull l dC dI cB cI cZ cO a0 g0 o0 8 ad pf1 (r := false) hf) [3, 4] (atAll_map ⟨rfl, rfl, trivial⟩) (by decide +kernel) (sameAd_map ⟨rfl, rfl, trivial⟩) (atAll_map ⟨rfl, rfl, trivial⟩) (agr_refl _ _ _) (cwV 0 hts gX3_put_X3_isFull rfl rfl rfl ⟨rfl, dsc_X3_isFull⟩ ⟨Nat.le_of_ble_eq_true rfl, Nat.le_of_ble_eq_true rfl⟩) (va_recv hKK.1 hP (ci := 3) (q0 := 3) rfl rfl) rfl hl.1 rfl (Nat.le_of_ble_eq_true rfl) dX3_put_1 ⟨Nat.zero_le _, Nat.zero_le _⟩ (fun H locs hP hD hS => ?_)
    refine lv_if_eq (tgt := 11) hx hb dX3_put_4 (by decide) (fun _ => ?_) (fun k => absurd rfl k)
    exact tl o0 hsz0 hn (hpf n1 hn) H locs hP hD hS
  · have hf : f_X3_isFull o0 8 = true := by rw [f_X3_isFull, hsz0, if_neg (show ¬ nI 8 < Int32.ofNat 8 from nI_nlt (Nat.le_refl _) (by decide))]
    refine kcV (rest := []) (w2 := [cX5 a1 g1 o1, cX5_5 cI g1 o1, cX5_6 cI g1 o1, cX3 a0 g0 o0, cPa cO g0 8 ad pf, cX5 (ad 0) (h 0) (st 0), cX5_5 cI (h 0) (st 0), cX5_6 cI (h 0) (st 0), cX5 (ad 1) (h 1) (st 1), cX5_5 cI (h 1) (st 1), cX5_6 cI (h 1) (st 1), cX5 (ad 2) (h 2) (st 2), cX5_5 cI (h 2) (st 2), cX5_6 cI (h 2) (st 2), cX5 (ad 3) (h 3) (st 3), cX5_5 cI (h 3) (st 3), cX5_6 cI (h 3) (st 3), cX5 (ad 4) (h 4) (st 4), cX5_5 cI (h 4) (st 4), cX5_6 cI (h 4) (st 4), cX5 (ad 5) (h 5) (st 5), cX5_5 cI (h 5) (st 5), cX5_6 cI (h 5) (st 5), cX5 (ad 6) (h 6) (st 6), cX5_5 cI (h 6) (st 6), cX5_6 cI (h 6) (st 6), cX5 (ad 7) (h 7) (st 7), cX5_5 cI (h 7) (st 7), cX5_6 cI (h 7) (st 7)]) hx hb hml hown hts hKK hP hD hS hA (c_X3_isFull l dC dI cB cI cZ cO a0 g0 o0 8 ad pf (r := true) hf) [3, 4] (atAll_map ⟨rfl, rfl, trivial⟩) (by decide +kernel) (sameAd_map ⟨rfl, rfl, trivial⟩) (atAll_map ⟨rfl, rfl, trivial⟩) (agr_refl _ _ _) (cwV 0 hts gX3_put_X3_isFull rfl rfl rfl ⟨rfl, dsc_X3_isFull⟩ ⟨Nat.le_of_ble_eq_true rfl, Nat.le_of_ble_eq_true rfl⟩) (va_recv hKK.1 hP (ci := 3) (q0 := 3) rfl rfl) rfl hl.1 rfl (Nat.le_of_ble_eq_true rfl) dX3_put_1 ⟨Nat.zero_le _, Nat.zero_le _⟩ (fun H locs hP hD hS => ?_)
    refine lv_if_eq (tgt := 11) hx hb dX3_put_4 (by decide) (fun k => absurd k (by decide)) (fun _ => ?_)
    refine lv_aload_n hx hb dX3_put_7 rfl (lv_at hl 0 rfl) ?_
    refine kcV (rest := []) (w2 := [cX5 a1 g1 o1, cX5_5 cI g1 o1, cX5_6 cI g1 o1, cX3 a0 g0 (stF o0 1 (nI 7)), cPa cO g0 8 ad (rot8 pf), cX5 (ad 0) (h 0) (st 0), cX5_5 cI (h 0) (st 0), cX5_6 cI (h 0) (st 0), cX5 (ad 1) (h 1) (st 1), cX5_5 cI (h 1) (st 1), cX5_6 cI (h 1) (st 1), cX5 (ad 2) (h 2) (st 2), cX5_5 cI (h 2) (st 2), cX5_6 cI (h 2) (st 2), cX5 (ad 3) (h 3) (st 3), cX5_5 cI (h 3) (st 3), cX5_6 cI (h 3) (st 3), cX5 (ad 4) (h 4) (st 4), cX5_5 cI (h 4) (st 4), cX5_6 cI (h 4) (st 4), cX5 (ad 5) (h 5) (st 5), cX5_5 cI (h 5) (st 5), cX5_6 cI (h 5) (st 5), cX5 (ad 6) (h 6) (st 6), cX5_5 cI (h 6) (st 6), cX5_6 cI (h 6) (st 6), cX5 (ad 7) (h 7) (st 7), cX5_5 cI (h 7) (st 7), cX5_6 cI (h 7) (st 7)]) hx hb hml hown hts hKK hP hD hS hA (c_X3_dropLowest_8 l dC dI cB cI cZ cO a0 g0 o0 ad pf h st hpf (x := nI 7) (by rw [hsz0]; decide)) [3, 4, 5, 6, 7, 8, 9, 10, 11, 12, 13, 14, 15, 16, 17, 18, 19, 20, 21, 22, 23, 24, 25, 26, 27, 28] (atAll_map ⟨rfl, rfl, rfl, rfl, rfl, rfl, rfl, rfl, rfl, rfl, rfl, rfl, rfl, rfl, rfl, rfl, rfl, rfl, rfl, rfl, rfl, rfl, rfl, rfl, rfl, rfl, trivial⟩) (by decide +kernel) (sameAd_map ⟨rfl, rfl, rfl, rfl, rfl, rfl, rfl, rfl, rfl, rfl, rfl, rfl, rfl, rfl, rfl, rfl, rfl, rfl, rfl, rfl, rfl, rfl, rfl, rfl, rfl, rfl, trivial⟩) (atAll_map ⟨rfl, rfl, rfl, rfl, rfl, rfl, rfl, rfl, rfl, rfl, rfl, rfl, rfl, rfl, rfl, rfl, rfl, rfl, rfl, rfl, rfl, rfl, rfl, rfl, rfl, rfl, trivial⟩) ⟨Or.inl rfl, Or.inl rfl, Or.inl rfl, Or.inr (by decide), Or.inr (by decide), Or.inl rfl, Or.inl rfl, Or.inl rfl, Or.inl rfl, Or.inl rfl, Or.inl rfl, Or.inl rfl, Or.inl rfl, Or.inl rfl, Or.inl rfl, Or.inl rfl, Or.inl rfl, Or.inl rfl, Or.inl rfl, Or.inl rfl, Or.inl rfl, Or.inl rfl, Or.inl rfl, Or.inl rfl, Or.inl rfl, Or.inl rfl, Or.inl rfl, Or.inl rfl, Or.inl rfl, trivial⟩ (cwV 0 hts gX3_put_X3_dropLowest rfl rfl rfl ⟨rfl, dsc_X3_dropLowest⟩ ⟨Nat.le_of_ble_eq_true rfl, Nat.le_of_ble_eq_true rfl⟩) (va_recv hKK.1 hP (ci := 3) (q0 := 3) rfl rfl) rfl hl.1 rfl (Nat.le_of_ble_eq_true rfl) dX3_put_8 ⟨Nat.zero_le _, Nat.zero_le _⟩ (fun H locs hP hD hS => ?_)
    exact tl (stF o0 1 (nI 7)) rfl (by decide) (hpf 0 (by decide)) H locs hP hD hS
set_option maxHeartbeats 4000000 in
set_option maxRecDepth 100000 in
theorem c_X3_takeInto_8_no (l : Launch) (dC : Nat → ClassId) (dI : Nat → Nat → Nat) (cB cI cZ cO : ClassId) (a0 : Nat) (g0 : Nat → Nat) (o0 : Ob) (ad pf : Nat → Nat) (h : Nat → Nat → Nat) (st : Nat → Ob) (a1 : Nat) (g1 : Nat → Nat) (o1 : Ob) (hsz0 : o0.1 1 = nI 0) : Ct dC dI cB cI cZ cO l yX3_takeInto wsX3_takeInto rmX3_takeInto [.ref a0, .ref a1] [cX5 a1 g1 o1, cX5_5 cI g1 o1, cX5_6 cI g1 o1, cX3 a0 g0 o0, cPa cO g0 8 ad pf, cX5 (ad 0) (h 0) (st 0), cX5_5 cI (h 0) (st 0), cX5_6 cI (h 0) (st 0), cX5 (ad 1) (h 1) (st 1), cX5_5 cI (h 1) (st 1), cX5_6 cI (h 1) (st 1), cX5 (ad 2) (h 2) (st 2), cX5_5 cI (h 2) (st 2), cX5_6 cI (h 2) (st 2), cX5 (ad 3) (h 3) (st 3), cX5_5 cI (h 3) (st 3), cX5_6 cI (h 3) (st 3), cX5 (ad 4) (h 4) (st 4), cX5_5 cI (h 4) (st 4), cX5_6 cI (h 4) (st 4), cX5 (ad 5) (h 5) (st 5), cX5_5 cI (h 5) (st 5), cX5_6 cI (h 5) (st 5), cX5 (ad 6) (h 6) (st 6), cX5_5 cI (h 6) (st 6), cX5_6 cI (h 6) (st 6), cX5 (ad 7) (h 7) (st 7), cX5_5 cI (h 7) (st 7), cX5_6 cI (h 7) (st 7)] (some (.int (b2i false))) [cX5 a1 g1 o1, cX5_5 cI g1 o1, cX5_6 cI g1 o1, cX3 a0 g0 o0, cPa cO g0 8 ad pf, cX5 (ad 0) (h 0) (st 0), cX5_5 cI (h 0) (st 0), cX5_6 cI (h 0) (st 0), cX5 (ad 1) (h 1) (st 1), cX5_5 cI (h 1) (st 1), cX5_6 cI (h 1) (st 1), cX5 (ad 2) (h 2) (st 2), cX5_5 cI (h 2) (st 2), cX5_6 cI (h 2) (st 2), cX5 (ad 3) (h 3) (st 3), cX5_5 cI (h 3) (st 3), cX5_6 cI (h 3) (st 3), cX5 (ad 4) (h 4) (st 4), cX5_5 cI (h 4) (st 4), cX5_6 cI (h 4) (st 4), cX5 (ad 5) (h 5) (st 5), cX5_5 cI (h 5) (st 5), cX5_6 cI (h 5) (st 5), cX5 (ad 6) (h 6) (st 6), cX5_5 cI (h 6) (st 6), cX5_6 cI (h 6) (st 6), cX5 (ad 7) (h 7) (st 7), cX5_5 cI (h 7) (st 7), cX5_6 cI (h 7) (st 7)] := by
  intro sz
  refine Met.ofW (cc := cX3_takeInto) (maxL := 3) (ret := (some .boolean)) (by decide) rfl ?_
  intro p e s m args below meth c s₁ B hml hv
  obtain ⟨rfl, hsz, hP, hKK, hD0⟩ := hv
  have hx := B.exec
  have hb := B.bytes
  have hr := B.returns
  have hts := atoms_spec (ws := wsX3_takeInto) B.pre
  have hown : s.vm.findClass RX3 = some m.cls := findClass_of_methodNamed B.named
  have hlocks := B.notSynchronized
  have hiX3 : ∀ w ∈ u_ws RX3 TX3 2, w ∈ wsX3_takeInto := fun w h => List.mem_cons_of_mem _ (List.mem_append_left _ (List.mem_append_right _ h))
  have hiX5 : ∀ w ∈ u_ws RX5 TX5 7, w ∈ wsX3_takeInto := fun w h => List.mem_cons_of_mem _ (List.mem_append_right _ h)
  subst hsz
  have hD := hD0.self (sz := s.heap.size)
  generalize hAe : va_A [cX5 a1 g1 o1, cX5_5 cI g1 o1, cX5_6 cI g1 o1, cX3 a0 g0 o0, cPa cO g0 8 ad pf, cX5 (ad 0) (h 0) (st 0), cX5_5 cI (h 0) (st 0), cX5_6 cI (h 0) (st 0), cX5 (ad 1) (h 1) (st 1), cX5_5 cI (h 1) (st 1), cX5_6 cI (h 1) (st 1), cX5 (ad 2) (h 2) (st 2), cX5_5 cI (h 2) (st 2), cX5_6 cI (h 2) (st 2), cX5 (ad 3) (h 3) (st 3), cX5_5 cI (h 3) (st 3), cX5_6 cI (h 3) (st 3), cX5 (ad 4) (h 4) (st 4), cX5_5 cI (h 4) (st 4), cX5_6 cI (h 4) (st 4), cX5 (ad 5) (h 5) (st 5), cX5_5 cI (h 5) (st 5), cX5_6 cI (h 5) (st 5), cX5 (ad 6) (h 6) (st 6), cX5_5 cI (h 6) (st 6), cX5_6 cI (h 6) (st 6), cX5 (ad 7) (h 7) (st 7), cX5_5 cI (h 7) (st 7), cX5_6 cI (h 7) (st 7)] s.heap.size = A at hD ⊢
  have hA : ∀ q : Nat, s.heap.size ≤ q → A q := fun q h => by rw [← hAe]; exact Or.inr h
  have hS : va_S A s.heap s.heap [] := va_S.rf
  have hP : va_P (dC, dI) vwCl [cX5 a1 g1 o1, cX5_5 cI g1 o1, cX5_6 cI g1 o1, cX3 a0 g0 o0, cPa cO g0 8 ad pf, cX5 (ad 0) (h 0) (st 0), cX5_5 cI (h 0) (st 0), cX5_6 cI (h 0) (st 0), cX5 (ad 1) (h 1) (st 1), cX5_5 cI (h 1) (st 1), cX5_6 cI (h 1) (st 1), cX5 (ad 2) (h 2) (st 2), cX5_5 cI (h 2) (st 2), cX5_6 cI (h 2) (st 2), cX5 (ad 3) (h 3) (st 3), cX5_5 cI (h 3) (st 3), cX5_6 cI (h 3) (st 3), cX5 (ad 4) (h 4) (st 4), cX5_5 cI (h 4) (st 4), cX5_6 cI (h 4) (st 4), cX5 (ad 5) (h 5) (st 5), cX5_5 cI (h 5) (st 5), cX5_6 cI (h 5) (st 5), cX5 (ad 6) (h 6) (st 6), cX5_5 cI (h 6) (st 6), cX5_6 cI (h 6) (st 6), cX5 (ad 7) (h 7) (st 7), cX5_5 cI (h 7) (st 7), cX5_6 cI (h 7) (st 7)] s.heap := hP
  have hl := lv_entry [.ref a0, .ref a1] (n := 3) (Nat.le_of_ble_eq_true rfl)
  rw [lg_entry_eq]
  generalize (lg_sl [.ref a0, .ref a1] ++ List.replicate (3 - (lg_sl [.ref a0, .ref a1]).length) Slot.unset).toArray = ls at hl ⊢
  clear hAe hD0
  have hl : lv_has ls 3 [(0, .ref a0), (1, .ref a1)] := hl
  refine lv_aload_n hx hb dX3_takeInto_0 rfl (lv_at hl 0 rfl) ?_
  refine lv_aload_n hx hb dX3_takeInto_1 rfl (lv_at hl 0 rfl) ?_
  refine va_get (D := (dC, dI)) (ci := 3) (v := .int (o0.1 1)) (C := RX3) (T := TX3) (N := 2) hx hb hts hiX3 hown hKK.1 hP 3 rfl rfl 1 (by decide) (hts (.fieldLink RX3 16 "SlideLand$Pile" "size" "I") (List.mem_of_getElem? (i := 1) rfl)) (fun _ h9 => h9) rfl dX3_takeInto_2 ?_
  refine lv_iconst (v := (1 : Int32)) hx hb dX3_takeInto_5 (by decide) ?_
  refine lv_isub hx hb dX3_takeInto_6 ?_
  refine lv_topE (show o0.1 1 - (1 : Int32) = (-1 : Int32) from by rw [hsz0]; decide) ?_
  refine kcV (rest := []) (w2 := [cX5 a1 g1 o1, cX5_5 cI g1 o1, cX5_6 cI g1 o1, cX3 a0 g0 o0, cPa cO g0 8 ad pf, cX5 (ad 0) (h 0) (st 0), cX5_5 cI (h 0) (st 0), cX5_6 cI (h 0) (st 0), cX5 (ad 1) (h 1) (st 1), cX5_5 cI (h 1) (st 1), cX5_6 cI (h 1) (st 1), cX5 (ad 2) (h 2) (st 2), cX5_5 cI (h 2) (st 2), cX5_6 cI (h 2) (st 2), cX5 (ad 3) (h 3) (st 3), cX5_5 cI (h 3) (st 3), cX5_6 cI (h 3) (st 3), cX5 (ad 4) (h 4) (st 4), cX5_5 cI (h 4) (st 4), cX5_6 cI (h 4) (st 4), cX5 (ad 5) (h 5) (st 5), cX5_5 cI (h 5) (st 5), cX5_6 cI (h 5) (st 5), cX5 (ad 6) (h 6) (st 6), cX5_5 cI (h 6) (st 6), cX5_6 cI (h 6) (st 6), cX5 (ad 7) (h 7) (st 7), cX5_5 cI (h 7) (st 7), cX5_6 cI (h 7) (st 7)]) hx hb hml hown hts hKK hP hD hS hA (c_X3_standAt_out l dC dI cB cI cZ cO a0 g0 o0 8 ad pf (-1 : Int32) (show ¬ ¬ ((-1 : Int32) < 0 ∨ 8 ≤ (-1 : Int32).toNatClampNeg) from by decide) (by decide)) [3, 4] (atAll_map ⟨rfl, rfl, trivial⟩) (by decide +kernel) (sameAd_map ⟨rfl, rfl, trivial⟩) (atAll_map ⟨rfl, rfl, trivial⟩) (agr_refl _ _ _) (cwV 1 hts gX3_takeInto_X3_standAt rfl rfl rfl ⟨rfl, dsc_X3_standAt⟩ ⟨Nat.le_of_ble_eq_true rfl, Nat.le_of_ble_eq_true rfl⟩) (va_recv hKK.1 hP (ci := 3) (q0 := 3) rfl rfl) rfl hl.1 rfl (Nat.le_of_ble_eq_true rfl) dX3_takeInto_7 ⟨Nat.zero_le _, Nat.zero_le _⟩ (fun H locs hP hD hS => ?_)
  refine lv_astore_nN (lv' := [(2, .null), (0, .ref a0), (1, .ref a1)]) hx hb dX3_takeInto_10 rfl hl (by decide) rfl (fun ls hl => ?_)
  refine lv_aload_nN hx hb dX3_takeInto_11 rfl (lv_at hl 0 rfl) ?_
  refine lv_ifnonnullN hx hb dX3_takeInto_12 ?_
  refine lv_iconst (v := (0 : Int32)) hx hb dX3_takeInto_15 (by decide) ?_
  exact W.zret (v := (0 : Int32)) hx hb hr rfl (fun t ht hW => ⟨⟨rfl, by rw [ht]; exact hP, hD⟩, hS.F ht⟩) hS.2.2 dX3_takeInto_16
set_option maxHeartbeats 4000000 in
set_option maxRecDepth 100000 in
theorem c_X3_takeInto_8_yes (l : Launch) (dC : Nat → ClassId) (dI : Nat → Nat → Nat) (cB cI cZ cO : ClassId) (a0 : Nat) (g0 : Nat → Nat) (o0 : Ob) (ad pf : Nat → Nat) (h : Nat → Nat → Nat) (st : Nat → Ob) (a1 : Nat) (g1 : Nat → Nat) (o1 : Ob) (n : Nat) (hpf : ∀ j, j < 8 → pf j < 8) (hn : n < 8) (hsz0 : o0.1 1 = nI (n + 1)) {o : Ob} (hcp : f_X5_copy o1 (st (pf n)) = some o) : Ct dC dI cB cI cZ cO l yX3_takeInto wsX3_takeInto rmX3_takeInto [.ref a0, .ref a1] [cX5 a1 g1 o1, cX5_5 cI g1 o1, cX5_6 cI g1 o1, cX3 a0 g0 o0, cPa cO g0 8 ad pf, cX5 (ad 0) (h 0) (st 0), cX5_5 cI (h 0) (st 0), cX5_6 cI (h 0) (st 0), cX5 (ad 1) (h 1) (st 1), cX5_5 cI (h 1) (st 1), cX5_6 cI (h 1) (st 1), cX5 (ad 2) (h 2) (st 2), cX5_5 cI (h 2) (st 2), cX5_6 cI (h 2) (st 2), cX5 (ad 3) (h 3) (st 3), cX5_5 cI (h 3) (st 3), cX5_6 cI (h 3) (st 3), cX5 (ad 4) (h 4) (st 4), cX5_5 cI (h 4) (st 4), cX5_6 cI (h 4) (st 4), cX5 (ad 5) (h 5) (st 5), cX5_5 cI (h 5) (st 5), cX5_6 cI (h 5) (st 5), cX5 (ad 6) (h 6) (st 6), cX5_5 cI (h 6) (st 6), cX5_6 cI (h 6) (st 6), cX5 (ad 7) (h 7) (st 7), cX5_5 cI (h 7) (st 7), cX5_6 cI (h 7) (st 7)] (some (.int (b2i true))) [cX5 a1 g1 o, cX5_5 cI g1 o, cX5_6 cI g1 o, cX3 a0 g0 (stF o0 1 (nI n)), cPa cO g0 8 ad pf, cX5 (ad 0) (h 0) (st 0), cX5_5 cI (h 0) (st 0), cX5_6 cI (h 0) (st 0), cX5 (ad 1) (h 1) (st 1), cX5_5 cI (h 1) (st 1), cX5_6 cI (h 1) (st 1), cX5 (ad 2) (h 2) (st 2), cX5_5 cI (h 2) (st 2), cX5_6 cI (h 2) (st 2), cX5 (ad 3) (h 3) (st 3), cX5_5 cI (h 3) (st 3), cX5_6 cI (h 3) (st 3), cX5 (ad 4) (h 4) (st 4), cX5_5 cI (h 4) (st 4), cX5_6 cI (h 4) (st 4), cX5 (ad 5) (h 5) (st 5), cX5_5 cI (h 5) (st 5), cX5_6 cI (h 5) (st 5), cX5 (ad 6) (h 6) (st 6), cX5_5 cI (h 6) (st 6), cX5_6 cI (h 6) (st 6), cX5 (ad 7) (h 7) (st 7), cX5_5 cI (h 7) (st 7), cX5_6 cI (h 7) (st 7)] := by
  intro sz
  refine Met.ofW (cc := cX3_takeInto) (maxL := 3) (ret := (some .boolean)) (by decide) rfl ?_
  intro p e s m args below meth c s₁ B hml hv
  obtain ⟨rfl, hsz, hP, hKK, hD0⟩ := hv
  have hx := B.exec
  have hb := B.bytes
  have hr := B.returns
  have hts := atoms_spec (ws := wsX3_takeInto) B.pre
  have hown : s.vm.findClass RX3 = some m.cls := findClass_of_methodNamed B.named
  have hlocks := B.notSynchronized
  have hiX3 : ∀ w ∈ u_ws RX3 TX3 2, w ∈ wsX3_takeInto := fun w h => List.mem_cons_of_mem _ (List.mem_append_left _ (List.mem_append_right _ h))
  have hiX5 : ∀ w ∈ u_ws RX5 TX5 7, w ∈ wsX3_takeInto := fun w h => List.mem_cons_of_mem _ (List.mem_append_right _ h)
  subst hsz
  have hD := hD0.self (sz := s.heap.size)
  generalize hAe : va_A [cX5 a1 g1 o1, cX5_5 cI g1 o1, cX5_6 cI g1 o1, cX3 a0 g0 o0, cPa cO g0 8 ad pf, cX5 (ad 0) (h 0) (st 0), cX5_5 cI (h 0) (st 0), cX5_6 cI (h 0) (st 0), cX5 (ad 1) (h 1) (st 1), cX5_5 cI (h 1) (st 1), cX5_6 cI (h 1) (st 1), cX5 (ad 2) (h 2) (st 2), cX5_5 cI (h 2) (st 2), cX5_6 cI (h 2) (st 2), cX5 (ad 3) (h 3) (st 3), cX5_5 cI (h 3) (st 3), cX5_6 cI (h 3) (st 3), cX5 (ad 4) (h 4) (st 4), cX5_5 cI (h 4) (st 4), cX5_6 cI (h 4) (st 4), cX5 (ad 5) (h 5) (st 5), cX5_5 cI (h 5) (st 5), cX5_6 cI (h 5) (st 5), cX5 (ad 6) (h 6) (st 6), cX5_5 cI (h 6) (st 6), cX5_6 cI (h 6) (st 6), cX5 (ad 7) (h 7) (st 7), cX5_5 cI (h 7) (st 7), cX5_6 cI (h 7) (st 7)] s.heap.size = A at hD ⊢
  have hA : ∀ q : Nat, s.heap.size ≤ q → A q := fun q h => by rw [← hAe]; exact Or.inr h
  have hS : va_S A s.heap s.heap [] := va_S.rf
  have hP : va_P (dC, dI) vwCl [cX5 a1 g1 o1, cX5_5 cI g1 o1, cX5_6 cI g1 o1, cX3 a0 g0 o0, cPa cO g0 8 ad pf, cX5 (ad 0) (h 0) (st 0), cX5_5 cI (h 0) (st 0), cX5_6 cI (h 0) (st 0), cX5 (ad 1) (h 1) (st 1), cX5_5 cI (h 1) (st 1), cX5_6 cI (h 1) (st 1), cX5 (ad 2) (h 2) (st 2), cX5_5 cI (h 2) (st 2), cX5_6 cI (h 2) (st 2), cX5 (ad 3) (h 3) (st 3), cX5_5 cI (h 3) (st 3), cX5_6 cI (h 3) (st 3), cX5 (ad 4) (h 4) (st 4), cX5_5 cI (h 4) (st 4), cX5_6 cI (h 4) (st 4), cX5 (ad 5) (h 5) (st 5), cX5_5 cI (h 5) (st 5), cX5_6 cI (h 5) (st 5), cX5 (ad 6) (h 6) (st 6), cX5_5 cI (h 6) (st 6), cX5_6 cI (h 6) (st 6), cX5 (ad 7) (h 7) (st 7), cX5_5 cI (h 7) (st 7), cX5_6 cI (h 7) (st 7)] s.heap := hP
  have hl := lv_entry [.ref a0, .ref a1] (n := 3) (Nat.le_of_ble_eq_true rfl)
  rw [lg_entry_eq]
  generalize (lg_sl [.ref a0, .ref a1] ++ List.replicate (3 - (lg_sl [.ref a0, .ref a1]).length) Slot.unset).toArray = ls at hl ⊢
  clear hAe hD0
  have hl : lv_has ls 3 [(0, .ref a0), (1, .ref a1)] := hl
  refine lv_aload_n hx hb dX3_takeInto_0 rfl (lv_at hl 0 rfl) ?_
  refine lv_aload_n hx hb dX3_takeInto_1 rfl (lv_at hl 0 rfl) ?_
  refine va_get (D := (dC, dI)) (ci := 3) (v := .int (o0.1 1)) (C := RX3) (T := TX3) (N := 2) hx hb hts hiX3 hown hKK.1 hP 3 rfl rfl 1 (by decide) (hts (.fieldLink RX3 16 "SlideLand$Pile" "size" "I") (List.mem_of_getElem? (i := 1) rfl)) (fun _ h9 => h9) rfl dX3_takeInto_2 ?_
  refine lv_iconst (v := (1 : Int32)) hx hb dX3_takeInto_5 (by decide) ?_
  refine lv_isub hx hb dX3_takeInto_6 ?_
  refine lv_topE (show o0.1 1 - (1 : Int32) = nI n from by rw [hsz0]; exact nI_pred n) ?_
  refine kcV (rest := []) (w2 := [cX5 a1 g1 o1, cX5_5 cI g1 o1, cX5_6 cI g1 o1, cX3 a0 g0 o0, cPa cO g0 8 ad pf, cX5 (ad 0) (h 0) (st 0), cX5_5 cI (h 0) (st 0), cX5_6 cI (h 0) (st 0), cX5 (ad 1) (h 1) (st 1), cX5_5 cI (h 1) (st 1), cX5_6 cI (h 1) (st 1), cX5 (ad 2) (h 2) (st 2), cX5_5 cI (h 2) (st 2), cX5_6 cI (h 2) (st 2), cX5 (ad 3) (h 3) (st 3), cX5_5 cI (h 3) (st 3), cX5_6 cI (h 3) (st 3), cX5 (ad 4) (h 4) (st 4), cX5_5 cI (h 4) (st 4), cX5_6 cI (h 4) (st 4), cX5 (ad 5) (h 5) (st 5), cX5_5 cI (h 5) (st 5), cX5_6 cI (h 5) (st 5), cX5 (ad 6) (h 6) (st 6), cX5_5 cI (h 6) (st 6), cX5_6 cI (h 6) (st 6), cX5 (ad 7) (h 7) (st 7), cX5_5 cI (h 7) (st 7), cX5_6 cI (h 7) (st 7)]) hx hb hml hown hts hKK hP hD hS hA (c_X3_standAt_n l dC dI cB cI cZ cO a0 g0 o0 8 ad pf n hn (by decide)) [3, 4] (atAll_map ⟨rfl, rfl, trivial⟩) (by decide +kernel) (sameAd_map ⟨rfl, rfl, trivial⟩) (atAll_map ⟨rfl, rfl, trivial⟩) (agr_refl _ _ _) (cwV 1 hts gX3_takeInto_X3_standAt rfl rfl rfl ⟨rfl, dsc_X3_standAt⟩ ⟨Nat.le_of_ble_eq_true rfl, Nat.le_of_ble_eq_true rfl⟩) (va_recv hKK.1 hP (ci := 3) (q0 := 3) rfl rfl) rfl hl.1 rfl (Nat.le_of_ble_eq_true rfl) dX3_takeInto_7 ⟨Nat.zero_le _, Nat.zero_le _⟩ (fun H locs hP hD hS => ?_)
  refine lv_astore_n (lv' := [(2, .ref (ad (pf n))), (0, .ref a0), (1, .ref a1)]) hx hb dX3_takeInto_10 rfl hl (by decide) rfl (fun ls hl => ?_)
  refine lv_aload_n hx hb dX3_takeInto_11 rfl (lv_at hl 0 rfl) ?_
  refine lv_ifnonnull (tgt := 17) hx hb dX3_takeInto_12 (by decide) ?_
  refine lv_aload_n hx hb dX3_takeInto_17 rfl (lv_at hl 2 rfl) ?_
  refine lv_aload_n hx hb dX3_takeInto_18 rfl (lv_at hl 0 rfl) ?_
  have hk := hpf n hn
  refine kcV (rest := []) (w2 := [cX5 a1 g1 o, cX5_5 cI g1 o, cX5_6 cI g1 o, cX3 a0 g0 o0, cPa cO g0 8 ad pf, cX5 (ad 0) (h 0) (st 0), cX5_5 cI (h 0) (st 0), cX5_6 cI (h 0) (st 0), cX5 (ad 1) (h 1) (st 1), cX5_5 cI (h 1) (st 1), cX5_6 cI (h 1) (st 1), cX5 (ad 2) (h 2) (st 2), cX5_5 cI (h 2) (st 2), cX5_6 cI (h 2) (st 2), cX5 (ad 3) (h 3) (st 3), cX5_5 cI (h 3) (st 3), cX5_6 cI (h 3) (st 3), cX5 (ad 4) (h 4) (st 4), cX5_5 cI (h 4) (st 4), cX5_6 cI (h 4) (st 4), cX5 (ad 5) (h 5) (st 5), cX5_5 cI (h 5) (st 5), cX5_6 cI (h 5) (st 5), cX5 (ad 6) (h 6) (st 6), cX5_5 cI (h 6) (st 6), cX5_6 cI (h 6) (st 6), cX5 (ad 7) (h 7) (st 7), cX5_5 cI (h 7) (st 7), cX5_6 cI (h 7) (st 7)]) hx hb hml hown hts hKK hP hD hS hA (c_X5_copy l dC dI cB cI cZ cO a1 g1 o1 (ad (pf n)) (h (pf n)) (st (pf n)) hcp) [0, 1, 2, 5 + 3 * pf n, 5 + 3 * pf n + 1, 5 + 3 * pf n + 2] (atAll_map (pl8_B (o := o1) (pf n) hk)) (nd_B (pf n)) (sameAd_map ⟨rfl, rfl, rfl, rfl, rfl, rfl, trivial⟩) (atAll_map (pl8_B (pf n) hk)) (pl8_B3 (pf n)) (cwV 1 hts gX3_takeInto_X5_copy rfl rfl rfl ⟨rfl, dsc_X5_copy⟩ ⟨Nat.le_of_ble_eq_true rfl, Nat.le_of_ble_eq_true rfl⟩) (va_recv hKK.1 hP (ci := 5) (q0 := 0) rfl rfl) rfl hl.1 rfl (Nat.le_of_ble_eq_true rfl) dX3_takeInto_19 ⟨Nat.zero_le _, Nat.zero_le _⟩ (fun H locs hP hD hS => ?_)
  refine lv_aload_n hx hb dX3_takeInto_22 rfl (lv_at hl 1 rfl) ?_
  refine lv_dup hx hb dX3_takeInto_23 rfl ?_
  refine va_get (D := (dC, dI)) (ci := 3) (v := .int (o0.1 1)) (C := RX3) (T := TX3) (N := 2) hx hb hts hiX3 hown hKK.1 hP 3 rfl rfl 1 (by decide) (hts (.fieldLink RX3 16 "SlideLand$Pile" "size" "I") (List.mem_of_getElem? (i := 1) rfl)) (fun _ h9 => h9) rfl dX3_takeInto_24 ?_
  refine lv_iconst (v := (1 : Int32)) hx hb dX3_takeInto_27 (by decide) ?_
  refine lv_isub hx hb dX3_takeInto_28 ?_
  refine lv_topE (show o0.1 1 - (1 : Int32) = nI n from by rw [hsz0]; exact nI_pred n) ?_
  refine va_put (D := (dC, dI)) (ci := 3) (v := .int (nI n)) (ty := .int) (C := RX3) (T := TX3) (N := 2) hx hb hts hiX3 tyX3 tyX3_ok nmX3 hown hKK.1 hP hD hS 3 rfl rfl 1 (by decide) (hts (.fieldLink RX3 16 "SlideLand$Pile" "size" "I") (List.mem_of_getElem? (i := 1) rfl)) (fun _ h9 => h9) rfl (by decide +kernel) rfl rfl (Nat.le_of_ble_eq_true rfl) dX3_takeInto_29 (fun H locs hP hD hS => ?_)
  have hP : va_P (dC, dI) vwCl [cX5 a1 g1 o, cX5_5 cI g1 o, cX5_6 cI g1 o, cX3 a0 g0 (stF o0 1 (nI n)), cPa cO g0 8 ad pf, cX5 (ad 0) (h 0) (st 0), cX5_5 cI (h 0) (st 0), cX5_6 cI (h 0) (st 0), cX5 (ad 1) (h 1) (st 1), cX5_5 cI (h 1) (st 1), cX5_6 cI (h 1) (st 1), cX5 (ad 2) (h 2) (st 2), cX5_5 cI (h 2) (st 2), cX5_6 cI (h 2) (st 2), cX5 (ad 3) (h 3) (st 3), cX5_5 cI (h 3) (st 3), cX5_6 cI (h 3) (st 3), cX5 (ad 4) (h 4) (st 4), cX5_5 cI (h 4) (st 4), cX5_6 cI (h 4) (st 4), cX5 (ad 5) (h 5) (st 5), cX5_5 cI (h 5) (st 5), cX5_6 cI (h 5) (st 5), cX5 (ad 6) (h 6) (st 6), cX5_5 cI (h 6) (st 6), cX5_6 cI (h 6) (st 6), cX5 (ad 7) (h 7) (st 7), cX5_5 cI (h 7) (st 7), cX5_6 cI (h 7) (st 7)] H := hP
  have hD : va_D A [cX5 a1 g1 o, cX5_5 cI g1 o, cX5_6 cI g1 o, cX3 a0 g0 (stF o0 1 (nI n)), cPa cO g0 8 ad pf, cX5 (ad 0) (h 0) (st 0), cX5_5 cI (h 0) (st 0), cX5_6 cI (h 0) (st 0), cX5 (ad 1) (h 1) (st 1), cX5_5 cI (h 1) (st 1), cX5_6 cI (h 1) (st 1), cX5 (ad 2) (h 2) (st 2), cX5_5 cI (h 2) (st 2), cX5_6 cI (h 2) (st 2), cX5 (ad 3) (h 3) (st 3), cX5_5 cI (h 3) (st 3), cX5_6 cI (h 3) (st 3), cX5 (ad 4) (h 4) (st 4), cX5_5 cI (h 4) (st 4), cX5_6 cI (h 4) (st 4), cX5 (ad 5) (h 5) (st 5), cX5_5 cI (h 5) (st 5), cX5_6 cI (h 5) (st 5), cX5 (ad 6) (h 6) (st 6), cX5_5 cI (h 6) (st 6), cX5_6 cI (h 6) (st 6), cX5 (ad 7) (h 7) (st 7), cX5_5 cI (h 7) (st 7), cX5_6 cI (h 7) (st 7)] := hD
  refine lv_iconst (v := (1 : Int32)) hx hb dX3_takeInto_32 (by decide) ?_
  exact W.zret (v := (1 : Int32)) hx hb hr rfl (fun t ht hW => ⟨⟨rfl, by rw [ht]; exact hP, hD⟩, hS.F ht⟩) hS.2.2 dX3_takeInto_33
def rot2 (pf : Nat → Nat) : Nat → Nat := (va_up (va_up pf 0 (pf 1)) 1 (pf 0))
set_option maxHeartbeats 4000000 in
set_option maxRecDepth 100000 in
theorem c_X3_dropLowest_2 (l : Launch) (dC : Nat → ClassId) (dI : Nat → Nat → Nat) (cB cI cZ cO : ClassId) (a0 : Nat) (g0 : Nat → Nat) (o0 : Ob) (ad pf : Nat → Nat) (h : Nat → Nat → Nat) (st : Nat → Ob) (hpf : ∀ j, j < 2 → pf j < 2) {x : Int32} (hx1 : o0.1 1 - (1 : Int32) = x) : Ct dC dI cB cI cZ cO l yX3_dropLowest wsX3_dropLowest rmX3_dropLowest [.ref a0] [cX3 a0 g0 o0, cPa cO g0 2 ad pf, cX5 (ad 0) (h 0) (st 0), cX5_5 cI (h 0) (st 0), cX5_6 cI (h 0) (st 0), cX5 (ad 1) (h 1) (st 1), cX5_5 cI (h 1) (st 1), cX5_6 cI (h 1) (st 1)] none [cX3 a0 g0 (stF o0 1 x), cPa cO g0 2 ad (rot2 pf), cX5 (ad 0) (h 0) (st 0), cX5_5 cI (h 0) (st 0), cX5_6 cI (h 0) (st 0), cX5 (ad 1) (h 1) (st 1), cX5_5 cI (h 1) (st 1), cX5_6 cI (h 1) (st 1)] := by
  intro sz
  refine Met.ofW (cc := cX3_dropLowest) (maxL := 3) (ret := none) (by decide) rfl ?_
  intro p e s m args below meth c s₁ B hml hv
  obtain ⟨rfl, hsz, hP, hKK, hD0⟩ := hv
  have hx := B.exec
  have hb := B.bytes
  have hr := B.returns
  have hts := atoms_spec (ws := wsX3_dropLowest) B.pre
  have hown : s.vm.findClass RX3 = some m.cls := findClass_of_methodNamed B.named
  have hlocks := B.notSynchronized
  have hiX3 : ∀ w ∈ u_ws RX3 TX3 2, w ∈ wsX3_dropLowest := fun w h => List.mem_cons_of_mem _ (List.mem_append_right _ h)
  subst hsz
  have hD := hD0.self (sz := s.heap.size)
  generalize hAe : va_A [cX3 a0 g0 o0, cPa cO g0 2 ad pf, cX5 (ad 0) (h 0) (st 0), cX5_5 cI (h 0) (st 0), cX5_6 cI (h 0) (st 0), cX5 (ad 1) (h 1) (st 1), cX5_5 cI (h 1) (st 1), cX5_6 cI (h 1) (st 1)] s.heap.size = A at hD ⊢
  have hA : ∀ q : Nat, s.heap.size ≤ q → A q := fun q h => by rw [← hAe]; exact Or.inr h
  have hS : va_S A s.heap s.heap [] := va_S.rf
  have hP : va_P (dC, dI) vwCl [cX3 a0 g0 o0, cPa cO g0 2 ad pf, cX5 (ad 0) (h 0) (st 0), cX5_5 cI (h 0) (st 0), cX5_6 cI (h 0) (st 0), cX5 (ad 1) (h 1) (st 1), cX5_5 cI (h 1) (st 1), cX5_6 cI (h 1) (st 1)] s.heap := hP
  have hl := lv_entry [.ref a0] (n := 3) (Nat.le_of_ble_eq_true rfl)
  rw [lg_entry_eq]
  generalize (lg_sl [.ref a0] ++ List.replicate (3 - (lg_sl [.ref a0]).length) Slot.unset).toArray = ls at hl ⊢
  clear hAe hD0
  have hl : lv_has ls 3 [(0, .ref a0)] := hl
  refine lv_aload_n hx hb dX3_dropLowest_0 rfl (lv_at hl 0 rfl) ?_
  refine lv_iconst (v := nI 0) hx hb dX3_dropLowest_1 (by decide) ?_
  refine kcV (rest := []) (w2 := [cX3 a0 g0 o0, cPa cO g0 2 ad pf, cX5 (ad 0) (h 0) (st 0), cX5_5 cI (h 0) (st 0), cX5_6 cI (h 0) (st 0), cX5 (ad 1) (h 1) (st 1), cX5_5 cI (h 1) (st 1), cX5_6 cI (h 1) (st 1)]) hx hb hml hown hts hKK hP hD hS hA (c_X3_standAt_n l dC dI cB cI cZ cO a0 g0 o0 2 ad pf 0 (by decide) (by decide)) [0, 1] (atAll_map ⟨rfl, rfl, trivial⟩) (by decide +kernel) (sameAd_map ⟨rfl, rfl, trivial⟩) (atAll_map ⟨rfl, rfl, trivial⟩) (agr_refl _ _ _) (cwV 1 hts gX3_dropLowest_X3_standAt rfl rfl rfl ⟨rfl, dsc_X3_standAt⟩ ⟨Nat.le_of_ble_eq_true rfl, Nat.le_of_ble_eq_true rfl⟩) (va_recv hKK.1 hP (ci := 3) (q0 := 0) rfl rfl) rfl hl.1 rfl (Nat.le_of_ble_eq_true rfl) dX3_dropLowest_2 ⟨Nat.zero_le _, Nat.zero_le _⟩ (fun H locs hP hD hS => ?_)
  refine lv_astore_n (lv' := [(1, .ref (ad (pf 0))), (0, .ref a0)]) hx hb dX3_dropLowest_5 rfl hl (by decide) rfl (fun ls hl => ?_)
  refine lv_aload_n hx hb dX3_dropLowest_6 rfl (lv_at hl 0 rfl) ?_
  refine lv_ifnull hx hb dX3_dropLowest_7 ?_
  refine lv_iconst (v := (1 : Int32)) hx hb dX3_dropLowest_10 (by decide) ?_
  refine lv_istore_n (lv' := [(2, .int (1 : Int32)), (1, .ref (ad (pf 0))), (0, .ref a0)]) hx hb dX3_dropLowest_11 rfl hl (by decide) rfl (fun ls hl => ?_)
  refine W.eq (g2 := F0 m 12 ls []) rfl ?_
  refine lv_iload_n hx hb dX3_dropLowest_12 rfl (lv_at hl 0 rfl) ?_
  refine lv_aload_n hx hb dX3_dropLowest_13 rfl (lv_at hl 2 rfl) ?_
  refine va_get (D := (dC, dI)) (ci := 3) (v := .ref (g0 0)) (C := RX3) (T := TX3) (N := 2) hx hb hts hiX3 hown hKK.1 hP 0 rfl rfl 0 (by decide) (hts (.fieldLink RX3 9 "SlideLand$Pile" "stands" "[LSlideLand$Stand;") (List.mem_of_getElem? (i := 1) rfl)) (fun _ h9 => h9) rfl dX3_dropLowest_14 ?_
  refine va_alen (v := (2 : Int32)) hx hb hKK.1 hP 1 3 rfl (ty := .object "SlideLand$Stand") rfl (show Int32.ofNat 2 = (2 : Int32) from by decide) dX3_dropLowest_17 ?_
  refine lv_icmp_ge (tgt := 41) hx hb dX3_dropLowest_18 (by decide) (fun k => absurd k (by decide)) (fun _ => ?_)
  refine lv_aload_n hx hb dX3_dropLowest_21 rfl (lv_at hl 2 rfl) ?_
  refine va_get (D := (dC, dI)) (ci := 3) (v := .ref (g0 0)) (C := RX3) (T := TX3) (N := 2) hx hb hts hiX3 hown hKK.1 hP 0 rfl rfl 0 (by decide) (hts (.fieldLink RX3 9 "SlideLand$Pile" "stands" "[LSlideLand$Stand;") (List.mem_of_getElem? (i := 1) rfl)) (fun _ h9 => h9) rfl dX3_dropLowest_22 ?_
  refine lv_iload_n hx hb dX3_dropLowest_25 rfl (lv_at hl 0 rfl) ?_
  refine lv_iconst (v := (1 : Int32)) hx hb dX3_dropLowest_26 (by decide) ?_
  refine lv_isub hx hb dX3_dropLowest_27 ?_
  refine lv_topE (show (1 : Int32) - (1 : Int32) = (0 : Int32) from by decide) ?_
  refine lv_aload_n hx hb dX3_dropLowest_28 rfl (lv_at hl 2 rfl) ?_
  refine va_get (D := (dC, dI)) (ci := 3) (v := .ref (g0 0)) (C := RX3) (T := TX3) (N := 2) hx hb hts hiX3 hown hKK.1 hP 0 rfl rfl 0 (by decide) (hts (.fieldLink RX3 9 "SlideLand$Pile" "stands" "[LSlideLand$Stand;") (List.mem_of_getElem? (i := 1) rfl)) (fun _ h9 => h9) rfl dX3_dropLowest_29 ?_
  refine lv_iload_n hx hb dX3_dropLowest_32 rfl (lv_at hl 0 rfl) ?_
  refine va_aldq (f := fun j => some (ad (pf j))) hx hb hKK.1 hP 1 3 rfl rfl (show ¬ ((1 : Int32) < 0 ∨ 2 ≤ (1 : Int32).toNatClampNeg) from by decide) dX3_dropLowest_33 ?_
  refine W.eq (g2 := F0 m 34 ls [.ref (ad (pf 1)), .int (0 : Int32), .ref (g0 0)]) rfl ?_
  refine va_astq (f := fun j => some (ad (pf j))) hx hb hKK.1 hP hD hS 1 3 (2 + 3 * pf 1) 5 rfl rfl (pl2_get (pf 1) (hpf 1 (by decide))) rfl (show ¬ ((0 : Int32) < 0 ∨ 2 ≤ (0 : Int32).toNatClampNeg) from by decide) dX3_dropLowest_34 (fun H locs hP hD hS => ?_)
  rw [show va_up (fun j => some (ad (pf j))) (0 : Int32).toNatClampNeg (some (ad (pf 1))) = fun j => some (ad ((va_up pf 0 (pf 1)) j)) from up_some ad pf 0 (pf 1)] at hP hD
  have hP : va_P (dC, dI) vwCl [cX3 a0 g0 o0, cPa cO g0 2 ad (va_up pf 0 (pf 1)), cX5 (ad 0) (h 0) (st 0), cX5_5 cI (h 0) (st 0), cX5_6 cI (h 0) (st 0), cX5 (ad 1) (h 1) (st 1), cX5_5 cI (h 1) (st 1), cX5_6 cI (h 1) (st 1)] H := hP
  have hD : va_D A [cX3 a0 g0 o0, cPa cO g0 2 ad (va_up pf 0 (pf 1)), cX5 (ad 0) (h 0) (st 0), cX5_5 cI (h 0) (st 0), cX5_6 cI (h 0) (st 0), cX5 (ad 1) (h 1) (st 1), cX5_5 cI (h 1) (st 1), cX5_6 cI (h 1) (st 1)] := hD
  refine lv_iinc (v := (2 : Int32)) (lv' := [(2, .int (2 : Int32)), (1, .ref (ad (pf 0))), (0, .ref a0)]) hx hb dX3_dropLowest_35 hl (k := 0) rfl (by decide) (by decide) rfl (fun ls hl => ?_)
  refine lv_goto (tgt := 12) hx hb dX3_dropLowest_38 (by decide) ?_
  refine lv_iload_n hx hb dX3_dropLowest_12 rfl (lv_at hl 0 rfl) ?_
  refine lv_aload_n hx hb dX3_dropLowest_13 rfl (lv_at hl 2 rfl) ?_
  refine va_get (D := (dC, dI)) (ci := 3) (v := .ref (g0 0)) (C := RX3) (T := TX3) (N := 2) hx hb hts hiX3 hown hKK.1 hP 0 rfl rfl 0 (by decide) (hts (.fieldLink RX3 9 "SlideLand$Pile" "stands" "[LSlideLand$Stand;") (List.mem_of_getElem? (i := 1) rfl)) (fun _ h9 => h9) rfl dX3_dropLowest_14 ?_
  refine va_alen (v := (2 : Int32)) hx hb hKK.1 hP 1 3 rfl (ty := .object "SlideLand$Stand") rfl (show Int32.ofNat 2 = (2 : Int32) from by decide) dX3_dropLowest_17 ?_
  refine lv_icmp_ge (tgt := 41) hx hb dX3_dropLowest_18 (by decide) (fun _ => ?_) (fun k => absurd (show (2 : Int32) ≤ (2 : Int32) from by decide) k)
  refine lv_aload_n hx hb dX3_dropLowest_41 rfl (lv_at hl 2 rfl) ?_
  refine va_get (D := (dC, dI)) (ci := 3) (v := .ref (g0 0)) (C := RX3) (T := TX3) (N := 2) hx hb hts hiX3 hown hKK.1 hP 0 rfl rfl 0 (by decide) (hts (.fieldLink RX3 9 "SlideLand$Pile" "stands" "[LSlideLand$Stand;") (List.mem_of_getElem? (i := 1) rfl)) (fun _ h9 => h9) rfl dX3_dropLowest_42 ?_
  refine lv_aload_n hx hb dX3_dropLowest_45 rfl (lv_at hl 2 rfl) ?_
  refine va_get (D := (dC, dI)) (ci := 3) (v := .ref (g0 0)) (C := RX3) (T := TX3) (N := 2) hx hb hts hiX3 hown hKK.1 hP 0 rfl rfl 0 (by decide) (hts (.fieldLink RX3 9 "SlideLand$Pile" "stands" "[LSlideLand$Stand;") (List.mem_of_getElem? (i := 1) rfl)) (fun _ h9 => h9) rfl dX3_dropLowest_46 ?_
  refine va_alen (v := (2 : Int32)) hx hb hKK.1 hP 1 3 rfl (ty := .object "SlideLand$Stand") rfl (show Int32.ofNat 2 = (2 : Int32) from by decide) dX3_dropLowest_49 ?_
  refine lv_iconst (v := (1 : Int32)) hx hb dX3_dropLowest_50 (by decide) ?_
  refine lv_isub hx hb dX3_dropLowest_51 ?_
  refine lv_topE (show (2 : Int32) - (1 : Int32) = (1 : Int32) from by decide) ?_
  refine lv_aload_n hx hb dX3_dropLowest_52 rfl (lv_at hl 1 rfl) ?_
  refine va_astq (f := fun j => some (ad ((va_up pf 0 (pf 1)) j))) hx hb hKK.1 hP hD hS 1 3 (2 + 3 * pf 0) 5 rfl rfl (pl2_get (pf 0) (hpf 0 (by decide))) rfl (show ¬ ((1 : Int32) < 0 ∨ 2 ≤ (1 : Int32).toNatClampNeg) from by decide) dX3_dropLowest_53 (fun H locs hP hD hS => ?_)
  rw [show va_up (fun j => some (ad ((va_up pf 0 (pf 1)) j))) (1 : Int32).toNatClampNeg (some (ad (pf 0))) = fun j => some (ad (rot2 pf j)) from up_some ad (va_up pf 0 (pf 1)) 1 (pf 0)] at hP hD
  have hP : va_P (dC, dI) vwCl [cX3 a0 g0 o0, cPa cO g0 2 ad (rot2 pf), cX5 (ad 0) (h 0) (st 0), cX5_5 cI (h 0) (st 0), cX5_6 cI (h 0) (st 0), cX5 (ad 1) (h 1) (st 1), cX5_5 cI (h 1) (st 1), cX5_6 cI (h 1) (st 1)] H := hP
  have hD : va_D A [cX3 a0 g0 o0, cPa cO g0 2 ad (rot2 pf), cX5 (ad 0) (h 0) (st 0), cX5_5 cI (h 0) (st 0), cX5_6 cI (h 0) (st 0), cX5 (ad 1) (h 1) (st 1), cX5_5 cI (h 1) (st 1), cX5_6 cI (h 1) (st 1)] := hD
  refine lv_aload_n hx hb dX3_dropLowest_54 rfl (lv_at hl 2 rfl) ?_
  refine lv_dup hx hb dX3_dropLowest_55 rfl ?_
  refine va_get (D := (dC, dI)) (ci := 3) (v := .int (o0.1 1)) (C := RX3) (T := TX3) (N := 2) hx hb hts hiX3 hown hKK.1 hP 0 rfl rfl 1 (by decide) (hts (.fieldLink RX3 16 "SlideLand$Pile" "size" "I") (List.mem_of_getElem? (i := 2) rfl)) (fun _ h9 => h9) rfl dX3_dropLowest_56 ?_
  refine lv_iconst (v := (1 : Int32)) hx hb dX3_dropLowest_59 (by decide) ?_
  refine lv_isub hx hb dX3_dropLowest_60 ?_
  refine lv_topE hx1 ?_
  refine va_put (D := (dC, dI)) (ci := 3) (v := .int x) (ty := .int) (C := RX3) (T := TX3) (N := 2) hx hb hts hiX3 tyX3 tyX3_ok nmX3 hown hKK.1 hP hD hS 0 rfl rfl 1 (by decide) (hts (.fieldLink RX3 16 "SlideLand$Pile" "size" "I") (List.mem_of_getElem? (i := 2) rfl)) (fun _ h9 => h9) rfl (by decide +kernel) rfl rfl (Nat.le_of_ble_eq_true rfl) dX3_dropLowest_61 (fun H locs hP hD hS => ?_)
  have hP : va_P (dC, dI) vwCl [cX3 a0 g0 (stF o0 1 x), cPa cO g0 2 ad (rot2 pf), cX5 (ad 0) (h 0) (st 0), cX5_5 cI (h 0) (st 0), cX5_6 cI (h 0) (st 0), cX5 (ad 1) (h 1) (st 1), cX5_5 cI (h 1) (st 1), cX5_6 cI (h 1) (st 1)] H := hP
  have hD : va_D A [cX3 a0 g0 (stF o0 1 x), cPa cO g0 2 ad (rot2 pf), cX5 (ad 0) (h 0) (st 0), cX5_5 cI (h 0) (st 0), cX5_6 cI (h 0) (st 0), cX5 (ad 1) (h 1) (st 1), cX5_5 cI (h 1) (st 1), cX5_6 cI (h 1) (st 1)] := hD
  exact W.vret hx hb hr (fun t ht hW => ⟨⟨rfl, by rw [ht]; exact hP, hD⟩, hS.F ht⟩) hS.2.2 dX3_dropLowest_64
set_option maxHeartbeats 4000000 in
set_option maxRecDepth 100000 in
theorem c_X3_put_2 (l : Launch) (dC : Nat → ClassId) (dI : Nat → Nat → Nat) (cB cI cZ cO : ClassId) (a0 : Nat) (g0 : Nat → Nat) (o0 : Ob) (ad pf : Nat → Nat) (h : Nat → Nat → Nat) (st : Nat → Ob) (a1 : Nat) (g1 : Nat → Nat) (o1 : Ob) (n n1 : Nat) (pf1 : Nat → Nat) (hpf : ∀ j, j < 2 → pf j < 2) (hsz0 : o0.1 1 = nI n) (hcase : (n < 2 ∧ pf1 = pf ∧ n1 = n) ∨ (n = 2 ∧ pf1 = rot2 pf ∧ n1 = 1)) {o : Ob} (hcp : f_X5_copy (st (pf1 n1)) o1 = some o) : Ct dC dI cB cI cZ cO l yX3_put wsX3_put rmX3_put [.ref a0, .ref a1] [cX5 a1 g1 o1, cX5_5 cI g1 o1, cX5_6 cI g1 o1, cX3 a0 g0 o0, cPa cO g0 2 ad pf, cX5 (ad 0) (h 0) (st 0), cX5_5 cI (h 0) (st 0), cX5_6 cI (h 0) (st 0), cX5 (ad 1) (h 1) (st 1), cX5_5 cI (h 1) (st 1), cX5_6 cI (h 1) (st 1)] none [cX5 a1 g1 o1, cX5_5 cI g1 o1, cX5_6 cI g1 o1, cX3 a0 g0 (stF o0 1 (nI (n1 + 1))), cPa cO g0 2 ad pf1, cX5 (ad 0) (h 0) ((stU st (pf1 n1) o) 0), cX5_5 cI (h 0) ((stU st (pf1 n1) o) 0), cX5_6 cI (h 0) ((stU st (pf1 n1) o) 0), cX5 (ad 1) (h 1) ((stU st (pf1 n1) o) 1), cX5_5 cI (h 1) ((stU st (pf1 n1) o) 1), cX5_6 cI (h 1) ((stU st (pf1 n1) o) 1)] := by
  intro sz
  refine Met.ofW (cc := cX3_put) (maxL := 3) (ret := none) (by decide) rfl ?_
  intro p e s m args below meth c s₁ B hml hv
  obtain ⟨rfl, hsz, hP, hKK, hD0⟩ := hv
  have hx := B.exec
  have hb := B.bytes
  have hr := B.returns
  have hts := atoms_spec (ws := wsX3_put) B.pre
  have hown : s.vm.findClass RX3 = some m.cls := findClass_of_methodNamed B.named
  have hlocks := B.notSynchronized
  have hiX3 : ∀ w ∈ u_ws RX3 TX3 2, w ∈ wsX3_put := fun w h => List.mem_cons_of_mem _ (List.mem_append_left _ (List.mem_append_right _ h))
  have hiX5 : ∀ w ∈ u_ws RX5 TX5 7, w ∈ wsX3_put := fun w h => List.mem_cons_of_mem _ (List.mem_append_right _ h)
  subst hsz
  have hD := hD0.self (sz := s.heap.size)
  generalize hAe : va_A [cX5 a1 g1 o1, cX5_5 cI g1 o1, cX5_6 cI g1 o1, cX3 a0 g0 o0, cPa cO g0 2 ad pf, cX5 (ad 0) (h 0) (st 0), cX5_5 cI (h 0) (st 0), cX5_6 cI (h 0) (st 0), cX5 (ad 1) (h 1) (st 1), cX5_5 cI (h 1) (st 1), cX5_6 cI (h 1) (st 1)] s.heap.size = A at hD ⊢
  have hA : ∀ q : Nat, s.heap.size ≤ q → A q := fun q h => by rw [← hAe]; exact Or.inr h
  have hS : va_S A s.heap s.heap [] := va_S.rf
  have hP : va_P (dC, dI) vwCl [cX5 a1 g1 o1, cX5_5 cI g1 o1, cX5_6 cI g1 o1, cX3 a0 g0 o0, cPa cO g0 2 ad pf, cX5 (ad 0) (h 0) (st 0), cX5_5 cI (h 0) (st 0), cX5_6 cI (h 0) (st 0), cX5 (ad 1) (h 1) (st 1), cX5_5 cI (h 1) (st 1), cX5_6 cI (h 1) (st 1)] s.heap := hP
  have hl := lv_entry [.ref a0, .ref a1] (n := 3) (Nat.le_of_ble_eq_true rfl)
  rw [lg_entry_eq]
  generalize (lg_sl [.ref a0, .ref a1] ++ List.replicate (3 - (lg_sl [.ref a0, .ref a1]).length) Slot.unset).toArray = ls at hl ⊢
  clear hAe hD0
  have hl : lv_has ls 3 [(0, .ref a0), (1, .ref a1)] := hl
  obtain ⟨Q, hQ⟩ : ∃ Q, Q = MQ below (Qq dC dI none [cX5 a1 g1 o1, cX5_5 cI g1 o1, cX5_6 cI g1 o1, cX3 a0 g0 (stF o0 1 (nI (n1 + 1))), cPa cO g0 2 ad pf1, cX5 (ad 0) (h 0) ((stU st (pf1 n1) o) 0), cX5_5 cI (h 0) ((stU st (pf1 n1) o) 0), cX5_6 cI (h 0) ((stU st (pf1 n1) o) 0), cX5 (ad 1) (h 1) ((stU st (pf1 n1) o) 1), cX5_5 cI (h 1) ((stU st (pf1 n1) o) 1), cX5_6 cI (h 1) ((stU st (pf1 n1) o) 1)] A) ([.ref a0, .ref a1] : List Value).toArray s 0 0 A := ⟨_, rfl⟩
  rw [← hQ]
  have tl : ∀ (oz : Ob) (hz : oz.1 1 = nI n1) (hn1 : n1 < 2) (hk1 : pf1 n1 < 2) (H : Heap) (locs : List Loc) (hP : va_P (dC, dI) vwCl [cX5 a1 g1 o1, cX5_5 cI g1 o1, cX5_6 cI g1 o1, cX3 a0 g0 oz, cPa cO g0 2 ad pf1, cX5 (ad 0) (h 0) (st 0), cX5_5 cI (h 0) (st 0), cX5_6 cI (h 0) (st 0), cX5 (ad 1) (h 1) (st 1), cX5_5 cI (h 1) (st 1), cX5_6 cI (h 1) (st 1)] H) (hD : va_D A [cX5 a1 g1 o1, cX5_5 cI g1 o1, cX5_6 cI g1 o1, cX3 a0 g0 oz, cPa cO g0 2 ad pf1, cX5 (ad 0) (h 0) (st 0), cX5_5 cI (h 0) (st 0), cX5_6 cI (h 0) (st 0), cX5 (ad 1) (h 1) (st 1), cX5_5 cI (h 1) (st 1), cX5_6 cI (h 1) (st 1)]) (hS : va_S A s.heap H locs), W p l e (headSpec wsX3_put rmX3_put).room s m ([.ref a0, .ref a1] : List Value).toArray below meth c H locs 0 0 Q (F0 m 11 ls []) := by
    intro oz hz hn1 hk1 H locs hP hD hS
    refine lv_aload_n hx hb dX3_put_11 rfl (lv_at hl 0 rfl) ?_
    refine lv_aload_n hx hb dX3_put_12 rfl (lv_at hl 0 rfl) ?_
    refine va_get (D := (dC, dI)) (ci := 3) (v := .int (oz.1 1)) (C := RX3) (T := TX3) (N := 2) hx hb hts hiX3 hown hKK.1 hP 3 rfl rfl 1 (by decide) (hts (.fieldLink RX3 16 "SlideLand$Pile" "size" "I") (List.mem_of_getElem? (i := 1) rfl)) (fun _ h9 => h9) rfl dX3_put_13 ?_
    refine lv_topE hz ?_
    refine kcV (rest := []) (w2 := [cX5 a1 g1 o1, cX5_5 cI g1 o1, cX5_6 cI g1 o1, cX3 a0 g0 oz, cPa cO g0 2 ad pf1, cX5 (ad 0) (h 0) (st 0), cX5_5 cI (h 0) (st 0), cX5_6 cI (h 0) (st 0), cX5 (ad 1) (h 1) (st 1), cX5_5 cI (h 1) (st 1), cX5_6 cI (h 1) (st 1)]) hx hb hml hown hts hKK hP hD hS hA (c_X3_standAt_n l dC dI cB cI cZ cO a0 g0 oz 2 ad pf1 n1 hn1 (by decide)) [3, 4] (atAll_map ⟨rfl, rfl, trivial⟩) (by decide +kernel) (sameAd_map ⟨rfl, rfl, trivial⟩) (atAll_map ⟨rfl, rfl, trivial⟩) (agr_refl _ _ _) (cwV 1 hts gX3_put_X3_standAt rfl rfl rfl ⟨rfl, dsc_X3_standAt⟩ ⟨Nat.le_of_ble_eq_true rfl, Nat.le_of_ble_eq_true rfl⟩) (va_recv hKK.1 hP (ci := 3) (q0 := 3) rfl rfl) rfl hl.1 rfl (Nat.le_of_ble_eq_true rfl) dX3_put_16 ⟨Nat.zero_le _, Nat.zero_le _⟩ (fun H locs hP hD hS => ?_)
    refine lv_astore_n (lv' := [(2, .ref (ad (pf1 n1))), (0, .ref a0), (1, .ref a1)]) hx hb dX3_put_19 rfl hl (by decide) rfl (fun ls hl => ?_)
    refine lv_aload_n hx hb dX3_put_20 rfl (lv_at hl 0 rfl) ?_
    refine lv_ifnull hx hb dX3_put_21 ?_
    refine lv_aload_n hx hb dX3_put_24 rfl (lv_at hl 0 rfl) ?_
    refine lv_aload_n hx hb dX3_put_25 rfl (lv_at hl 2 rfl) ?_
    refine kcV (rest := []) (w2 := [cX5 a1 g1 o1, cX5_5 cI g1 o1, cX5_6 cI g1 o1, cX3 a0 g0 oz, cPa cO g0 2 ad pf1, cX5 (ad 0) (h 0) ((stU st (pf1 n1) o) 0), cX5_5 cI (h 0) ((stU st (pf1 n1) o) 0), cX5_6 cI (h 0) ((stU st (pf1 n1) o) 0), cX5 (ad 1) (h 1) ((stU st (pf1 n1) o) 1), cX5_5 cI (h 1) ((stU st (pf1 n1) o) 1), cX5_6 cI (h 1) ((stU st (pf1 n1) o) 1)]) hx hb hml hown hts hKK hP hD hS hA (c_X5_copy l dC dI cB cI cZ cO (ad (pf1 n1)) (h (pf1 n1)) (st (pf1 n1)) a1 g1 o1 hcp) [5 + 3 * pf1 n1, 5 + 3 * pf1 n1 + 1, 5 + 3 * pf1 n1 + 2, 0, 1, 2] (atAll_map (pl2_A (pf1 n1) hk1)) (nd_A (pf1 n1)) (sameAd_map ⟨rfl, rfl, rfl, rfl, rfl, rfl, trivial⟩) (atAll_map (pl2_A2 (pf1 n1) hk1)) (pl2_A3 (pf1 n1) hk1) (cwV 1 hts gX3_put_X5_copy rfl rfl rfl ⟨rfl, dsc_X5_copy⟩ ⟨Nat.le_of_ble_eq_true rfl, Nat.le_of_ble_eq_true rfl⟩) (va_recv hKK.1 hP (ci := 5) (q0 := 5 + 3 * pf1 n1) rfl (pl2_A (pf1 n1) hk1).1) rfl hl.1 rfl (Nat.le_of_ble_eq_true rfl) dX3_put_26 ⟨Nat.zero_le _, Nat.zero_le _⟩ (fun H locs hP hD hS => ?_)
    refine lv_aload_n hx hb dX3_put_29 rfl (lv_at hl 1 rfl) ?_
    refine lv_dup hx hb dX3_put_30 rfl ?_
    refine va_get (D := (dC, dI)) (ci := 3) (v := .int (oz.1 1)) (C := RX3) (T := TX3) (N := 2) hx hb hts hiX3 hown hKK.1 hP 3 rfl rfl 1 (by decide) (hts (.fieldLink RX3 16 "SlideLand$Pile" "size" "I") (List.mem_of_getElem? (i := 1) rfl)) (fun _ h9 => h9) rfl dX3_put_31 ?_
    refine lv_iconst (v := (1 : Int32)) hx hb dX3_put_34 (by decide) ?_
    refine lv_iadd hx hb dX3_put_35 ?_
    refine lv_topE (show oz.1 1 + (1 : Int32) = nI (n1 + 1) from by rw [hz]; exact nI_1 n1) ?_
    refine va_put (D := (dC, dI)) (ci := 3) (v := .int (nI (n1 + 1))) (ty := .int) (C := RX3) (T := TX3) (N := 2) hx hb hts hiX3 tyX3 tyX3_ok nmX3 hown hKK.1 hP hD hS 3 rfl rfl 1 (by decide) (hts (.fieldLink RX3 16 "SlideLand$Pile" "size" "I") (List.mem_of_getElem? (i := 1) rfl)) (fun _ h9 => h9) rfl (by decide +kernel) rfl rfl (Nat.le_of_ble_eq_true rfl) dX3_put_36 (fun H locs hP hD hS => ?_)
    have hP : va_P (dC, dI) vwCl [cX5 a1 g1 o1, cX5_5 cI g1 o1, cX5_6 cI g1 o1, cX3 a0 g0 (stF o0 1 (nI (n1 + 1))), cPa cO g0 2 ad pf1, cX5 (ad 0) (h 0) ((stU st (pf1 n1) o) 0), cX5_5 cI (h 0) ((stU st (pf1 n1) o) 0), cX5_6 cI (h 0) ((stU st (pf1 n1) o) 0), cX5 (ad 1) (h 1) ((stU st (pf1 n1) o) 1), cX5_5 cI (h 1) ((stU st (pf1 n1) o) 1), cX5_6 cI (h 1) ((stU st (pf1 n1) o) 1)] H := hP
    have hD : va_D A [cX5 a1 g1 o1, cX5_5 cI g1 o1, cX5_6 cI g1 o1, cX3 a0 g0 (stF o0 1 (nI (n1 + 1))), cPa cO g0 2 ad pf1, cX5 (ad 0) (h 0) ((stU st (pf1 n1) o) 0), cX5_5 cI (h 0) ((stU st (pf1 n1) o) 0), cX5_6 cI (h 0) ((stU st (pf1 n1) o) 0), cX5 (ad 1) (h 1) ((stU st (pf1 n1) o) 1), cX5_5 cI (h 1) ((stU st (pf1 n1) o) 1), cX5_6 cI (h 1) ((stU st (pf1 n1) o) 1)] := hD
    subst hQ
    exact W.vret hx hb hr (fun t ht hW => ⟨⟨rfl, by rw [ht]; exact hP, hD⟩, hS.F ht⟩) hS.2.2 dX3_put_39
  refine lv_aload_n hx hb dX3_put_0 rfl (lv_at hl 0 rfl) ?_
  rcases hcase with ⟨hn, rfl, rfl⟩ | ⟨rfl, rfl, rfl⟩
  · have hf : f_X3_isFull o0 2 = false := by rw [f_X3_isFull, hsz0, if_pos (show nI n1 < Int32.ofNat 2 from nI_lt hn (by decide))]
    refine kcV (rest := []) (w2 := [cX5 a1 g1 o1, cX5_5 cI g1 o1, cX5_6 cI g1 o1, cX3 a0 g0 o0, cPa cO g0 2 ad pf1, cX5 (ad 0) (h 0) (st 0), cX5_5 cI (h 0) (st 0), cX5_6 cI (h 0) (st 0), cX5 (ad 1) (h 1) (st 1), cX5_5 cI (h 1) (st 1), cX5_6 cI (h 1) (st 1)]) hx hb hml hown hts hKK hP hD hS hA (c_X3_isFull l dC dI cB cI cZ cO a0 g0 o0 2 ad pf1 (r := false) hf) [3, 4] (atAll_map ⟨rfl, rfl, trivial⟩) (by decide +kernel) (sameAd_map ⟨rfl, rfl, trivial⟩) (atAll_map ⟨rfl, rfl, trivial⟩) (agr_refl _ _ _) (cwV 0 hts gX3_put_X3_isFull rfl rfl rfl ⟨rfl, dsc_X3_isFull⟩ ⟨Nat.le_of_ble_eq_true rfl, Nat.le_of_ble_eq_true rfl⟩) (va_recv hKK.1 hP (ci := 3) (q0 := 3) rfl rfl) rfl hl.1 rfl (Nat.le_of_ble_eq_true rfl) dX3_put_1 ⟨Nat.zero_le _, Nat.zero_le _⟩ (fun H locs hP hD hS => ?_)
    refine lv_if_eq (tgt := 11) hx hb dX3_put_4 (by decide) (fun _ => ?_) (fun k => absurd rfl k)
    exact tl o0 hsz0 hn (hpf n1 hn) H locs hP hD hS
  · have hf : f_X3_isFull o0 2 = true := by rw [f_X3_isFull, hsz0, if_neg (show ¬ nI 2 < Int32.ofNat 2 from nI_nlt (Nat.le_refl _) (by decide))]
    refine kcV (rest := []) (w2 := [cX5 a1 g1 o1, cX5_5 cI g1 o1, cX5_6 cI g1 o1, cX3 a0 g0 o0, cPa cO g0 2 ad pf, cX5 (ad 0) (h 0) (st 0), cX5_5 cI (h 0) (st 0), cX5_6 cI (h 0) (st 0), cX5 (ad 1) (h 1) (st 1), cX5_5 cI (h 1) (st 1), cX5_6 cI (h 1) (st 1)]) hx hb hml hown hts hKK hP hD hS hA (c_X3_isFull l dC dI cB cI cZ cO a0 g0 o0 2 ad pf (r := true) hf) [3, 4] (atAll_map ⟨rfl, rfl, trivial⟩) (by decide +kernel) (sameAd_map ⟨rfl, rfl, trivial⟩) (atAll_map ⟨rfl, rfl, trivial⟩) (agr_refl _ _ _) (cwV 0 hts gX3_put_X3_isFull rfl rfl rfl ⟨rfl, dsc_X3_isFull⟩ ⟨Nat.le_of_ble_eq_true rfl, Nat.le_of_ble_eq_true rfl⟩) (va_recv hKK.1 hP (ci := 3) (q0 := 3) rfl rfl) rfl hl.1 rfl (Nat.le_of_ble_eq_true rfl) dX3_put_1 ⟨Nat.zero_le _, Nat.zero_le _⟩ (fun H locs hP hD hS => ?_)
    refine lv_if_eq (tgt := 11) hx hb dX3_put_4 (by decide) (fun k => absurd k (by decide)) (fun _ => ?_)
    refine lv_aload_n hx hb dX3_put_7 rfl (lv_at hl 0 rfl) ?_
    refine kcV (rest := []) (w2 := [cX5 a1 g1 o1, cX5_5 cI g1 o1, cX5_6 cI g1 o1, cX3 a0 g0 (stF o0 1 (nI 1)), cPa cO g0 2 ad (rot2 pf), cX5 (ad 0) (h 0) (st 0), cX5_5 cI (h 0) (st 0), cX5_6 cI (h 0) (st 0), cX5 (ad 1) (h 1) (st 1), cX5_5 cI (h 1) (st 1), cX5_6 cI (h 1) (st 1)]) hx hb hml hown hts hKK hP hD hS hA (c_X3_dropLowest_2 l dC dI cB cI cZ cO a0 g0 o0 ad pf h st hpf (x := nI 1) (by rw [hsz0]; decide)) [3, 4, 5, 6, 7, 8, 9, 10] (atAll_map ⟨rfl, rfl, rfl, rfl, rfl, rfl, rfl, rfl, trivial⟩) (by decide +kernel) (sameAd_map ⟨rfl, rfl, rfl, rfl, rfl, rfl, rfl, rfl, trivial⟩) (atAll_map ⟨rfl, rfl, rfl, rfl, rfl, rfl, rfl, rfl, trivial⟩) ⟨Or.inl rfl, Or.inl rfl, Or.inl rfl, Or.inr (by decide), Or.inr (by decide), Or.inl rfl, Or.inl rfl, Or.inl rfl, Or.inl rfl, Or.inl rfl, Or.inl rfl, trivial⟩ (cwV 0 hts gX3_put_X3_dropLowest rfl rfl rfl ⟨rfl, dsc_X3_dropLowest⟩ ⟨Nat.le_of_ble_eq_true rfl, Nat.le_of_ble_eq_true rfl⟩) (va_recv hKK.1 hP (ci := 3) (q0 := 3) rfl rfl) rfl hl.1 rfl (Nat.le_of_ble_eq_true rfl) dX3_put_8 ⟨Nat.zero_le _, Nat.zero_le _⟩ (fun H locs hP hD hS => ?_)
    exact tl (stF o0 1 (nI 1)) rfl (by decide) (hpf 0 (by decide)) H locs hP hD hS
set_option maxHeartbeats 4000000 in
set_option maxRecDepth 100000 in
theorem c_X3_takeInto_2_no (l : Launch) (dC : Nat → ClassId) (dI : Nat → Nat → Nat) (cB cI cZ cO : ClassId) (a0 : Nat) (g0 : Nat → Nat) (o0 : Ob) (ad pf : Nat → Nat) (h : Nat → Nat → Nat) (st : Nat → Ob) (a1 : Nat) (g1 : Nat → Nat) (o1 : Ob) (hsz0 : o0.1 1 = nI 0) : Ct dC dI cB cI cZ cO l yX3_takeInto wsX3_takeInto rmX3_takeInto [.ref a0, .ref a1] [cX5 a1 g1 o1, cX5_5 cI g1 o1, cX5_6 cI g1 o1, cX3 a0 g0 o0, cPa cO g0 2 ad pf, cX5 (ad 0) (h 0) (st 0), cX5_5 cI (h 0) (st 0), cX5_6 cI (h 0) (st 0), cX5 (ad 1) (h 1) (st 1), cX5_5 cI (h 1) (st 1), cX5_6 cI (h 1) (st 1)] (some (.int (b2i false))) [cX5 a1 g1 o1, cX5_5 cI g1 o1, cX5_6 cI g1 o1, cX3 a0 g0 o0, cPa cO g0 2 ad pf, cX5 (ad 0) (h 0) (st 0), cX5_5 cI (h 0) (st 0), cX5_6 cI (h 0) (st 0), cX5 (ad 1) (h 1) (st 1), cX5_5 cI (h 1) (st 1), cX5_6 cI (h 1) (st 1)] := by
  intro sz
  refine Met.ofW (cc := cX3_takeInto) (maxL := 3) (ret := (some .boolean)) (by decide) rfl ?_
  intro p e s m args below meth c s₁ B hml hv
  obtain ⟨rfl, hsz, hP, hKK, hD0⟩ := hv
  have hx := B.exec
  have hb := B.bytes
  have hr := B.returns
  have hts := atoms_spec (ws := wsX3_takeInto) B.pre
  have hown : s.vm.findClass RX3 = some m.cls := findClass_of_methodNamed B.named
  have hlocks := B.notSynchronized
  have hiX3 : ∀ w ∈ u_ws RX3 TX3 2, w ∈ wsX3_takeInto := fun w h => List.mem_cons_of_mem _ (List.mem_append_left _ (List.mem_append_right _ h))
  have hiX5 : ∀ w ∈ u_ws RX5 TX5 7, w ∈ wsX3_takeInto := fun w h => List.mem_cons_of_mem _ (List.mem_append_right _ h)
  subst hsz
  have hD := hD0.self (sz := s.heap.size)
  generalize hAe : va_A [cX5 a1 g1 o1, cX5_5 cI g1 o1, cX5_6 cI g1 o1, cX3 a0 g0 o0, cPa cO g0 2 ad pf, cX5 (ad 0) (h 0) (st 0), cX5_5 cI (h 0) (st 0), cX5_6 cI (h 0) (st 0), cX5 (ad 1) (h 1) (st 1), cX5_5 cI (h 1) (st 1), cX5_6 cI (h 1) (st 1)] s.heap.size = A at hD ⊢
  have hA : ∀ q : Nat, s.heap.size ≤ q → A q := fun q h => by rw [← hAe]; exact Or.inr h
  have hS : va_S A s.heap s.heap [] := va_S.rf
  have hP : va_P (dC, dI) vwCl [cX5 a1 g1 o1, cX5_5 cI g1 o1, cX5_6 cI g1 o1, cX3 a0 g0 o0, cPa cO g0 2 ad pf, cX5 (ad 0) (h 0) (st 0), cX5_5 cI (h 0) (st 0), cX5_6 cI (h 0) (st 0), cX5 (ad 1) (h 1) (st 1), cX5_5 cI (h 1) (st 1), cX5_6 cI (h 1) (st 1)] s.heap := hP
  have hl := lv_entry [.ref a0, .ref a1] (n := 3) (Nat.le_of_ble_eq_true rfl)
  rw [lg_entry_eq]
  generalize (lg_sl [.ref a0, .ref a1] ++ List.replicate (3 - (lg_sl [.ref a0, .ref a1]).length) Slot.unset).toArray = ls at hl ⊢
  clear hAe hD0
  have hl : lv_has ls 3 [(0, .ref a0), (1, .ref a1)] := hl
  refine lv_aload_n hx hb dX3_takeInto_0 rfl (lv_at hl 0 rfl) ?_
  refine lv_aload_n hx hb dX3_takeInto_1 rfl (lv_at hl 0 rfl) ?_
  refine va_get (D := (dC, dI)) (ci := 3) (v := .int (o0.1 1)) (C := RX3) (T := TX3) (N := 2) hx hb hts hiX3 hown hKK.1 hP 3 rfl rfl 1 (by decide) (hts (.fieldLink RX3 16 "SlideLand$Pile" "size" "I") (List.mem_of_getElem? (i := 1) rfl)) (fun _ h9 => h9) rfl dX3_takeInto_2 ?_
  refine lv_iconst (v := (1 : Int32)) hx hb dX3_takeInto_5 (by decide) ?_
  refine lv_isub hx hb dX3_takeInto_6 ?_
  refine lv_topE (show o0.1 1 - (1 : Int32) = (-1 : Int32) from by rw [hsz0]; decide) ?_
  refine kcV (rest := []) (w2 := [cX5 a1 g1 o1, cX5_5 cI g1 o1, cX5_6 cI g1 o1, cX3 a0 g0 o0, cPa cO g0 2 ad pf, cX5 (ad 0) (h 0) (st 0), cX5_5 cI (h 0) (st 0), cX5_6 cI (h 0) (st 0), cX5 (ad 1) (h 1) (st 1), cX5_5 cI (h 1) (st 1), cX5_6 cI (h 1) (st 1)]) hx hb hml hown hts hKK hP hD hS hA (c_X3_standAt_out l dC dI cB cI cZ cO a0 g0 o0 2 ad pf (-1 : Int32) (show ¬ ¬ ((-1 : Int32) < 0 ∨ 2 ≤ (-1 : Int32).toNatClampNeg) from by decide) (by decide)) [3, 4] (atAll_map ⟨rfl, rfl, trivial⟩) (by decide +kernel) (sameAd_map ⟨rfl, rfl, trivial⟩) (atAll_map ⟨rfl, rfl, trivial⟩) (agr_refl _ _ _) (cwV 1 hts gX3_takeInto_X3_standAt rfl rfl rfl ⟨rfl, dsc_X3_standAt⟩ ⟨Nat.le_of_ble_eq_true rfl, Nat.le_of_ble_eq_true rfl⟩) (va_recv hKK.1 hP (ci := 3) (q0 := 3) rfl rfl) rfl hl.1 rfl (Nat.le_of_ble_eq_true rfl) dX3_takeInto_7 ⟨Nat.zero_le _, Nat.zero_le _⟩ (fun H locs hP hD hS => ?_)
  refine lv_astore_nN (lv' := [(2, .null), (0, .ref a0), (1, .ref a1)]) hx hb dX3_takeInto_10 rfl hl (by decide) rfl (fun ls hl => ?_)
  refine lv_aload_nN hx hb dX3_takeInto_11 rfl (lv_at hl 0 rfl) ?_
  refine lv_ifnonnullN hx hb dX3_takeInto_12 ?_
  refine lv_iconst (v := (0 : Int32)) hx hb dX3_takeInto_15 (by decide) ?_
  exact W.zret (v := (0 : Int32)) hx hb hr rfl (fun t ht hW => ⟨⟨rfl, by rw [ht]; exact hP, hD⟩, hS.F ht⟩) hS.2.2 dX3_takeInto_16
set_option maxHeartbeats 4000000 in
set_option maxRecDepth 100000 in
theorem c_X3_takeInto_2_yes (l : Launch) (dC : Nat → ClassId) (dI : Nat → Nat → Nat) (cB cI cZ cO : ClassId) (a0 : Nat) (g0 : Nat → Nat) (o0 : Ob) (ad pf : Nat → Nat) (h : Nat → Nat → Nat) (st : Nat → Ob) (a1 : Nat) (g1 : Nat → Nat) (o1 : Ob) (n : Nat) (hpf : ∀ j, j < 2 → pf j < 2) (hn : n < 2) (hsz0 : o0.1 1 = nI (n + 1)) {o : Ob} (hcp : f_X5_copy o1 (st (pf n)) = some o) : Ct dC dI cB cI cZ cO l yX3_takeInto wsX3_takeInto rmX3_takeInto [.ref a0, .ref a1] [cX5 a1 g1 o1, cX5_5 cI g1 o1, cX5_6 cI g1 o1, cX3 a0 g0 o0, cPa cO g0 2 ad pf, cX5 (ad 0) (h 0) (st 0), cX5_5 cI (h 0) (st 0), cX5_6 cI (h 0) (st 0), cX5 (ad 1) (h 1) (st 1), cX5_5 cI (h 1) (st 1), cX5_6 cI (h 1) (st 1)] (some (.int (b2i true))) [cX5 a1 g1 o, cX5_5 cI g1 o, cX5_6 cI g1 o, cX3 a0 g0 (stF o0 1 (nI n)), cPa cO g0 2 ad pf, cX5 (ad 0) (h 0) (st 0), cX5_5 cI (h 0) (st 0), cX5_6 cI (h 0) (st 0), cX5 (ad 1) (h 1) (st 1), cX5_5 cI (h 1) (st 1), cX5_6 cI (h 1) (st 1)] := by
  intro sz
  refine Met.ofW (cc := cX3_takeInto) (maxL := 3) (ret := (some .boolean)) (by decide) rfl ?_
  intro p e s m args below meth c s₁ B hml hv
  obtain ⟨rfl, hsz, hP, hKK, hD0⟩ := hv
  have hx := B.exec
  have hb := B.bytes
  have hr := B.returns
  have hts := atoms_spec (ws := wsX3_takeInto) B.pre
  have hown : s.vm.findClass RX3 = some m.cls := findClass_of_methodNamed B.named
  have hlocks := B.notSynchronized
  have hiX3 : ∀ w ∈ u_ws RX3 TX3 2, w ∈ wsX3_takeInto := fun w h => List.mem_cons_of_mem _ (List.mem_append_left _ (List.mem_append_right _ h))
  have hiX5 : ∀ w ∈ u_ws RX5 TX5 7, w ∈ wsX3_takeInto := fun w h => List.mem_cons_of_mem _ (List.mem_append_right _ h)
  subst hsz
  have hD := hD0.self (sz := s.heap.size)
  generalize hAe : va_A [cX5 a1 g1 o1, cX5_5 cI g1 o1, cX5_6 cI g1 o1, cX3 a0 g0 o0, cPa cO g0 2 ad pf, cX5 (ad 0) (h 0) (st 0), cX5_5 cI (h 0) (st 0), cX5_6 cI (h 0) (st 0), cX5 (ad 1) (h 1) (st 1), cX5_5 cI (h 1) (st 1), cX5_6 cI (h 1) (st 1)] s.heap.size = A at hD ⊢
  have hA : ∀ q : Nat, s.heap.size ≤ q → A q := fun q h => by rw [← hAe]; exact Or.inr h
  have hS : va_S A s.heap s.heap [] := va_S.rf
  have hP : va_P (dC, dI) vwCl [cX5 a1 g1 o1, cX5_5 cI g1 o1, cX5_6 cI g1 o1, cX3 a0 g0 o0, cPa cO g0 2 ad pf, cX5 (ad 0) (h 0) (st 0), cX5_5 cI (h 0) (st 0), cX5_6 cI (h 0) (st 0), cX5 (ad 1) (h 1) (st 1), cX5_5 cI (h 1) (st 1), cX5_6 cI (h 1) (st 1)] s.heap := hP
  have hl := lv_entry [.ref a0, .ref a1] (n := 3) (Nat.le_of_ble_eq_true rfl)
  rw [lg_entry_eq]
  generalize (lg_sl [.ref a0, .ref a1] ++ List.replicate (3 - (lg_sl [.ref a0, .ref a1]).length) Slot.unset).toArray = ls at hl ⊢
  clear hAe hD0
  have hl : lv_has ls 3 [(0, .ref a0), (1, .ref a1)] := hl
  refine lv_aload_n hx hb dX3_takeInto_0 rfl (lv_at hl 0 rfl) ?_
  refine lv_aload_n hx hb dX3_takeInto_1 rfl (lv_at hl 0 rfl) ?_
  refine va_get (D := (dC, dI)) (ci := 3) (v := .int (o0.1 1)) (C := RX3) (T := TX3) (N := 2) hx hb hts hiX3 hown hKK.1 hP 3 rfl rfl 1 (by decide) (hts (.fieldLink RX3 16 "SlideLand$Pile" "size" "I") (List.mem_of_getElem? (i := 1) rfl)) (fun _ h9 => h9) rfl dX3_takeInto_2 ?_
  refine lv_iconst (v := (1 : Int32)) hx hb dX3_takeInto_5 (by decide) ?_
  refine lv_isub hx hb dX3_takeInto_6 ?_
  refine lv_topE (show o0.1 1 - (1 : Int32) = nI n from by rw [hsz0]; exact nI_pred n) ?_
  refine kcV (rest := []) (w2 := [cX5 a1 g1 o1, cX5_5 cI g1 o1, cX5_6 cI g1 o1, cX3 a0 g0 o0, cPa cO g0 2 ad pf, cX5 (ad 0) (h 0) (st 0), cX5_5 cI (h 0) (st 0), cX5_6 cI (h 0) (st 0), cX5 (ad 1) (h 1) (st 1), cX5_5 cI (h 1) (st 1), cX5_6 cI (h 1) (st 1)]) hx hb hml hown hts hKK hP hD hS hA (c_X3_standAt_n l dC dI cB cI cZ cO a0 g0 o0 2 ad pf n hn (by decide)) [3, 4] (atAll_map ⟨rfl, rfl, trivial⟩) (by decide +kernel) (sameAd_map ⟨rfl, rfl, trivial⟩) (atAll_map ⟨rfl, rfl, trivial⟩) (agr_refl _ _ _) (cwV 1 hts gX3_takeInto_X3_standAt rfl rfl rfl ⟨rfl, dsc_X3_standAt⟩ ⟨Nat.le_of_ble_eq_true rfl, Nat.le_of_ble_eq_true rfl⟩) (va_recv hKK.1 hP (ci := 3) (q0 := 3) rfl rfl) rfl hl.1 rfl (Nat.le_of_ble_eq_true rfl) dX3_takeInto_7 ⟨Nat.zero_le _, Nat.zero_le _⟩ (fun H locs hP hD hS => ?_)
  refine lv_astore_n (lv' := [(2, .ref (ad (pf n))), (0, .ref a0), (1, .ref a1)]) hx hb dX3_takeInto_10 rfl hl (by decide) rfl (fun ls hl => ?_)
  refine lv_aload_n hx hb dX3_takeInto_11 rfl (lv_at hl 0 rfl) ?_
  refine lv_ifnonnull (tgt := 17) hx hb dX3_takeInto_12 (by decide) ?_
  refine lv_aload_n hx hb dX3_takeInto_17 rfl (lv_at hl 2 rfl) ?_
  refine lv_aload_n hx hb dX3_takeInto_18 rfl (lv_at hl 0 rfl) ?_
  have hk := hpf n hn
  refine kcV (rest := []) (w2 := [cX5 a1 g1 o, cX5_5 cI g1 o, cX5_6 cI g1 o, cX3 a0 g0 o0, cPa cO g0 2 ad pf, cX5 (ad 0) (h 0) (st 0), cX5_5 cI (h 0) (st 0), cX5_6 cI (h 0) (st 0), cX5 (ad 1) (h 1) (st 1), cX5_5 cI (h 1) (st 1), cX5_6 cI (h 1) (st 1)]) hx hb hml hown hts hKK hP hD hS hA (c_X5_copy l dC dI cB cI cZ cO a1 g1 o1 (ad (pf n)) (h (pf n)) (st (pf n)) hcp) [0, 1, 2, 5 + 3 * pf n, 5 + 3 * pf n + 1, 5 + 3 * pf n + 2] (atAll_map (pl2_B (o := o1) (pf n) hk)) (nd_B (pf n)) (sameAd_map ⟨rfl, rfl, rfl, rfl, rfl, rfl, trivial⟩) (atAll_map (pl2_B (pf n) hk)) (pl2_B3 (pf n)) (cwV 1 hts gX3_takeInto_X5_copy rfl rfl rfl ⟨rfl, dsc_X5_copy⟩ ⟨Nat.le_of_ble_eq_true rfl, Nat.le_of_ble_eq_true rfl⟩) (va_recv hKK.1 hP (ci := 5) (q0 := 0) rfl rfl) rfl hl.1 rfl (Nat.le_of_ble_eq_true rfl) dX3_takeInto_19 ⟨Nat.zero_le _, Nat.zero_le _⟩ (fun H locs hP hD hS => ?_)
  refine lv_aload_n hx hb dX3_takeInto_22 rfl (lv_at hl 1 rfl) ?_
  refine lv_dup hx hb dX3_takeInto_23 rfl ?_
  refine va_get (D := (dC, dI)) (ci := 3) (v := .int (o0.1 1)) (C := RX3) (T := TX3) (N := 2) hx hb hts hiX3 hown hKK.1 hP 3 rfl rfl 1 (by decide) (hts (.fieldLink RX3 16 "SlideLand$Pile" "size" "I") (List.mem_of_getElem? (i := 1) rfl)) (fun _ h9 => h9) rfl dX3_takeInto_24 ?_
  refine lv_iconst (v := (1 : Int32)) hx hb dX3_takeInto_27 (by decide) ?_
  refine lv_isub hx hb dX3_takeInto_28 ?_
  refine lv_topE (show o0.1 1 - (1 : Int32) = nI n from by rw [hsz0]; exact nI_pred n) ?_
  refine va_put (D := (dC, dI)) (ci := 3) (v := .int (nI n)) (ty := .int) (C := RX3) (T := TX3) (N := 2) hx hb hts hiX3 tyX3 tyX3_ok nmX3 hown hKK.1 hP hD hS 3 rfl rfl 1 (by decide) (hts (.fieldLink RX3 16 "SlideLand$Pile" "size" "I") (List.mem_of_getElem? (i := 1) rfl)) (fun _ h9 => h9) rfl (by decide +kernel) rfl rfl (Nat.le_of_ble_eq_true rfl) dX3_takeInto_29 (fun H locs hP hD hS => ?_)
  have hP : va_P (dC, dI) vwCl [cX5 a1 g1 o, cX5_5 cI g1 o, cX5_6 cI g1 o, cX3 a0 g0 (stF o0 1 (nI n)), cPa cO g0 2 ad pf, cX5 (ad 0) (h 0) (st 0), cX5_5 cI (h 0) (st 0), cX5_6 cI (h 0) (st 0), cX5 (ad 1) (h 1) (st 1), cX5_5 cI (h 1) (st 1), cX5_6 cI (h 1) (st 1)] H := hP
  have hD : va_D A [cX5 a1 g1 o, cX5_5 cI g1 o, cX5_6 cI g1 o, cX3 a0 g0 (stF o0 1 (nI n)), cPa cO g0 2 ad pf, cX5 (ad 0) (h 0) (st 0), cX5_5 cI (h 0) (st 0), cX5_6 cI (h 0) (st 0), cX5 (ad 1) (h 1) (st 1), cX5_5 cI (h 1) (st 1), cX5_6 cI (h 1) (st 1)] := hD
  refine lv_iconst (v := (1 : Int32)) hx hb dX3_takeInto_32 (by decide) ?_
  exact W.zret (v := (1 : Int32)) hx hb hr rfl (fun t ht hW => ⟨⟨rfl, by rw [ht]; exact hP, hD⟩, hS.F ht⟩) hS.2.2 dX3_takeInto_33
