/-- turns that no loop here needs -/
def FU : Nat := 100000
theorem FU_eq : FU = 100000 := rfl
theorem sw_ne {x y : Int32} {v : Int} (h : ¬ x = y) (e : y.toInt = v) : ¬ x.toInt = v := fun z => h (Int32.toInt_inj.mp (z.trans e.symm))
theorem sw_out {x : Int32} {lo hi : Int} (vs : List Int) (hv : ∀ k ∈ List.range (hi - lo + 1).toNat, (lo + (k : Int)) ∈ vs) (hn : ∀ v ∈ vs, ¬ x.toInt = v) : x.toInt < lo ∨ hi < x.toInt := by
  rcases Int.lt_or_le x.toInt lo with h | h
  · exact Or.inl h
  · rcases Int.lt_or_le hi x.toInt with h2 | h2
    · exact Or.inr h2
    · have h3 := hv (x.toInt - lo).toNat (List.mem_range.mpr (by omega))
      have h4 : lo + ((x.toInt - lo).toNat : Int) = x.toInt := by omega
      rw [h4] at h3
      exact absurd rfl (hn _ h3)
theorem sw_nf {x y : Int32} {v : Int} (h : ¬ x = y) (e : y.toInt = v) : (v = x.toInt) = False := eq_false (fun z => h (Int32.toInt_inj.mp (z.symm.trans e.symm)))
def f_X7_within (v0 : Int32) (v1 : Int32) (v2 : Int32) : Bool := if v0 < v1 then false else (if v2 < v0 then false else true)
abbrev rmX7_within : Room := { frames := 0, cells := 0, slots := 0, locals := 0 }
theorem dsc_X7_within : yX7_within.cls ≠ "java/lang/invoke/MethodHandle" ∧ yX7_within.cls ≠ "java/lang/invoke/VarHandle" ∧ (parseMethodDescriptor yX7_within.desc).map (fun d => d.parameters.length) = some 3 := by decide +kernel
set_option maxHeartbeats 4000000 in
set_option maxRecDepth 100000 in
theorem c_X7_within (l : Launch) (dC : Nat → ClassId) (dI : Nat → Nat → Nat) (cB cI cZ cO : ClassId) (v0 : Int32) (v1 : Int32) (v2 : Int32) {r : Bool} (h : f_X7_within v0 v1 v2 = r) : Ct dC dI cB cI cZ cO l yX7_within wsX7_within rmX7_within [.int v0, .int v1, .int v2] ([]) (some (.int (b2i r))) ([]) := by
  intro sz
  refine Met.ofW (cc := cX7_within) (maxL := 3) (ret := (some .boolean)) (by decide) rfl ?_
  intro p e s m args below meth c s₁ B hml hv
  obtain ⟨rfl, hsz, hP, hKK, hD0⟩ := hv
  have hx := B.exec
  have hb := B.bytes
  have hr := B.returns
  have hts := atoms_spec (ws := wsX7_within) B.pre
  have hown : s.vm.findClass RX7 = some m.cls := findClass_of_methodNamed B.named
  have hlocks := B.notSynchronized
  subst hsz
  have hD := hD0.self (sz := s.heap.size)
  generalize hAe : va_A ([]) s.heap.size = A at hD ⊢
  have hA : ∀ q : Nat, s.heap.size ≤ q → A q := fun q h => by rw [← hAe]; exact Or.inr h
  have hS : va_S A s.heap s.heap [] := va_S.rf
  have hP : va_P (dC, dI) vwCl ([]) s.heap := hP
  have hD : va_D A ([]) := hD
  have hl := lv_entry ([.int v0, .int v1, .int v2]) (n := 3) (Nat.le_of_ble_eq_true rfl)
  rw [lg_entry_eq]
  generalize (lg_sl ([.int v0, .int v1, .int v2]) ++ List.replicate (3 - (lg_sl ([.int v0, .int v1, .int v2])).length) Slot.unset).toArray = ls at hl ⊢
  have hl : lv_has ls 3 [(0, .int v0), (1, .int v1), (2, .int v2)] := hl
  obtain ⟨Q, hQ⟩ : ∃ Q, Q = MQ below (Qq dC dI (some (.int (b2i r))) ([]) A) ([.int v0, .int v1, .int v2] : List Value).toArray s 0 0 A := ⟨_, rfl⟩
  rw [← hQ]
  rw [f_X7_within] at h
  clear hAe hD0
  refine lv_iload_n hx hb dX7_within_0 rfl (lv_at hl 0 rfl) ?_
  refine lv_iload_n hx hb dX7_within_1 rfl (lv_at hl 1 rfl) ?_
  refine lv_icmp_lt (tgt := 14) hx hb dX7_within_2 (by decide) (fun k1 => ?_) (fun k1 => ?_)
  · have h := ite_t k1 h
    refine lv_iconst (v := (0 : Int32)) hx hb dX7_within_14 (by decide) ?_
    subst h
    subst hQ
    exact W.zret (v := (0 : Int32)) hx hb hr rfl (fun t ht hW => ⟨⟨rfl, by rw [ht]; exact hP, hD⟩, hS.F ht⟩) hS.2.2 dX7_within_15
  · have h := ite_f k1 h
    refine lv_iload_n hx hb dX7_within_5 rfl (lv_at hl 0 rfl) ?_
    refine lv_iload_n hx hb dX7_within_6 rfl (lv_at hl 2 rfl) ?_
    refine lv_icmp_gt (tgt := 14) hx hb dX7_within_7 (by decide) (fun k2 => ?_) (fun k2 => ?_)
    · have h := ite_t k2 h
      refine lv_iconst (v := (0 : Int32)) hx hb dX7_within_14 (by decide) ?_
      subst h
      subst hQ
      exact W.zret (v := (0 : Int32)) hx hb hr rfl (fun t ht hW => ⟨⟨rfl, by rw [ht]; exact hP, hD⟩, hS.F ht⟩) hS.2.2 dX7_within_15
    · have h := ite_f k2 h
      refine lv_iconst (v := (1 : Int32)) hx hb dX7_within_10 (by decide) ?_
      refine lv_goto (tgt := 15) hx hb dX7_within_11 (by decide) ?_
      subst h
      subst hQ
      exact W.zret (v := (1 : Int32)) hx hb hr rfl (fun t ht hW => ⟨⟨rfl, by rw [ht]; exact hP, hD⟩, hS.F ht⟩) hS.2.2 dX7_within_15
def f_X7_meet_19 (v0 : Int32) (v1 : Int32) : Bool := if v0 = (2 : Int32) then (if v1 = (2 : Int32) then true else false) else false
def f_X7_meet (v0 : Int32) (v1 : Int32) : Bool := if v1 = 0 then true else (if v0 = (1 : Int32) then (if v1 = (1 : Int32) then true else (if v1 = (-1 : Int32) then true else (f_X7_meet_19 v0 v1))) else (f_X7_meet_19 v0 v1))
abbrev rmX7_meet : Room := { frames := 0, cells := 0, slots := 0, locals := 0 }
theorem dsc_X7_meet : yX7_meet.cls ≠ "java/lang/invoke/MethodHandle" ∧ yX7_meet.cls ≠ "java/lang/invoke/VarHandle" ∧ (parseMethodDescriptor yX7_meet.desc).map (fun d => d.parameters.length) = some 2 := by decide +kernel
set_option maxHeartbeats 4000000 in
set_option maxRecDepth 100000 in
theorem c_X7_meet (l : Launch) (dC : Nat → ClassId) (dI : Nat → Nat → Nat) (cB cI cZ cO : ClassId) (v0 : Int32) (v1 : Int32) {r : Bool} (h : f_X7_meet v0 v1 = r) : Ct dC dI cB cI cZ cO l yX7_meet wsX7_meet rmX7_meet [.int v0, .int v1] ([]) (some (.int (b2i r))) ([]) := by
  intro sz
  refine Met.ofW (cc := cX7_meet) (maxL := 2) (ret := (some .boolean)) (by decide) rfl ?_
  intro p e s m args below meth c s₁ B hml hv
  obtain ⟨rfl, hsz, hP, hKK, hD0⟩ := hv
  have hx := B.exec
  have hb := B.bytes
  have hr := B.returns
  have hts := atoms_spec (ws := wsX7_meet) B.pre
  have hown : s.vm.findClass RX7 = some m.cls := findClass_of_methodNamed B.named
  have hlocks := B.notSynchronized
  subst hsz
  have hD := hD0.self (sz := s.heap.size)
  generalize hAe : va_A ([]) s.heap.size = A at hD ⊢
  have hA : ∀ q : Nat, s.heap.size ≤ q → A q := fun q h => by rw [← hAe]; exact Or.inr h
  have hS : va_S A s.heap s.heap [] := va_S.rf
  have hP : va_P (dC, dI) vwCl ([]) s.heap := hP
  have hD : va_D A ([]) := hD
  have hl := lv_entry ([.int v0, .int v1]) (n := 2) (Nat.le_of_ble_eq_true rfl)
  rw [lg_entry_eq]
  generalize (lg_sl ([.int v0, .int v1]) ++ List.replicate (2 - (lg_sl ([.int v0, .int v1])).length) Slot.unset).toArray = ls at hl ⊢
  have hl : lv_has ls 2 [(0, .int v0), (1, .int v1)] := hl
  obtain ⟨Q, hQ⟩ : ∃ Q, Q = MQ below (Qq dC dI (some (.int (b2i r))) ([]) A) ([.int v0, .int v1] : List Value).toArray s 0 0 A := ⟨_, rfl⟩
  rw [← hQ]
  rw [f_X7_meet] at h
  clear hAe hD0
  refine lv_iload_n hx hb dX7_meet_0 rfl (lv_at hl 1 rfl) ?_
  refine lv_if_eq (tgt := 29) hx hb dX7_meet_1 (by decide) (fun k1 => ?_) (fun k1 => ?_)
  · have h := ite_t k1 h
    refine lv_iconst (v := (1 : Int32)) hx hb dX7_meet_29 (by decide) ?_
    refine lv_goto (tgt := 34) hx hb dX7_meet_30 (by decide) ?_
    subst h
    subst hQ
    exact W.zret (v := (1 : Int32)) hx hb hr rfl (fun t ht hW => ⟨⟨rfl, by rw [ht]; exact hP, hD⟩, hS.F ht⟩) hS.2.2 dX7_meet_34
  · have h := ite_f k1 h
    refine lv_iload_n hx hb dX7_meet_4 rfl (lv_at hl 0 rfl) ?_
    refine lv_iconst (v := (1 : Int32)) hx hb dX7_meet_5 (by decide) ?_
    have jn19 : f_X7_meet_19 v0 v1 = r → ∀ (H : Heap) (locs : List Loc) (ls : Array Slot), va_P (dC, dI) vwCl ([]) H → va_D A ([]) → va_S A s.heap H locs → lv_has ls 2 [(0, .int v0), (1, .int v1)] → W p l e (headSpec wsX7_meet rmX7_meet).room s m ([.int v0, .int v1] : List Value).toArray below meth c H locs 0 0 Q (F0 m 19 ls []) := by
      intro h H locs ls hP hD hS hl
      rw [f_X7_meet_19] at h
      refine lv_iload_n hx hb dX7_meet_19 rfl (lv_at hl 0 rfl) ?_
      refine lv_iconst (v := (2 : Int32)) hx hb dX7_meet_20 (by decide) ?_
      refine lv_icmp_ne (tgt := 33) hx hb dX7_meet_21 (by decide) (fun k2 => ?_) (fun k2 => ?_)
      · have h := ite_f k2 h
        refine lv_iconst (v := (0 : Int32)) hx hb dX7_meet_33 (by decide) ?_
        subst h
        subst hQ
        exact W.zret (v := (0 : Int32)) hx hb hr rfl (fun t ht hW => ⟨⟨rfl, by rw [ht]; exact hP, hD⟩, hS.F ht⟩) hS.2.2 dX7_meet_34
      · have h := ite_t k2 h
        refine lv_iload_n hx hb dX7_meet_24 rfl (lv_at hl 1 rfl) ?_
        refine lv_iconst (v := (2 : Int32)) hx hb dX7_meet_25 (by decide) ?_
        refine lv_icmp_ne (tgt := 33) hx hb dX7_meet_26 (by decide) (fun k3 => ?_) (fun k3 => ?_)
        · have h := ite_f k3 h
          refine lv_iconst (v := (0 : Int32)) hx hb dX7_meet_33 (by decide) ?_
          subst h
          subst hQ
          exact W.zret (v := (0 : Int32)) hx hb hr rfl (fun t ht hW => ⟨⟨rfl, by rw [ht]; exact hP, hD⟩, hS.F ht⟩) hS.2.2 dX7_meet_34
        · have h := ite_t k3 h
          refine lv_iconst (v := (1 : Int32)) hx hb dX7_meet_29 (by decide) ?_
          refine lv_goto (tgt := 34) hx hb dX7_meet_30 (by decide) ?_
          subst h
          subst hQ
          exact W.zret (v := (1 : Int32)) hx hb hr rfl (fun t ht hW => ⟨⟨rfl, by rw [ht]; exact hP, hD⟩, hS.F ht⟩) hS.2.2 dX7_meet_34
    refine lv_icmp_ne (tgt := 19) hx hb dX7_meet_6 (by decide) (fun k4 => ?_) (fun k4 => ?_)
    · have h := ite_f k4 h
      exact jn19 h _ _ _ hP hD hS (lv_sub hl [0, 1] rfl)
    · have h := ite_t k4 h
      refine lv_iload_n hx hb dX7_meet_9 rfl (lv_at hl 1 rfl) ?_
      refine lv_iconst (v := (1 : Int32)) hx hb dX7_meet_10 (by decide) ?_
      refine lv_icmp_eq (tgt := 29) hx hb dX7_meet_11 (by decide) (fun k5 => ?_) (fun k5 => ?_)
      · have h := ite_t k5 h
        refine lv_iconst (v := (1 : Int32)) hx hb dX7_meet_29 (by decide) ?_
        refine lv_goto (tgt := 34) hx hb dX7_meet_30 (by decide) ?_
        subst h
        subst hQ
        exact W.zret (v := (1 : Int32)) hx hb hr rfl (fun t ht hW => ⟨⟨rfl, by rw [ht]; exact hP, hD⟩, hS.F ht⟩) hS.2.2 dX7_meet_34
      · have h := ite_f k5 h
        refine lv_iload_n hx hb dX7_meet_14 rfl (lv_at hl 1 rfl) ?_
        refine lv_iconst (v := (-1 : Int32)) hx hb dX7_meet_15 (by decide) ?_
        refine lv_icmp_eq (tgt := 29) hx hb dX7_meet_16 (by decide) (fun k6 => ?_) (fun k6 => ?_)
        · have h := ite_t k6 h
          refine lv_iconst (v := (1 : Int32)) hx hb dX7_meet_29 (by decide) ?_
          refine lv_goto (tgt := 34) hx hb dX7_meet_30 (by decide) ?_
          subst h
          subst hQ
          exact W.zret (v := (1 : Int32)) hx hb hr rfl (fun t ht hW => ⟨⟨rfl, by rw [ht]; exact hP, hD⟩, hS.F ht⟩) hS.2.2 dX7_meet_34
        · have h := ite_f k6 h
          exact jn19 h _ _ _ hP hD hS (lv_sub hl [0, 1] rfl)
def f_X7_shiftBehind_14 (y14_0 : Int32) : Int32 := bnd (if y14_0 < (40 : Int32) then y14_0 else (40 : Int32)) fun q1 : Int32 => bnd (if (-40 : Int32) < q1 then q1 else (-40 : Int32)) fun q2 : Int32 => q2
def f_X7_shiftBehind (v0 : Int32) (v1 : Int32) (v2 : Int32) : Int32 := if v2 = (1 : Int32) then (f_X7_shiftBehind_14 (v0 - v1)) else (f_X7_shiftBehind_14 (v0 + v1))
abbrev rmX7_shiftBehind : Room := { frames := 1, cells := 0, slots := 0, locals := 21 }
theorem dsc_X7_shiftBehind : yX7_shiftBehind.cls ≠ "java/lang/invoke/MethodHandle" ∧ yX7_shiftBehind.cls ≠ "java/lang/invoke/VarHandle" ∧ (parseMethodDescriptor yX7_shiftBehind.desc).map (fun d => d.parameters.length) = some 3 := by decide +kernel
set_option maxHeartbeats 4000000 in
set_option maxRecDepth 100000 in
theorem c_X7_shiftBehind (l : Launch) (dC : Nat → ClassId) (dI : Nat → Nat → Nat) (cB cI cZ cO : ClassId) (v0 : Int32) (v1 : Int32) (v2 : Int32) {r : Int32} (h : f_X7_shiftBehind v0 v1 v2 = r) : Ct dC dI cB cI cZ cO l yX7_shiftBehind wsX7_shiftBehind rmX7_shiftBehind [.int v0, .int v1, .int v2] ([]) (some (.int r)) ([]) := by
  intro sz
  refine Met.ofW (cc := cX7_shiftBehind) (maxL := 4) (ret := (some .int)) (by decide) rfl ?_
  intro p e s m args below meth c s₁ B hml hv
  obtain ⟨rfl, hsz, hP, hKK, hD0⟩ := hv
  have hx := B.exec
  have hb := B.bytes
  have hr := B.returns
  have hts := atoms_spec (ws := wsX7_shiftBehind) B.pre
  have hown : s.vm.findClass RX7 = some m.cls := findClass_of_methodNamed B.named
  have hlocks := B.notSynchronized
  subst hsz
  have hD := hD0.self (sz := s.heap.size)
  generalize hAe : va_A ([]) s.heap.size = A at hD ⊢
  have hA : ∀ q : Nat, s.heap.size ≤ q → A q := fun q h => by rw [← hAe]; exact Or.inr h
  have hS : va_S A s.heap s.heap [] := va_S.rf
  have hP : va_P (dC, dI) vwCl ([]) s.heap := hP
  have hD : va_D A ([]) := hD
  have hl := lv_entry ([.int v0, .int v1, .int v2]) (n := 4) (Nat.le_of_ble_eq_true rfl)
  rw [lg_entry_eq]
  generalize (lg_sl ([.int v0, .int v1, .int v2]) ++ List.replicate (4 - (lg_sl ([.int v0, .int v1, .int v2])).length) Slot.unset).toArray = ls at hl ⊢
  have hl : lv_has ls 4 [(0, .int v0), (1, .int v1), (2, .int v2)] := hl
  obtain ⟨Q, hQ⟩ : ∃ Q, Q = MQ below (Qq dC dI (some (.int r)) ([]) A) ([.int v0, .int v1, .int v2] : List Value).toArray s 0 0 A := ⟨_, rfl⟩
  rw [← hQ]
  rw [f_X7_shiftBehind] at h
  clear hAe hD0
  refine lv_iload_n hx hb dX7_shiftBehind_0 rfl (lv_at hl 2 rfl) ?_
  refine lv_iconst (v := (1 : Int32)) hx hb dX7_shiftBehind_1 (by decide) ?_
  have jn14 : ∀ (y14_0 : Int32), f_X7_shiftBehind_14 y14_0 = r → ∀ (H : Heap) (locs : List Loc) (ls : Array Slot), va_P (dC, dI) vwCl ([]) H → va_D A ([]) → va_S A s.heap H locs → lv_has ls 4 [] → W p l e (headSpec wsX7_shiftBehind rmX7_shiftBehind).room s m ([.int v0, .int v1, .int v2] : List Value).toArray below meth c H locs 0 0 Q (F0 m 14 ls [.int y14_0]) := by
    intro y14_0 h H locs ls hP hD hS hl
    rw [f_X7_shiftBehind_14] at h
    refine lv_istore_n (lv' := [(3, .int y14_0)]) hx hb dX7_shiftBehind_14 rfl hl (by decide) rfl (fun ls hl => ?_)
    refine lv_bipush (v := (-40 : Int32)) hx hb dX7_shiftBehind_15 (by decide) ?_
    refine lv_bipush (v := (40 : Int32)) hx hb dX7_shiftBehind_17 (by decide) ?_
    refine lv_iload_n hx hb dX7_shiftBehind_19 rfl (lv_at hl 0 rfl) ?_
    obtain ⟨q1, hq1, h⟩ := bnd_e h
    refine va_mmin hx hb (hml.trans hl.1.symm) hown (hts (.methodLink RX7 296 Lib.Math.min.name) (List.mem_of_getElem? (i := 1) rfl)) (hts (.static Lib.Math.min.name) (List.mem_of_getElem? (i := 2) rfl)) (hts (.initialized "java/lang/Math") (List.mem_of_getElem? (i := 3) rfl)) (hts (.code Lib.Math.min.name Lib.Math.min.code 2 (some .int)) (List.mem_of_getElem? (i := 4) rfl)) (Nat.le_of_ble_eq_true rfl) (Nat.le_of_ble_eq_true rfl) (Nat.zero_le _) (Nat.zero_le _) dX7_shiftBehind_20 ?_
    refine lv_topE hq1 ?_
    obtain ⟨q2, hq2, h⟩ := bnd_e h
    refine va_mmax hx hb (hml.trans hl.1.symm) hown (hts (.methodLink RX7 301 Lib.Math.max.name) (List.mem_of_getElem? (i := 5) rfl)) (hts (.static Lib.Math.max.name) (List.mem_of_getElem? (i := 6) rfl)) (hts (.initialized "java/lang/Math") (List.mem_of_getElem? (i := 3) rfl)) (hts (.code Lib.Math.max.name Lib.Math.max.code 2 (some .int)) (List.mem_of_getElem? (i := 7) rfl)) (Nat.le_of_ble_eq_true rfl) (Nat.le_of_ble_eq_true rfl) (Nat.zero_le _) (Nat.zero_le _) dX7_shiftBehind_23 ?_
    refine lv_topE hq2 ?_
    subst h
    subst hQ
    exact W.iret (v := q2) hx hb hr (fun t ht hW => ⟨⟨rfl, by rw [ht]; exact hP, hD⟩, hS.F ht⟩) hS.2.2 dX7_shiftBehind_26
  refine lv_icmp_ne (tgt := 11) hx hb dX7_shiftBehind_2 (by decide) (fun k3 => ?_) (fun k3 => ?_)
  · have h := ite_f k3 h
    refine lv_iload_n hx hb dX7_shiftBehind_11 rfl (lv_at hl 0 rfl) ?_
    refine lv_iload_n hx hb dX7_shiftBehind_12 rfl (lv_at hl 1 rfl) ?_
    refine lv_iadd hx hb dX7_shiftBehind_13 ?_
    exact jn14 (v0 + v1) h _ _ _ hP hD hS (lv_sub hl [] rfl)
  · have h := ite_t k3 h
    refine lv_iload_n hx hb dX7_shiftBehind_5 rfl (lv_at hl 0 rfl) ?_
    refine lv_iload_n hx hb dX7_shiftBehind_6 rfl (lv_at hl 1 rfl) ?_
    refine lv_isub hx hb dX7_shiftBehind_7 ?_
    refine lv_goto (tgt := 14) hx hb dX7_shiftBehind_8 (by decide) ?_
    exact jn14 (v0 - v1) h _ _ _ hP hD hS (lv_sub hl [] rfl)
def f_X7_oneOf (v0 : Int32) (v1 : Int32) : Int32 := ((v0 * (6 : Int32)) + v1)
abbrev rmX7_oneOf : Room := { frames := 0, cells := 0, slots := 0, locals := 0 }
theorem dsc_X7_oneOf : yX7_oneOf.cls ≠ "java/lang/invoke/MethodHandle" ∧ yX7_oneOf.cls ≠ "java/lang/invoke/VarHandle" ∧ (parseMethodDescriptor yX7_oneOf.desc).map (fun d => d.parameters.length) = some 2 := by decide +kernel
set_option maxHeartbeats 4000000 in
set_option maxRecDepth 100000 in
theorem c_X7_oneOf (l : Launch) (dC : Nat → ClassId) (dI : Nat → Nat → Nat) (cB cI cZ cO : ClassId) (v0 : Int32) (v1 : Int32) {r : Int32} (h : f_X7_oneOf v0 v1 = r) : Ct dC dI cB cI cZ cO l yX7_oneOf wsX7_oneOf rmX7_oneOf [.int v0, .int v1] ([]) (some (.int r)) ([]) := by
  intro sz
  refine Met.ofW (cc := cX7_oneOf) (maxL := 2) (ret := (some .int)) (by decide) rfl ?_
  intro p e s m args below meth c s₁ B hml hv
  obtain ⟨rfl, hsz, hP, hKK, hD0⟩ := hv
  have hx := B.exec
  have hb := B.bytes
  have hr := B.returns
  have hts := atoms_spec (ws := wsX7_oneOf) B.pre
  have hown : s.vm.findClass RX7 = some m.cls := findClass_of_methodNamed B.named
  have hlocks := B.notSynchronized
  subst hsz
  have hD := hD0.self (sz := s.heap.size)
  generalize hAe : va_A ([]) s.heap.size = A at hD ⊢
  have hA : ∀ q : Nat, s.heap.size ≤ q → A q := fun q h => by rw [← hAe]; exact Or.inr h
  have hS : va_S A s.heap s.heap [] := va_S.rf
  have hP : va_P (dC, dI) vwCl ([]) s.heap := hP
  have hD : va_D A ([]) := hD
  have hl := lv_entry ([.int v0, .int v1]) (n := 2) (Nat.le_of_ble_eq_true rfl)
  rw [lg_entry_eq]
  generalize (lg_sl ([.int v0, .int v1]) ++ List.replicate (2 - (lg_sl ([.int v0, .int v1])).length) Slot.unset).toArray = ls at hl ⊢
  have hl : lv_has ls 2 [(0, .int v0), (1, .int v1)] := hl
  obtain ⟨Q, hQ⟩ : ∃ Q, Q = MQ below (Qq dC dI (some (.int r)) ([]) A) ([.int v0, .int v1] : List Value).toArray s 0 0 A := ⟨_, rfl⟩
  rw [← hQ]
  rw [f_X7_oneOf] at h
  clear hAe hD0
  refine lv_iload_n hx hb dX7_oneOf_0 rfl (lv_at hl 0 rfl) ?_
  refine lv_bipush (v := (6 : Int32)) hx hb dX7_oneOf_1 (by decide) ?_
  refine lv_imul hx hb dX7_oneOf_3 ?_
  refine lv_iload_n hx hb dX7_oneOf_4 rfl (lv_at hl 1 rfl) ?_
  refine lv_iadd hx hb dX7_oneOf_5 ?_
  subst h
  subst hQ
  exact W.iret (v := ((v0 * (6 : Int32)) + v1)) hx hb hr (fun t ht hW => ⟨⟨rfl, by rw [ht]; exact hP, hD⟩, hS.F ht⟩) hS.2.2 dX7_oneOf_6
def f_X7_landOf (v0 : Int32) : Int32 := if (6 : Int32) ≤ v0 then (1 : Int32) else (0 : Int32)
abbrev rmX7_landOf : Room := { frames := 0, cells := 0, slots := 0, locals := 0 }
theorem dsc_X7_landOf : yX7_landOf.cls ≠ "java/lang/invoke/MethodHandle" ∧ yX7_landOf.cls ≠ "java/lang/invoke/VarHandle" ∧ (parseMethodDescriptor yX7_landOf.desc).map (fun d => d.parameters.length) = some 1 := by decide +kernel
set_option maxHeartbeats 4000000 in
set_option maxRecDepth 100000 in
theorem c_X7_landOf (l : Launch) (dC : Nat → ClassId) (dI : Nat → Nat → Nat) (cB cI cZ cO : ClassId) (v0 : Int32) {r : Int32} (h : f_X7_landOf v0 = r) : Ct dC dI cB cI cZ cO l yX7_landOf wsX7_landOf rmX7_landOf [.int v0] ([]) (some (.int r)) ([]) := by
  intro sz
  refine Met.ofW (cc := cX7_landOf) (maxL := 1) (ret := (some .int)) (by decide) rfl ?_
  intro p e s m args below meth c s₁ B hml hv
  obtain ⟨rfl, hsz, hP, hKK, hD0⟩ := hv
  have hx := B.exec
  have hb := B.bytes
  have hr := B.returns
  have hts := atoms_spec (ws := wsX7_landOf) B.pre
  have hown : s.vm.findClass RX7 = some m.cls := findClass_of_methodNamed B.named
  have hlocks := B.notSynchronized
  subst hsz
  have hD := hD0.self (sz := s.heap.size)
  generalize hAe : va_A ([]) s.heap.size = A at hD ⊢
  have hA : ∀ q : Nat, s.heap.size ≤ q → A q := fun q h => by rw [← hAe]; exact Or.inr h
  have hS : va_S A s.heap s.heap [] := va_S.rf
  have hP : va_P (dC, dI) vwCl ([]) s.heap := hP
  have hD : va_D A ([]) := hD
  have hl := lv_entry ([.int v0]) (n := 1) (Nat.le_of_ble_eq_true rfl)
  rw [lg_entry_eq]
  generalize (lg_sl ([.int v0]) ++ List.replicate (1 - (lg_sl ([.int v0])).length) Slot.unset).toArray = ls at hl ⊢
  have hl : lv_has ls 1 [(0, .int v0)] := hl
  obtain ⟨Q, hQ⟩ : ∃ Q, Q = MQ below (Qq dC dI (some (.int r)) ([]) A) ([.int v0] : List Value).toArray s 0 0 A := ⟨_, rfl⟩
  rw [← hQ]
  rw [f_X7_landOf] at h
  clear hAe hD0
  refine lv_iload_n hx hb dX7_landOf_0 rfl (lv_at hl 0 rfl) ?_
  refine lv_bipush (v := (6 : Int32)) hx hb dX7_landOf_1 (by decide) ?_
  refine lv_icmp_ge (tgt := 10) hx hb dX7_landOf_3 (by decide) (fun k1 => ?_) (fun k1 => ?_)
  · have h := ite_t k1 h
    refine lv_iconst (v := (1 : Int32)) hx hb dX7_landOf_10 (by decide) ?_
    subst h
    subst hQ
    exact W.iret (v := (1 : Int32)) hx hb hr (fun t ht hW => ⟨⟨rfl, by rw [ht]; exact hP, hD⟩, hS.F ht⟩) hS.2.2 dX7_landOf_11
  · have h := ite_f k1 h
    refine lv_iconst (v := (0 : Int32)) hx hb dX7_landOf_6 (by decide) ?_
    refine lv_goto (tgt := 11) hx hb dX7_landOf_7 (by decide) ?_
    subst h
    subst hQ
    exact W.iret (v := (0 : Int32)) hx hb hr (fun t ht hW => ⟨⟨rfl, by rw [ht]; exact hP, hD⟩, hS.F ht⟩) hS.2.2 dX7_landOf_11
def f_X7_kOf (v0 : Int32) : Int32 := if (6 : Int32) ≤ v0 then (v0 - (6 : Int32)) else v0
abbrev rmX7_kOf : Room := { frames := 0, cells := 0, slots := 0, locals := 0 }
theorem dsc_X7_kOf : yX7_kOf.cls ≠ "java/lang/invoke/MethodHandle" ∧ yX7_kOf.cls ≠ "java/lang/invoke/VarHandle" ∧ (parseMethodDescriptor yX7_kOf.desc).map (fun d => d.parameters.length) = some 1 := by decide +kernel
set_option maxHeartbeats 4000000 in
set_option maxRecDepth 100000 in
theorem c_X7_kOf (l : Launch) (dC : Nat → ClassId) (dI : Nat → Nat → Nat) (cB cI cZ cO : ClassId) (v0 : Int32) {r : Int32} (h : f_X7_kOf v0 = r) : Ct dC dI cB cI cZ cO l yX7_kOf wsX7_kOf rmX7_kOf [.int v0] ([]) (some (.int r)) ([]) := by
  intro sz
  refine Met.ofW (cc := cX7_kOf) (maxL := 1) (ret := (some .int)) (by decide) rfl ?_
  intro p e s m args below meth c s₁ B hml hv
  obtain ⟨rfl, hsz, hP, hKK, hD0⟩ := hv
  have hx := B.exec
  have hb := B.bytes
  have hr := B.returns
  have hts := atoms_spec (ws := wsX7_kOf) B.pre
  have hown : s.vm.findClass RX7 = some m.cls := findClass_of_methodNamed B.named
  have hlocks := B.notSynchronized
  subst hsz
  have hD := hD0.self (sz := s.heap.size)
  generalize hAe : va_A ([]) s.heap.size = A at hD ⊢
  have hA : ∀ q : Nat, s.heap.size ≤ q → A q := fun q h => by rw [← hAe]; exact Or.inr h
  have hS : va_S A s.heap s.heap [] := va_S.rf
  have hP : va_P (dC, dI) vwCl ([]) s.heap := hP
  have hD : va_D A ([]) := hD
  have hl := lv_entry ([.int v0]) (n := 1) (Nat.le_of_ble_eq_true rfl)
  rw [lg_entry_eq]
  generalize (lg_sl ([.int v0]) ++ List.replicate (1 - (lg_sl ([.int v0])).length) Slot.unset).toArray = ls at hl ⊢
  have hl : lv_has ls 1 [(0, .int v0)] := hl
  obtain ⟨Q, hQ⟩ : ∃ Q, Q = MQ below (Qq dC dI (some (.int r)) ([]) A) ([.int v0] : List Value).toArray s 0 0 A := ⟨_, rfl⟩
  rw [← hQ]
  rw [f_X7_kOf] at h
  clear hAe hD0
  refine lv_iload_n hx hb dX7_kOf_0 rfl (lv_at hl 0 rfl) ?_
  refine lv_bipush (v := (6 : Int32)) hx hb dX7_kOf_1 (by decide) ?_
  refine lv_icmp_ge (tgt := 10) hx hb dX7_kOf_3 (by decide) (fun k1 => ?_) (fun k1 => ?_)
  · have h := ite_t k1 h
    refine lv_iload_n hx hb dX7_kOf_10 rfl (lv_at hl 0 rfl) ?_
    refine lv_bipush (v := (6 : Int32)) hx hb dX7_kOf_11 (by decide) ?_
    refine lv_isub hx hb dX7_kOf_13 ?_
    subst h
    subst hQ
    exact W.iret (v := (v0 - (6 : Int32))) hx hb hr (fun t ht hW => ⟨⟨rfl, by rw [ht]; exact hP, hD⟩, hS.F ht⟩) hS.2.2 dX7_kOf_14
  · have h := ite_f k1 h
    refine lv_iload_n hx hb dX7_kOf_6 rfl (lv_at hl 0 rfl) ?_
    refine lv_goto (tgt := 14) hx hb dX7_kOf_7 (by decide) ?_
    subst h
    subst hQ
    exact W.iret (v := v0) hx hb hr (fun t ht hW => ⟨⟨rfl, by rw [ht]; exact hP, hD⟩, hS.F ht⟩) hS.2.2 dX7_kOf_14
def f_X7_bitOf (v0 : Int32) (v1 : Int32) : Int32 := ((v0 >>> (v1 &&& 31)) &&& (1 : Int32))
abbrev rmX7_bitOf : Room := { frames := 0, cells := 0, slots := 0, locals := 0 }
theorem dsc_X7_bitOf : yX7_bitOf.cls ≠ "java/lang/invoke/MethodHandle" ∧ yX7_bitOf.cls ≠ "java/lang/invoke/VarHandle" ∧ (parseMethodDescriptor yX7_bitOf.desc).map (fun d => d.parameters.length) = some 2 := by decide +kernel
set_option maxHeartbeats 4000000 in
set_option maxRecDepth 100000 in
theorem c_X7_bitOf (l : Launch) (dC : Nat → ClassId) (dI : Nat → Nat → Nat) (cB cI cZ cO : ClassId) (v0 : Int32) (v1 : Int32) {r : Int32} (h : f_X7_bitOf v0 v1 = r) : Ct dC dI cB cI cZ cO l yX7_bitOf wsX7_bitOf rmX7_bitOf [.int v0, .int v1] ([]) (some (.int r)) ([]) := by
  intro sz
  refine Met.ofW (cc := cX7_bitOf) (maxL := 2) (ret := (some .int)) (by decide) rfl ?_
  intro p e s m args below meth c s₁ B hml hv
  obtain ⟨rfl, hsz, hP, hKK, hD0⟩ := hv
  have hx := B.exec
  have hb := B.bytes
  have hr := B.returns
  have hts := atoms_spec (ws := wsX7_bitOf) B.pre
  have hown : s.vm.findClass RX7 = some m.cls := findClass_of_methodNamed B.named
  have hlocks := B.notSynchronized
  subst hsz
  have hD := hD0.self (sz := s.heap.size)
  generalize hAe : va_A ([]) s.heap.size = A at hD ⊢
  have hA : ∀ q : Nat, s.heap.size ≤ q → A q := fun q h => by rw [← hAe]; exact Or.inr h
  have hS : va_S A s.heap s.heap [] := va_S.rf
  have hP : va_P (dC, dI) vwCl ([]) s.heap := hP
  have hD : va_D A ([]) := hD
  have hl := lv_entry ([.int v0, .int v1]) (n := 2) (Nat.le_of_ble_eq_true rfl)
  rw [lg_entry_eq]
  generalize (lg_sl ([.int v0, .int v1]) ++ List.replicate (2 - (lg_sl ([.int v0, .int v1])).length) Slot.unset).toArray = ls at hl ⊢
  have hl : lv_has ls 2 [(0, .int v0), (1, .int v1)] := hl
  obtain ⟨Q, hQ⟩ : ∃ Q, Q = MQ below (Qq dC dI (some (.int r)) ([]) A) ([.int v0, .int v1] : List Value).toArray s 0 0 A := ⟨_, rfl⟩
  rw [← hQ]
  rw [f_X7_bitOf] at h
  clear hAe hD0
  refine lv_iload_n hx hb dX7_bitOf_0 rfl (lv_at hl 0 rfl) ?_
  refine lv_iload_n hx hb dX7_bitOf_1 rfl (lv_at hl 1 rfl) ?_
  refine lv_ishr hx hb dX7_bitOf_2 ?_
  refine lv_iconst (v := (1 : Int32)) hx hb dX7_bitOf_3 (by decide) ?_
  refine lv_iand hx hb dX7_bitOf_4 ?_
  subst h
  subst hQ
  exact W.iret (v := ((v0 >>> (v1 &&& 31)) &&& (1 : Int32))) hx hb hr (fun t ht hW => ⟨⟨rfl, by rw [ht]; exact hP, hD⟩, hS.F ht⟩) hS.2.2 dX7_bitOf_5
def f_X7_cell (n0 : Nat) (f0 : Nat → Int32) (v1 : Int32) : Option (Int32) := if v1 < 0 then (some (0 : Int32)) else (if (Int32.ofNat n0) ≤ v1 then (some (0 : Int32)) else (if v1 < 0 ∨ n0 ≤ v1.toNatClampNeg then none else some (f0 v1.toNatClampNeg)))
abbrev rmX7_cell : Room := { frames := 0, cells := 0, slots := 0, locals := 0 }
theorem dsc_X7_cell : yX7_cell.cls ≠ "java/lang/invoke/MethodHandle" ∧ yX7_cell.cls ≠ "java/lang/invoke/VarHandle" ∧ (parseMethodDescriptor yX7_cell.desc).map (fun d => d.parameters.length) = some 2 := by decide +kernel
set_option maxHeartbeats 4000000 in
set_option maxRecDepth 100000 in
theorem c_X7_cell (l : Launch) (dC : Nat → ClassId) (dI : Nat → Nat → Nat) (cB cI cZ cO : ClassId) (r0 : Nat) (n0 : Nat) (f0 : Nat → Int32) (v1 : Int32) {r : Int32} (h : f_X7_cell n0 f0 v1 = some r) : Ct dC dI cB cI cZ cO l yX7_cell wsX7_cell rmX7_cell [.ref r0, .int v1] ([(r0, .inl (cI, n0, .inl f0))]) (some (.int r)) ([(r0, .inl (cI, n0, .inl f0))]) := by
  intro sz
  refine Met.ofW (cc := cX7_cell) (maxL := 2) (ret := (some .int)) (by decide) rfl ?_
  intro p e s m args below meth c s₁ B hml hv
  obtain ⟨rfl, hsz, hP, hKK, hD0⟩ := hv
  have hx := B.exec
  have hb := B.bytes
  have hr := B.returns
  have hts := atoms_spec (ws := wsX7_cell) B.pre
  have hown : s.vm.findClass RX7 = some m.cls := findClass_of_methodNamed B.named
  have hlocks := B.notSynchronized
  subst hsz
  have hD := hD0.self (sz := s.heap.size)
  generalize hAe : va_A ([(r0, .inl (cI, n0, .inl f0))]) s.heap.size = A at hD ⊢
  have hA : ∀ q : Nat, s.heap.size ≤ q → A q := fun q h => by rw [← hAe]; exact Or.inr h
  have hS : va_S A s.heap s.heap [] := va_S.rf
  have hP : va_P (dC, dI) vwCl ([(r0, .inl (cI, n0, .inl f0))]) s.heap := hP
  have hD : va_D A ([(r0, .inl (cI, n0, .inl f0))]) := hD
  have hl := lv_entry ([.ref r0, .int v1]) (n := 2) (Nat.le_of_ble_eq_true rfl)
  rw [lg_entry_eq]
  generalize (lg_sl ([.ref r0, .int v1]) ++ List.replicate (2 - (lg_sl ([.ref r0, .int v1])).length) Slot.unset).toArray = ls at hl ⊢
  have hl : lv_has ls 2 [(0, .ref r0), (1, .int v1)] := hl
  obtain ⟨Q, hQ⟩ : ∃ Q, Q = MQ below (Qq dC dI (some (.int r)) ([(r0, .inl (cI, n0, .inl f0))]) A) ([.ref r0, .int v1] : List Value).toArray s 0 0 A := ⟨_, rfl⟩
  rw [← hQ]
  rw [f_X7_cell] at h
  clear hAe hD0
  refine lv_iload_n hx hb dX7_cell_0 rfl (lv_at hl 1 rfl) ?_
  refine lv_if_lt (tgt := 16) hx hb dX7_cell_1 (by decide) (fun k1 => ?_) (fun k1 => ?_)
  · have h := ite_t k1 h
    refine lv_iconst (v := (0 : Int32)) hx hb dX7_cell_16 (by decide) ?_
    have h := Option.some.inj h
    subst h
    subst hQ
    exact W.iret (v := (0 : Int32)) hx hb hr (fun t ht hW => ⟨⟨rfl, by rw [ht]; exact hP, hD⟩, hS.F ht⟩) hS.2.2 dX7_cell_17
  · have h := ite_f k1 h
    refine lv_iload_n hx hb dX7_cell_4 rfl (lv_at hl 1 rfl) ?_
    refine lv_aload_n hx hb dX7_cell_5 rfl (lv_at hl 0 rfl) ?_
    refine va_alen (v := (Int32.ofNat n0)) hx hb hKK.1 hP 0 1 rfl (ty := .int) rfl rfl dX7_cell_6 ?_
    refine lv_icmp_ge (tgt := 16) hx hb dX7_cell_7 (by decide) (fun k2 => ?_) (fun k2 => ?_)
    · have h := ite_t k2 h
      refine lv_iconst (v := (0 : Int32)) hx hb dX7_cell_16 (by decide) ?_
      have h := Option.some.inj h
      subst h
      subst hQ
      exact W.iret (v := (0 : Int32)) hx hb hr (fun t ht hW => ⟨⟨rfl, by rw [ht]; exact hP, hD⟩, hS.F ht⟩) hS.2.2 dX7_cell_17
    · have h := ite_f k2 h
      refine lv_aload_n hx hb dX7_cell_10 rfl (lv_at hl 0 rfl) ?_
      refine lv_iload_n hx hb dX7_cell_11 rfl (lv_at hl 1 rfl) ?_
      obtain ⟨k3, h⟩ := ite_n h
      refine va_iald hx hb hKK.1 hP 0 1 rfl rfl k3 dX7_cell_12 ?_
      refine lv_goto (tgt := 17) hx hb dX7_cell_13 (by decide) ?_
      have h := Option.some.inj h
      subst h
      subst hQ
      exact W.iret (v := (f0 v1.toNatClampNeg)) hx hb hr (fun t ht hW => ⟨⟨rfl, by rw [ht]; exact hP, hD⟩, hS.F ht⟩) hS.2.2 dX7_cell_17
def f_X7_setCell (n0 : Nat) (f0 : Nat → Int32) (v1 : Int32) (v2 : Int32) : Option ((Nat → Int32)) := if v1 < 0 then (some f0) else (if (Int32.ofNat n0) ≤ v1 then (some f0) else (if v1 < 0 ∨ n0 ≤ v1.toNatClampNeg then none else bnd (upd f0 v1.toNatClampNeg v2) fun u4 : Nat → Int32 => some u4))
abbrev rmX7_setCell : Room := { frames := 0, cells := 0, slots := 0, locals := 0 }
theorem dsc_X7_setCell : yX7_setCell.cls ≠ "java/lang/invoke/MethodHandle" ∧ yX7_setCell.cls ≠ "java/lang/invoke/VarHandle" ∧ (parseMethodDescriptor yX7_setCell.desc).map (fun d => d.parameters.length) = some 3 := by decide +kernel
set_option maxHeartbeats 4000000 in
set_option maxRecDepth 100000 in
theorem c_X7_setCell (l : Launch) (dC : Nat → ClassId) (dI : Nat → Nat → Nat) (cB cI cZ cO : ClassId) (r0 : Nat) (n0 : Nat) (f0 : Nat → Int32) (v1 : Int32) (v2 : Int32) {r : (Nat → Int32)} (h : f_X7_setCell n0 f0 v1 v2 = some r) : Ct dC dI cB cI cZ cO l yX7_setCell wsX7_setCell rmX7_setCell [.ref r0, .int v1, .int v2] ([(r0, .inl (cI, n0, .inl f0))]) none ([(r0, .inl (cI, n0, .inl r))]) := by
  intro sz
  refine Met.ofW (cc := cX7_setCell) (maxL := 3) (ret := none) (by decide) rfl ?_
  intro p e s m args below meth c s₁ B hml hv
  obtain ⟨rfl, hsz, hP, hKK, hD0⟩ := hv
  have hx := B.exec
  have hb := B.bytes
  have hr := B.returns
  have hts := atoms_spec (ws := wsX7_setCell) B.pre
  have hown : s.vm.findClass RX7 = some m.cls := findClass_of_methodNamed B.named
  have hlocks := B.notSynchronized
  subst hsz
  have hD := hD0.self (sz := s.heap.size)
  generalize hAe : va_A ([(r0, .inl (cI, n0, .inl f0))]) s.heap.size = A at hD ⊢
  have hA : ∀ q : Nat, s.heap.size ≤ q → A q := fun q h => by rw [← hAe]; exact Or.inr h
  have hS : va_S A s.heap s.heap [] := va_S.rf
  have hP : va_P (dC, dI) vwCl ([(r0, .inl (cI, n0, .inl f0))]) s.heap := hP
  have hD : va_D A ([(r0, .inl (cI, n0, .inl f0))]) := hD
  have hl := lv_entry ([.ref r0, .int v1, .int v2]) (n := 3) (Nat.le_of_ble_eq_true rfl)
  rw [lg_entry_eq]
  generalize (lg_sl ([.ref r0, .int v1, .int v2]) ++ List.replicate (3 - (lg_sl ([.ref r0, .int v1, .int v2])).length) Slot.unset).toArray = ls at hl ⊢
  have hl : lv_has ls 3 [(0, .ref r0), (1, .int v1), (2, .int v2)] := hl
  obtain ⟨Q, hQ⟩ : ∃ Q, Q = MQ below (Qq dC dI none ([(r0, .inl (cI, n0, .inl r))]) A) ([.ref r0, .int v1, .int v2] : List Value).toArray s 0 0 A := ⟨_, rfl⟩
  rw [← hQ]
  rw [f_X7_setCell] at h
  clear hAe hD0
  refine lv_iload_n hx hb dX7_setCell_0 rfl (lv_at hl 1 rfl) ?_
  refine lv_if_lt (tgt := 14) hx hb dX7_setCell_1 (by decide) (fun k1 => ?_) (fun k1 => ?_)
  · have h := ite_t k1 h
    have h := Option.some.inj h
    subst h
    subst hQ
    exact W.vret hx hb hr (fun t ht hW => ⟨⟨rfl, by rw [ht]; exact hP, hD⟩, hS.F ht⟩) hS.2.2 dX7_setCell_14
  · have h := ite_f k1 h
    refine lv_iload_n hx hb dX7_setCell_4 rfl (lv_at hl 1 rfl) ?_
    refine lv_aload_n hx hb dX7_setCell_5 rfl (lv_at hl 0 rfl) ?_
    refine va_alen (v := (Int32.ofNat n0)) hx hb hKK.1 hP 0 1 rfl (ty := .int) rfl rfl dX7_setCell_6 ?_
    refine lv_icmp_ge (tgt := 14) hx hb dX7_setCell_7 (by decide) (fun k2 => ?_) (fun k2 => ?_)
    · have h := ite_t k2 h
      have h := Option.some.inj h
      subst h
      subst hQ
      exact W.vret hx hb hr (fun t ht hW => ⟨⟨rfl, by rw [ht]; exact hP, hD⟩, hS.F ht⟩) hS.2.2 dX7_setCell_14
    · have h := ite_f k2 h
      refine lv_aload_n hx hb dX7_setCell_10 rfl (lv_at hl 0 rfl) ?_
      refine lv_iload_n hx hb dX7_setCell_11 rfl (lv_at hl 1 rfl) ?_
      refine lv_iload_n hx hb dX7_setCell_12 rfl (lv_at hl 2 rfl) ?_
      obtain ⟨k3, h⟩ := ite_n h
      obtain ⟨u4, hu4, h⟩ := bnd_e h
      refine k_iast (f := f0) hx hb hKK.1 hP hD hS 0 1 hu4 rfl rfl k3 dX7_setCell_13 (fun H locs hP hD hS => ?_)
      have hP : va_P (dC, dI) vwCl ([(r0, .inl (cI, n0, .inl u4))]) H := hP
      have hD : va_D A ([(r0, .inl (cI, n0, .inl u4))]) := hD
      have h := Option.some.inj h
      subst h
      subst hQ
      exact W.vret hx hb hr (fun t ht hW => ⟨⟨rfl, by rw [ht]; exact hP, hD⟩, hS.F ht⟩) hS.2.2 dX7_setCell_14
def f_X7_copyCells_2 (n0 : Nat) (f0 : Nat → Int32) (n1 : Nat) : Nat → Int32 → (Nat → Int32) → Option ((Nat → Int32))
  | 0, _, _ => none
  | nn2+1, x2_2, f2_1 => if (Int32.ofNat n0) ≤ x2_2 then (some f2_1) else (if (Int32.ofNat n1) ≤ x2_2 then (some f2_1) else (if x2_2 < 0 ∨ n0 ≤ x2_2.toNatClampNeg then none else if x2_2 < 0 ∨ n1 ≤ x2_2.toNatClampNeg then none else bnd (upd f2_1 x2_2.toNatClampNeg (f0 x2_2.toNatClampNeg)) fun u5 : Nat → Int32 => bnd (x2_2 + (1 : Int32)) fun x6 : Int32 => (f_X7_copyCells_2 n0 f0 n1 nn2) x6 u5))
def f_X7_copyCells (n0 : Nat) (f0 : Nat → Int32) (n1 : Nat) (f1 : Nat → Int32) : Option ((Nat → Int32)) := f_X7_copyCells_2 n0 f0 n1 FU (0 : Int32) f1
abbrev rmX7_copyCells : Room := { frames := 0, cells := 0, slots := 0, locals := 0 }
theorem dsc_X7_copyCells : yX7_copyCells.cls ≠ "java/lang/invoke/MethodHandle" ∧ yX7_copyCells.cls ≠ "java/lang/invoke/VarHandle" ∧ (parseMethodDescriptor yX7_copyCells.desc).map (fun d => d.parameters.length) = some 2 := by decide +kernel
set_option maxHeartbeats 4000000 in
set_option maxRecDepth 100000 in
theorem c_X7_copyCells (l : Launch) (dC : Nat → ClassId) (dI : Nat → Nat → Nat) (cB cI cZ cO : ClassId) (r0 : Nat) (n0 : Nat) (f0 : Nat → Int32) (r1 : Nat) (n1 : Nat) (f1 : Nat → Int32) {r : (Nat → Int32)} (h : f_X7_copyCells n0 f0 n1 f1 = some r) : Ct dC dI cB cI cZ cO l yX7_copyCells wsX7_copyCells rmX7_copyCells [.ref r0, .ref r1] ([(r0, .inl (cI, n0, .inl f0)), (r1, .inl (cI, n1, .inl f1))]) none ([(r0, .inl (cI, n0, .inl f0)), (r1, .inl (cI, n1, .inl r))]) := by
  intro sz
  refine Met.ofW (cc := cX7_copyCells) (maxL := 3) (ret := none) (by decide) rfl ?_
  intro p e s m args below meth c s₁ B hml hv
  obtain ⟨rfl, hsz, hP, hKK, hD0⟩ := hv
  have hx := B.exec
  have hb := B.bytes
  have hr := B.returns
  have hts := atoms_spec (ws := wsX7_copyCells) B.pre
  have hown : s.vm.findClass RX7 = some m.cls := findClass_of_methodNamed B.named
  have hlocks := B.notSynchronized
  subst hsz
  have hD := hD0.self (sz := s.heap.size)
  generalize hAe : va_A ([(r0, .inl (cI, n0, .inl f0)), (r1, .inl (cI, n1, .inl f1))]) s.heap.size = A at hD ⊢
  have hA : ∀ q : Nat, s.heap.size ≤ q → A q := fun q h => by rw [← hAe]; exact Or.inr h
  have hS : va_S A s.heap s.heap [] := va_S.rf
  have hP : va_P (dC, dI) vwCl ([(r0, .inl (cI, n0, .inl f0)), (r1, .inl (cI, n1, .inl f1))]) s.heap := hP
  have hD : va_D A ([(r0, .inl (cI, n0, .inl f0)), (r1, .inl (cI, n1, .inl f1))]) := hD
  have hl := lv_entry ([.ref r0, .ref r1]) (n := 3) (Nat.le_of_ble_eq_true rfl)
  rw [lg_entry_eq]
  generalize (lg_sl ([.ref r0, .ref r1]) ++ List.replicate (3 - (lg_sl ([.ref r0, .ref r1])).length) Slot.unset).toArray = ls at hl ⊢
  have hl : lv_has ls 3 [(0, .ref r0), (1, .ref r1)] := hl
  obtain ⟨Q, hQ⟩ : ∃ Q, Q = MQ below (Qq dC dI none ([(r0, .inl (cI, n0, .inl f0)), (r1, .inl (cI, n1, .inl r))]) A) ([.ref r0, .ref r1] : List Value).toArray s 0 0 A := ⟨_, rfl⟩
  rw [← hQ]
  rw [f_X7_copyCells] at h
  clear hAe hD0
  refine lv_iconst (v := (0 : Int32)) hx hb dX7_copyCells_0 (by decide) ?_
  refine lv_istore_n (lv' := [(2, .int (0 : Int32)), (0, .ref r0), (1, .ref r1)]) hx hb dX7_copyCells_1 rfl hl (by decide) rfl (fun ls hl => ?_)
  have lp2 : ∀ (nn2 : Nat) (x2_2 : Int32) (f2_1 : Nat → Int32), f_X7_copyCells_2 n0 f0 n1 nn2 x2_2 f2_1 = some r → ∀ (H : Heap) (locs : List Loc) (ls : Array Slot), va_P (dC, dI) vwCl ([(r0, .inl (cI, n0, .inl f0)), (r1, .inl (cI, n1, .inl f2_1))]) H → va_D A ([(r0, .inl (cI, n0, .inl f0)), (r1, .inl (cI, n1, .inl f2_1))]) → va_S A s.heap H locs → lv_has ls 3 [(0, .ref r0), (1, .ref r1), (2, .int x2_2)] → W p l e (headSpec wsX7_copyCells rmX7_copyCells).room s m ([.ref r0, .ref r1] : List Value).toArray below meth c H locs 0 0 Q (F0 m 2 ls []) := by
    intro nn2
    induction nn2 with
    | zero => intro x2_2 f2_1 h; rw [f_X7_copyCells_2] at h; cases h
    | succ nn2 ih2 =>
      intro x2_2 f2_1 h H locs ls hP hD hS hl
      rw [f_X7_copyCells_2] at h
      refine lv_iload_n hx hb dX7_copyCells_2 rfl (lv_at hl 2 rfl) ?_
      refine lv_aload_n hx hb dX7_copyCells_3 rfl (lv_at hl 0 rfl) ?_
      refine va_alen (v := (Int32.ofNat n0)) hx hb hKK.1 hP 0 1 rfl (ty := .int) rfl rfl dX7_copyCells_4 ?_
      refine lv_icmp_ge (tgt := 26) hx hb dX7_copyCells_5 (by decide) (fun k1 => ?_) (fun k1 => ?_)
      · have h := ite_t k1 h
        have h := Option.some.inj h
        subst h
        subst hQ
        exact W.vret hx hb hr (fun t ht hW => ⟨⟨rfl, by rw [ht]; exact hP, hD⟩, hS.F ht⟩) hS.2.2 dX7_copyCells_26
      · have h := ite_f k1 h
        refine lv_iload_n hx hb dX7_copyCells_8 rfl (lv_at hl 2 rfl) ?_
        refine lv_aload_n hx hb dX7_copyCells_9 rfl (lv_at hl 1 rfl) ?_
        refine va_alen (v := (Int32.ofNat n1)) hx hb hKK.1 hP 1 1 rfl (ty := .int) rfl rfl dX7_copyCells_10 ?_
        refine lv_icmp_ge (tgt := 26) hx hb dX7_copyCells_11 (by decide) (fun k2 => ?_) (fun k2 => ?_)
        · have h := ite_t k2 h
          have h := Option.some.inj h
          subst h
          subst hQ
          exact W.vret hx hb hr (fun t ht hW => ⟨⟨rfl, by rw [ht]; exact hP, hD⟩, hS.F ht⟩) hS.2.2 dX7_copyCells_26
        · have h := ite_f k2 h
          refine lv_aload_n hx hb dX7_copyCells_14 rfl (lv_at hl 1 rfl) ?_
          refine lv_iload_n hx hb dX7_copyCells_15 rfl (lv_at hl 2 rfl) ?_
          refine lv_aload_n hx hb dX7_copyCells_16 rfl (lv_at hl 0 rfl) ?_
          refine lv_iload_n hx hb dX7_copyCells_17 rfl (lv_at hl 2 rfl) ?_
          obtain ⟨k3, h⟩ := ite_n h
          refine va_iald hx hb hKK.1 hP 0 1 rfl rfl k3 dX7_copyCells_18 ?_
          obtain ⟨k4, h⟩ := ite_n h
          obtain ⟨u5, hu5, h⟩ := bnd_e h
          refine k_iast (f := f2_1) hx hb hKK.1 hP hD hS 1 1 hu5 rfl rfl k4 dX7_copyCells_19 (fun H locs hP hD hS => ?_)
          have hP : va_P (dC, dI) vwCl ([(r0, .inl (cI, n0, .inl f0)), (r1, .inl (cI, n1, .inl u5))]) H := hP
          have hD : va_D A ([(r0, .inl (cI, n0, .inl f0)), (r1, .inl (cI, n1, .inl u5))]) := hD
          obtain ⟨x6, hx6, h⟩ := bnd_e h
          refine lv_iinc (v := x6) (lv' := [(2, .int x6), (0, .ref r0), (1, .ref r1)]) hx hb dX7_copyCells_20 hl (k := 2) rfl (by rw [← hx6]; rfl) (by decide) rfl (fun ls hl => ?_)
          refine lv_goto (tgt := 2) hx hb dX7_copyCells_23 (by decide) ?_
          exact ih2 x6 u5 h _ _ _ hP hD hS (lv_sub hl [1, 2, 0] rfl)
  exact lp2 FU (0 : Int32) f1 h _ _ _ hP hD hS (lv_sub hl [1, 2, 0] rfl)
def f_X7_drawOf (v0 : Int32) (v1 : Int32) : Int32 := bnd ((((7919 : Int64) * (v0.toInt64)) + ((6151 : Int64) * (v1.toInt64))) + (1 : Int64)) fun x1 : Int64 => (((x1 * x1) - (x1 * x1) / (65521 : Int64) * (65521 : Int64)).toInt32)
abbrev rmX7_drawOf : Room := { frames := 0, cells := 0, slots := 0, locals := 0 }
theorem dsc_X7_drawOf : yX7_drawOf.cls ≠ "java/lang/invoke/MethodHandle" ∧ yX7_drawOf.cls ≠ "java/lang/invoke/VarHandle" ∧ (parseMethodDescriptor yX7_drawOf.desc).map (fun d => d.parameters.length) = some 2 := by decide +kernel
set_option maxHeartbeats 4000000 in
set_option maxRecDepth 100000 in
theorem c_X7_drawOf (l : Launch) (dC : Nat → ClassId) (dI : Nat → Nat → Nat) (cB cI cZ cO : ClassId) (v0 : Int32) (v1 : Int32) {r : Int32} (h : f_X7_drawOf v0 v1 = r) : Ct dC dI cB cI cZ cO l yX7_drawOf wsX7_drawOf rmX7_drawOf [.int v0, .int v1] ([]) (some (.int r)) ([]) := by
  intro sz
  refine Met.ofW (cc := cX7_drawOf) (maxL := 4) (ret := (some .int)) (by decide) rfl ?_
  intro p e s m args below meth c s₁ B hml hv
  obtain ⟨rfl, hsz, hP, hKK, hD0⟩ := hv
  have hx := B.exec
  have hb := B.bytes
  have hr := B.returns
  have hts := atoms_spec (ws := wsX7_drawOf) B.pre
  have hown : s.vm.findClass RX7 = some m.cls := findClass_of_methodNamed B.named
  have hlocks := B.notSynchronized
  subst hsz
  have hD := hD0.self (sz := s.heap.size)
  generalize hAe : va_A ([]) s.heap.size = A at hD ⊢
  have hA : ∀ q : Nat, s.heap.size ≤ q → A q := fun q h => by rw [← hAe]; exact Or.inr h
  have hS : va_S A s.heap s.heap [] := va_S.rf
  have hP : va_P (dC, dI) vwCl ([]) s.heap := hP
  have hD : va_D A ([]) := hD
  have hl := lv_entry ([.int v0, .int v1]) (n := 4) (Nat.le_of_ble_eq_true rfl)
  rw [lg_entry_eq]
  generalize (lg_sl ([.int v0, .int v1]) ++ List.replicate (4 - (lg_sl ([.int v0, .int v1])).length) Slot.unset).toArray = ls at hl ⊢
  have hl : lv_has ls 4 [(0, .int v0), (1, .int v1)] := hl
  obtain ⟨Q, hQ⟩ : ∃ Q, Q = MQ below (Qq dC dI (some (.int r)) ([]) A) ([.int v0, .int v1] : List Value).toArray s 0 0 A := ⟨_, rfl⟩
  rw [← hQ]
  rw [f_X7_drawOf] at h
  clear hAe hD0
  refine lv_ldc2 hx hb hown (hts (.constantLong RX7 290 (7919)) (List.mem_of_getElem? (i := 1) rfl)) dX7_drawOf_0 ?_
  refine lv_iload_n hx hb dX7_drawOf_3 rfl (lv_at hl 0 rfl) ?_
  refine lv_i2l hx hb dX7_drawOf_4 rfl ?_
  refine lv_lmul hx hb dX7_drawOf_5 ?_
  refine lv_ldc2 hx hb hown (hts (.constantLong RX7 292 (6151)) (List.mem_of_getElem? (i := 2) rfl)) dX7_drawOf_6 ?_
  refine lv_iload_n hx hb dX7_drawOf_9 rfl (lv_at hl 1 rfl) ?_
  refine lv_i2l hx hb dX7_drawOf_10 rfl ?_
  refine lv_lmul hx hb dX7_drawOf_11 ?_
  refine lv_ladd hx hb dX7_drawOf_12 ?_
  refine lv_lconst (v := 1) hx hb dX7_drawOf_13 (by decide) ?_
  refine lv_ladd hx hb dX7_drawOf_14 ?_
  obtain ⟨x1, hx1, h⟩ := bnd_e h
  refine lv_topEl hx1 ?_
  refine lv_lstore_n (lv' := [(2, .long x1), (0, .int v0), (1, .int v1)]) hx hb dX7_drawOf_15 rfl hl (by decide) rfl (fun ls hl => ?_)
  refine lv_lload_n hx hb dX7_drawOf_16 rfl (lv_at hl 0 rfl) ?_
  refine lv_lload_n hx hb dX7_drawOf_17 rfl (lv_at hl 0 rfl) ?_
  refine lv_lmul hx hb dX7_drawOf_18 ?_
  refine lv_ldc2 hx hb hown (hts (.constantLong RX7 294 (65521)) (List.mem_of_getElem? (i := 3) rfl)) dX7_drawOf_19 ?_
  refine lv_lrem hx hb dX7_drawOf_22 (by decide) ?_
  refine lv_l2i hx hb dX7_drawOf_23 rfl ?_
  subst h
  subst hQ
  exact W.iret (v := (((x1 * x1) - (x1 * x1) / (65521 : Int64) * (65521 : Int64)).toInt32)) hx hb hr (fun t ht hW => ⟨⟨rfl, by rw [ht]; exact hP, hD⟩, hS.F ht⟩) hS.2.2 dX7_drawOf_24
def f_X7_commonDivisor_7 : Nat → Int32 → Int32 → Int32 → Option (Int32)
  | 0, _, _, _ => none
  | nn7+1, x7_2, x7_3, x7_4 => if (64 : Int32) ≤ x7_4 then (some x7_2) else (if x7_3 = 0 then (some x7_2) else (if x7_3 = 0 then none else bnd (x7_2 - x7_2 / x7_3 * x7_3) fun x4 : Int32 => bnd (x7_4 + (1 : Int32)) fun x5 : Int32 => (f_X7_commonDivisor_7 nn7) x7_3 x4 x5))
def f_X7_commonDivisor (v0 : Int32) (v1 : Int32) : Option (Int32) := f_X7_commonDivisor_7 FU v1 v0 (0 : Int32)
abbrev rmX7_commonDivisor : Room := { frames := 0, cells := 0, slots := 0, locals := 0 }
theorem dsc_X7_commonDivisor : yX7_commonDivisor.cls ≠ "java/lang/invoke/MethodHandle" ∧ yX7_commonDivisor.cls ≠ "java/lang/invoke/VarHandle" ∧ (parseMethodDescriptor yX7_commonDivisor.desc).map (fun d => d.parameters.length) = some 2 := by decide +kernel
set_option maxHeartbeats 4000000 in
set_option maxRecDepth 100000 in
theorem c_X7_commonDivisor (l : Launch) (dC : Nat → ClassId) (dI : Nat → Nat → Nat) (cB cI cZ cO : ClassId) (v0 : Int32) (v1 : Int32) {r : Int32} (h : f_X7_commonDivisor v0 v1 = some r) : Ct dC dI cB cI cZ cO l yX7_commonDivisor wsX7_commonDivisor rmX7_commonDivisor [.int v0, .int v1] ([]) (some (.int r)) ([]) := by
  intro sz
  refine Met.ofW (cc := cX7_commonDivisor) (maxL := 6) (ret := (some .int)) (by decide) rfl ?_
  intro p e s m args below meth c s₁ B hml hv
  obtain ⟨rfl, hsz, hP, hKK, hD0⟩ := hv
  have hx := B.exec
  have hb := B.bytes
  have hr := B.returns
  have hts := atoms_spec (ws := wsX7_commonDivisor) B.pre
  have hown : s.vm.findClass RX7 = some m.cls := findClass_of_methodNamed B.named
  have hlocks := B.notSynchronized
  subst hsz
  have hD := hD0.self (sz := s.heap.size)
  generalize hAe : va_A ([]) s.heap.size = A at hD ⊢
  have hA : ∀ q : Nat, s.heap.size ≤ q → A q := fun q h => by rw [← hAe]; exact Or.inr h
  have hS : va_S A s.heap s.heap [] := va_S.rf
  have hP : va_P (dC, dI) vwCl ([]) s.heap := hP
  have hD : va_D A ([]) := hD
  have hl := lv_entry ([.int v0, .int v1]) (n := 6) (Nat.le_of_ble_eq_true rfl)
  rw [lg_entry_eq]
  generalize (lg_sl ([.int v0, .int v1]) ++ List.replicate (6 - (lg_sl ([.int v0, .int v1])).length) Slot.unset).toArray = ls at hl ⊢
  have hl : lv_has ls 6 [(0, .int v0), (1, .int v1)] := hl
  obtain ⟨Q, hQ⟩ : ∃ Q, Q = MQ below (Qq dC dI (some (.int r)) ([]) A) ([.int v0, .int v1] : List Value).toArray s 0 0 A := ⟨_, rfl⟩
  rw [← hQ]
  rw [f_X7_commonDivisor] at h
  clear hAe hD0
  refine lv_iload_n hx hb dX7_commonDivisor_0 rfl (lv_at hl 1 rfl) ?_
  refine lv_istore_n (lv' := [(2, .int v1), (0, .int v0), (1, .int v1)]) hx hb dX7_commonDivisor_1 rfl hl (by decide) rfl (fun ls hl => ?_)
  refine lv_iload_n hx hb dX7_commonDivisor_2 rfl (lv_at hl 1 rfl) ?_
  refine lv_istore_n (lv' := [(3, .int v0), (2, .int v1), (0, .int v0), (1, .int v1)]) hx hb dX7_commonDivisor_3 rfl hl (by decide) rfl (fun ls hl => ?_)
  refine lv_iconst (v := (0 : Int32)) hx hb dX7_commonDivisor_4 (by decide) ?_
  refine lv_istore (lv' := [(4, .int (0 : Int32)), (3, .int v0), (2, .int v1), (0, .int v0), (1, .int v1)]) hx hb dX7_commonDivisor_5 hl (by decide) rfl (fun ls hl => ?_)
  have lp7 : ∀ (nn7 : Nat) (x7_2 : Int32) (x7_3 : Int32) (x7_4 : Int32), f_X7_commonDivisor_7 nn7 x7_2 x7_3 x7_4 = some r → ∀ (H : Heap) (locs : List Loc) (ls : Array Slot), va_P (dC, dI) vwCl ([]) H → va_D A ([]) → va_S A s.heap H locs → lv_has ls 6 [(2, .int x7_2), (3, .int x7_3), (4, .int x7_4)] → W p l e (headSpec wsX7_commonDivisor rmX7_commonDivisor).room s m ([.int v0, .int v1] : List Value).toArray below meth c H locs 0 0 Q (F0 m 7 ls []) := by
    intro nn7
    induction nn7 with
    | zero => intro x7_2 x7_3 x7_4 h; rw [f_X7_commonDivisor_7] at h; cases h
    | succ nn7 ih7 =>
      intro x7_2 x7_3 x7_4 h H locs ls hP hD hS hl
      rw [f_X7_commonDivisor_7] at h
      refine lv_iload hx hb dX7_commonDivisor_7 (lv_at hl 2 rfl) ?_
      refine lv_bipush (v := (64 : Int32)) hx hb dX7_commonDivisor_9 (by decide) ?_
      refine lv_icmp_ge (tgt := 34) hx hb dX7_commonDivisor_11 (by decide) (fun k1 => ?_) (fun k1 => ?_)
      · have h := ite_t k1 h
        refine lv_iload_n hx hb dX7_commonDivisor_34 rfl (lv_at hl 0 rfl) ?_
        have h := Option.some.inj h
        subst h
        subst hQ
        exact W.iret (v := x7_2) hx hb hr (fun t ht hW => ⟨⟨rfl, by rw [ht]; exact hP, hD⟩, hS.F ht⟩) hS.2.2 dX7_commonDivisor_35
      · have h := ite_f k1 h
        refine lv_iload_n hx hb dX7_commonDivisor_14 rfl (lv_at hl 1 rfl) ?_
        refine lv_if_eq (tgt := 34) hx hb dX7_commonDivisor_15 (by decide) (fun k2 => ?_) (fun k2 => ?_)
        · have h := ite_t k2 h
          refine lv_iload_n hx hb dX7_commonDivisor_34 rfl (lv_at hl 0 rfl) ?_
          have h := Option.some.inj h
          subst h
          subst hQ
          exact W.iret (v := x7_2) hx hb hr (fun t ht hW => ⟨⟨rfl, by rw [ht]; exact hP, hD⟩, hS.F ht⟩) hS.2.2 dX7_commonDivisor_35
        · have h := ite_f k2 h
          refine lv_iload_n hx hb dX7_commonDivisor_18 rfl (lv_at hl 0 rfl) ?_
          refine lv_iload_n hx hb dX7_commonDivisor_19 rfl (lv_at hl 1 rfl) ?_
          obtain ⟨k3, h⟩ := ite_n h
          refine lv_irem hx hb dX7_commonDivisor_20 k3 ?_
          obtain ⟨x4, hx4, h⟩ := bnd_e h
          refine lv_topE hx4 ?_
          refine lv_istore (lv' := [(5, .int x4), (2, .int x7_2), (3, .int x7_3), (4, .int x7_4)]) hx hb dX7_commonDivisor_21 hl (by decide) rfl (fun ls hl => ?_)
          refine lv_iload_n hx hb dX7_commonDivisor_23 rfl (lv_at hl 2 rfl) ?_
          refine lv_istore_n (lv' := [(2, .int x7_3), (5, .int x4), (3, .int x7_3), (4, .int x7_4)]) hx hb dX7_commonDivisor_24 rfl hl (by decide) rfl (fun ls hl => ?_)
          refine lv_iload hx hb dX7_commonDivisor_25 (lv_at hl 1 rfl) ?_
          refine lv_istore_n (lv' := [(3, .int x4), (2, .int x7_3), (5, .int x4), (4, .int x7_4)]) hx hb dX7_commonDivisor_27 rfl hl (by decide) rfl (fun ls hl => ?_)
          obtain ⟨x5, hx5, h⟩ := bnd_e h
          refine lv_iinc (v := x5) (lv' := [(4, .int x5), (3, .int x4), (2, .int x7_3), (5, .int x4)]) hx hb dX7_commonDivisor_28 hl (k := 3) rfl (by rw [← hx5]; rfl) (by decide) rfl (fun ls hl => ?_)
          refine lv_goto (tgt := 7) hx hb dX7_commonDivisor_31 (by decide) ?_
          exact ih7 x7_3 x4 x5 h _ _ _ hP hD hS (lv_sub hl [2, 1, 0] rfl)
  exact lp7 FU v1 v0 (0 : Int32) h _ _ _ hP hD hS (lv_sub hl [2, 1, 0] rfl)
def f_J6_bitCount_0f7a4 (v0 : Int32) : Int32 := bnd (v0 - (((v0.toUInt32 >>> ((1 : Int32).toUInt32 &&& Int32.toUInt32 31)).toInt32) &&& (1431655765 : Int32))) fun x1 : Int32 => bnd ((x1 &&& (858993459 : Int32)) + (((x1.toUInt32 >>> ((2 : Int32).toUInt32 &&& Int32.toUInt32 31)).toInt32) &&& (858993459 : Int32))) fun x2 : Int32 => bnd ((x2 + ((x2.toUInt32 >>> ((4 : Int32).toUInt32 &&& Int32.toUInt32 31)).toInt32)) &&& (252645135 : Int32)) fun x3 : Int32 => bnd (x3 + ((x3.toUInt32 >>> ((8 : Int32).toUInt32 &&& Int32.toUInt32 31)).toInt32)) fun x4 : Int32 => bnd (x4 + ((x4.toUInt32 >>> ((16 : Int32).toUInt32 &&& Int32.toUInt32 31)).toInt32)) fun x5 : Int32 => (x5 &&& (63 : Int32))
abbrev rmJ6_bitCount_0f7a4 : Room := { frames := 0, cells := 0, slots := 0, locals := 0 }
theorem dsc_J6_bitCount_0f7a4 : yJ6_bitCount_0f7a4.cls ≠ "java/lang/invoke/MethodHandle" ∧ yJ6_bitCount_0f7a4.cls ≠ "java/lang/invoke/VarHandle" ∧ (parseMethodDescriptor yJ6_bitCount_0f7a4.desc).map (fun d => d.parameters.length) = some 1 := by decide +kernel
set_option maxHeartbeats 4000000 in
set_option maxRecDepth 100000 in
theorem c_J6_bitCount_0f7a4 (l : Launch) (dC : Nat → ClassId) (dI : Nat → Nat → Nat) (cB cI cZ cO : ClassId) (v0 : Int32) {r : Int32} (h : f_J6_bitCount_0f7a4 v0 = r) : Ct dC dI cB cI cZ cO l yJ6_bitCount_0f7a4 wsJ6_bitCount_0f7a4 rmJ6_bitCount_0f7a4 [.int v0] ([]) (some (.int r)) ([]) := by
  intro sz
  refine Met.ofW (cc := cJ6_bitCount_0f7a4) (maxL := 1) (ret := (some .int)) (by decide) rfl ?_
  intro p e s m args below meth c s₁ B hml hv
  obtain ⟨rfl, hsz, hP, hKK, hD0⟩ := hv
  have hx := B.exec
  have hb := B.bytes
  have hr := B.returns
  have hts := atoms_spec (ws := wsJ6_bitCount_0f7a4) B.pre
  have hown : s.vm.findClass RJ6 = some m.cls := findClass_of_methodNamed B.named
  have hlocks := B.notSynchronized
  subst hsz
  have hD := hD0.self (sz := s.heap.size)
  generalize hAe : va_A ([]) s.heap.size = A at hD ⊢
  have hA : ∀ q : Nat, s.heap.size ≤ q → A q := fun q h => by rw [← hAe]; exact Or.inr h
  have hS : va_S A s.heap s.heap [] := va_S.rf
  have hP : va_P (dC, dI) vwCl ([]) s.heap := hP
  have hD : va_D A ([]) := hD
  have hl := lv_entry ([.int v0]) (n := 1) (Nat.le_of_ble_eq_true rfl)
  rw [lg_entry_eq]
  generalize (lg_sl ([.int v0]) ++ List.replicate (1 - (lg_sl ([.int v0])).length) Slot.unset).toArray = ls at hl ⊢
  have hl : lv_has ls 1 [(0, .int v0)] := hl
  obtain ⟨Q, hQ⟩ : ∃ Q, Q = MQ below (Qq dC dI (some (.int r)) ([]) A) ([.int v0] : List Value).toArray s 0 0 A := ⟨_, rfl⟩
  rw [← hQ]
  rw [f_J6_bitCount_0f7a4] at h
  clear hAe hD0
  refine lv_iload_n hx hb dJ6_bitCount_0f7a4_0 rfl (lv_at hl 0 rfl) ?_
  refine lv_iload_n hx hb dJ6_bitCount_0f7a4_1 rfl (lv_at hl 0 rfl) ?_
  refine lv_iconst (v := (1 : Int32)) hx hb dJ6_bitCount_0f7a4_2 (by decide) ?_
  refine lv_iushr hx hb dJ6_bitCount_0f7a4_3 rfl ?_
  refine lv_ldcw hx hb hown (hts (.constant RJ6 265 (1431655765)) (List.mem_of_getElem? (i := 1) rfl)) dJ6_bitCount_0f7a4_4 ?_
  refine lv_iand hx hb dJ6_bitCount_0f7a4_7 ?_
  refine lv_isub hx hb dJ6_bitCount_0f7a4_8 ?_
  obtain ⟨x1, hx1, h⟩ := bnd_e h
  refine lv_topE hx1 ?_
  refine lv_istore_n (lv' := [(0, .int x1)]) hx hb dJ6_bitCount_0f7a4_9 rfl hl (by decide) rfl (fun ls hl => ?_)
  refine lv_iload_n hx hb dJ6_bitCount_0f7a4_10 rfl (lv_at hl 0 rfl) ?_
  refine lv_ldcw hx hb hown (hts (.constant RJ6 266 (858993459)) (List.mem_of_getElem? (i := 2) rfl)) dJ6_bitCount_0f7a4_11 ?_
  refine lv_iand hx hb dJ6_bitCount_0f7a4_14 ?_
  refine lv_iload_n hx hb dJ6_bitCount_0f7a4_15 rfl (lv_at hl 0 rfl) ?_
  refine lv_iconst (v := (2 : Int32)) hx hb dJ6_bitCount_0f7a4_16 (by decide) ?_
  refine lv_iushr hx hb dJ6_bitCount_0f7a4_17 rfl ?_
  refine lv_ldcw hx hb hown (hts (.constant RJ6 266 (858993459)) (List.mem_of_getElem? (i := 2) rfl)) dJ6_bitCount_0f7a4_18 ?_
  refine lv_iand hx hb dJ6_bitCount_0f7a4_21 ?_
  refine lv_iadd hx hb dJ6_bitCount_0f7a4_22 ?_
  obtain ⟨x2, hx2, h⟩ := bnd_e h
  refine lv_topE hx2 ?_
  refine lv_istore_n (lv' := [(0, .int x2)]) hx hb dJ6_bitCount_0f7a4_23 rfl hl (by decide) rfl (fun ls hl => ?_)
  refine lv_iload_n hx hb dJ6_bitCount_0f7a4_24 rfl (lv_at hl 0 rfl) ?_
  refine lv_iload_n hx hb dJ6_bitCount_0f7a4_25 rfl (lv_at hl 0 rfl) ?_
  refine lv_iconst (v := (4 : Int32)) hx hb dJ6_bitCount_0f7a4_26 (by decide) ?_
  refine lv_iushr hx hb dJ6_bitCount_0f7a4_27 rfl ?_
  refine lv_iadd hx hb dJ6_bitCount_0f7a4_28 ?_
  refine lv_ldcw hx hb hown (hts (.constant RJ6 267 (252645135)) (List.mem_of_getElem? (i := 3) rfl)) dJ6_bitCount_0f7a4_29 ?_
  refine lv_iand hx hb dJ6_bitCount_0f7a4_32 ?_
  obtain ⟨x3, hx3, h⟩ := bnd_e h
  refine lv_topE hx3 ?_
  refine lv_istore_n (lv' := [(0, .int x3)]) hx hb dJ6_bitCount_0f7a4_33 rfl hl (by decide) rfl (fun ls hl => ?_)
  refine lv_iload_n hx hb dJ6_bitCount_0f7a4_34 rfl (lv_at hl 0 rfl) ?_
  refine lv_iload_n hx hb dJ6_bitCount_0f7a4_35 rfl (lv_at hl 0 rfl) ?_
  refine lv_bipush (v := (8 : Int32)) hx hb dJ6_bitCount_0f7a4_36 (by decide) ?_
  refine lv_iushr hx hb dJ6_bitCount_0f7a4_38 rfl ?_
  refine lv_iadd hx hb dJ6_bitCount_0f7a4_39 ?_
  obtain ⟨x4, hx4, h⟩ := bnd_e h
  refine lv_topE hx4 ?_
  refine lv_istore_n (lv' := [(0, .int x4)]) hx hb dJ6_bitCount_0f7a4_40 rfl hl (by decide) rfl (fun ls hl => ?_)
  refine lv_iload_n hx hb dJ6_bitCount_0f7a4_41 rfl (lv_at hl 0 rfl) ?_
  refine lv_iload_n hx hb dJ6_bitCount_0f7a4_42 rfl (lv_at hl 0 rfl) ?_
  refine lv_bipush (v := (16 : Int32)) hx hb dJ6_bitCount_0f7a4_43 (by decide) ?_
  refine lv_iushr hx hb dJ6_bitCount_0f7a4_45 rfl ?_
  refine lv_iadd hx hb dJ6_bitCount_0f7a4_46 ?_
  obtain ⟨x5, hx5, h⟩ := bnd_e h
  refine lv_topE hx5 ?_
  refine lv_istore_n (lv' := [(0, .int x5)]) hx hb dJ6_bitCount_0f7a4_47 rfl hl (by decide) rfl (fun ls hl => ?_)
  refine lv_iload_n hx hb dJ6_bitCount_0f7a4_48 rfl (lv_at hl 0 rfl) ?_
  refine lv_bipush (v := (63 : Int32)) hx hb dJ6_bitCount_0f7a4_49 (by decide) ?_
  refine lv_iand hx hb dJ6_bitCount_0f7a4_51 ?_
  subst h
  subst hQ
  exact W.iret (v := (x5 &&& (63 : Int32))) hx hb hr (fun t ht hW => ⟨⟨rfl, by rw [ht]; exact hP, hD⟩, hS.F ht⟩) hS.2.2 dJ6_bitCount_0f7a4_52
