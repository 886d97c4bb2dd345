/-- a constructor: from the world wc to one of wf's, with mc cells of ms slots more -/
def Ci {β : Type} (dC : Nat → ClassId) (dI : Nat → Nat → Nat) (cB cI cZ cO : ClassId) (l : Launch) (y : MethodName) (ws : List Cond) (rm : Room) (av : List Value) (wc : va_W) (mc ms : Nat) (wf : β → va_W) : Prop :=
  ∀ sz : Nat, Met l y ws rm (Pq dC dI cB cI cZ cO av sz wc) (fun _ st oc t => (∃ b : β, oc = .returned none ∧ va_P (dC, dI) vwCl (wf b) t.heap ∧ va_D (va_A wc sz) (wf b)) ∧ va_F (va_A wc sz) st t) mc ms (va_A wc sz)
def oZ : Ob := (fun _ => 0, fun _ _ => 0)
section KI
variable {dC : Nat → ClassId} {dI : Nat → Nat → Nat} {cB cI cZ cO : ClassId}
variable {p : Program} {l : Launch} {e : Env} {R : Room} {s : State} {m : MethodId} {args : Array Value} {below : List Frame} {meth : Method} {c : Code} {H : Heap} {locs : List Loc} {cells slots : Nat} {Q : State → Prop}
variable {pc : Nat} {ls : Array Slot} {rest st0 : List Value} {a : Array Value} {A : Nat → Prop} {ws wc wr : va_W} {cc : ByteArray}
theorem k_newI (hx : p.tables.exec = Jvm.exec) (hb : c.code = cc) (harr : (Cond.arrayClass .int).before args s = true) (hKK : KK dC dI cB cI cZ cO s) (hP : va_P (dC, dI) vwCl ws H) (hD : va_D A ws) (hS : va_S A s.heap H locs) (hA : ∀ q, s.heap.size ≤ q → A q)
    {n : Int32} (N : Nat) (hn : ¬ n < 0) (hN : n.toNatClampNeg = N) (hbytes : N * 4 ≤ 536870912) (hcells : cells + 1 ≤ R.cells) (hslots : slots + N ≤ R.slots) (hdg : decode cc pc = .ok (.newarray .int, 2))
    (kk : ∀ (q : Nat) (H1 : Heap), va_P (dC, dI) vwCl (ws ++ [(q, .inl (cI, N, .inl (fun _ => 0)))]) H1 → va_D A (ws ++ [(q, .inl (cI, N, .inl (fun _ => 0)))]) → va_S A s.heap H1 locs → W p l e R s m args below meth c H1 locs (cells + 1) (slots + N) Q (F0 m (pc + 2) ls (.ref q :: rest))) : W p l e R s m args below meth c H locs cells slots Q (F0 m pc ls (.int n :: rest)) := by
  refine va_newa (atype := .int) hx hb harr (ty := .int) rfl hKK.1 hP hD hS hA (a0 := (N, .inl (fun _ => 0))) (fun _ => rfl) hn hN hbytes hcells hslots hdg (fun q cA H1 hK1 hP1 hD1 hS1 => ?_)
  have e1 : s.vm.findClass ("[" ++ (FieldType.int).toString) = some cA := (hK1.2 4 (cA, .int) rfl).2
  have e2 : s.vm.findClass ("[" ++ (FieldType.int).toString) = some cI := (hKK.1.2 1 (cI, .int) rfl).2
  have e3 : cA = cI := Option.some.inj (e1.symm.trans e2)
  subst e3
  exact kk q H1 hP1 hD1 hS1
theorem k_newZ (hx : p.tables.exec = Jvm.exec) (hb : c.code = cc) (harr : (Cond.arrayClass .boolean).before args s = true) (hKK : KK dC dI cB cI cZ cO s) (hP : va_P (dC, dI) vwCl ws H) (hD : va_D A ws) (hS : va_S A s.heap H locs) (hA : ∀ q, s.heap.size ≤ q → A q)
    {n : Int32} (N : Nat) (hn : ¬ n < 0) (hN : n.toNatClampNeg = N) (hbytes : N * 1 ≤ 536870912) (hcells : cells + 1 ≤ R.cells) (hslots : slots + N ≤ R.slots) (hdg : decode cc pc = .ok (.newarray .boolean, 2))
    (kk : ∀ (q : Nat) (H1 : Heap), va_P (dC, dI) vwCl (ws ++ [(q, .inl (cZ, N, .inl (fun _ => 0)))]) H1 → va_D A (ws ++ [(q, .inl (cZ, N, .inl (fun _ => 0)))]) → va_S A s.heap H1 locs → W p l e R s m args below meth c H1 locs (cells + 1) (slots + N) Q (F0 m (pc + 2) ls (.ref q :: rest))) : W p l e R s m args below meth c H locs cells slots Q (F0 m pc ls (.int n :: rest)) := by
  refine va_newa (atype := .boolean) hx hb harr (ty := .boolean) rfl hKK.1 hP hD hS hA (a0 := (N, .inl (fun _ => 0))) (fun _ => rfl) hn hN hbytes hcells hslots hdg (fun q cA H1 hK1 hP1 hD1 hS1 => ?_)
  have e1 : s.vm.findClass ("[" ++ (FieldType.boolean).toString) = some cA := (hK1.2 4 (cA, .boolean) rfl).2
  have e2 : s.vm.findClass ("[" ++ (FieldType.boolean).toString) = some cZ := (hKK.1.2 2 (cZ, .boolean) rfl).2
  have e3 : cA = cZ := Option.some.inj (e1.symm.trans e2)
  subst e3
  exact kk q H1 hP1 hD1 hS1
theorem k_newB (hx : p.tables.exec = Jvm.exec) (hb : c.code = cc) (harr : (Cond.arrayClass .byte).before args s = true) (hKK : KK dC dI cB cI cZ cO s) (hP : va_P (dC, dI) vwCl ws H) (hD : va_D A ws) (hS : va_S A s.heap H locs) (hA : ∀ q, s.heap.size ≤ q → A q)
    {n : Int32} (N : Nat) (hn : ¬ n < 0) (hN : n.toNatClampNeg = N) (hbytes : N * 1 ≤ 536870912) (hcells : cells + 1 ≤ R.cells) (hslots : slots + N ≤ R.slots) (hdg : decode cc pc = .ok (.newarray .byte, 2))
    (kk : ∀ (q : Nat) (H1 : Heap), va_P (dC, dI) vwCl (ws ++ [(q, .inl (cB, N, .inl (fun _ => 0)))]) H1 → va_D A (ws ++ [(q, .inl (cB, N, .inl (fun _ => 0)))]) → va_S A s.heap H1 locs → W p l e R s m args below meth c H1 locs (cells + 1) (slots + N) Q (F0 m (pc + 2) ls (.ref q :: rest))) : W p l e R s m args below meth c H locs cells slots Q (F0 m pc ls (.int n :: rest)) := by
  refine va_newa (atype := .byte) hx hb harr (ty := .byte) rfl hKK.1 hP hD hS hA (a0 := (N, .inl (fun _ => 0))) (fun _ => rfl) hn hN hbytes hcells hslots hdg (fun q cA H1 hK1 hP1 hD1 hS1 => ?_)
  have e1 : s.vm.findClass ("[" ++ (FieldType.byte).toString) = some cA := (hK1.2 4 (cA, .byte) rfl).2
  have e2 : s.vm.findClass ("[" ++ (FieldType.byte).toString) = some cB := (hKK.1.2 0 (cB, .byte) rfl).2
  have e3 : cA = cB := Option.some.inj (e1.symm.trans e2)
  subst e3
  exact kk q H1 hP1 hD1 hS1
variable {y : MethodName} {bytes : ByteArray} {maxL nL n index mc ms : Nat} {wsy : List Cond} {rm : Room} {Ts : List Cond} {own : String} {b : Addr} {As : List Value}
/-- a constructor's call: its cells go, those that it leaves come behind the rest -/
theorem kcI {β : Type} {wf : β → va_W} (hx : p.tables.exec = Jvm.exec) (hb : c.code = cc) (hml : c.maxLocals = nL) (hown : s.vm.findClass own = some m.cls) (hts : ∀ w ∈ Ts, w.before args s = true) (hKK : KK dC dI cB cI cZ cO s) (hP : va_P (dC, dI) vwCl ws H) (hD : va_D A ws) (hS : va_S A s.heap H locs) (hA : ∀ q, s.heap.size ≤ q → A q)
    (hc : Ci dC dI cB cI cZ cO l y wsy rm (.ref b :: As) wc mc ms wf) (isC isR : List Nat) (hC : isC.map (fun i => ws[i]?) = wc.map some) (hR : isR.map (fun i => ws[i]?) = wr.map some) (hnC : va_nd isC = true) (hnR : va_nd isR = true) (hdis : ∀ i ∈ isR, i ∉ isC)
    (cw : CallB R s args own index y bytes maxL none wsy rm mc ms n ∧ y.name = "<init>" ∧ (Cond.instanceMethod y).before args s = true)
    (hnl : As.length = n) (hsz : ls.size = nL) (hst : st0 = As.reverse ++ .ref b :: rest) (hrm : (rest.map fun v => v.category).sum ≤ 8) (hdg : decode cc pc = .ok (.invokespecial index, 3)) (hfit : cells + mc ≤ R.cells ∧ slots + ms ≤ R.slots)
    (kk : ∀ (b : β) (H1 : Heap) (locs1 : List Loc), va_P (dC, dI) vwCl (wr ++ wf b) H1 → va_D A (wr ++ wf b) → va_S A s.heap H1 locs1 → W p l e R s m args below meth c H1 locs1 (cells + mc) (slots + ms) Q (F0 m (pc + 3) ls rest)) : W p l e R s m args below meth c H locs cells slots Q (F0 m pc ls st0) := by
  have hF := va_free (wc := wc) hD hS hA isC hC
  have hr := va_runI (e := e) (below := below) (meth := meth) (locs := locs) ⟨hx, hb, hml, hown, hts⟩ (hc H.size) cw ⟨Pq.blind, k_start hKK hP hD isC hC hnC⟩ (g := F0 m pc ls st0) rfl hnl hsz hst (lv_room hrm) hdg hfit
  intro T hT X
  obtain ⟨v, st₀, t, T', L, h0, X', hL, e1, e2, ⟨⟨bb, hv, hP1, hD1⟩, hz, hk⟩, st⟩ := hr T hT X
  cases hv
  rw [h0] at hz hk
  have hS1 : va_S A s.heap T'.heap (locs ++ L) := ⟨Nat.le_trans hS.1 (by rw [e1]; exact hz), fun q h1 h2 => by rw [e1, hk q (Nat.lt_of_lt_of_le h1 hS.1) (fun z => h2 (hF q z))]; exact hS.2.1 q h1 h2, fun q hq => by
      rcases List.mem_append.mp hq with h | h
      · exact hS.2.2 q h
      · exact hF _ (hL q h)⟩
  obtain ⟨hP2, hD2⟩ := va_join (wr := wr) (w1 := wf bb) hP hD isC isR hC hR hnR hdis hk hF hP1 hD1
  rw [← e1] at hP2
  obtain ⟨t2, a1, b1⟩ := kk bb T'.heap (locs ++ L) hP2 hD2 hS1 T' rfl X'
  exact ⟨t2, st t2 a1, b1⟩
end KI
abbrev rmX0_init : Room := { frames := 1, cells := 2, slots := 12, locals := 12 }
theorem dsc_X0_init : yX0_init.cls ≠ "java/lang/invoke/MethodHandle" ∧ yX0_init.cls ≠ "java/lang/invoke/VarHandle" ∧ (parseMethodDescriptor yX0_init.desc).map (fun d => d.parameters.length) = some 0 := by decide +kernel
set_option maxHeartbeats 4000000 in
set_option maxRecDepth 100000 in
theorem c_X0_init (l : Launch) (dC : Nat → ClassId) (dI : Nat → Nat → Nat) (cB cI cZ cO : ClassId) (a0 : Nat) : Ci dC dI cB cI cZ cO l yX0_init wsX0_init rmX0_init [.ref a0] [(a0, .inr (0, [.null, .null, .int 0]))] 2 12 (fun g : Nat → Nat => [cX0 a0 g oZ, cX0_0 cI g oZ, cX0_1 cI g oZ]) := by
  intro sz
  refine Met.ofW (cc := cX0_init) (maxL := 1) (ret := none) (by decide) rfl ?_
  intro p e s m args below meth c s₁ B hml hv
  obtain ⟨rfl, hsz, hP, hKK, hD0⟩ := hv
  have hx := B.exec
  have hb := B.bytes
  have hr := B.returns
  have hts := atoms_spec (ws := wsX0_init) B.pre
  have hown : s.vm.findClass RX0 = some m.cls := findClass_of_methodNamed B.named
  have hlocks := B.notSynchronized
  have hin : meth.name = "<init>" := (name_of_methodNamed B.named B.method).1
  have hiX0 : ∀ w ∈ u_ws RX0 TX0 3, w ∈ wsX0_init := fun w h => List.mem_cons_of_mem _ (List.mem_append_right _ h)
  subst hsz
  have hD := hD0.self (sz := s.heap.size)
  generalize hAe : va_A [(a0, .inr (0, [.null, .null, .int 0]))] s.heap.size = A at hD ⊢
  have hA : ∀ q : Nat, s.heap.size ≤ q → A q := fun q h => by rw [← hAe]; exact Or.inr h
  have hS : va_S A s.heap s.heap [] := va_S.rf
  have hP : va_P (dC, dI) vwCl [(a0, .inr (0, [.null, .null, .int 0]))] s.heap := hP
  have hl := lv_entry [.ref a0] (n := 1) (Nat.le_of_ble_eq_true rfl)
  rw [lg_entry_eq]
  generalize (lg_sl [.ref a0] ++ List.replicate (1 - (lg_sl [.ref a0]).length) Slot.unset).toArray = ls at hl ⊢
  clear hAe hD0
  have hl : lv_has ls 1 [(0, .ref a0)] := hl
  refine lv_aload_n hx hb dX0_init_0 rfl (lv_at hl 0 rfl) ?_
  refine W.objInit hx hb hown (hts (.methodLink RX0 3 objectInit) (List.mem_of_getElem? (i := 1) rfl)) (hts (.instanceMethod objectInit) (List.mem_of_getElem? (i := 2) rfl)) (hts _ (List.mem_of_getElem? (i := 3) rfl)) rfl (by rw [hml]; exact hl.1) rfl dX0_init_1 (Nat.le_of_ble_eq_true rfl) (Nat.le_of_ble_eq_true rfl) ?_
  refine W.eq (g2 := F0 m 4 ls []) rfl ?_
  refine lv_aload_n hx hb dX0_init_4 rfl (lv_at hl 0 rfl) ?_
  refine lv_bipush (v := (6 : Int32)) hx hb dX0_init_5 (by decide) ?_
  refine k_newI hx hb (hts (.arrayClass .int) (List.mem_of_getElem? (i := 4) rfl)) hKK hP hD hS hA 6 (by decide) (by decide) (by decide) (Nat.le_of_ble_eq_true rfl) (Nat.le_of_ble_eq_true rfl) dX0_init_7 (fun q7 H hP hD hS => ?_)
  have hP : va_P (dC, dI) vwCl [(a0, .inr (0, [.null, .null, .int 0])), (q7, .inl (cI, 6, .inl (fun _ => 0)))] H := hP
  have hD : va_D A [(a0, .inr (0, [.null, .null, .int 0])), (q7, .inl (cI, 6, .inl (fun _ => 0)))] := hD
  refine va_putF (D := (dC, dI)) (ci := 0) (v := .ref q7) (ty := .array .int) (C := RX0) (T := TX0) (N := 3) hx hb hts hiX0 tyX0 tyX0_ok nmX0 hown hKK.1 hP hD hS 0 rfl rfl 0 (by decide) (hts (.fieldLink RX0 9 "SlideLand$Asked" "strip" "[I") (List.mem_of_getElem? (i := 5) rfl)) (fun _ h9 => h9) rfl hin rfl (by decide +kernel) rfl rfl (Nat.le_of_ble_eq_true rfl) dX0_init_9 (fun H locs hP hD hS => ?_)
  have hP : va_P (dC, dI) vwCl [(a0, .inr (0, [.ref q7, .null, .int 0])), (q7, .inl (cI, 6, .inl (fun _ => 0)))] H := hP
  have hD : va_D A [(a0, .inr (0, [.ref q7, .null, .int 0])), (q7, .inl (cI, 6, .inl (fun _ => 0)))] := hD
  refine lv_aload_n hx hb dX0_init_12 rfl (lv_at hl 0 rfl) ?_
  refine lv_bipush (v := (6 : Int32)) hx hb dX0_init_13 (by decide) ?_
  refine k_newI hx hb (hts (.arrayClass .int) (List.mem_of_getElem? (i := 4) rfl)) hKK hP hD hS hA 6 (by decide) (by decide) (by decide) (Nat.le_of_ble_eq_true rfl) (Nat.le_of_ble_eq_true rfl) dX0_init_15 (fun q15 H hP hD hS => ?_)
  have hP : va_P (dC, dI) vwCl [(a0, .inr (0, [.ref q7, .null, .int 0])), (q7, .inl (cI, 6, .inl (fun _ => 0))), (q15, .inl (cI, 6, .inl (fun _ => 0)))] H := hP
  have hD : va_D A [(a0, .inr (0, [.ref q7, .null, .int 0])), (q7, .inl (cI, 6, .inl (fun _ => 0))), (q15, .inl (cI, 6, .inl (fun _ => 0)))] := hD
  refine va_putF (D := (dC, dI)) (ci := 0) (v := .ref q15) (ty := .array .int) (C := RX0) (T := TX0) (N := 3) hx hb hts hiX0 tyX0 tyX0_ok nmX0 hown hKK.1 hP hD hS 0 rfl rfl 1 (by decide) (hts (.fieldLink RX0 15 "SlideLand$Asked" "one" "[I") (List.mem_of_getElem? (i := 6) rfl)) (fun _ h9 => h9) rfl hin rfl (by decide +kernel) rfl rfl (Nat.le_of_ble_eq_true rfl) dX0_init_17 (fun H locs hP hD hS => ?_)
  have hP : va_P (dC, dI) vwCl [(a0, .inr (0, [.ref q7, .ref q15, .int 0])), (q7, .inl (cI, 6, .inl (fun _ => 0))), (q15, .inl (cI, 6, .inl (fun _ => 0)))] H := hP
  have hD : va_D A [(a0, .inr (0, [.ref q7, .ref q15, .int 0])), (q7, .inl (cI, 6, .inl (fun _ => 0))), (q15, .inl (cI, 6, .inl (fun _ => 0)))] := hD
  exact W.vret hx hb hr (fun t ht hW => ⟨⟨fun j => (bif Nat.beq j 0 then q7 else (bif Nat.beq j 1 then q15 else 0)), rfl, by rw [ht]; exact hP, hD⟩, hS.F ht⟩) hS.2.2 dX0_init_20
abbrev rmX1_init : Room := { frames := 1, cells := 2, slots := 162, locals := 12 }
theorem dsc_X1_init : yX1_init.cls ≠ "java/lang/invoke/MethodHandle" ∧ yX1_init.cls ≠ "java/lang/invoke/VarHandle" ∧ (parseMethodDescriptor yX1_init.desc).map (fun d => d.parameters.length) = some 0 := by decide +kernel
set_option maxHeartbeats 4000000 in
set_option maxRecDepth 100000 in
theorem c_X1_init (l : Launch) (dC : Nat → ClassId) (dI : Nat → Nat → Nat) (cB cI cZ cO : ClassId) (a0 : Nat) : Ci dC dI cB cI cZ cO l yX1_init wsX1_init rmX1_init [.ref a0] [(a0, .inr (1, [.null, .int 0, .int 0, .null]))] 2 162 (fun g : Nat → Nat => [cX1 a0 g oZ, cX1_0 cZ g oZ, cX1_3 cI g oZ]) := by
  intro sz
  refine Met.ofW (cc := cX1_init) (maxL := 1) (ret := none) (by decide) rfl ?_
  intro p e s m args below meth c s₁ B hml hv
  obtain ⟨rfl, hsz, hP, hKK, hD0⟩ := hv
  have hx := B.exec
  have hb := B.bytes
  have hr := B.returns
  have hts := atoms_spec (ws := wsX1_init) B.pre
  have hown : s.vm.findClass RX1 = some m.cls := findClass_of_methodNamed B.named
  have hlocks := B.notSynchronized
  have hin : meth.name = "<init>" := (name_of_methodNamed B.named B.method).1
  have hiX1 : ∀ w ∈ u_ws RX1 TX1 4, w ∈ wsX1_init := fun w h => List.mem_cons_of_mem _ (List.mem_append_right _ h)
  subst hsz
  have hD := hD0.self (sz := s.heap.size)
  generalize hAe : va_A [(a0, .inr (1, [.null, .int 0, .int 0, .null]))] s.heap.size = A at hD ⊢
  have hA : ∀ q : Nat, s.heap.size ≤ q → A q := fun q h => by rw [← hAe]; exact Or.inr h
  have hS : va_S A s.heap s.heap [] := va_S.rf
  have hP : va_P (dC, dI) vwCl [(a0, .inr (1, [.null, .int 0, .int 0, .null]))] s.heap := hP
  have hl := lv_entry [.ref a0] (n := 1) (Nat.le_of_ble_eq_true rfl)
  rw [lg_entry_eq]
  generalize (lg_sl [.ref a0] ++ List.replicate (1 - (lg_sl [.ref a0]).length) Slot.unset).toArray = ls at hl ⊢
  clear hAe hD0
  have hl : lv_has ls 1 [(0, .ref a0)] := hl
  refine lv_aload_n hx hb dX1_init_0 rfl (lv_at hl 0 rfl) ?_
  refine W.objInit hx hb hown (hts (.methodLink RX1 3 objectInit) (List.mem_of_getElem? (i := 1) rfl)) (hts (.instanceMethod objectInit) (List.mem_of_getElem? (i := 2) rfl)) (hts _ (List.mem_of_getElem? (i := 3) rfl)) rfl (by rw [hml]; exact hl.1) rfl dX1_init_1 (Nat.le_of_ble_eq_true rfl) (Nat.le_of_ble_eq_true rfl) ?_
  refine W.eq (g2 := F0 m 4 ls []) rfl ?_
  refine lv_aload_n hx hb dX1_init_4 rfl (lv_at hl 0 rfl) ?_
  refine lv_bipush (v := (81 : Int32)) hx hb dX1_init_5 (by decide) ?_
  refine k_newZ hx hb (hts (.arrayClass .boolean) (List.mem_of_getElem? (i := 4) rfl)) hKK hP hD hS hA 81 (by decide) (by decide) (by decide) (Nat.le_of_ble_eq_true rfl) (Nat.le_of_ble_eq_true rfl) dX1_init_7 (fun q7 H hP hD hS => ?_)
  have hP : va_P (dC, dI) vwCl [(a0, .inr (1, [.null, .int 0, .int 0, .null])), (q7, .inl (cZ, 81, .inl (fun _ => 0)))] H := hP
  have hD : va_D A [(a0, .inr (1, [.null, .int 0, .int 0, .null])), (q7, .inl (cZ, 81, .inl (fun _ => 0)))] := hD
  refine va_putF (D := (dC, dI)) (ci := 1) (v := .ref q7) (ty := .array .boolean) (C := RX1) (T := TX1) (N := 4) hx hb hts hiX1 tyX1 tyX1_ok nmX1 hown hKK.1 hP hD hS 0 rfl rfl 0 (by decide) (hts (.fieldLink RX1 9 "SlideLand$ByShift" "so" "[Z") (List.mem_of_getElem? (i := 5) rfl)) (fun _ h9 => h9) rfl hin rfl (by decide +kernel) rfl rfl (Nat.le_of_ble_eq_true rfl) dX1_init_9 (fun H locs hP hD hS => ?_)
  have hP : va_P (dC, dI) vwCl [(a0, .inr (1, [.ref q7, .int 0, .int 0, .null])), (q7, .inl (cZ, 81, .inl (fun _ => 0)))] H := hP
  have hD : va_D A [(a0, .inr (1, [.ref q7, .int 0, .int 0, .null])), (q7, .inl (cZ, 81, .inl (fun _ => 0)))] := hD
  refine lv_aload_n hx hb dX1_init_12 rfl (lv_at hl 0 rfl) ?_
  refine lv_bipush (v := (81 : Int32)) hx hb dX1_init_13 (by decide) ?_
  refine k_newI hx hb (hts (.arrayClass .int) (List.mem_of_getElem? (i := 6) rfl)) hKK hP hD hS hA 81 (by decide) (by decide) (by decide) (Nat.le_of_ble_eq_true rfl) (Nat.le_of_ble_eq_true rfl) dX1_init_15 (fun q15 H hP hD hS => ?_)
  have hP : va_P (dC, dI) vwCl [(a0, .inr (1, [.ref q7, .int 0, .int 0, .null])), (q7, .inl (cZ, 81, .inl (fun _ => 0))), (q15, .inl (cI, 81, .inl (fun _ => 0)))] H := hP
  have hD : va_D A [(a0, .inr (1, [.ref q7, .int 0, .int 0, .null])), (q7, .inl (cZ, 81, .inl (fun _ => 0))), (q15, .inl (cI, 81, .inl (fun _ => 0)))] := hD
  refine va_putF (D := (dC, dI)) (ci := 1) (v := .ref q15) (ty := .array .int) (C := RX1) (T := TX1) (N := 4) hx hb hts hiX1 tyX1 tyX1_ok nmX1 hown hKK.1 hP hD hS 0 rfl rfl 3 (by decide) (hts (.fieldLink RX1 15 "SlideLand$ByShift" "pairs" "[I") (List.mem_of_getElem? (i := 7) rfl)) (fun _ h9 => h9) rfl hin rfl (by decide +kernel) rfl rfl (Nat.le_of_ble_eq_true rfl) dX1_init_17 (fun H locs hP hD hS => ?_)
  have hP : va_P (dC, dI) vwCl [(a0, .inr (1, [.ref q7, .int 0, .int 0, .ref q15])), (q7, .inl (cZ, 81, .inl (fun _ => 0))), (q15, .inl (cI, 81, .inl (fun _ => 0)))] H := hP
  have hD : va_D A [(a0, .inr (1, [.ref q7, .int 0, .int 0, .ref q15])), (q7, .inl (cZ, 81, .inl (fun _ => 0))), (q15, .inl (cI, 81, .inl (fun _ => 0)))] := hD
  exact W.vret hx hb hr (fun t ht hW => ⟨⟨fun j => (bif Nat.beq j 0 then q7 else (bif Nat.beq j 3 then q15 else 0)), rfl, by rw [ht]; exact hP, hD⟩, hS.F ht⟩) hS.2.2 dX1_init_20
abbrev rmX2_init : Room := { frames := 1, cells := 1, slots := 200, locals := 12 }
theorem dsc_X2_init : yX2_init.cls ≠ "java/lang/invoke/MethodHandle" ∧ yX2_init.cls ≠ "java/lang/invoke/VarHandle" ∧ (parseMethodDescriptor yX2_init.desc).map (fun d => d.parameters.length) = some 0 := by decide +kernel
set_option maxHeartbeats 4000000 in
set_option maxRecDepth 100000 in
theorem c_X2_init (l : Launch) (dC : Nat → ClassId) (dI : Nat → Nat → Nat) (cB cI cZ cO : ClassId) (a0 : Nat) : Ci dC dI cB cI cZ cO l yX2_init wsX2_init rmX2_init [.ref a0] [(a0, .inr (2, [.null, .int 0]))] 1 200 (fun g : Nat → Nat => [cX2 a0 g oZ, cX2_0 cI g oZ]) := by
  intro sz
  refine Met.ofW (cc := cX2_init) (maxL := 1) (ret := none) (by decide) rfl ?_
  intro p e s m args below meth c s₁ B hml hv
  obtain ⟨rfl, hsz, hP, hKK, hD0⟩ := hv
  have hx := B.exec
  have hb := B.bytes
  have hr := B.returns
  have hts := atoms_spec (ws := wsX2_init) B.pre
  have hown : s.vm.findClass RX2 = some m.cls := findClass_of_methodNamed B.named
  have hlocks := B.notSynchronized
  have hin : meth.name = "<init>" := (name_of_methodNamed B.named B.method).1
  have hiX2 : ∀ w ∈ u_ws RX2 TX2 2, w ∈ wsX2_init := fun w h => List.mem_cons_of_mem _ (List.mem_append_right _ h)
  subst hsz
  have hD := hD0.self (sz := s.heap.size)
  generalize hAe : va_A [(a0, .inr (2, [.null, .int 0]))] s.heap.size = A at hD ⊢
  have hA : ∀ q : Nat, s.heap.size ≤ q → A q := fun q h => by rw [← hAe]; exact Or.inr h
  have hS : va_S A s.heap s.heap [] := va_S.rf
  have hP : va_P (dC, dI) vwCl [(a0, .inr (2, [.null, .int 0]))] s.heap := hP
  have hl := lv_entry [.ref a0] (n := 1) (Nat.le_of_ble_eq_true rfl)
  rw [lg_entry_eq]
  generalize (lg_sl [.ref a0] ++ List.replicate (1 - (lg_sl [.ref a0]).length) Slot.unset).toArray = ls at hl ⊢
  clear hAe hD0
  have hl : lv_has ls 1 [(0, .ref a0)] := hl
  refine lv_aload_n hx hb dX2_init_0 rfl (lv_at hl 0 rfl) ?_
  refine W.objInit hx hb hown (hts (.methodLink RX2 3 objectInit) (List.mem_of_getElem? (i := 1) rfl)) (hts (.instanceMethod objectInit) (List.mem_of_getElem? (i := 2) rfl)) (hts _ (List.mem_of_getElem? (i := 3) rfl)) rfl (by rw [hml]; exact hl.1) rfl dX2_init_1 (Nat.le_of_ble_eq_true rfl) (Nat.le_of_ble_eq_true rfl) ?_
  refine W.eq (g2 := F0 m 4 ls []) rfl ?_
  refine lv_aload_n hx hb dX2_init_4 rfl (lv_at hl 0 rfl) ?_
  refine lv_sipush (v := (200 : Int32)) hx hb dX2_init_5 (by decide) ?_
  refine k_newI hx hb (hts (.arrayClass .int) (List.mem_of_getElem? (i := 4) rfl)) hKK hP hD hS hA 200 (by decide) (by decide) (by decide) (Nat.le_of_ble_eq_true rfl) (Nat.le_of_ble_eq_true rfl) dX2_init_8 (fun q8 H hP hD hS => ?_)
  have hP : va_P (dC, dI) vwCl [(a0, .inr (2, [.null, .int 0])), (q8, .inl (cI, 200, .inl (fun _ => 0)))] H := hP
  have hD : va_D A [(a0, .inr (2, [.null, .int 0])), (q8, .inl (cI, 200, .inl (fun _ => 0)))] := hD
  refine va_putF (D := (dC, dI)) (ci := 2) (v := .ref q8) (ty := .array .int) (C := RX2) (T := TX2) (N := 2) hx hb hts hiX2 tyX2 tyX2_ok nmX2 hown hKK.1 hP hD hS 0 rfl rfl 0 (by decide) (hts (.fieldLink RX2 9 "SlideLand$Letters" "letters" "[I") (List.mem_of_getElem? (i := 5) rfl)) (fun _ h9 => h9) rfl hin rfl (by decide +kernel) rfl rfl (Nat.le_of_ble_eq_true rfl) dX2_init_10 (fun H locs hP hD hS => ?_)
  have hP : va_P (dC, dI) vwCl [(a0, .inr (2, [.ref q8, .int 0])), (q8, .inl (cI, 200, .inl (fun _ => 0)))] H := hP
  have hD : va_D A [(a0, .inr (2, [.ref q8, .int 0])), (q8, .inl (cI, 200, .inl (fun _ => 0)))] := hD
  exact W.vret hx hb hr (fun t ht hW => ⟨⟨fun j => (bif Nat.beq j 0 then q8 else 0), rfl, by rw [ht]; exact hP, hD⟩, hS.F ht⟩) hS.2.2 dX2_init_13
abbrev rmX4_init : Room := { frames := 1, cells := 6, slots := 414, locals := 12 }
theorem dsc_X4_init : yX4_init.cls ≠ "java/lang/invoke/MethodHandle" ∧ yX4_init.cls ≠ "java/lang/invoke/VarHandle" ∧ (parseMethodDescriptor yX4_init.desc).map (fun d => d.parameters.length) = some 0 := by decide +kernel
set_option maxHeartbeats 4000000 in
set_option maxRecDepth 100000 in
theorem c_X4_init (l : Launch) (dC : Nat → ClassId) (dI : Nat → Nat → Nat) (cB cI cZ cO : ClassId) (a0 : Nat) : Ci dC dI cB cI cZ cO l yX4_init wsX4_init rmX4_init [.ref a0] [(a0, .inr (4, [.null, .null, .null, .null, .null, .int 0, .null, .int 0]))] 6 414 (fun g : Nat → Nat => [cX4 a0 g oZ, cX4_0 cI g oZ, cX4_1 cI g oZ, cX4_2 cI g oZ, cX4_3 cI g oZ, cX4_4 cZ g oZ, cX4_6 cI g oZ]) := by
  intro sz
  refine Met.ofW (cc := cX4_init) (maxL := 1) (ret := none) (by decide) rfl ?_
  intro p e s m args below meth c s₁ B hml hv
  obtain ⟨rfl, hsz, hP, hKK, hD0⟩ := hv
  have hx := B.exec
  have hb := B.bytes
  have hr := B.returns
  have hts := atoms_spec (ws := wsX4_init) B.pre
  have hown : s.vm.findClass RX4 = some m.cls := findClass_of_methodNamed B.named
  have hlocks := B.notSynchronized
  have hin : meth.name = "<init>" := (name_of_methodNamed B.named B.method).1
  have hiX4 : ∀ w ∈ u_ws RX4 TX4 8, w ∈ wsX4_init := fun w h => List.mem_cons_of_mem _ (List.mem_append_right _ h)
  subst hsz
  have hD := hD0.self (sz := s.heap.size)
  generalize hAe : va_A [(a0, .inr (4, [.null, .null, .null, .null, .null, .int 0, .null, .int 0]))] s.heap.size = A at hD ⊢
  have hA : ∀ q : Nat, s.heap.size ≤ q → A q := fun q h => by rw [← hAe]; exact Or.inr h
  have hS : va_S A s.heap s.heap [] := va_S.rf
  have hP : va_P (dC, dI) vwCl [(a0, .inr (4, [.null, .null, .null, .null, .null, .int 0, .null, .int 0]))] s.heap := hP
  have hl := lv_entry [.ref a0] (n := 1) (Nat.le_of_ble_eq_true rfl)
  rw [lg_entry_eq]
  generalize (lg_sl [.ref a0] ++ List.replicate (1 - (lg_sl [.ref a0]).length) Slot.unset).toArray = ls at hl ⊢
  clear hAe hD0
  have hl : lv_has ls 1 [(0, .ref a0)] := hl
  refine lv_aload_n hx hb dX4_init_0 rfl (lv_at hl 0 rfl) ?_
  refine W.objInit hx hb hown (hts (.methodLink RX4 3 objectInit) (List.mem_of_getElem? (i := 1) rfl)) (hts (.instanceMethod objectInit) (List.mem_of_getElem? (i := 2) rfl)) (hts _ (List.mem_of_getElem? (i := 3) rfl)) rfl (by rw [hml]; exact hl.1) rfl dX4_init_1 (Nat.le_of_ble_eq_true rfl) (Nat.le_of_ble_eq_true rfl) ?_
  refine W.eq (g2 := F0 m 4 ls []) rfl ?_
  refine lv_aload_n hx hb dX4_init_4 rfl (lv_at hl 0 rfl) ?_
  refine lv_bipush (v := (81 : Int32)) hx hb dX4_init_5 (by decide) ?_
  refine k_newI hx hb (hts (.arrayClass .int) (List.mem_of_getElem? (i := 4) rfl)) hKK hP hD hS hA 81 (by decide) (by decide) (by decide) (Nat.le_of_ble_eq_true rfl) (Nat.le_of_ble_eq_true rfl) dX4_init_7 (fun q7 H hP hD hS => ?_)
  have hP : va_P (dC, dI) vwCl [(a0, .inr (4, [.null, .null, .null, .null, .null, .int 0, .null, .int 0])), (q7, .inl (cI, 81, .inl (fun _ => 0)))] H := hP
  have hD : va_D A [(a0, .inr (4, [.null, .null, .null, .null, .null, .int 0, .null, .int 0])), (q7, .inl (cI, 81, .inl (fun _ => 0)))] := hD
  refine va_putF (D := (dC, dI)) (ci := 4) (v := .ref q7) (ty := .array .int) (C := RX4) (T := TX4) (N := 8) hx hb hts hiX4 tyX4 tyX4_ok nmX4 hown hKK.1 hP hD hS 0 rfl rfl 0 (by decide) (hts (.fieldLink RX4 9 "SlideLand$Route" "queue" "[I") (List.mem_of_getElem? (i := 5) rfl)) (fun _ h9 => h9) rfl hin rfl (by decide +kernel) rfl rfl (Nat.le_of_ble_eq_true rfl) dX4_init_9 (fun H locs hP hD hS => ?_)
  have hP : va_P (dC, dI) vwCl [(a0, .inr (4, [.ref q7, .null, .null, .null, .null, .int 0, .null, .int 0])), (q7, .inl (cI, 81, .inl (fun _ => 0)))] H := hP
  have hD : va_D A [(a0, .inr (4, [.ref q7, .null, .null, .null, .null, .int 0, .null, .int 0])), (q7, .inl (cI, 81, .inl (fun _ => 0)))] := hD
  refine lv_aload_n hx hb dX4_init_12 rfl (lv_at hl 0 rfl) ?_
  refine lv_bipush (v := (81 : Int32)) hx hb dX4_init_13 (by decide) ?_
  refine k_newI hx hb (hts (.arrayClass .int) (List.mem_of_getElem? (i := 4) rfl)) hKK hP hD hS hA 81 (by decide) (by decide) (by decide) (Nat.le_of_ble_eq_true rfl) (Nat.le_of_ble_eq_true rfl) dX4_init_15 (fun q15 H hP hD hS => ?_)
  have hP : va_P (dC, dI) vwCl [(a0, .inr (4, [.ref q7, .null, .null, .null, .null, .int 0, .null, .int 0])), (q7, .inl (cI, 81, .inl (fun _ => 0))), (q15, .inl (cI, 81, .inl (fun _ => 0)))] H := hP
  have hD : va_D A [(a0, .inr (4, [.ref q7, .null, .null, .null, .null, .int 0, .null, .int 0])), (q7, .inl (cI, 81, .inl (fun _ => 0))), (q15, .inl (cI, 81, .inl (fun _ => 0)))] := hD
  refine va_putF (D := (dC, dI)) (ci := 4) (v := .ref q15) (ty := .array .int) (C := RX4) (T := TX4) (N := 8) hx hb hts hiX4 tyX4 tyX4_ok nmX4 hown hKK.1 hP hD hS 0 rfl rfl 1 (by decide) (hts (.fieldLink RX4 15 "SlideLand$Route" "from" "[I") (List.mem_of_getElem? (i := 6) rfl)) (fun _ h9 => h9) rfl hin rfl (by decide +kernel) rfl rfl (Nat.le_of_ble_eq_true rfl) dX4_init_17 (fun H locs hP hD hS => ?_)
  have hP : va_P (dC, dI) vwCl [(a0, .inr (4, [.ref q7, .ref q15, .null, .null, .null, .int 0, .null, .int 0])), (q7, .inl (cI, 81, .inl (fun _ => 0))), (q15, .inl (cI, 81, .inl (fun _ => 0)))] H := hP
  have hD : va_D A [(a0, .inr (4, [.ref q7, .ref q15, .null, .null, .null, .int 0, .null, .int 0])), (q7, .inl (cI, 81, .inl (fun _ => 0))), (q15, .inl (cI, 81, .inl (fun _ => 0)))] := hD
  refine lv_aload_n hx hb dX4_init_20 rfl (lv_at hl 0 rfl) ?_
  refine lv_bipush (v := (81 : Int32)) hx hb dX4_init_21 (by decide) ?_
  refine k_newI hx hb (hts (.arrayClass .int) (List.mem_of_getElem? (i := 4) rfl)) hKK hP hD hS hA 81 (by decide) (by decide) (by decide) (Nat.le_of_ble_eq_true rfl) (Nat.le_of_ble_eq_true rfl) dX4_init_23 (fun q23 H hP hD hS => ?_)
  have hP : va_P (dC, dI) vwCl [(a0, .inr (4, [.ref q7, .ref q15, .null, .null, .null, .int 0, .null, .int 0])), (q7, .inl (cI, 81, .inl (fun _ => 0))), (q15, .inl (cI, 81, .inl (fun _ => 0))), (q23, .inl (cI, 81, .inl (fun _ => 0)))] H := hP
  have hD : va_D A [(a0, .inr (4, [.ref q7, .ref q15, .null, .null, .null, .int 0, .null, .int 0])), (q7, .inl (cI, 81, .inl (fun _ => 0))), (q15, .inl (cI, 81, .inl (fun _ => 0))), (q23, .inl (cI, 81, .inl (fun _ => 0)))] := hD
  refine va_putF (D := (dC, dI)) (ci := 4) (v := .ref q23) (ty := .array .int) (C := RX4) (T := TX4) (N := 8) hx hb hts hiX4 tyX4 tyX4_ok nmX4 hown hKK.1 hP hD hS 0 rfl rfl 2 (by decide) (hts (.fieldLink RX4 18 "SlideLand$Route" "move" "[I") (List.mem_of_getElem? (i := 7) rfl)) (fun _ h9 => h9) rfl hin rfl (by decide +kernel) rfl rfl (Nat.le_of_ble_eq_true rfl) dX4_init_25 (fun H locs hP hD hS => ?_)
  have hP : va_P (dC, dI) vwCl [(a0, .inr (4, [.ref q7, .ref q15, .ref q23, .null, .null, .int 0, .null, .int 0])), (q7, .inl (cI, 81, .inl (fun _ => 0))), (q15, .inl (cI, 81, .inl (fun _ => 0))), (q23, .inl (cI, 81, .inl (fun _ => 0)))] H := hP
  have hD : va_D A [(a0, .inr (4, [.ref q7, .ref q15, .ref q23, .null, .null, .int 0, .null, .int 0])), (q7, .inl (cI, 81, .inl (fun _ => 0))), (q15, .inl (cI, 81, .inl (fun _ => 0))), (q23, .inl (cI, 81, .inl (fun _ => 0)))] := hD
  refine lv_aload_n hx hb dX4_init_28 rfl (lv_at hl 0 rfl) ?_
  refine lv_bipush (v := (81 : Int32)) hx hb dX4_init_29 (by decide) ?_
  refine k_newI hx hb (hts (.arrayClass .int) (List.mem_of_getElem? (i := 4) rfl)) hKK hP hD hS hA 81 (by decide) (by decide) (by decide) (Nat.le_of_ble_eq_true rfl) (Nat.le_of_ble_eq_true rfl) dX4_init_31 (fun q31 H hP hD hS => ?_)
  have hP : va_P (dC, dI) vwCl [(a0, .inr (4, [.ref q7, .ref q15, .ref q23, .null, .null, .int 0, .null, .int 0])), (q7, .inl (cI, 81, .inl (fun _ => 0))), (q15, .inl (cI, 81, .inl (fun _ => 0))), (q23, .inl (cI, 81, .inl (fun _ => 0))), (q31, .inl (cI, 81, .inl (fun _ => 0)))] H := hP
  have hD : va_D A [(a0, .inr (4, [.ref q7, .ref q15, .ref q23, .null, .null, .int 0, .null, .int 0])), (q7, .inl (cI, 81, .inl (fun _ => 0))), (q15, .inl (cI, 81, .inl (fun _ => 0))), (q23, .inl (cI, 81, .inl (fun _ => 0))), (q31, .inl (cI, 81, .inl (fun _ => 0)))] := hD
  refine va_putF (D := (dC, dI)) (ci := 4) (v := .ref q31) (ty := .array .int) (C := RX4) (T := TX4) (N := 8) hx hb hts hiX4 tyX4 tyX4_ok nmX4 hown hKK.1 hP hD hS 0 rfl rfl 3 (by decide) (hts (.fieldLink RX4 21 "SlideLand$Route" "depth" "[I") (List.mem_of_getElem? (i := 8) rfl)) (fun _ h9 => h9) rfl hin rfl (by decide +kernel) rfl rfl (Nat.le_of_ble_eq_true rfl) dX4_init_33 (fun H locs hP hD hS => ?_)
  have hP : va_P (dC, dI) vwCl [(a0, .inr (4, [.ref q7, .ref q15, .ref q23, .ref q31, .null, .int 0, .null, .int 0])), (q7, .inl (cI, 81, .inl (fun _ => 0))), (q15, .inl (cI, 81, .inl (fun _ => 0))), (q23, .inl (cI, 81, .inl (fun _ => 0))), (q31, .inl (cI, 81, .inl (fun _ => 0)))] H := hP
  have hD : va_D A [(a0, .inr (4, [.ref q7, .ref q15, .ref q23, .ref q31, .null, .int 0, .null, .int 0])), (q7, .inl (cI, 81, .inl (fun _ => 0))), (q15, .inl (cI, 81, .inl (fun _ => 0))), (q23, .inl (cI, 81, .inl (fun _ => 0))), (q31, .inl (cI, 81, .inl (fun _ => 0)))] := hD
  refine lv_aload_n hx hb dX4_init_36 rfl (lv_at hl 0 rfl) ?_
  refine lv_bipush (v := (81 : Int32)) hx hb dX4_init_37 (by decide) ?_
  refine k_newZ hx hb (hts (.arrayClass .boolean) (List.mem_of_getElem? (i := 9) rfl)) hKK hP hD hS hA 81 (by decide) (by decide) (by decide) (Nat.le_of_ble_eq_true rfl) (Nat.le_of_ble_eq_true rfl) dX4_init_39 (fun q39 H hP hD hS => ?_)
  have hP : va_P (dC, dI) vwCl [(a0, .inr (4, [.ref q7, .ref q15, .ref q23, .ref q31, .null, .int 0, .null, .int 0])), (q7, .inl (cI, 81, .inl (fun _ => 0))), (q15, .inl (cI, 81, .inl (fun _ => 0))), (q23, .inl (cI, 81, .inl (fun _ => 0))), (q31, .inl (cI, 81, .inl (fun _ => 0))), (q39, .inl (cZ, 81, .inl (fun _ => 0)))] H := hP
  have hD : va_D A [(a0, .inr (4, [.ref q7, .ref q15, .ref q23, .ref q31, .null, .int 0, .null, .int 0])), (q7, .inl (cI, 81, .inl (fun _ => 0))), (q15, .inl (cI, 81, .inl (fun _ => 0))), (q23, .inl (cI, 81, .inl (fun _ => 0))), (q31, .inl (cI, 81, .inl (fun _ => 0))), (q39, .inl (cZ, 81, .inl (fun _ => 0)))] := hD
  refine va_putF (D := (dC, dI)) (ci := 4) (v := .ref q39) (ty := .array .boolean) (C := RX4) (T := TX4) (N := 8) hx hb hts hiX4 tyX4 tyX4_ok nmX4 hown hKK.1 hP hD hS 0 rfl rfl 4 (by decide) (hts (.fieldLink RX4 24 "SlideLand$Route" "seen" "[Z") (List.mem_of_getElem? (i := 10) rfl)) (fun _ h9 => h9) rfl hin rfl (by decide +kernel) rfl rfl (Nat.le_of_ble_eq_true rfl) dX4_init_41 (fun H locs hP hD hS => ?_)
  have hP : va_P (dC, dI) vwCl [(a0, .inr (4, [.ref q7, .ref q15, .ref q23, .ref q31, .ref q39, .int 0, .null, .int 0])), (q7, .inl (cI, 81, .inl (fun _ => 0))), (q15, .inl (cI, 81, .inl (fun _ => 0))), (q23, .inl (cI, 81, .inl (fun _ => 0))), (q31, .inl (cI, 81, .inl (fun _ => 0))), (q39, .inl (cZ, 81, .inl (fun _ => 0)))] H := hP
  have hD : va_D A [(a0, .inr (4, [.ref q7, .ref q15, .ref q23, .ref q31, .ref q39, .int 0, .null, .int 0])), (q7, .inl (cI, 81, .inl (fun _ => 0))), (q15, .inl (cI, 81, .inl (fun _ => 0))), (q23, .inl (cI, 81, .inl (fun _ => 0))), (q31, .inl (cI, 81, .inl (fun _ => 0))), (q39, .inl (cZ, 81, .inl (fun _ => 0)))] := hD
  refine lv_aload_n hx hb dX4_init_44 rfl (lv_at hl 0 rfl) ?_
  refine lv_bipush (v := (9 : Int32)) hx hb dX4_init_45 (by decide) ?_
  refine k_newI hx hb (hts (.arrayClass .int) (List.mem_of_getElem? (i := 4) rfl)) hKK hP hD hS hA 9 (by decide) (by decide) (by decide) (Nat.le_of_ble_eq_true rfl) (Nat.le_of_ble_eq_true rfl) dX4_init_47 (fun q47 H hP hD hS => ?_)
  have hP : va_P (dC, dI) vwCl [(a0, .inr (4, [.ref q7, .ref q15, .ref q23, .ref q31, .ref q39, .int 0, .null, .int 0])), (q7, .inl (cI, 81, .inl (fun _ => 0))), (q15, .inl (cI, 81, .inl (fun _ => 0))), (q23, .inl (cI, 81, .inl (fun _ => 0))), (q31, .inl (cI, 81, .inl (fun _ => 0))), (q39, .inl (cZ, 81, .inl (fun _ => 0))), (q47, .inl (cI, 9, .inl (fun _ => 0)))] H := hP
  have hD : va_D A [(a0, .inr (4, [.ref q7, .ref q15, .ref q23, .ref q31, .ref q39, .int 0, .null, .int 0])), (q7, .inl (cI, 81, .inl (fun _ => 0))), (q15, .inl (cI, 81, .inl (fun _ => 0))), (q23, .inl (cI, 81, .inl (fun _ => 0))), (q31, .inl (cI, 81, .inl (fun _ => 0))), (q39, .inl (cZ, 81, .inl (fun _ => 0))), (q47, .inl (cI, 9, .inl (fun _ => 0)))] := hD
  refine va_putF (D := (dC, dI)) (ci := 4) (v := .ref q47) (ty := .array .int) (C := RX4) (T := TX4) (N := 8) hx hb hts hiX4 tyX4 tyX4_ok nmX4 hown hKK.1 hP hD hS 0 rfl rfl 6 (by decide) (hts (.fieldLink RX4 28 "SlideLand$Route" "row" "[I") (List.mem_of_getElem? (i := 11) rfl)) (fun _ h9 => h9) rfl hin rfl (by decide +kernel) rfl rfl (Nat.le_of_ble_eq_true rfl) dX4_init_49 (fun H locs hP hD hS => ?_)
  have hP : va_P (dC, dI) vwCl [(a0, .inr (4, [.ref q7, .ref q15, .ref q23, .ref q31, .ref q39, .int 0, .ref q47, .int 0])), (q7, .inl (cI, 81, .inl (fun _ => 0))), (q15, .inl (cI, 81, .inl (fun _ => 0))), (q23, .inl (cI, 81, .inl (fun _ => 0))), (q31, .inl (cI, 81, .inl (fun _ => 0))), (q39, .inl (cZ, 81, .inl (fun _ => 0))), (q47, .inl (cI, 9, .inl (fun _ => 0)))] H := hP
  have hD : va_D A [(a0, .inr (4, [.ref q7, .ref q15, .ref q23, .ref q31, .ref q39, .int 0, .ref q47, .int 0])), (q7, .inl (cI, 81, .inl (fun _ => 0))), (q15, .inl (cI, 81, .inl (fun _ => 0))), (q23, .inl (cI, 81, .inl (fun _ => 0))), (q31, .inl (cI, 81, .inl (fun _ => 0))), (q39, .inl (cZ, 81, .inl (fun _ => 0))), (q47, .inl (cI, 9, .inl (fun _ => 0)))] := hD
  exact W.vret hx hb hr (fun t ht hW => ⟨⟨fun j => (bif Nat.beq j 0 then q7 else (bif Nat.beq j 1 then q15 else (bif Nat.beq j 2 then q23 else (bif Nat.beq j 3 then q31 else (bif Nat.beq j 4 then q39 else (bif Nat.beq j 6 then q47 else 0)))))), rfl, by rw [ht]; exact hP, hD⟩, hS.F ht⟩) hS.2.2 dX4_init_52
abbrev rmX5_init : Room := { frames := 1, cells := 2, slots := 19, locals := 12 }
theorem dsc_X5_init : yX5_init.cls ≠ "java/lang/invoke/MethodHandle" ∧ yX5_init.cls ≠ "java/lang/invoke/VarHandle" ∧ (parseMethodDescriptor yX5_init.desc).map (fun d => d.parameters.length) = some 0 := by decide +kernel
set_option maxHeartbeats 4000000 in
set_option maxRecDepth 100000 in
theorem c_X5_init (l : Launch) (dC : Nat → ClassId) (dI : Nat → Nat → Nat) (cB cI cZ cO : ClassId) (a0 : Nat) : Ci dC dI cB cI cZ cO l yX5_init wsX5_init rmX5_init [.ref a0] [(a0, .inr (5, [.int 0, .int 0, .int 0, .int 0, .int 0, .null, .null]))] 2 19 (fun g : Nat → Nat => [cX5 a0 g oZ, cX5_5 cI g oZ, cX5_6 cI g oZ]) := by
  intro sz
  refine Met.ofW (cc := cX5_init) (maxL := 1) (ret := none) (by decide) rfl ?_
  intro p e s m args below meth c s₁ B hml hv
  obtain ⟨rfl, hsz, hP, hKK, hD0⟩ := hv
  have hx := B.exec
  have hb := B.bytes
  have hr := B.returns
  have hts := atoms_spec (ws := wsX5_init) B.pre
  have hown : s.vm.findClass RX5 = some m.cls := findClass_of_methodNamed B.named
  have hlocks := B.notSynchronized
  have hin : meth.name = "<init>" := (name_of_methodNamed B.named B.method).1
  have hiX5 : ∀ w ∈ u_ws RX5 TX5 7, w ∈ wsX5_init := fun w h => List.mem_cons_of_mem _ (List.mem_append_right _ h)
  subst hsz
  have hD := hD0.self (sz := s.heap.size)
  generalize hAe : va_A [(a0, .inr (5, [.int 0, .int 0, .int 0, .int 0, .int 0, .null, .null]))] s.heap.size = A at hD ⊢
  have hA : ∀ q : Nat, s.heap.size ≤ q → A q := fun q h => by rw [← hAe]; exact Or.inr h
  have hS : va_S A s.heap s.heap [] := va_S.rf
  have hP : va_P (dC, dI) vwCl [(a0, .inr (5, [.int 0, .int 0, .int 0, .int 0, .int 0, .null, .null]))] s.heap := hP
  have hl := lv_entry [.ref a0] (n := 1) (Nat.le_of_ble_eq_true rfl)
  rw [lg_entry_eq]
  generalize (lg_sl [.ref a0] ++ List.replicate (1 - (lg_sl [.ref a0]).length) Slot.unset).toArray = ls at hl ⊢
  clear hAe hD0
  have hl : lv_has ls 1 [(0, .ref a0)] := hl
  refine lv_aload_n hx hb dX5_init_0 rfl (lv_at hl 0 rfl) ?_
  refine W.objInit hx hb hown (hts (.methodLink RX5 3 objectInit) (List.mem_of_getElem? (i := 1) rfl)) (hts (.instanceMethod objectInit) (List.mem_of_getElem? (i := 2) rfl)) (hts _ (List.mem_of_getElem? (i := 3) rfl)) rfl (by rw [hml]; exact hl.1) rfl dX5_init_1 (Nat.le_of_ble_eq_true rfl) (Nat.le_of_ble_eq_true rfl) ?_
  refine W.eq (g2 := F0 m 4 ls []) rfl ?_
  refine lv_aload_n hx hb dX5_init_4 rfl (lv_at hl 0 rfl) ?_
  refine lv_bipush (v := (7 : Int32)) hx hb dX5_init_5 (by decide) ?_
  refine k_newI hx hb (hts (.arrayClass .int) (List.mem_of_getElem? (i := 4) rfl)) hKK hP hD hS hA 7 (by decide) (by decide) (by decide) (Nat.le_of_ble_eq_true rfl) (Nat.le_of_ble_eq_true rfl) dX5_init_7 (fun q7 H hP hD hS => ?_)
  have hP : va_P (dC, dI) vwCl [(a0, .inr (5, [.int 0, .int 0, .int 0, .int 0, .int 0, .null, .null])), (q7, .inl (cI, 7, .inl (fun _ => 0)))] H := hP
  have hD : va_D A [(a0, .inr (5, [.int 0, .int 0, .int 0, .int 0, .int 0, .null, .null])), (q7, .inl (cI, 7, .inl (fun _ => 0)))] := hD
  refine va_putF (D := (dC, dI)) (ci := 5) (v := .ref q7) (ty := .array .int) (C := RX5) (T := TX5) (N := 7) hx hb hts hiX5 tyX5 tyX5_ok nmX5 hown hKK.1 hP hD hS 0 rfl rfl 5 (by decide) (hts (.fieldLink RX5 9 "SlideLand$Stand" "goods" "[I") (List.mem_of_getElem? (i := 5) rfl)) (fun _ h9 => h9) rfl hin rfl (by decide +kernel) rfl rfl (Nat.le_of_ble_eq_true rfl) dX5_init_9 (fun H locs hP hD hS => ?_)
  have hP : va_P (dC, dI) vwCl [(a0, .inr (5, [.int 0, .int 0, .int 0, .int 0, .int 0, .ref q7, .null])), (q7, .inl (cI, 7, .inl (fun _ => 0)))] H := hP
  have hD : va_D A [(a0, .inr (5, [.int 0, .int 0, .int 0, .int 0, .int 0, .ref q7, .null])), (q7, .inl (cI, 7, .inl (fun _ => 0)))] := hD
  refine lv_aload_n hx hb dX5_init_12 rfl (lv_at hl 0 rfl) ?_
  refine lv_bipush (v := (12 : Int32)) hx hb dX5_init_13 (by decide) ?_
  refine k_newI hx hb (hts (.arrayClass .int) (List.mem_of_getElem? (i := 4) rfl)) hKK hP hD hS hA 12 (by decide) (by decide) (by decide) (Nat.le_of_ble_eq_true rfl) (Nat.le_of_ble_eq_true rfl) dX5_init_15 (fun q15 H hP hD hS => ?_)
  have hP : va_P (dC, dI) vwCl [(a0, .inr (5, [.int 0, .int 0, .int 0, .int 0, .int 0, .ref q7, .null])), (q7, .inl (cI, 7, .inl (fun _ => 0))), (q15, .inl (cI, 12, .inl (fun _ => 0)))] H := hP
  have hD : va_D A [(a0, .inr (5, [.int 0, .int 0, .int 0, .int 0, .int 0, .ref q7, .null])), (q7, .inl (cI, 7, .inl (fun _ => 0))), (q15, .inl (cI, 12, .inl (fun _ => 0)))] := hD
  refine va_putF (D := (dC, dI)) (ci := 5) (v := .ref q15) (ty := .array .int) (C := RX5) (T := TX5) (N := 7) hx hb hts hiX5 tyX5 tyX5_ok nmX5 hown hKK.1 hP hD hS 0 rfl rfl 6 (by decide) (hts (.fieldLink RX5 15 "SlideLand$Stand" "has" "[I") (List.mem_of_getElem? (i := 6) rfl)) (fun _ h9 => h9) rfl hin rfl (by decide +kernel) rfl rfl (Nat.le_of_ble_eq_true rfl) dX5_init_17 (fun H locs hP hD hS => ?_)
  have hP : va_P (dC, dI) vwCl [(a0, .inr (5, [.int 0, .int 0, .int 0, .int 0, .int 0, .ref q7, .ref q15])), (q7, .inl (cI, 7, .inl (fun _ => 0))), (q15, .inl (cI, 12, .inl (fun _ => 0)))] H := hP
  have hD : va_D A [(a0, .inr (5, [.int 0, .int 0, .int 0, .int 0, .int 0, .ref q7, .ref q15])), (q7, .inl (cI, 7, .inl (fun _ => 0))), (q15, .inl (cI, 12, .inl (fun _ => 0)))] := hD
  exact W.vret hx hb hr (fun t ht hW => ⟨⟨fun j => (bif Nat.beq j 5 then q7 else (bif Nat.beq j 6 then q15 else 0)), rfl, by rw [ht]; exact hP, hD⟩, hS.F ht⟩) hS.2.2 dX5_init_20
abbrev rmX6_init : Room := { frames := 1, cells := 8, slots := 50, locals := 12 }
theorem dsc_X6_init : yX6_init.cls ≠ "java/lang/invoke/MethodHandle" ∧ yX6_init.cls ≠ "java/lang/invoke/VarHandle" ∧ (parseMethodDescriptor yX6_init.desc).map (fun d => d.parameters.length) = some 0 := by decide +kernel
set_option maxHeartbeats 4000000 in
set_option maxRecDepth 100000 in
theorem c_X6_init (l : Launch) (dC : Nat → ClassId) (dI : Nat → Nat → Nat) (cB cI cZ cO : ClassId) (a0 : Nat) : Ci dC dI cB cI cZ cO l yX6_init wsX6_init rmX6_init [.ref a0] [(a0, .inr (6, [.null, .null, .null, .null, .null, .null, .null, .null, .int 0, .int 0, .int 0]))] 8 50 (fun g : Nat → Nat => [cX6 a0 g oZ, cX6_0 cI g oZ, cX6_1 cI g oZ, cX6_2 cI g oZ, cX6_3 cI g oZ, cX6_4 cI g oZ, cX6_5 cI g oZ, cX6_6 cI g oZ, cX6_7 cI g oZ]) := by
  intro sz
  refine Met.ofW (cc := cX6_init) (maxL := 1) (ret := none) (by decide) rfl ?_
  intro p e s m args below meth c s₁ B hml hv
  obtain ⟨rfl, hsz, hP, hKK, hD0⟩ := hv
  have hx := B.exec
  have hb := B.bytes
  have hr := B.returns
  have hts := atoms_spec (ws := wsX6_init) B.pre
  have hown : s.vm.findClass RX6 = some m.cls := findClass_of_methodNamed B.named
  have hlocks := B.notSynchronized
  have hin : meth.name = "<init>" := (name_of_methodNamed B.named B.method).1
  have hiX6 : ∀ w ∈ u_ws RX6 TX6 11, w ∈ wsX6_init := fun w h => List.mem_cons_of_mem _ (List.mem_append_right _ h)
  subst hsz
  have hD := hD0.self (sz := s.heap.size)
  generalize hAe : va_A [(a0, .inr (6, [.null, .null, .null, .null, .null, .null, .null, .null, .int 0, .int 0, .int 0]))] s.heap.size = A at hD ⊢
  have hA : ∀ q : Nat, s.heap.size ≤ q → A q := fun q h => by rw [← hAe]; exact Or.inr h
  have hS : va_S A s.heap s.heap [] := va_S.rf
  have hP : va_P (dC, dI) vwCl [(a0, .inr (6, [.null, .null, .null, .null, .null, .null, .null, .null, .int 0, .int 0, .int 0]))] s.heap := hP
  have hl := lv_entry [.ref a0] (n := 1) (Nat.le_of_ble_eq_true rfl)
  rw [lg_entry_eq]
  generalize (lg_sl [.ref a0] ++ List.replicate (1 - (lg_sl [.ref a0]).length) Slot.unset).toArray = ls at hl ⊢
  clear hAe hD0
  have hl : lv_has ls 1 [(0, .ref a0)] := hl
  refine lv_aload_n hx hb dX6_init_0 rfl (lv_at hl 0 rfl) ?_
  refine W.objInit hx hb hown (hts (.methodLink RX6 3 objectInit) (List.mem_of_getElem? (i := 1) rfl)) (hts (.instanceMethod objectInit) (List.mem_of_getElem? (i := 2) rfl)) (hts _ (List.mem_of_getElem? (i := 3) rfl)) rfl (by rw [hml]; exact hl.1) rfl dX6_init_1 (Nat.le_of_ble_eq_true rfl) (Nat.le_of_ble_eq_true rfl) ?_
  refine W.eq (g2 := F0 m 4 ls []) rfl ?_
  refine lv_aload_n hx hb dX6_init_4 rfl (lv_at hl 0 rfl) ?_
  refine lv_bipush (v := (12 : Int32)) hx hb dX6_init_5 (by decide) ?_
  refine k_newI hx hb (hts (.arrayClass .int) (List.mem_of_getElem? (i := 4) rfl)) hKK hP hD hS hA 12 (by decide) (by decide) (by decide) (Nat.le_of_ble_eq_true rfl) (Nat.le_of_ble_eq_true rfl) dX6_init_7 (fun q7 H hP hD hS => ?_)
  have hP : va_P (dC, dI) vwCl [(a0, .inr (6, [.null, .null, .null, .null, .null, .null, .null, .null, .int 0, .int 0, .int 0])), (q7, .inl (cI, 12, .inl (fun _ => 0)))] H := hP
  have hD : va_D A [(a0, .inr (6, [.null, .null, .null, .null, .null, .null, .null, .null, .int 0, .int 0, .int 0])), (q7, .inl (cI, 12, .inl (fun _ => 0)))] := hD
  refine va_putF (D := (dC, dI)) (ci := 6) (v := .ref q7) (ty := .array .int) (C := RX6) (T := TX6) (N := 11) hx hb hts hiX6 tyX6 tyX6_ok nmX6 hown hKK.1 hP hD hS 0 rfl rfl 0 (by decide) (hts (.fieldLink RX6 9 "SlideLand$Told" "oneInch" "[I") (List.mem_of_getElem? (i := 5) rfl)) (fun _ h9 => h9) rfl hin rfl (by decide +kernel) rfl rfl (Nat.le_of_ble_eq_true rfl) dX6_init_9 (fun H locs hP hD hS => ?_)
  have hP : va_P (dC, dI) vwCl [(a0, .inr (6, [.ref q7, .null, .null, .null, .null, .null, .null, .null, .int 0, .int 0, .int 0])), (q7, .inl (cI, 12, .inl (fun _ => 0)))] H := hP
  have hD : va_D A [(a0, .inr (6, [.ref q7, .null, .null, .null, .null, .null, .null, .null, .int 0, .int 0, .int 0])), (q7, .inl (cI, 12, .inl (fun _ => 0)))] := hD
  refine lv_aload_n hx hb dX6_init_12 rfl (lv_at hl 0 rfl) ?_
  refine lv_iconst (v := (2 : Int32)) hx hb dX6_init_13 (by decide) ?_
  refine k_newI hx hb (hts (.arrayClass .int) (List.mem_of_getElem? (i := 4) rfl)) hKK hP hD hS hA 2 (by decide) (by decide) (by decide) (Nat.le_of_ble_eq_true rfl) (Nat.le_of_ble_eq_true rfl) dX6_init_14 (fun q14 H hP hD hS => ?_)
  have hP : va_P (dC, dI) vwCl [(a0, .inr (6, [.ref q7, .null, .null, .null, .null, .null, .null, .null, .int 0, .int 0, .int 0])), (q7, .inl (cI, 12, .inl (fun _ => 0))), (q14, .inl (cI, 2, .inl (fun _ => 0)))] H := hP
  have hD : va_D A [(a0, .inr (6, [.ref q7, .null, .null, .null, .null, .null, .null, .null, .int 0, .int 0, .int 0])), (q7, .inl (cI, 12, .inl (fun _ => 0))), (q14, .inl (cI, 2, .inl (fun _ => 0)))] := hD
  refine va_putF (D := (dC, dI)) (ci := 6) (v := .ref q14) (ty := .array .int) (C := RX6) (T := TX6) (N := 11) hx hb hts hiX6 tyX6 tyX6_ok nmX6 hown hKK.1 hP hD hS 0 rfl rfl 1 (by decide) (hts (.fieldLink RX6 15 "SlideLand$Told" "ofLand" "[I") (List.mem_of_getElem? (i := 6) rfl)) (fun _ h9 => h9) rfl hin rfl (by decide +kernel) rfl rfl (Nat.le_of_ble_eq_true rfl) dX6_init_16 (fun H locs hP hD hS => ?_)
  have hP : va_P (dC, dI) vwCl [(a0, .inr (6, [.ref q7, .ref q14, .null, .null, .null, .null, .null, .null, .int 0, .int 0, .int 0])), (q7, .inl (cI, 12, .inl (fun _ => 0))), (q14, .inl (cI, 2, .inl (fun _ => 0)))] H := hP
  have hD : va_D A [(a0, .inr (6, [.ref q7, .ref q14, .null, .null, .null, .null, .null, .null, .int 0, .int 0, .int 0])), (q7, .inl (cI, 12, .inl (fun _ => 0))), (q14, .inl (cI, 2, .inl (fun _ => 0)))] := hD
  refine lv_aload_n hx hb dX6_init_19 rfl (lv_at hl 0 rfl) ?_
  refine lv_bipush (v := (7 : Int32)) hx hb dX6_init_20 (by decide) ?_
  refine k_newI hx hb (hts (.arrayClass .int) (List.mem_of_getElem? (i := 4) rfl)) hKK hP hD hS hA 7 (by decide) (by decide) (by decide) (Nat.le_of_ble_eq_true rfl) (Nat.le_of_ble_eq_true rfl) dX6_init_22 (fun q22 H hP hD hS => ?_)
  have hP : va_P (dC, dI) vwCl [(a0, .inr (6, [.ref q7, .ref q14, .null, .null, .null, .null, .null, .null, .int 0, .int 0, .int 0])), (q7, .inl (cI, 12, .inl (fun _ => 0))), (q14, .inl (cI, 2, .inl (fun _ => 0))), (q22, .inl (cI, 7, .inl (fun _ => 0)))] H := hP
  have hD : va_D A [(a0, .inr (6, [.ref q7, .ref q14, .null, .null, .null, .null, .null, .null, .int 0, .int 0, .int 0])), (q7, .inl (cI, 12, .inl (fun _ => 0))), (q14, .inl (cI, 2, .inl (fun _ => 0))), (q22, .inl (cI, 7, .inl (fun _ => 0)))] := hD
  refine va_putF (D := (dC, dI)) (ci := 6) (v := .ref q22) (ty := .array .int) (C := RX6) (T := TX6) (N := 11) hx hb hts hiX6 tyX6 tyX6_ok nmX6 hown hKK.1 hP hD hS 0 rfl rfl 2 (by decide) (hts (.fieldLink RX6 18 "SlideLand$Told" "kind" "[I") (List.mem_of_getElem? (i := 7) rfl)) (fun _ h9 => h9) rfl hin rfl (by decide +kernel) rfl rfl (Nat.le_of_ble_eq_true rfl) dX6_init_24 (fun H locs hP hD hS => ?_)
  have hP : va_P (dC, dI) vwCl [(a0, .inr (6, [.ref q7, .ref q14, .ref q22, .null, .null, .null, .null, .null, .int 0, .int 0, .int 0])), (q7, .inl (cI, 12, .inl (fun _ => 0))), (q14, .inl (cI, 2, .inl (fun _ => 0))), (q22, .inl (cI, 7, .inl (fun _ => 0)))] H := hP
  have hD : va_D A [(a0, .inr (6, [.ref q7, .ref q14, .ref q22, .null, .null, .null, .null, .null, .int 0, .int 0, .int 0])), (q7, .inl (cI, 12, .inl (fun _ => 0))), (q14, .inl (cI, 2, .inl (fun _ => 0))), (q22, .inl (cI, 7, .inl (fun _ => 0)))] := hD
  refine lv_aload_n hx hb dX6_init_27 rfl (lv_at hl 0 rfl) ?_
  refine lv_bipush (v := (7 : Int32)) hx hb dX6_init_28 (by decide) ?_
  refine k_newI hx hb (hts (.arrayClass .int) (List.mem_of_getElem? (i := 4) rfl)) hKK hP hD hS hA 7 (by decide) (by decide) (by decide) (Nat.le_of_ble_eq_true rfl) (Nat.le_of_ble_eq_true rfl) dX6_init_30 (fun q30 H hP hD hS => ?_)
  have hP : va_P (dC, dI) vwCl [(a0, .inr (6, [.ref q7, .ref q14, .ref q22, .null, .null, .null, .null, .null, .int 0, .int 0, .int 0])), (q7, .inl (cI, 12, .inl (fun _ => 0))), (q14, .inl (cI, 2, .inl (fun _ => 0))), (q22, .inl (cI, 7, .inl (fun _ => 0))), (q30, .inl (cI, 7, .inl (fun _ => 0)))] H := hP
  have hD : va_D A [(a0, .inr (6, [.ref q7, .ref q14, .ref q22, .null, .null, .null, .null, .null, .int 0, .int 0, .int 0])), (q7, .inl (cI, 12, .inl (fun _ => 0))), (q14, .inl (cI, 2, .inl (fun _ => 0))), (q22, .inl (cI, 7, .inl (fun _ => 0))), (q30, .inl (cI, 7, .inl (fun _ => 0)))] := hD
  refine va_putF (D := (dC, dI)) (ci := 6) (v := .ref q30) (ty := .array .int) (C := RX6) (T := TX6) (N := 11) hx hb hts hiX6 tyX6 tyX6_ok nmX6 hown hKK.1 hP hD hS 0 rfl rfl 3 (by decide) (hts (.fieldLink RX6 21 "SlideLand$Told" "stripInch" "[I") (List.mem_of_getElem? (i := 8) rfl)) (fun _ h9 => h9) rfl hin rfl (by decide +kernel) rfl rfl (Nat.le_of_ble_eq_true rfl) dX6_init_32 (fun H locs hP hD hS => ?_)
  have hP : va_P (dC, dI) vwCl [(a0, .inr (6, [.ref q7, .ref q14, .ref q22, .ref q30, .null, .null, .null, .null, .int 0, .int 0, .int 0])), (q7, .inl (cI, 12, .inl (fun _ => 0))), (q14, .inl (cI, 2, .inl (fun _ => 0))), (q22, .inl (cI, 7, .inl (fun _ => 0))), (q30, .inl (cI, 7, .inl (fun _ => 0)))] H := hP
  have hD : va_D A [(a0, .inr (6, [.ref q7, .ref q14, .ref q22, .ref q30, .null, .null, .null, .null, .int 0, .int 0, .int 0])), (q7, .inl (cI, 12, .inl (fun _ => 0))), (q14, .inl (cI, 2, .inl (fun _ => 0))), (q22, .inl (cI, 7, .inl (fun _ => 0))), (q30, .inl (cI, 7, .inl (fun _ => 0)))] := hD
  refine lv_aload_n hx hb dX6_init_35 rfl (lv_at hl 0 rfl) ?_
  refine lv_bipush (v := (7 : Int32)) hx hb dX6_init_36 (by decide) ?_
  refine k_newI hx hb (hts (.arrayClass .int) (List.mem_of_getElem? (i := 4) rfl)) hKK hP hD hS hA 7 (by decide) (by decide) (by decide) (Nat.le_of_ble_eq_true rfl) (Nat.le_of_ble_eq_true rfl) dX6_init_38 (fun q38 H hP hD hS => ?_)
  have hP : va_P (dC, dI) vwCl [(a0, .inr (6, [.ref q7, .ref q14, .ref q22, .ref q30, .null, .null, .null, .null, .int 0, .int 0, .int 0])), (q7, .inl (cI, 12, .inl (fun _ => 0))), (q14, .inl (cI, 2, .inl (fun _ => 0))), (q22, .inl (cI, 7, .inl (fun _ => 0))), (q30, .inl (cI, 7, .inl (fun _ => 0))), (q38, .inl (cI, 7, .inl (fun _ => 0)))] H := hP
  have hD : va_D A [(a0, .inr (6, [.ref q7, .ref q14, .ref q22, .ref q30, .null, .null, .null, .null, .int 0, .int 0, .int 0])), (q7, .inl (cI, 12, .inl (fun _ => 0))), (q14, .inl (cI, 2, .inl (fun _ => 0))), (q22, .inl (cI, 7, .inl (fun _ => 0))), (q30, .inl (cI, 7, .inl (fun _ => 0))), (q38, .inl (cI, 7, .inl (fun _ => 0)))] := hD
  refine va_putF (D := (dC, dI)) (ci := 6) (v := .ref q38) (ty := .array .int) (C := RX6) (T := TX6) (N := 11) hx hb hts hiX6 tyX6 tyX6_ok nmX6 hown hKK.1 hP hD hS 0 rfl rfl 4 (by decide) (hts (.fieldLink RX6 24 "SlideLand$Told" "firstGoods" "[I") (List.mem_of_getElem? (i := 9) rfl)) (fun _ h9 => h9) rfl hin rfl (by decide +kernel) rfl rfl (Nat.le_of_ble_eq_true rfl) dX6_init_40 (fun H locs hP hD hS => ?_)
  have hP : va_P (dC, dI) vwCl [(a0, .inr (6, [.ref q7, .ref q14, .ref q22, .ref q30, .ref q38, .null, .null, .null, .int 0, .int 0, .int 0])), (q7, .inl (cI, 12, .inl (fun _ => 0))), (q14, .inl (cI, 2, .inl (fun _ => 0))), (q22, .inl (cI, 7, .inl (fun _ => 0))), (q30, .inl (cI, 7, .inl (fun _ => 0))), (q38, .inl (cI, 7, .inl (fun _ => 0)))] H := hP
  have hD : va_D A [(a0, .inr (6, [.ref q7, .ref q14, .ref q22, .ref q30, .ref q38, .null, .null, .null, .int 0, .int 0, .int 0])), (q7, .inl (cI, 12, .inl (fun _ => 0))), (q14, .inl (cI, 2, .inl (fun _ => 0))), (q22, .inl (cI, 7, .inl (fun _ => 0))), (q30, .inl (cI, 7, .inl (fun _ => 0))), (q38, .inl (cI, 7, .inl (fun _ => 0)))] := hD
  refine lv_aload_n hx hb dX6_init_43 rfl (lv_at hl 0 rfl) ?_
  refine lv_iconst (v := (4 : Int32)) hx hb dX6_init_44 (by decide) ?_
  refine k_newI hx hb (hts (.arrayClass .int) (List.mem_of_getElem? (i := 4) rfl)) hKK hP hD hS hA 4 (by decide) (by decide) (by decide) (Nat.le_of_ble_eq_true rfl) (Nat.le_of_ble_eq_true rfl) dX6_init_45 (fun q45 H hP hD hS => ?_)
  have hP : va_P (dC, dI) vwCl [(a0, .inr (6, [.ref q7, .ref q14, .ref q22, .ref q30, .ref q38, .null, .null, .null, .int 0, .int 0, .int 0])), (q7, .inl (cI, 12, .inl (fun _ => 0))), (q14, .inl (cI, 2, .inl (fun _ => 0))), (q22, .inl (cI, 7, .inl (fun _ => 0))), (q30, .inl (cI, 7, .inl (fun _ => 0))), (q38, .inl (cI, 7, .inl (fun _ => 0))), (q45, .inl (cI, 4, .inl (fun _ => 0)))] H := hP
  have hD : va_D A [(a0, .inr (6, [.ref q7, .ref q14, .ref q22, .ref q30, .ref q38, .null, .null, .null, .int 0, .int 0, .int 0])), (q7, .inl (cI, 12, .inl (fun _ => 0))), (q14, .inl (cI, 2, .inl (fun _ => 0))), (q22, .inl (cI, 7, .inl (fun _ => 0))), (q30, .inl (cI, 7, .inl (fun _ => 0))), (q38, .inl (cI, 7, .inl (fun _ => 0))), (q45, .inl (cI, 4, .inl (fun _ => 0)))] := hD
  refine va_putF (D := (dC, dI)) (ci := 6) (v := .ref q45) (ty := .array .int) (C := RX6) (T := TX6) (N := 11) hx hb hts hiX6 tyX6 tyX6_ok nmX6 hown hKK.1 hP hD hS 0 rfl rfl 5 (by decide) (hts (.fieldLink RX6 27 "SlideLand$Told" "pushed" "[I") (List.mem_of_getElem? (i := 10) rfl)) (fun _ h9 => h9) rfl hin rfl (by decide +kernel) rfl rfl (Nat.le_of_ble_eq_true rfl) dX6_init_47 (fun H locs hP hD hS => ?_)
  have hP : va_P (dC, dI) vwCl [(a0, .inr (6, [.ref q7, .ref q14, .ref q22, .ref q30, .ref q38, .ref q45, .null, .null, .int 0, .int 0, .int 0])), (q7, .inl (cI, 12, .inl (fun _ => 0))), (q14, .inl (cI, 2, .inl (fun _ => 0))), (q22, .inl (cI, 7, .inl (fun _ => 0))), (q30, .inl (cI, 7, .inl (fun _ => 0))), (q38, .inl (cI, 7, .inl (fun _ => 0))), (q45, .inl (cI, 4, .inl (fun _ => 0)))] H := hP
  have hD : va_D A [(a0, .inr (6, [.ref q7, .ref q14, .ref q22, .ref q30, .ref q38, .ref q45, .null, .null, .int 0, .int 0, .int 0])), (q7, .inl (cI, 12, .inl (fun _ => 0))), (q14, .inl (cI, 2, .inl (fun _ => 0))), (q22, .inl (cI, 7, .inl (fun _ => 0))), (q30, .inl (cI, 7, .inl (fun _ => 0))), (q38, .inl (cI, 7, .inl (fun _ => 0))), (q45, .inl (cI, 4, .inl (fun _ => 0)))] := hD
  refine lv_aload_n hx hb dX6_init_50 rfl (lv_at hl 0 rfl) ?_
  refine lv_bipush (v := (8 : Int32)) hx hb dX6_init_51 (by decide) ?_
  refine k_newI hx hb (hts (.arrayClass .int) (List.mem_of_getElem? (i := 4) rfl)) hKK hP hD hS hA 8 (by decide) (by decide) (by decide) (Nat.le_of_ble_eq_true rfl) (Nat.le_of_ble_eq_true rfl) dX6_init_53 (fun q53 H hP hD hS => ?_)
  have hP : va_P (dC, dI) vwCl [(a0, .inr (6, [.ref q7, .ref q14, .ref q22, .ref q30, .ref q38, .ref q45, .null, .null, .int 0, .int 0, .int 0])), (q7, .inl (cI, 12, .inl (fun _ => 0))), (q14, .inl (cI, 2, .inl (fun _ => 0))), (q22, .inl (cI, 7, .inl (fun _ => 0))), (q30, .inl (cI, 7, .inl (fun _ => 0))), (q38, .inl (cI, 7, .inl (fun _ => 0))), (q45, .inl (cI, 4, .inl (fun _ => 0))), (q53, .inl (cI, 8, .inl (fun _ => 0)))] H := hP
  have hD : va_D A [(a0, .inr (6, [.ref q7, .ref q14, .ref q22, .ref q30, .ref q38, .ref q45, .null, .null, .int 0, .int 0, .int 0])), (q7, .inl (cI, 12, .inl (fun _ => 0))), (q14, .inl (cI, 2, .inl (fun _ => 0))), (q22, .inl (cI, 7, .inl (fun _ => 0))), (q30, .inl (cI, 7, .inl (fun _ => 0))), (q38, .inl (cI, 7, .inl (fun _ => 0))), (q45, .inl (cI, 4, .inl (fun _ => 0))), (q53, .inl (cI, 8, .inl (fun _ => 0)))] := hD
  refine va_putF (D := (dC, dI)) (ci := 6) (v := .ref q53) (ty := .array .int) (C := RX6) (T := TX6) (N := 11) hx hb hts hiX6 tyX6 tyX6_ok nmX6 hown hKK.1 hP hD hS 0 rfl rfl 6 (by decide) (hts (.fieldLink RX6 30 "SlideLand$Told" "damps" "[I") (List.mem_of_getElem? (i := 11) rfl)) (fun _ h9 => h9) rfl hin rfl (by decide +kernel) rfl rfl (Nat.le_of_ble_eq_true rfl) dX6_init_55 (fun H locs hP hD hS => ?_)
  have hP : va_P (dC, dI) vwCl [(a0, .inr (6, [.ref q7, .ref q14, .ref q22, .ref q30, .ref q38, .ref q45, .ref q53, .null, .int 0, .int 0, .int 0])), (q7, .inl (cI, 12, .inl (fun _ => 0))), (q14, .inl (cI, 2, .inl (fun _ => 0))), (q22, .inl (cI, 7, .inl (fun _ => 0))), (q30, .inl (cI, 7, .inl (fun _ => 0))), (q38, .inl (cI, 7, .inl (fun _ => 0))), (q45, .inl (cI, 4, .inl (fun _ => 0))), (q53, .inl (cI, 8, .inl (fun _ => 0)))] H := hP
  have hD : va_D A [(a0, .inr (6, [.ref q7, .ref q14, .ref q22, .ref q30, .ref q38, .ref q45, .ref q53, .null, .int 0, .int 0, .int 0])), (q7, .inl (cI, 12, .inl (fun _ => 0))), (q14, .inl (cI, 2, .inl (fun _ => 0))), (q22, .inl (cI, 7, .inl (fun _ => 0))), (q30, .inl (cI, 7, .inl (fun _ => 0))), (q38, .inl (cI, 7, .inl (fun _ => 0))), (q45, .inl (cI, 4, .inl (fun _ => 0))), (q53, .inl (cI, 8, .inl (fun _ => 0)))] := hD
  refine lv_aload_n hx hb dX6_init_58 rfl (lv_at hl 0 rfl) ?_
  refine lv_iconst (v := (3 : Int32)) hx hb dX6_init_59 (by decide) ?_
  refine k_newI hx hb (hts (.arrayClass .int) (List.mem_of_getElem? (i := 4) rfl)) hKK hP hD hS hA 3 (by decide) (by decide) (by decide) (Nat.le_of_ble_eq_true rfl) (Nat.le_of_ble_eq_true rfl) dX6_init_60 (fun q60 H hP hD hS => ?_)
  have hP : va_P (dC, dI) vwCl [(a0, .inr (6, [.ref q7, .ref q14, .ref q22, .ref q30, .ref q38, .ref q45, .ref q53, .null, .int 0, .int 0, .int 0])), (q7, .inl (cI, 12, .inl (fun _ => 0))), (q14, .inl (cI, 2, .inl (fun _ => 0))), (q22, .inl (cI, 7, .inl (fun _ => 0))), (q30, .inl (cI, 7, .inl (fun _ => 0))), (q38, .inl (cI, 7, .inl (fun _ => 0))), (q45, .inl (cI, 4, .inl (fun _ => 0))), (q53, .inl (cI, 8, .inl (fun _ => 0))), (q60, .inl (cI, 3, .inl (fun _ => 0)))] H := hP
  have hD : va_D A [(a0, .inr (6, [.ref q7, .ref q14, .ref q22, .ref q30, .ref q38, .ref q45, .ref q53, .null, .int 0, .int 0, .int 0])), (q7, .inl (cI, 12, .inl (fun _ => 0))), (q14, .inl (cI, 2, .inl (fun _ => 0))), (q22, .inl (cI, 7, .inl (fun _ => 0))), (q30, .inl (cI, 7, .inl (fun _ => 0))), (q38, .inl (cI, 7, .inl (fun _ => 0))), (q45, .inl (cI, 4, .inl (fun _ => 0))), (q53, .inl (cI, 8, .inl (fun _ => 0))), (q60, .inl (cI, 3, .inl (fun _ => 0)))] := hD
  refine va_putF (D := (dC, dI)) (ci := 6) (v := .ref q60) (ty := .array .int) (C := RX6) (T := TX6) (N := 11) hx hb hts hiX6 tyX6 tyX6_ok nmX6 hown hKK.1 hP hD hS 0 rfl rfl 7 (by decide) (hts (.fieldLink RX6 33 "SlideLand$Told" "numbers" "[I") (List.mem_of_getElem? (i := 12) rfl)) (fun _ h9 => h9) rfl hin rfl (by decide +kernel) rfl rfl (Nat.le_of_ble_eq_true rfl) dX6_init_62 (fun H locs hP hD hS => ?_)
  have hP : va_P (dC, dI) vwCl [(a0, .inr (6, [.ref q7, .ref q14, .ref q22, .ref q30, .ref q38, .ref q45, .ref q53, .ref q60, .int 0, .int 0, .int 0])), (q7, .inl (cI, 12, .inl (fun _ => 0))), (q14, .inl (cI, 2, .inl (fun _ => 0))), (q22, .inl (cI, 7, .inl (fun _ => 0))), (q30, .inl (cI, 7, .inl (fun _ => 0))), (q38, .inl (cI, 7, .inl (fun _ => 0))), (q45, .inl (cI, 4, .inl (fun _ => 0))), (q53, .inl (cI, 8, .inl (fun _ => 0))), (q60, .inl (cI, 3, .inl (fun _ => 0)))] H := hP
  have hD : va_D A [(a0, .inr (6, [.ref q7, .ref q14, .ref q22, .ref q30, .ref q38, .ref q45, .ref q53, .ref q60, .int 0, .int 0, .int 0])), (q7, .inl (cI, 12, .inl (fun _ => 0))), (q14, .inl (cI, 2, .inl (fun _ => 0))), (q22, .inl (cI, 7, .inl (fun _ => 0))), (q30, .inl (cI, 7, .inl (fun _ => 0))), (q38, .inl (cI, 7, .inl (fun _ => 0))), (q45, .inl (cI, 4, .inl (fun _ => 0))), (q53, .inl (cI, 8, .inl (fun _ => 0))), (q60, .inl (cI, 3, .inl (fun _ => 0)))] := hD
  exact W.vret hx hb hr (fun t ht hW => ⟨⟨fun j => (bif Nat.beq j 0 then q7 else (bif Nat.beq j 1 then q14 else (bif Nat.beq j 2 then q22 else (bif Nat.beq j 3 then q30 else (bif Nat.beq j 4 then q38 else (bif Nat.beq j 5 then q45 else (bif Nat.beq j 6 then q53 else (bif Nat.beq j 7 then q60 else 0)))))))), rfl, by rw [ht]; exact hP, hD⟩, hS.F ht⟩) hS.2.2 dX6_init_65
