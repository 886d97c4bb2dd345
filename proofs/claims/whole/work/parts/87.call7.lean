theorem P7.weaken {dC : Nat → ClassId} {dI : Nat → Nat → Nat} {cI cZ cO : ClassId} {a0 : Nat} {A B : Nat → Prop} {H : Heap} (h : P7 dC dI cI cZ cO a0 A H) (hAB : ∀ q, A q → B q) : P7 dC dI cI cZ cO a0 B H := by
  obtain ⟨g7, gTe, gTo, gDr, gNo, gTr, gPa, gKe, gAs, gRo, gBy, adPa, adKe, hPa, hKe, oTe, oTo, oNo, hR, hP, hD⟩ := h
  exact ⟨g7, gTe, gTo, gDr, gNo, gTr, gPa, gKe, gAs, gRo, gBy, adPa, adKe, hPa, hKe, oTe, oTo, oNo, hR, hP, hD.weaken (fun _ q _ h => hAB q.1 h)⟩
section K7
variable {dC : Nat → ClassId} {dI : Nat → Nat → Nat} {cB cI cZ cO : ClassId}
variable {p : Program} {l : Launch} {e : Env} {R : Room} {s : State} {m : MethodId} {args : Array Value} {below : List Frame} {meth : Method} {c : Code} {H : Heap} {locs : List Loc} {cells slots : Nat} {Q : State → Prop}
variable {pc : Nat} {ls : Array Slot} {rest st0 : List Value} {A : Nat → Prop} {cc : ByteArray} {ad avv a0 : Nat} {fv : Value} {tx : String}
variable {y : MethodName} {bytes : ByteArray} {maxL nL index : Nat} {wsy : List Cond} {rm : Room} {Ts : List Cond} {own : String}
theorem kcI7 (hx : p.tables.exec = Jvm.exec) (hb : c.code = cc) (hml : c.maxLocals = nL) (hown : s.vm.findClass own = some m.cls) (hts : ∀ w ∈ Ts, w.before args s = true) (hKK : KK dC dI cB cI cZ cO s) (hKS : KS ad avv fv A s s.heap) (hR : vk_R RX7 73 tx ad s) (hP : va_P (dC, dI) vwCl [(a0, .inr (7, [.null, .null, .null, .null, .null, .null, .null, .null, .null, .null, .null]))] H) (hD : va_D A [(a0, .inr (7, [.null, .null, .null, .null, .null, .null, .null, .null, .null, .null, .null]))]) (hS : va_S A s.heap H locs) (hA : ∀ q, s.heap.size ≤ q → A q)
    (hc : Ci7 dC dI cB cI cZ cO l y wsy rm a0 ad avv fv tx)
    (cw : CallB R s args own index y bytes maxL none wsy rm 74 1262 0 ∧ y.name = "<init>" ∧ (Cond.instanceMethod y).before args s = true)
    (hsz : ls.size = nL) (hst : st0 = .ref a0 :: rest) (hrm : (rest.map fun v => v.category).sum ≤ 8) (hdg : decode cc pc = .ok (.invokespecial index, 3)) (hfit : cells + 74 ≤ R.cells ∧ slots + 1262 ≤ R.slots)
    (kk : ∀ (H1 : Heap) (locs1 : List Loc), P7 dC dI cI cZ cO a0 A H1 → va_S A s.heap H1 locs1 → W p l e R s m args below meth c H1 locs1 (cells + 74) (slots + 1262) Q (F0 m (pc + 3) ls rest)) : W p l e R s m args below meth c H locs cells slots Q (F0 m pc ls st0) := by
  have hF := va_free (wc := [(a0, .inr (7, [.null, .null, .null, .null, .null, .null, .null, .null, .null, .null, .null]))]) hD hS hA [0] rfl
  have hstart : ∀ U : State, U.heap = H → s.WarmedH U.vm → Pq7 dC dI cB cI cZ cO a0 ad avv fv tx H.size ([.ref a0] : List Value).toArray U := by
    intro U hU hW
    refine ⟨k_start hKK hP hD [0] rfl rfl U hU hW, ?_, vk_R.warm hW hR⟩
    rw [hU]
    exact ((hKS.kept hS.2.1).moved hW.alike).narrow (fun q h => hF q h)
  have hr := va_runI (e := e) (below := below) (meth := meth) (locs := locs) ⟨hx, hb, hml, hown, hts⟩ (hc H.size) cw ⟨Pq7.blind, hstart⟩ (g := F0 m pc ls st0) (As := []) (rest := rest) rfl rfl hsz hst (lv_room hrm) hdg hfit
  intro T hT X
  obtain ⟨v, st₀, t, T', L, h0, X', hL, e1, e2, ⟨⟨hv, hP7⟩, hz, hk⟩, st⟩ := hr T hT X
  cases hv
  rw [h0] at hz hk
  have hS1 : va_S A s.heap T'.heap (locs ++ L) := ⟨Nat.le_trans hS.1 (by rw [e1]; exact hz), fun q h1 h2 => by rw [e1, hk q (Nat.lt_of_lt_of_le h1 hS.1) (fun z => h2 (hF q z))]; exact hS.2.1 q h1 h2, fun q hq => by
      rcases List.mem_append.mp hq with h | h
      · exact hS.2.2 q h
      · exact hF _ (hL q h)⟩
  have hP8 := hP7.weaken hF
  obtain ⟨t2, a1, b1⟩ := kk T'.heap (locs ++ L) (by rw [e1]; exact hP8) hS1 T' rfl X'
  exact ⟨t2, st t2 a1, b1⟩
end K7
