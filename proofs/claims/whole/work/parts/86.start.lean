def TXT : String := "u3;u12;u20;u33;u47;l0;l9;l21;l40;l55;s0,5,10;s1,11,4;s2,18,7;s3,30,12;s0,41,3;p1;p7;d0;d0;d1;d2;"
theorem kk_byte {args : Array Value} {s : State} (h : (Cond.arrayClass .byte).before args s = true) : ∃ cA : ClassId, ArrOfT s cA .byte ∧ va_RA s cA .byte := by
  obtain ⟨cA, kA, comp, h1, h2, h3⟩ := Cond.arrayClass_spec h
  exact ⟨cA, fun n z => ⟨fun k h => (by cases h), kA, h2, comp, h3⟩, h1⟩
theorem kk_int {args : Array Value} {s : State} (h : (Cond.arrayClass .int).before args s = true) : ∃ cA : ClassId, ArrOfT s cA .int ∧ va_RA s cA .int := by
  obtain ⟨cA, kA, comp, h1, h2, h3⟩ := Cond.arrayClass_spec h
  exact ⟨cA, fun n z => ⟨fun k h => (by cases h), kA, h2, comp, h3⟩, h1⟩
theorem kk_bool {args : Array Value} {s : State} (h : (Cond.arrayClass .boolean).before args s = true) : ∃ cA : ClassId, ArrOfT s cA .boolean ∧ va_RA s cA .boolean := by
  obtain ⟨cA, kA, comp, h1, h2, h3⟩ := Cond.arrayClass_spec h
  exact ⟨cA, fun n z => ⟨fun k h => (by cases h), kA, h2, comp, h3⟩, h1⟩
theorem kk_over {args : Array Value} {s : State} (h : (Cond.arrayOver (.object "SlideLand$Stand")).before args s = true) : ∃ cA : ClassId, ArrOfT s cA (.object "SlideLand$Stand") ∧ va_RA s cA (.object "SlideLand$Stand") := by
  obtain ⟨comp, cA, kA, f4, -, f2, f3, f1⟩ := Cond.arrayOver_spec h
  exact ⟨cA, fun n z => ⟨fun k h => (by cases h), kA, f2, comp, f3⟩, kA, comp, f2, f3, f4, f1⟩
theorem nws_tbl : ∀ w ∈ nws, w ∈ tables_1 := by decide +kernel
theorem nws_on : ∀ w ∈ nwl.map (fun q => Cond.methodLinkNest q.1 q.2.1 q.2.2 RX7), w.onTables = true := by decide +kernel
theorem law_KK {args : Array Value} {s : State} (hts : ∀ w ∈ lw_tbl, w.before args s = true) : ∃ (dC : Nat → ClassId) (dI : Nat → Nat → Nat) (cB cI cZ cO : ClassId), KK dC dI cB cI cZ cO s := by
  obtain ⟨c0, i0, h0⟩ := u_known (C := RX0) (T := TX0) (N := 3) (n := 3) hts inX0 (hts (.instantiable RX0 3) (List.mem_append_right _ (List.mem_of_getElem? (i := 155) (by decide +kernel))))
  obtain ⟨c1, i1, h1⟩ := u_known (C := RX1) (T := TX1) (N := 4) (n := 4) hts inX1 (hts (.instantiable RX1 4) (List.mem_append_right _ (List.mem_of_getElem? (i := 209) (by decide +kernel))))
  obtain ⟨c2, i2, h2⟩ := u_known (C := RX2) (T := TX2) (N := 2) (n := 2) hts inX2 (hts (.instantiable RX2 2) (List.mem_append_right _ (List.mem_of_getElem? (i := 25) (by decide +kernel))))
  obtain ⟨c3, i3, h3⟩ := u_known (C := RX3) (T := TX3) (N := 2) (n := 2) hts inX3 (hts (.instantiable RX3 2) (List.mem_append_right _ (List.mem_of_getElem? (i := 138) (by decide +kernel))))
  obtain ⟨c4, i4, h4⟩ := u_known (C := RX4) (T := TX4) (N := 8) (n := 8) hts inX4 (hts (.instantiable RX4 8) (List.mem_append_right _ (List.mem_of_getElem? (i := 175) (by decide +kernel))))
  obtain ⟨c5, i5, h5⟩ := u_known (C := RX5) (T := TX5) (N := 7) (n := 7) hts inX5 (hts (.instantiable RX5 7) (List.mem_append_right _ (List.mem_of_getElem? (i := 101) (by decide +kernel))))
  obtain ⟨c6, i6, h6⟩ := u_known (C := RX6) (T := TX6) (N := 11) (n := 11) hts inX6 (hts (.instantiable RX6 11) (List.mem_append_right _ (List.mem_of_getElem? (i := 41) (by decide +kernel))))
  obtain ⟨c7, i7, h7⟩ := u_known (C := RX7) (T := TX7) (N := 11) (n := 11) hts inX7 (hts (.instantiable RX7 11) (List.mem_append_right _ (List.mem_of_getElem? (i := 17) (by decide +kernel))))
  obtain ⟨c8, i8, h8⟩ := u_known (C := RX8) (T := TX8) (N := 36) (n := 36) hts inX8 (hts (.instantiable RX8 36) (List.mem_append_right _ (List.mem_of_getElem? (i := 726) (by decide +kernel))))
  obtain ⟨cB, hB⟩ := kk_byte (hts (.arrayClass .byte) (List.mem_append_right _ (List.mem_of_getElem? (i := 388) (by decide +kernel))))
  obtain ⟨cI, hI⟩ := kk_int (hts (.arrayClass .int) (List.mem_append_right _ (List.mem_of_getElem? (i := 39) (by decide +kernel))))
  obtain ⟨cZ, hZ⟩ := kk_bool (hts (.arrayClass .boolean) (List.mem_append_right _ (List.mem_of_getElem? (i := 207) (by decide +kernel))))
  obtain ⟨cO, hO⟩ := kk_over (hts (.arrayOver (.object "SlideLand$Stand")) (List.mem_append_right _ (List.mem_of_getElem? (i := 144) (by decide +kernel))))
  refine ⟨fun k => bif Nat.beq k 0 then c0 else bif Nat.beq k 1 then c1 else bif Nat.beq k 2 then c2 else bif Nat.beq k 3 then c3 else bif Nat.beq k 4 then c4 else bif Nat.beq k 5 then c5 else bif Nat.beq k 6 then c6 else bif Nat.beq k 7 then c7 else c8, fun k => bif Nat.beq k 0 then i0 else bif Nat.beq k 1 then i1 else bif Nat.beq k 2 then i2 else bif Nat.beq k 3 then i3 else bif Nat.beq k 4 then i4 else bif Nat.beq k 5 then i5 else bif Nat.beq k 6 then i6 else bif Nat.beq k 7 then i7 else i8, cB, cI, cZ, cO, ⟨fun k q hq => ?_, fun k q hq => ?_⟩, fun w hw => ?_⟩
  · match k, hq with
    | 0, hq => cases hq; exact h0
    | 1, hq => cases hq; exact h1
    | 2, hq => cases hq; exact h2
    | 3, hq => cases hq; exact h3
    | 4, hq => cases hq; exact h4
    | 5, hq => cases hq; exact h5
    | 6, hq => cases hq; exact h6
    | 7, hq => cases hq; exact h7
    | 8, hq => cases hq; exact h8
    | k + 9, hq => simp at hq
  · match k, hq with
    | 0, hq => cases hq; exact hB
    | 1, hq => cases hq; exact hI
    | 2, hq => cases hq; exact hZ
    | 3, hq => cases hq; exact hO
    | k + 4, hq => simp at hq
  · rcases List.mem_append.mp hw with h | h
    · exact va_Nw.of (nws_on w h) (hts w (List.mem_append_right _ (nws_tbl w hw)))
    · cases List.mem_singleton.mp h
      exact va_AO.of (C := "SlideLand$Stand") (A := args) (hts _ (List.mem_append_right _ (nws_tbl _ hw)))
theorem law_KS {b : Nat} {s : State} (hts : ∀ w ∈ lw_tbl, w.before #[Value.ref b] s = true) (hgv : (Jvm.Cond.and given_1 narrow_1).before #[Value.ref b] s = true) : ∃ (ad avv : Nat) (fv : Value), (fv = .null ∨ ∃ t, fv = .ref t) ∧ KS ad avv fv (fun q : Nat => s.heap.size ≤ q) s s.heap ∧ vk_R RX7 73 TXT ad s := by
  have hs := flat_of_before _ hgv
  have hA : ∀ a : Nat, a < s.heap.size → ¬ (fun q : Nat => s.heap.size ≤ q) a := fun a h => Nat.not_le.mpr h
  have hcs : va_Z "java/lang/String" "COMPACT_STRINGS" "Z" (.int 1) (fun q : Nat => s.heap.size ≤ q) s s.heap := va_Zof (hts (.laysStatic "java/lang/String" "COMPACT_STRINGS" "Z") (List.mem_append_right _ (List.mem_of_getElem? (i := 240) (by decide +kernel)))) (hts (.initialized "java/lang/String") (List.mem_append_right _ (List.mem_of_getElem? (i := 9) (by decide +kernel)))) (va_eqi (hs (.eq (.static "java/lang/String" "COMPACT_STRINGS" "Z") (.int 1)) (by decide +kernel))) hA
  have hfz : va_Zq "jdk/internal/util/Preconditions" "SIOOBE_FORMATTER" "Ljava/util/function/BiFunction;" (fun q : Nat => s.heap.size ≤ q) s s.heap := va_Zqof (hts (.laysStatic "jdk/internal/util/Preconditions" "SIOOBE_FORMATTER" "Ljava/util/function/BiFunction;") (List.mem_append_right _ (List.mem_of_getElem? (i := 256) (by decide +kernel)))) (hts (.initialized "jdk/internal/util/Preconditions") (List.mem_append_right _ (List.mem_of_getElem? (i := 11) (by decide +kernel)))) (hs (.isRef (.static "jdk/internal/util/Preconditions" "SIOOBE_FORMATTER" "Ljava/util/function/BiFunction;")) (by decide +kernel)) hA
  have hel : ∀ j : Nat, j < 96 → (Cond.eq (.elem (.field (.string "SlideLand" 73) "java/lang/String" "value" "[B") (.int (Int32.ofNat j))) (.int ((CHL.map nI).getD j 0))).before #[Value.ref b] s = true := fun j hj => hs _ (va_run (N := 96) (p := 13) (f := fun j => Cond.eq (.elem (.field (.string "SlideLand" 73) "java/lang/String" "value" "[B") (.int (Int32.ofNat j))) (.int ((CHL.map nI).getD j 0))) (by decide +kernel) j hj)
  obtain ⟨adK, adV, hS1, hE⟩ := vk_Sof (args := #[Value.ref b]) (s := s) (N := 1) (tm := fun _ => .string "SlideLand" 73) (len := [96]) (byt := [CHL.map nI]) (A := fun q : Nat => s.heap.size ≤ q) (fun i hi => by have h0 : i = 0 := (by omega); subst h0; decide) (fun i hi => hs _ (by decide +kernel)) (fun i hi => hs _ (by decide +kernel)) (fun i hi => hs _ (by decide +kernel)) (fun i hi => by have h0 : i = 0 := (by omega); subst h0; exact hs _ (by decide +kernel)) (fun i hi j hj => by have h0 : i = 0 := (by omega); subst h0; exact hel j hj) (fun i j hi hj h => absurd (show i = j by omega) h) hA
  have hK : vk_S 1 [96] [CHL.map nI] (fun _ => adK 0) (fun _ => adV 0) (fun q : Nat => s.heap.size ≤ q) s s.heap := ⟨fun i hi => by have h0 : i = 0 := (by omega); subst h0; exact hS1.1 0 hi, fun i j hi hj _ => by omega⟩
  have hR : vk_R RX7 73 TXT (adK 0) s := vk_R.of (A := #[Value.ref b]) (hts (.stringRef RX7 73 TXT) (List.mem_append_right _ (List.mem_of_getElem? (i := 230) (by decide +kernel)))) (hE 0 (by omega))
  rcases hfz with h | ⟨t, h⟩
  · exact ⟨adK 0, adV 0, .null, Or.inl rfl, ⟨hK, hcs, h⟩, hR⟩
  · exact ⟨adK 0, adV 0, .ref t, Or.inr ⟨t, rfl⟩, ⟨hK, hcs, h⟩, hR⟩
