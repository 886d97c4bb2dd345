abbrev vwCl : List vw_C := [(RX0, TX0, 3), (RX1, TX1, 4), (RX2, TX2, 2), (RX3, TX3, 2), (RX4, TX4, 8), (RX5, TX5, 7), (RX6, TX6, 11), (RX7, TX7, 11), (RX8, TX8, 36)]
/-- an object's numbers, by field: its ints, its arrays -/
abbrev Ob : Type := (Nat → Int32) × (Nat → Nat → Int32)
def stF (o : Ob) (k : Nat) (v : Int32) : Ob := (fun j => bif Nat.beq j k then v else o.1 j, o.2)
def stR (o : Ob) (k : Nat) (f : Nat → Int32) : Ob := (o.1, fun j => bif Nat.beq j k then f else o.2 j)
def b2i (b : Bool) : Int32 := bif b then 1 else 0
theorem b2i_nar (b : Bool) : narrow .boolean (.int (b2i b)) = .int (b2i b) := by cases b <;> rfl
theorem b2i_narz (b : Bool) : vp_nar .boolean (b2i b) = b2i b := by cases b <;> rfl
theorem b2i_eq0 (b : Bool) : (b2i b = 0) = (b = false) := by cases b <;> simp [b2i]
theorem b2i_ne0 (b : Bool) : (¬ b2i b = 0) = (b = true) := by cases b <;> simp [b2i]
/-- a value that is named in what follows -/
def bnd {α β : Type} (x : α) (K : α → β) : β := K x
theorem bnd_e {α β : Type} {x : α} {K : α → β} {r : β} (h : bnd x K = r) : ∃ q, x = q ∧ K q = r := ⟨x, rfl, h⟩
theorem ite_t {α : Type} {c : Prop} [Decidable c] {x y r : α} (hc : c) (h : (if c then x else y) = r) : x = r := by rw [if_pos hc] at h; exact h
theorem ite_f {α : Type} {c : Prop} [Decidable c] {x y r : α} (hc : ¬ c) (h : (if c then x else y) = r) : y = r := by rw [if_neg hc] at h; exact h
theorem ite_n {α : Type} {c : Prop} [Decidable c] {x : Option α} {r : α} (h : (if c then none else x) = some r) : ¬ c ∧ x = some r := by
  by_cases hc : c
  · rw [if_pos hc] at h; cases h
  · rw [if_neg hc] at h; exact ⟨hc, h⟩
theorem obd_e {α β : Type} {x : Option α} {K : α → Option β} {r : β} (h : x.bind K = some r) : ∃ q, x = some q ∧ K q = some r := by
  cases x with
  | none => cases h
  | some q => exact ⟨q, rfl, h⟩
abbrev TY (cB cI cZ cO : ClassId) : List (ClassId × FieldType) := [(cB, .byte), (cI, .int), (cZ, .boolean), (cO, .object "SlideLand$Stand")]
def nwl : List (String × Nat × MethodName) := [(RX2, 19, yX7_setCell), (RX6, 57, yX7_setCell), (RX2, 23, yX7_cell), (RX6, 77, yX7_cell), (RX6, 95, yX7_oneOf), (RX6, 98, yX7_within), (RX5, 39, yX7_copyCells), (RX5, 43, yX7_setCell), (RX5, 50, yX7_cell), (RX5, 68, yX7_meet), (RX5, 92, yX7_shiftBehind), (RX5, 100, yX7_bitOf), (RX5, 116, yX7_oneOf), (RX0, 22, yX7_setCell), (RX0, 26, yX7_cell), (RX0, 44, yX7_meet), (RX4, 83, yX7_setCell), (RX4, 56, yX7_cell), (RX4, 75, yX7_shiftBehind), (RX1, 38, yX7_cell), (RX1, 54, yX7_meet), (RX1, 58, yX7_setCell), (RX6, 101, yX7_landOf), (RX6, 104, yX7_kOf)]
def nws : List Cond := nwl.map (fun q => Cond.methodLinkNest q.1 q.2.1 q.2.2 RX7) ++ [Cond.arrayOver (.object "SlideLand$Stand")]
theorem nws_in (k : Nat) {q : String × Nat × MethodName} (h : nwl[k]? = some q) : Cond.methodLinkNest q.1 q.2.1 q.2.2 RX7 ∈ nws := List.mem_append_left _ (List.mem_map_of_mem (List.mem_of_getElem? h))
def atAll (ws : va_W) : List Nat → va_W → Prop
  | [], [] => True
  | i :: is, q :: qs => ws[i]? = some q ∧ atAll ws is qs
  | _, _ => False
theorem atAll_map {ws : va_W} : ∀ {is : List Nat} {qs : va_W}, atAll ws is qs → is.map (fun i => ws[i]?) = qs.map some
  | [], [], _ => rfl
  | i :: is, q :: qs, h => by rw [List.map_cons, List.map_cons, h.1, atAll_map h.2]
  | [], q :: qs, h => h.elim
  | i :: is, [], h => h.elim
def sameAd : va_W → va_W → Prop
  | [], [] => True
  | p :: ps, q :: qs => p.1 = q.1 ∧ sameAd ps qs
  | _, _ => False
theorem sameAd_map : ∀ {ps qs : va_W}, sameAd ps qs → ps.map Prod.fst = qs.map Prod.fst
  | [], [], _ => rfl
  | p :: ps, q :: qs, h => by rw [List.map_cons, List.map_cons, h.1, sameAd_map h.2]
  | [], q :: qs, h => h.elim
  | p :: ps, [], h => h.elim
def agr : Nat → va_W → va_W → List Nat → Prop
  | _, [], [], _ => True
  | k, p :: ps, q :: qs, is => (p = q ∨ k ∈ is) ∧ agr (k + 1) ps qs is
  | _, _, _, _ => False
theorem agr_refl : ∀ (ws : va_W) (k : Nat) (is : List Nat), agr k ws ws is
  | [], _, _ => trivial
  | _ :: ps, k, is => ⟨Or.inl rfl, agr_refl ps (k + 1) is⟩
theorem agr_at : ∀ {ps qs : va_W} {b : Nat} {is : List Nat}, agr b ps qs is → ∀ (k : Nat) (q : Nat × va_E), qs[k]? = some q → ∃ p, ps[k]? = some p ∧ (p = q ∨ b + k ∈ is)
  | [], [], _, _, _, k, q, h => by simp at h
  | p :: ps, q0 :: qs, b, is, hg, k, q, h => by
    cases k with
    | zero =>
      rw [List.getElem?_cons_zero] at h
      cases h
      exact ⟨p, by rw [List.getElem?_cons_zero], hg.1⟩
    | succ k =>
      rw [List.getElem?_cons_succ] at h
      obtain ⟨p1, h1, h2⟩ := agr_at hg.2 k q h
      exact ⟨p1, by rw [List.getElem?_cons_succ]; exact h1, by rw [show b + (k + 1) = b + 1 + k by omega]; exact h2⟩
  | [], _ :: _, _, _, hg, _, _, _ => hg.elim
  | _ :: _, [], _, _, hg, _, _, _ => hg.elim
section KB
variable {dC : Nat → ClassId} {dI : Nat → Nat → Nat} {cB cI cZ cO : ClassId}
def KK (dC : Nat → ClassId) (dI : Nat → Nat → Nat) (cB cI cZ cO : ClassId) (U : State) : Prop := va_K (dC, dI) vwCl (TY cB cI cZ cO) U ∧ ∀ w ∈ nws, va_Nw w U
theorem KK.warm {s U : State} (hW : s.WarmedH U.vm) (h : KK dC dI cB cI cZ cO s) : KK dC dI cB cI cZ cO U := by
  refine ⟨va_K.moved hW.alike h.1, fun w hw => ?_⟩
  have h2 := h.2 w hw
  rcases List.mem_append.mp hw with hw | hw
  · obtain ⟨q, -, rfl⟩ := List.mem_map.mp hw
    exact va_Nw.warmM hW h2
  · cases List.mem_singleton.mp hw
    exact va_AO.moved (C := "SlideLand$Stand") hW.alike h2
theorem KK.same {s U : State} (hv : s.vm = U.vm) (h : KK dC dI cB cI cZ cO s) : KK dC dI cB cI cZ cO U := by
  refine ⟨va_K.moved (by rw [hv]; exact Vm.Alike.refl U.vm) h.1, fun w hw => ?_⟩
  have h2 := h.2 w hw
  rcases List.mem_append.mp hw with hw | hw
  · obtain ⟨q, -, rfl⟩ := List.mem_map.mp hw
    exact va_Nw.same rfl hv h2
  · cases List.mem_singleton.mp hw
    exact va_AO.moved (C := "SlideLand$Stand") (by rw [hv]; exact Vm.Alike.refl U.vm) h2
/-- a method's start: its arguments, the heap's size, its world -/
def Pq (dC : Nat → ClassId) (dI : Nat → Nat → Nat) (cB cI cZ cO : ClassId) (av : List Value) (sz : Nat) (wc : va_W) : Array Value → State → Prop := va_Pc av (fun U => U.heap.size = sz ∧ va_P (dC, dI) vwCl wc U.heap ∧ KK dC dI cB cI cZ cO U ∧ va_D (fun _ => True) wc)
/-- .. and its end: its answer, its world -/
def Qq (dC : Nat → ClassId) (dI : Nat → Nat → Nat) (rv : Option Value) (wc : va_W) (A : Nat → Prop) : Array Value → State → Outcome → State → Prop := fun _ st oc t => (oc = .returned rv ∧ va_P (dC, dI) vwCl wc t.heap ∧ va_D A wc) ∧ va_F A st t
/-- a method that makes nothing: from the world wc to wc', answering rv -/
def Ct (dC : Nat → ClassId) (dI : Nat → Nat → Nat) (cB cI cZ cO : ClassId) (l : Launch) (y : MethodName) (ws : List Cond) (rm : Room) (av : List Value) (wc : va_W) (rv : Option Value) (wc' : va_W) : Prop :=
  ∀ sz : Nat, Met l y ws rm (Pq dC dI cB cI cZ cO av sz wc) (Qq dC dI rv wc' (va_A wc sz)) 0 0 (va_A wc sz)
theorem Pq.blind {av : List Value} {sz : Nat} {wc : va_W} : FrameBlind (Pq dC dI cB cI cZ cO av sz wc) := fun a U g mk q => by
  obtain ⟨q0, q1, qP, qK, qD⟩ := q
  exact ⟨q0, q1, qP, KK.same (s := U) (U := U.calling g mk a) rfl qK, qD⟩
section KC
variable {p : Program} {l : Launch} {e : Env} {R : Room} {s : State} {m : MethodId} {args : Array Value} {below : List Frame} {meth : Method} {c : Code} {H : Heap} {locs : List Loc} {cells slots : Nat} {Q : State → Prop}
variable {pc : Nat} {ls : Array Slot} {rest st0 : List Value} {a : Array Value} {A : Nat → Prop} {ws wc wc' : va_W} {rv : Option Value} {w2 : va_W}
theorem k_call (hr : va_Run p l e R s m args below meth c H locs cells slots 0 0 (F0 m pc ls st0) rest (Qq dC dI rv wc' (va_A wc H.size) a) (va_A wc H.size)) (hP : va_P (dC, dI) vwCl ws H) (hD : va_D A ws) (hS : va_S A s.heap H locs) (hA : ∀ q, s.heap.size ≤ q → A q)
    (isC : List Nat) (hC : isC.map (fun i => ws[i]?) = wc.map some) (hn : va_nd isC = true) (he : wc'.map Prod.fst = wc.map Prod.fst) (hT : isC.map (fun i => w2[i]?) = wc'.map some) (hU : agr 0 ws w2 isC)
    (kk : ∀ (H1 : Heap) (locs1 : List Loc), va_P (dC, dI) vwCl (w2) H1 → va_D A (w2) → va_S A s.heap H1 locs1 → W p l e R s m args below meth c H1 locs1 cells slots Q (F0 m (pc + 3) ls (rv.toList ++ rest))) : W p l e R s m args below meth c H locs cells slots Q (F0 m pc ls st0) := by
  have hF := va_free (wc := wc) hD hS hA isC hC
  have hlen : isC.length = wc.length := by simpa using congrArg List.length hC
  have hlen' : isC.length = wc'.length := by rw [hlen]; simpa using (congrArg List.length he).symm
  have hat : ∀ (j i : Nat), isC[j]? = some i → ∃ q, wc[j]? = some q ∧ ws[i]? = some q := by
    intro j i hj
    have h1 : (isC.map (fun i => ws[i]?))[j]? = some (ws[i]?) := by rw [List.getElem?_map, hj]; rfl
    rw [hC, List.getElem?_map] at h1
    cases hw : wc[j]? with
    | none => rw [hw] at h1; cases h1
    | some q => rw [hw] at h1; exact ⟨q, rfl, (Option.some.inj h1).symm⟩
  have hlt : ∀ i ∈ isC, i < ws.length := by
    intro i hi
    obtain ⟨j, hj⟩ := List.getElem?_of_mem hi
    obtain ⟨q, -, h2⟩ := hat j i hj
    exact (List.getElem?_eq_some_iff.mp h2).1
  have hat2 : ∀ (j i : Nat), isC[j]? = some i → w2[i]? = wc'[j]? := by
    intro j i hj
    have h1 : (isC.map (fun i => w2[i]?))[j]? = some (w2[i]?) := by rw [List.getElem?_map, hj]; rfl
    rw [hT, List.getElem?_map] at h1
    cases hw : wc'[j]? with
    | none => rw [hw] at h1; cases h1
    | some q => rw [hw] at h1; exact (Option.some.inj h1).symm
  have key : ∀ (k : Nat) (q : Nat × va_E), w2[k]? = some q → (∃ (j : Nat) (q0 : Nat × va_E), wc'[j]? = some q ∧ ws[k]? = some q0 ∧ q0.1 = q.1) ∨ (k ∉ isC ∧ ws[k]? = some q) := by
    intro k q hk
    obtain ⟨p0, g1, g2⟩ := agr_at hU k q hk
    by_cases hm : k ∈ isC
    · obtain ⟨j, hj⟩ := List.getElem?_of_mem hm
      rw [hat2 j k hj] at hk
      obtain ⟨q0, h1, h2⟩ := hat j k hj
      refine Or.inl ⟨j, q0, hk, h2, ?_⟩
      have h3 : (wc'.map Prod.fst)[j]? = (wc.map Prod.fst)[j]? := by rw [he]
      rw [List.getElem?_map, List.getElem?_map, hk, h1] at h3
      exact (Option.some.inj h3).symm
    · rcases g2 with rfl | g2
      · exact Or.inr ⟨hm, g1⟩
      · rw [Nat.zero_add] at g2
        exact absurd g2 hm
  intro T hT X
  obtain ⟨v, st₀, t, T', L, h0, X', hL, e1, e2, ⟨⟨hv, hP1, hD1⟩, hz, hk⟩, st⟩ := hr T hT X
  cases hv
  rw [h0] at hz hk
  have hS1 : va_S A s.heap T'.heap (locs ++ L) := ⟨Nat.le_trans hS.1 (by rw [e1]; exact hz), fun q h1 h2 => by rw [e1, hk q (Nat.lt_of_lt_of_le h1 hS.1) (fun z => h2 (hF q z))]; exact hS.2.1 q h1 h2, fun q hq => by
      rcases List.mem_append.mp hq with h | h
      · exact hS.2.2 q h
      · exact hF _ (hL q h)⟩
  have hP2 : va_P (dC, dI) vwCl (w2) T'.heap := by
    rw [e1]
    intro k q hq
    rcases key k q hq with ⟨j, q0, h1, -, -⟩ | ⟨hm, h1⟩
    · exact hP1 j q h1
    · have h2 := hP k q h1
      refine h2.kept (hk q.1 h2.lt (fun z => ?_))
      rcases z with ⟨j, e, z⟩ | z
      · have hj : j < isC.length := by rw [hlen]; exact (List.getElem?_eq_some_iff.mp z).1
        obtain ⟨q1, h3, h4⟩ := hat j isC[j] (List.getElem?_eq_getElem hj)
        rw [z] at h3
        cases h3
        have := hD.1 k isC[j] q (q.1, e) h1 h4 rfl
        exact hm (by rw [this]; exact List.getElem_mem hj)
      · have := h2.lt
        omega
  have hD2 : va_D A (w2) := by
    have key2 : ∀ (k : Nat) (q : Nat × va_E), (w2)[k]? = some q → ∃ q0, ws[k]? = some q0 ∧ q0.1 = q.1 := by
      intro k q hq
      rcases key k q hq with ⟨j, q0, -, h2, h3⟩ | ⟨-, h1⟩
      · exact ⟨q0, h2, h3⟩
      · exact ⟨q, h1, rfl⟩
    refine ⟨fun i j x y hi hj hxy => ?_, fun k q hq => ?_⟩
    · obtain ⟨x0, h1, h2⟩ := key2 i x hi
      obtain ⟨y0, h3, h4⟩ := key2 j y hj
      exact hD.1 i j x0 y0 h1 h3 (h2.trans (hxy.trans h4.symm))
    · obtain ⟨q0, h1, h2⟩ := key2 k q hq
      rw [← h2]
      exact hD.2 k q0 h1
  obtain ⟨t2, a1, b1⟩ := kk T'.heap (locs ++ L) hP2 hD2 hS1 T' rfl X'
  exact ⟨t2, st t2 a1, b1⟩
variable {y : MethodName} {bytes cc : ByteArray} {maxL nL n index : Nat} {ret : Option FieldType} {wsy : List Cond} {rm : Room} {Ts : List Cond} {own C host : String} {b : Addr} {As : List Value}
theorem k_start (hKK : KK dC dI cB cI cZ cO s) (hP : va_P (dC, dI) vwCl ws H) (hD : va_D A ws) (isC : List Nat) (hC : isC.map (fun i => ws[i]?) = wc.map some) (hn : va_nd isC = true) {av : List Value} : ∀ U : State, U.heap = H → s.WarmedH U.vm → Pq dC dI cB cI cZ cO av H.size wc av.toArray U := by
  intro U hU hW
  have hD1 := hD.sub isC hn hC
  refine ⟨rfl, by rw [hU], ?_, KK.warm hW hKK, hD1.weaken (fun _ _ _ _ => trivial)⟩
  rw [hU]
  intro k q hk
  have h1 : (isC.map (fun i => ws[i]?))[k]? = some (some q) := by rw [hC, List.getElem?_map, hk]; rfl
  rw [List.getElem?_map] at h1
  cases hi : isC[k]? with
  | none => rw [hi] at h1; cases h1
  | some i => rw [hi] at h1; exact hP i q (Option.some.inj h1)
theorem kcV (hx : p.tables.exec = Jvm.exec) (hb : c.code = cc) (hml : c.maxLocals = nL) (hown : s.vm.findClass own = some m.cls) (hts : ∀ w ∈ Ts, w.before args s = true) (hKK : KK dC dI cB cI cZ cO s) (hP : va_P (dC, dI) vwCl ws H) (hD : va_D A ws) (hS : va_S A s.heap H locs) (hA : ∀ q, s.heap.size ≤ q → A q)
    (hc : Ct dC dI cB cI cZ cO l y wsy rm (.ref b :: As) wc rv wc') (isC : List Nat) (hC : isC.map (fun i => ws[i]?) = wc.map some) (hn : va_nd isC = true) (he : wc'.map Prod.fst = wc.map Prod.fst) (hT : isC.map (fun i => w2[i]?) = wc'.map some) (hU : agr 0 ws w2 isC)
    (cw : CallW R s args own C index y bytes maxL ret wsy rm 0 0 n) (hrecv : ∃ cell : Cell, H[b]? = some cell ∧ cell.vm.isStatics = false ∧ s.vm.findClass C = some cell.cls)
    (hnl : As.length = n) (hsz : ls.size = nL) (hst : st0 = As.reverse ++ .ref b :: rest) (hrm : (rest.map fun v => v.category).sum ≤ 8) (hdg : decode cc pc = .ok (.invokevirtual index, 3)) (hfit : cells ≤ R.cells ∧ slots ≤ R.slots)
    (kk : ∀ (H1 : Heap) (locs1 : List Loc), va_P (dC, dI) vwCl (w2) H1 → va_D A (w2) → va_S A s.heap H1 locs1 → W p l e R s m args below meth c H1 locs1 cells slots Q (F0 m (pc + 3) ls (rv.toList ++ rest))) : W p l e R s m args below meth c H locs cells slots Q (F0 m pc ls st0) :=
  k_call (va_runV ⟨hx, hb, hml, hown, hts⟩ (hc H.size) cw ⟨Pq.blind, hrecv, k_start hKK hP hD isC hC hn⟩ rfl hnl hsz hst (lv_room hrm) hdg hfit) hP hD hS hA isC hC hn he hT hU kk
theorem kcS (hx : p.tables.exec = Jvm.exec) (hb : c.code = cc) (hml : c.maxLocals = nL) (hown : s.vm.findClass own = some m.cls) (hts : ∀ w ∈ Ts, w.before args s = true) (hKK : KK dC dI cB cI cZ cO s) (hP : va_P (dC, dI) vwCl ws H) (hD : va_D A ws) (hS : va_S A s.heap H locs) (hA : ∀ q, s.heap.size ≤ q → A q)
    (hc : Ct dC dI cB cI cZ cO l y wsy rm As wc rv wc') (isC : List Nat) (hC : isC.map (fun i => ws[i]?) = wc.map some) (hn : va_nd isC = true) (he : wc'.map Prod.fst = wc.map Prod.fst) (hT : isC.map (fun i => w2[i]?) = wc'.map some) (hU : agr 0 ws w2 isC)
    (cw : CallB R s args own index y bytes maxL ret wsy rm 0 0 n ∧ (Cond.static y).before args s = true)
    (hnl : As.length = n) (hsz : ls.size = nL) (hst : st0 = As.reverse ++ rest) (hrm : (rest.map fun v => v.category).sum ≤ 8) (hdg : decode cc pc = .ok (.invokestatic index, 3)) (hfit : cells ≤ R.cells ∧ slots ≤ R.slots)
    (kk : ∀ (H1 : Heap) (locs1 : List Loc), va_P (dC, dI) vwCl (w2) H1 → va_D A (w2) → va_S A s.heap H1 locs1 → W p l e R s m args below meth c H1 locs1 cells slots Q (F0 m (pc + 3) ls (rv.toList ++ rest))) : W p l e R s m args below meth c H locs cells slots Q (F0 m pc ls st0) :=
  k_call (va_runS ⟨hx, hb, hml, hown, hts⟩ (hc H.size) cw ⟨Pq.blind, k_start hKK hP hD isC hC hn⟩ rfl hnl hsz hst (lv_room hrm) hdg hfit) hP hD hS hA isC hC hn he hT hU kk
theorem kcN (hx : p.tables.exec = Jvm.exec) (hb : c.code = cc) (hml : c.maxLocals = nL) (hown : s.vm.findClass own = some m.cls) (hts : ∀ w ∈ Ts, w.before args s = true) (hKK : KK dC dI cB cI cZ cO s) (hP : va_P (dC, dI) vwCl ws H) (hD : va_D A ws) (hS : va_S A s.heap H locs) (hA : ∀ q, s.heap.size ≤ q → A q)
    (hc : Ct dC dI cB cI cZ cO l y wsy rm As wc rv wc') (isC : List Nat) (hC : isC.map (fun i => ws[i]?) = wc.map some) (hn : va_nd isC = true) (he : wc'.map Prod.fst = wc.map Prod.fst) (hT : isC.map (fun i => w2[i]?) = wc'.map some) (hU : agr 0 ws w2 isC)
    (cw : va_CN R s args own index y host bytes maxL ret wsy rm 0 0 n ∧ (Cond.static y).before args s = true ∧ True)
    (hnl : As.length = n) (hsz : ls.size = nL) (hst : st0 = As.reverse ++ rest) (hrm : (rest.map fun v => v.category).sum ≤ 8) (hdg : decode cc pc = .ok (.invokestatic index, 3)) (hfit : cells ≤ R.cells ∧ slots ≤ R.slots)
    (kk : ∀ (H1 : Heap) (locs1 : List Loc), va_P (dC, dI) vwCl (w2) H1 → va_D A (w2) → va_S A s.heap H1 locs1 → W p l e R s m args below meth c H1 locs1 cells slots Q (F0 m (pc + 3) ls (rv.toList ++ rest))) : W p l e R s m args below meth c H locs cells slots Q (F0 m pc ls st0) :=
  k_call (va_runSN ⟨hx, hb, hml, hown, hts⟩ (hc H.size) cw ⟨Pq.blind, k_start hKK hP hD isC hC hn⟩ rfl hnl hsz hst (lv_room hrm) hdg hfit) hP hD hS hA isC hC hn he hT hU kk
theorem k_iast {tys : List (ClassId × FieldType)} {D : va_G} {cl : List vw_C} {ad : Nat} {H0 : Heap} (hexec : p.tables.exec = Jvm.exec) (hb : c.code = cc) (hK : va_K D cl tys s) (hP : va_P D cl ws H) (hD : va_D A ws) (hS : va_S A H0 H locs) (q0 t0 : Nat) {cA : ClassId} {n : Nat} {f u : Nat → Int32} {i x : Int32} (hu : upd f i.toNatClampNeg x = u) (ha : ws[q0]? = some (ad, .inl (cA, n, .inl f))) (ht : tys[t0]? = some (cA, .int)) (hin : vp_in i n) (hdg : decode cc pc = .ok (.iastore, 1))
    (kk : ∀ (H1 : Heap) (locs1 : List Loc), va_P D cl (ws.set q0 (ad, .inl (cA, n, .inl u))) H1 → va_D A (ws.set q0 (ad, .inl (cA, n, .inl u))) → va_S A H0 H1 locs1 → W p l e R s m args below meth c H1 locs1 cells slots Q (F0 m (pc + 1) ls rest)) : W p l e R s m args below meth c H locs cells slots Q (F0 m pc ls (.int x :: .int i :: .ref ad :: rest)) := by
  subst hu
  exact va_iast hexec hb hK hP hD hS q0 t0 ha ht hin hdg kk
theorem k_bast {tys : List (ClassId × FieldType)} {D : va_G} {cl : List vw_C} {ad : Nat} {H0 : Heap} (hexec : p.tables.exec = Jvm.exec) (hb : c.code = cc) (hK : va_K D cl tys s) (hP : va_P D cl ws H) (hD : va_D A ws) (hS : va_S A H0 H locs) (q0 t0 : Nat) {cA : ClassId} {n : Nat} {f u : Nat → Int32} {i x : Int32} (hu : upd f i.toNatClampNeg (vp_nar .byte x) = u) (ha : ws[q0]? = some (ad, .inl (cA, n, .inl f))) (ht : tys[t0]? = some (cA, .byte)) (hin : vp_in i n) (hdg : decode cc pc = .ok (.bastore, 1))
    (kk : ∀ (H1 : Heap) (locs1 : List Loc), va_P D cl (ws.set q0 (ad, .inl (cA, n, .inl u))) H1 → va_D A (ws.set q0 (ad, .inl (cA, n, .inl u))) → va_S A H0 H1 locs1 → W p l e R s m args below meth c H1 locs1 cells slots Q (F0 m (pc + 1) ls rest)) : W p l e R s m args below meth c H locs cells slots Q (F0 m pc ls (.int x :: .int i :: .ref ad :: rest)) := by
  subst hu
  exact va_bast hexec hb hK hP hD hS q0 t0 ha ht hin hdg kk
theorem k_zast {tys : List (ClassId × FieldType)} {D : va_G} {cl : List vw_C} {ad : Nat} {H0 : Heap} (hexec : p.tables.exec = Jvm.exec) (hb : c.code = cc) (hK : va_K D cl tys s) (hP : va_P D cl ws H) (hD : va_D A ws) (hS : va_S A H0 H locs) (q0 t0 : Nat) {cA : ClassId} {n : Nat} {f u : Nat → Int32} {i x : Int32} (hu : upd f i.toNatClampNeg (vp_nar .boolean x) = u) (ha : ws[q0]? = some (ad, .inl (cA, n, .inl f))) (ht : tys[t0]? = some (cA, .boolean)) (hin : vp_in i n) (hdg : decode cc pc = .ok (.bastore, 1))
    (kk : ∀ (H1 : Heap) (locs1 : List Loc), va_P D cl (ws.set q0 (ad, .inl (cA, n, .inl u))) H1 → va_D A (ws.set q0 (ad, .inl (cA, n, .inl u))) → va_S A H0 H1 locs1 → W p l e R s m args below meth c H1 locs1 cells slots Q (F0 m (pc + 1) ls rest)) : W p l e R s m args below meth c H locs cells slots Q (F0 m pc ls (.int x :: .int i :: .ref ad :: rest)) := by
  subst hu
  exact va_zast hexec hb hK hP hD hS q0 t0 ha ht hin hdg kk
/-- a named number on the stack -/
theorem lv_topE {x q : Int32} (h : x = q) (k : W p l e R s m args below meth c H locs cells slots Q (F0 m pc ls (.int q :: rest))) : W p l e R s m args below meth c H locs cells slots Q (F0 m pc ls (.int x :: rest)) := h ▸ k
theorem lv_topEl {x q : Int64} (h : x = q) (k : W p l e R s m args below meth c H locs cells slots Q (F0 m pc ls (.long q :: rest))) : W p l e R s m args below meth c H locs cells slots Q (F0 m pc ls (.long x :: rest)) := h ▸ k
end KC
end KB

theorem KK.over {dC : Nat → ClassId} {dI : Nat → Nat → Nat} {cB cI cZ cO : ClassId} {U : State} (h : KK dC dI cB cI cZ cO U) : va_AO "SlideLand$Stand" U := h.2 _ (List.mem_append_right _ List.mem_cons_self)
abbrev cX0 (a : Nat) (g : Nat → Nat) (o : Ob) : Nat × va_E := (a, .inr (0, [.ref (g 0), .ref (g 1), .int (o.1 2)]))
abbrev cX0_0 (cI : ClassId) (g : Nat → Nat) (o : Ob) : Nat × va_E := (g 0, .inl (cI, 6, .inl (o.2 0)))
abbrev cX0_1 (cI : ClassId) (g : Nat → Nat) (o : Ob) : Nat × va_E := (g 1, .inl (cI, 6, .inl (o.2 1)))
abbrev cX1 (a : Nat) (g : Nat → Nat) (o : Ob) : Nat × va_E := (a, .inr (1, [.ref (g 0), .int (o.1 1), .int (o.1 2), .ref (g 3)]))
abbrev cX1_0 (cZ : ClassId) (g : Nat → Nat) (o : Ob) : Nat × va_E := (g 0, .inl (cZ, 81, .inl (o.2 0)))
abbrev cX1_3 (cI : ClassId) (g : Nat → Nat) (o : Ob) : Nat × va_E := (g 3, .inl (cI, 81, .inl (o.2 3)))
abbrev cX2 (a : Nat) (g : Nat → Nat) (o : Ob) : Nat × va_E := (a, .inr (2, [.ref (g 0), .int (o.1 1)]))
abbrev cX2_0 (cI : ClassId) (g : Nat → Nat) (o : Ob) : Nat × va_E := (g 0, .inl (cI, 200, .inl (o.2 0)))
abbrev cX3 (a : Nat) (g : Nat → Nat) (o : Ob) : Nat × va_E := (a, .inr (3, [.ref (g 0), .int (o.1 1)]))
abbrev cX4 (a : Nat) (g : Nat → Nat) (o : Ob) : Nat × va_E := (a, .inr (4, [.ref (g 0), .ref (g 1), .ref (g 2), .ref (g 3), .ref (g 4), .int (o.1 5), .ref (g 6), .int (o.1 7)]))
abbrev cX4_0 (cI : ClassId) (g : Nat → Nat) (o : Ob) : Nat × va_E := (g 0, .inl (cI, 81, .inl (o.2 0)))
abbrev cX4_1 (cI : ClassId) (g : Nat → Nat) (o : Ob) : Nat × va_E := (g 1, .inl (cI, 81, .inl (o.2 1)))
abbrev cX4_2 (cI : ClassId) (g : Nat → Nat) (o : Ob) : Nat × va_E := (g 2, .inl (cI, 81, .inl (o.2 2)))
abbrev cX4_3 (cI : ClassId) (g : Nat → Nat) (o : Ob) : Nat × va_E := (g 3, .inl (cI, 81, .inl (o.2 3)))
abbrev cX4_4 (cZ : ClassId) (g : Nat → Nat) (o : Ob) : Nat × va_E := (g 4, .inl (cZ, 81, .inl (o.2 4)))
abbrev cX4_6 (cI : ClassId) (g : Nat → Nat) (o : Ob) : Nat × va_E := (g 6, .inl (cI, 9, .inl (o.2 6)))
abbrev cX5 (a : Nat) (g : Nat → Nat) (o : Ob) : Nat × va_E := (a, .inr (5, [.int (o.1 0), .int (o.1 1), .int (o.1 2), .int (o.1 3), .int (o.1 4), .ref (g 5), .ref (g 6)]))
abbrev cX5_5 (cI : ClassId) (g : Nat → Nat) (o : Ob) : Nat × va_E := (g 5, .inl (cI, 7, .inl (o.2 5)))
abbrev cX5_6 (cI : ClassId) (g : Nat → Nat) (o : Ob) : Nat × va_E := (g 6, .inl (cI, 12, .inl (o.2 6)))
abbrev cX6 (a : Nat) (g : Nat → Nat) (o : Ob) : Nat × va_E := (a, .inr (6, [.ref (g 0), .ref (g 1), .ref (g 2), .ref (g 3), .ref (g 4), .ref (g 5), .ref (g 6), .ref (g 7), .int (o.1 8), .int (o.1 9), .int (o.1 10)]))
abbrev cX6_0 (cI : ClassId) (g : Nat → Nat) (o : Ob) : Nat × va_E := (g 0, .inl (cI, 12, .inl (o.2 0)))
abbrev cX6_1 (cI : ClassId) (g : Nat → Nat) (o : Ob) : Nat × va_E := (g 1, .inl (cI, 2, .inl (o.2 1)))
abbrev cX6_2 (cI : ClassId) (g : Nat → Nat) (o : Ob) : Nat × va_E := (g 2, .inl (cI, 7, .inl (o.2 2)))
abbrev cX6_3 (cI : ClassId) (g : Nat → Nat) (o : Ob) : Nat × va_E := (g 3, .inl (cI, 7, .inl (o.2 3)))
abbrev cX6_4 (cI : ClassId) (g : Nat → Nat) (o : Ob) : Nat × va_E := (g 4, .inl (cI, 7, .inl (o.2 4)))
abbrev cX6_5 (cI : ClassId) (g : Nat → Nat) (o : Ob) : Nat × va_E := (g 5, .inl (cI, 4, .inl (o.2 5)))
abbrev cX6_6 (cI : ClassId) (g : Nat → Nat) (o : Ob) : Nat × va_E := (g 6, .inl (cI, 8, .inl (o.2 6)))
abbrev cX6_7 (cI : ClassId) (g : Nat → Nat) (o : Ob) : Nat × va_E := (g 7, .inl (cI, 3, .inl (o.2 7)))
abbrev cX7 (a : Nat) (g : Nat → Nat) (o : Ob) : Nat × va_E := (a, .inr (7, [.ref (g 0), .ref (g 1), .ref (g 2), .ref (g 3), .ref (g 4), .ref (g 5), .ref (g 6), .ref (g 7), .ref (g 8), .ref (g 9), .ref (g 10)]))
abbrev cX7_10 (cI : ClassId) (g : Nat → Nat) (o : Ob) : Nat × va_E := (g 10, .inl (cI, 9, .inl (o.2 10)))
abbrev cX8 (a : Nat) (g : Nat → Nat) (o : Ob) : Nat × va_E := (a, .inr (8, [.ref (g 0), .ref (g 1), .int (o.1 2), .ref (g 3), .ref (g 4), .int (o.1 5), .ref (g 6), .int (o.1 7), .ref (g 8), .ref (g 9), .ref (g 10), .int (o.1 11), .ref (g 12), .ref (g 13), .int (o.1 14), .ref (g 15), .int (o.1 16), .ref (g 17), .ref (g 18), .int (o.1 19), .int (o.1 20), .int (o.1 21), .ref (g 22), .int (o.1 23), .int (o.1 24), .int (o.1 25), .int (o.1 26), .ref (g 27), .ref (g 28), .ref (g 29), .ref (g 30), .ref (g 31), .ref (g 32), .ref (g 33), .int (o.1 34), .int (o.1 35)]))
abbrev cX8_0 (cI : ClassId) (g : Nat → Nat) (o : Ob) : Nat × va_E := (g 0, .inl (cI, 2, .inl (o.2 0)))
abbrev cX8_1 (cI : ClassId) (g : Nat → Nat) (o : Ob) : Nat × va_E := (g 1, .inl (cI, 12, .inl (o.2 1)))
abbrev cX8_3 (cI : ClassId) (g : Nat → Nat) (o : Ob) : Nat × va_E := (g 3, .inl (cI, 7, .inl (o.2 3)))
abbrev cX8_4 (cI : ClassId) (g : Nat → Nat) (o : Ob) : Nat × va_E := (g 4, .inl (cI, 7, .inl (o.2 4)))
abbrev cX8_6 (cI : ClassId) (g : Nat → Nat) (o : Ob) : Nat × va_E := (g 6, .inl (cI, 4, .inl (o.2 6)))
abbrev cX8_8 (cI : ClassId) (g : Nat → Nat) (o : Ob) : Nat × va_E := (g 8, .inl (cI, 8, .inl (o.2 8)))
abbrev cX8_9 (cI : ClassId) (g : Nat → Nat) (o : Ob) : Nat × va_E := (g 9, .inl (cI, 2, .inl (o.2 9)))
abbrev cX8_10 (cI : ClassId) (g : Nat → Nat) (o : Ob) : Nat × va_E := (g 10, .inl (cI, 12, .inl (o.2 10)))
abbrev cX8_12 (cI : ClassId) (g : Nat → Nat) (o : Ob) : Nat × va_E := (g 12, .inl (cI, 7, .inl (o.2 12)))
abbrev cX8_13 (cI : ClassId) (g : Nat → Nat) (o : Ob) : Nat × va_E := (g 13, .inl (cI, 7, .inl (o.2 13)))
abbrev cX8_15 (cI : ClassId) (g : Nat → Nat) (o : Ob) : Nat × va_E := (g 15, .inl (cI, 4, .inl (o.2 15)))
abbrev cX8_17 (cI : ClassId) (g : Nat → Nat) (o : Ob) : Nat × va_E := (g 17, .inl (cI, 8, .inl (o.2 17)))
abbrev cX8_18 (cI : ClassId) (g : Nat → Nat) (o : Ob) : Nat × va_E := (g 18, .inl (cI, 312, .inl (o.2 18)))
abbrev cX8_22 (cB : ClassId) (g : Nat → Nat) (o : Ob) : Nat × va_E := (g 22, .inl (cB, 200, .inl (o.2 22)))
abbrev cX8_27 (cI : ClassId) (g : Nat → Nat) (o : Ob) : Nat × va_E := (g 27, .inl (cI, 6, .inl (o.2 27)))
abbrev cX8_28 (cI : ClassId) (g : Nat → Nat) (o : Ob) : Nat × va_E := (g 28, .inl (cI, 6, .inl (o.2 28)))
abbrev cX8_29 (cI : ClassId) (g : Nat → Nat) (o : Ob) : Nat × va_E := (g 29, .inl (cI, 6, .inl (o.2 29)))
abbrev cX8_30 (cI : ClassId) (g : Nat → Nat) (o : Ob) : Nat × va_E := (g 30, .inl (cI, 6561, .inl (o.2 30)))
abbrev cX8_31 (cI : ClassId) (g : Nat → Nat) (o : Ob) : Nat × va_E := (g 31, .inl (cI, 6561, .inl (o.2 31)))
abbrev cX8_32 (cI : ClassId) (g : Nat → Nat) (o : Ob) : Nat × va_E := (g 32, .inl (cI, 6561, .inl (o.2 32)))
abbrev cX8_33 (cI : ClassId) (g : Nat → Nat) (o : Ob) : Nat × va_E := (g 33, .inl (cI, 6561, .inl (o.2 33)))
