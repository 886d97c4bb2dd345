/-- a pile's state: its object, which room stands at which place, the rooms -/
abbrev PS : Type := Ob × (Nat → Nat) × (Nat → Ob)
abbrev pOK (cap : Nat) (q : PS) : Prop := (∀ j, j < cap → q.2.1 j < cap) ∧ ¬ (q.1.1 1 < 0) ∧ (q.1.1 1).toNatClampNeg ≤ cap
def f_X3_put (cap : Nat) (rot : (Nat → Nat) → Nat → Nat) (q : PS) (o : Ob) : Option PS :=
  if pOK cap q then
    (if (q.1.1 1).toNatClampNeg < cap then (f_X5_copy (q.2.2 (q.2.1 (q.1.1 1).toNatClampNeg)) o).bind fun z => some (stF q.1 1 (nI ((q.1.1 1).toNatClampNeg + 1)), q.2.1, stU q.2.2 (q.2.1 (q.1.1 1).toNatClampNeg) z)
    else (f_X5_copy (q.2.2 (rot q.2.1 (cap - 1))) o).bind fun z => some (stF q.1 1 (nI (cap - 1 + 1)), rot q.2.1, stU q.2.2 (rot q.2.1 (cap - 1)) z))
  else none
def f_X3_take (cap : Nat) (q : PS) (o : Ob) : Option (Bool × PS × Ob) :=
  if pOK cap q then
    (if (q.1.1 1).toNatClampNeg = 0 then some (false, q, o)
    else (f_X5_copy o (q.2.2 (q.2.1 ((q.1.1 1).toNatClampNeg - 1)))).bind fun z => some (true, (stF q.1 1 (nI ((q.1.1 1).toNatClampNeg - 1)), q.2), z))
  else none
theorem nI_self {x : Int32} (h : ¬ x < 0) : x = nI x.toNatClampNeg := by
  obtain ⟨j, hj, rfl⟩ := nI_of h
  rw [nI_clamp hj]
def gU (g : Nat → Nat) (k v : Nat) : Nat → Nat := fun j => bif Nat.beq j k then v else g j
set_option maxHeartbeats 4000000 in
theorem cs_X3_put_8 (l : Launch) (dC : Nat → ClassId) (dI : Nat → Nat → Nat) (cB cI cZ cO : ClassId) (a0 : Nat) (g0 : Nat → Nat) (ad : Nat → Nat) (h : Nat → Nat → Nat) (p : PS) (a1 : Nat) (g1 : Nat → Nat) (o1 : Ob) {r : PS} (hf : f_X3_put 8 rot8 p o1 = some r) : Ct dC dI cB cI cZ cO l yX3_put wsX3_put rmX3_put [.ref a0, .ref a1] [cX5 a1 g1 o1, cX5_5 cI g1 o1, cX5_6 cI g1 o1, cX3 a0 g0 p.1, cPa cO g0 8 ad p.2.1, cX5 (ad 0) (h 0) (p.2.2 0), cX5_5 cI (h 0) (p.2.2 0), cX5_6 cI (h 0) (p.2.2 0), cX5 (ad 1) (h 1) (p.2.2 1), cX5_5 cI (h 1) (p.2.2 1), cX5_6 cI (h 1) (p.2.2 1), cX5 (ad 2) (h 2) (p.2.2 2), cX5_5 cI (h 2) (p.2.2 2), cX5_6 cI (h 2) (p.2.2 2), cX5 (ad 3) (h 3) (p.2.2 3), cX5_5 cI (h 3) (p.2.2 3), cX5_6 cI (h 3) (p.2.2 3), cX5 (ad 4) (h 4) (p.2.2 4), cX5_5 cI (h 4) (p.2.2 4), cX5_6 cI (h 4) (p.2.2 4), cX5 (ad 5) (h 5) (p.2.2 5), cX5_5 cI (h 5) (p.2.2 5), cX5_6 cI (h 5) (p.2.2 5), cX5 (ad 6) (h 6) (p.2.2 6), cX5_5 cI (h 6) (p.2.2 6), cX5_6 cI (h 6) (p.2.2 6), cX5 (ad 7) (h 7) (p.2.2 7), cX5_5 cI (h 7) (p.2.2 7), cX5_6 cI (h 7) (p.2.2 7)] none [cX5 a1 g1 o1, cX5_5 cI g1 o1, cX5_6 cI g1 o1, cX3 a0 g0 r.1, cPa cO g0 8 ad r.2.1, cX5 (ad 0) (h 0) (r.2.2 0), cX5_5 cI (h 0) (r.2.2 0), cX5_6 cI (h 0) (r.2.2 0), cX5 (ad 1) (h 1) (r.2.2 1), cX5_5 cI (h 1) (r.2.2 1), cX5_6 cI (h 1) (r.2.2 1), cX5 (ad 2) (h 2) (r.2.2 2), cX5_5 cI (h 2) (r.2.2 2), cX5_6 cI (h 2) (r.2.2 2), cX5 (ad 3) (h 3) (r.2.2 3), cX5_5 cI (h 3) (r.2.2 3), cX5_6 cI (h 3) (r.2.2 3), cX5 (ad 4) (h 4) (r.2.2 4), cX5_5 cI (h 4) (r.2.2 4), cX5_6 cI (h 4) (r.2.2 4), cX5 (ad 5) (h 5) (r.2.2 5), cX5_5 cI (h 5) (r.2.2 5), cX5_6 cI (h 5) (r.2.2 5), cX5 (ad 6) (h 6) (r.2.2 6), cX5_5 cI (h 6) (r.2.2 6), cX5_6 cI (h 6) (r.2.2 6), cX5 (ad 7) (h 7) (r.2.2 7), cX5_5 cI (h 7) (r.2.2 7), cX5_6 cI (h 7) (r.2.2 7)] := by
  unfold f_X3_put at hf
  by_cases hk : pOK 8 p
  · rw [if_pos hk] at hf
    obtain ⟨h1, h2, h3⟩ := hk
    have hz := nI_self h2
    by_cases hn : (p.1.1 1).toNatClampNeg < 8
    · rw [if_pos hn] at hf
      obtain ⟨z, hz1, hz2⟩ := obd_e hf
      have hr := Option.some.inj hz2
      subst hr
      exact c_X3_put_8 l dC dI cB cI cZ cO a0 g0 p.1 ad p.2.1 h p.2.2 a1 g1 o1 _ _ _ h1 hz (Or.inl ⟨hn, rfl, rfl⟩) hz1
    · rw [if_neg hn] at hf
      obtain ⟨z, hz1, hz2⟩ := obd_e hf
      have hr := Option.some.inj hz2
      subst hr
      exact c_X3_put_8 l dC dI cB cI cZ cO a0 g0 p.1 ad p.2.1 h p.2.2 a1 g1 o1 _ _ _ h1 hz (Or.inr ⟨by omega, rfl, rfl⟩) hz1
  · rw [if_neg hk] at hf
    cases hf
set_option maxHeartbeats 4000000 in
theorem cs_X3_take_8 (l : Launch) (dC : Nat → ClassId) (dI : Nat → Nat → Nat) (cB cI cZ cO : ClassId) (a0 : Nat) (g0 : Nat → Nat) (ad : Nat → Nat) (h : Nat → Nat → Nat) (p : PS) (a1 : Nat) (g1 : Nat → Nat) (o1 : Ob) {r : Bool × PS × Ob} (hf : f_X3_take 8 p o1 = some r) : Ct dC dI cB cI cZ cO l yX3_takeInto wsX3_takeInto rmX3_takeInto [.ref a0, .ref a1] [cX5 a1 g1 o1, cX5_5 cI g1 o1, cX5_6 cI g1 o1, cX3 a0 g0 p.1, cPa cO g0 8 ad p.2.1, cX5 (ad 0) (h 0) (p.2.2 0), cX5_5 cI (h 0) (p.2.2 0), cX5_6 cI (h 0) (p.2.2 0), cX5 (ad 1) (h 1) (p.2.2 1), cX5_5 cI (h 1) (p.2.2 1), cX5_6 cI (h 1) (p.2.2 1), cX5 (ad 2) (h 2) (p.2.2 2), cX5_5 cI (h 2) (p.2.2 2), cX5_6 cI (h 2) (p.2.2 2), cX5 (ad 3) (h 3) (p.2.2 3), cX5_5 cI (h 3) (p.2.2 3), cX5_6 cI (h 3) (p.2.2 3), cX5 (ad 4) (h 4) (p.2.2 4), cX5_5 cI (h 4) (p.2.2 4), cX5_6 cI (h 4) (p.2.2 4), cX5 (ad 5) (h 5) (p.2.2 5), cX5_5 cI (h 5) (p.2.2 5), cX5_6 cI (h 5) (p.2.2 5), cX5 (ad 6) (h 6) (p.2.2 6), cX5_5 cI (h 6) (p.2.2 6), cX5_6 cI (h 6) (p.2.2 6), cX5 (ad 7) (h 7) (p.2.2 7), cX5_5 cI (h 7) (p.2.2 7), cX5_6 cI (h 7) (p.2.2 7)] (some (.int (b2i r.1))) [cX5 a1 g1 r.2.2, cX5_5 cI g1 r.2.2, cX5_6 cI g1 r.2.2, cX3 a0 g0 r.2.1.1, cPa cO g0 8 ad r.2.1.2.1, cX5 (ad 0) (h 0) (r.2.1.2.2 0), cX5_5 cI (h 0) (r.2.1.2.2 0), cX5_6 cI (h 0) (r.2.1.2.2 0), cX5 (ad 1) (h 1) (r.2.1.2.2 1), cX5_5 cI (h 1) (r.2.1.2.2 1), cX5_6 cI (h 1) (r.2.1.2.2 1), cX5 (ad 2) (h 2) (r.2.1.2.2 2), cX5_5 cI (h 2) (r.2.1.2.2 2), cX5_6 cI (h 2) (r.2.1.2.2 2), cX5 (ad 3) (h 3) (r.2.1.2.2 3), cX5_5 cI (h 3) (r.2.1.2.2 3), cX5_6 cI (h 3) (r.2.1.2.2 3), cX5 (ad 4) (h 4) (r.2.1.2.2 4), cX5_5 cI (h 4) (r.2.1.2.2 4), cX5_6 cI (h 4) (r.2.1.2.2 4), cX5 (ad 5) (h 5) (r.2.1.2.2 5), cX5_5 cI (h 5) (r.2.1.2.2 5), cX5_6 cI (h 5) (r.2.1.2.2 5), cX5 (ad 6) (h 6) (r.2.1.2.2 6), cX5_5 cI (h 6) (r.2.1.2.2 6), cX5_6 cI (h 6) (r.2.1.2.2 6), cX5 (ad 7) (h 7) (r.2.1.2.2 7), cX5_5 cI (h 7) (r.2.1.2.2 7), cX5_6 cI (h 7) (r.2.1.2.2 7)] := by
  unfold f_X3_take at hf
  by_cases hk : pOK 8 p
  · rw [if_pos hk] at hf
    obtain ⟨h1, h2, h3⟩ := hk
    have hz := nI_self h2
    by_cases hn : (p.1.1 1).toNatClampNeg = 0
    · rw [if_pos hn] at hf
      have hr := Option.some.inj hf
      subst hr
      rw [hn] at hz
      exact c_X3_takeInto_8_no l dC dI cB cI cZ cO a0 g0 p.1 ad p.2.1 h p.2.2 a1 g1 o1 hz
    · rw [if_neg hn] at hf
      obtain ⟨z, hz1, hz2⟩ := obd_e hf
      have hr := Option.some.inj hz2
      subst hr
      exact c_X3_takeInto_8_yes l dC dI cB cI cZ cO a0 g0 p.1 ad p.2.1 h p.2.2 a1 g1 o1 _ h1 (by omega) (by rw [hz]; congr 1; rw [nI_clamp (by omega)]; omega) hz1
  · rw [if_neg hk] at hf
    cases hf
set_option maxHeartbeats 4000000 in
theorem cs_X3_put_2 (l : Launch) (dC : Nat → ClassId) (dI : Nat → Nat → Nat) (cB cI cZ cO : ClassId) (a0 : Nat) (g0 : Nat → Nat) (ad : Nat → Nat) (h : Nat → Nat → Nat) (p : PS) (a1 : Nat) (g1 : Nat → Nat) (o1 : Ob) {r : PS} (hf : f_X3_put 2 rot2 p o1 = some r) : Ct dC dI cB cI cZ cO l yX3_put wsX3_put rmX3_put [.ref a0, .ref a1] [cX5 a1 g1 o1, cX5_5 cI g1 o1, cX5_6 cI g1 o1, cX3 a0 g0 p.1, cPa cO g0 2 ad p.2.1, cX5 (ad 0) (h 0) (p.2.2 0), cX5_5 cI (h 0) (p.2.2 0), cX5_6 cI (h 0) (p.2.2 0), cX5 (ad 1) (h 1) (p.2.2 1), cX5_5 cI (h 1) (p.2.2 1), cX5_6 cI (h 1) (p.2.2 1)] none [cX5 a1 g1 o1, cX5_5 cI g1 o1, cX5_6 cI g1 o1, cX3 a0 g0 r.1, cPa cO g0 2 ad r.2.1, cX5 (ad 0) (h 0) (r.2.2 0), cX5_5 cI (h 0) (r.2.2 0), cX5_6 cI (h 0) (r.2.2 0), cX5 (ad 1) (h 1) (r.2.2 1), cX5_5 cI (h 1) (r.2.2 1), cX5_6 cI (h 1) (r.2.2 1)] := by
  unfold f_X3_put at hf
  by_cases hk : pOK 2 p
  · rw [if_pos hk] at hf
    obtain ⟨h1, h2, h3⟩ := hk
    have hz := nI_self h2
    by_cases hn : (p.1.1 1).toNatClampNeg < 2
    · rw [if_pos hn] at hf
      obtain ⟨z, hz1, hz2⟩ := obd_e hf
      have hr := Option.some.inj hz2
      subst hr
      exact c_X3_put_2 l dC dI cB cI cZ cO a0 g0 p.1 ad p.2.1 h p.2.2 a1 g1 o1 _ _ _ h1 hz (Or.inl ⟨hn, rfl, rfl⟩) hz1
    · rw [if_neg hn] at hf
      obtain ⟨z, hz1, hz2⟩ := obd_e hf
      have hr := Option.some.inj hz2
      subst hr
      exact c_X3_put_2 l dC dI cB cI cZ cO a0 g0 p.1 ad p.2.1 h p.2.2 a1 g1 o1 _ _ _ h1 hz (Or.inr ⟨by omega, rfl, rfl⟩) hz1
  · rw [if_neg hk] at hf
    cases hf
set_option maxHeartbeats 4000000 in
theorem cs_X3_take_2 (l : Launch) (dC : Nat → ClassId) (dI : Nat → Nat → Nat) (cB cI cZ cO : ClassId) (a0 : Nat) (g0 : Nat → Nat) (ad : Nat → Nat) (h : Nat → Nat → Nat) (p : PS) (a1 : Nat) (g1 : Nat → Nat) (o1 : Ob) {r : Bool × PS × Ob} (hf : f_X3_take 2 p o1 = some r) : Ct dC dI cB cI cZ cO l yX3_takeInto wsX3_takeInto rmX3_takeInto [.ref a0, .ref a1] [cX5 a1 g1 o1, cX5_5 cI g1 o1, cX5_6 cI g1 o1, cX3 a0 g0 p.1, cPa cO g0 2 ad p.2.1, cX5 (ad 0) (h 0) (p.2.2 0), cX5_5 cI (h 0) (p.2.2 0), cX5_6 cI (h 0) (p.2.2 0), cX5 (ad 1) (h 1) (p.2.2 1), cX5_5 cI (h 1) (p.2.2 1), cX5_6 cI (h 1) (p.2.2 1)] (some (.int (b2i r.1))) [cX5 a1 g1 r.2.2, cX5_5 cI g1 r.2.2, cX5_6 cI g1 r.2.2, cX3 a0 g0 r.2.1.1, cPa cO g0 2 ad r.2.1.2.1, cX5 (ad 0) (h 0) (r.2.1.2.2 0), cX5_5 cI (h 0) (r.2.1.2.2 0), cX5_6 cI (h 0) (r.2.1.2.2 0), cX5 (ad 1) (h 1) (r.2.1.2.2 1), cX5_5 cI (h 1) (r.2.1.2.2 1), cX5_6 cI (h 1) (r.2.1.2.2 1)] := by
  unfold f_X3_take at hf
  by_cases hk : pOK 2 p
  · rw [if_pos hk] at hf
    obtain ⟨h1, h2, h3⟩ := hk
    have hz := nI_self h2
    by_cases hn : (p.1.1 1).toNatClampNeg = 0
    · rw [if_pos hn] at hf
      have hr := Option.some.inj hf
      subst hr
      rw [hn] at hz
      exact c_X3_takeInto_2_no l dC dI cB cI cZ cO a0 g0 p.1 ad p.2.1 h p.2.2 a1 g1 o1 hz
    · rw [if_neg hn] at hf
      obtain ⟨z, hz1, hz2⟩ := obd_e hf
      have hr := Option.some.inj hz2
      subst hr
      exact c_X3_takeInto_2_yes l dC dI cB cI cZ cO a0 g0 p.1 ad p.2.1 h p.2.2 a1 g1 o1 _ h1 (by omega) (by rw [hz]; congr 1; rw [nI_clamp (by omega)]; omega) hz1
  · rw [if_neg hk] at hf
    cases hf
