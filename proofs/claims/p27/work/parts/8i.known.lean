section KNO
theorem arr_of {args : Array Value} {s : State} {ty : FieldType} (h : (Cond.arrayClass ty).before args s = true) (hk : ∀ C, ty ≠ .object C) : ∃ c : ClassId, ArrOfT s c ty ∧ va_RA s c ty := by
  obtain ⟨c, k, comp, h1, h2, h3⟩ := Cond.arrayClass_spec h
  refine ⟨c, fun n z => ⟨fun k h => (by cases h), k, h2, comp, h3⟩, ?_⟩
  cases ty <;> first | exact h1 | exact absurd rfl (hk _)
theorem arr_ob {args : Array Value} {s : State} (h : (Cond.arrayOver (.object "java/lang/Object")).before args s = true) : ∃ c : ClassId, ArrOfT s c (.object "java/lang/Object") ∧ va_RA s c (.object "java/lang/Object") := by
  obtain ⟨comp, c, k, h1, -, h3, h4, h5⟩ := Cond.arrayOver_spec h
  exact ⟨c, fun n z => ⟨fun k h => (by cases h), k, h3, comp, h4⟩, k, comp, h3, h4, h1, h5⟩
set_option maxRecDepth 100000 in
set_option maxHeartbeats 4000000 in
theorem K_of {args : Array Value} {s : State} (hts : ∀ w ∈ lw_tbl, w.before args s = true) : ∃ (D : va_G) (cA : Nat → ClassId), va_K D vwCl (atys cA) s := by
  have ht2 : ∀ w ∈ tw, w.before args s = true := fun w hw => hts w (List.mem_filter.mp hw).1
  have h : ∀ c : Nat, ∃ p : ClassId × (Nat → Nat), ∀ q : vw_C, vwCl[c]? = some q → u_Kn s q.1 q.2.1 q.2.2 p.1 p.2 := by
    intro c
    match c with
    | 0 =>
      obtain ⟨a, b, k⟩ := u_known (n := 3) ht2 in_Jx4a65c (hts _ (List.mem_of_getElem? (i := 203) (by decide +kernel)))
      exact ⟨(a, b), fun q hq => by cases hq; exact k⟩
    | 1 =>
      obtain ⟨a, b, k⟩ := u_known (n := 8) ht2 in_X0 (hts _ (List.mem_of_getElem? (i := 166) (by decide +kernel)))
      exact ⟨(a, b), fun q hq => by cases hq; exact k⟩
    | 2 =>
      obtain ⟨a, b, k⟩ := u_known (n := 1) ht2 in_X1 (hts _ (List.mem_of_getElem? (i := 134) (by decide +kernel)))
      exact ⟨(a, b), fun q hq => by cases hq; exact k⟩
    | 3 =>
      obtain ⟨a, b, k⟩ := u_known (n := 7) ht2 in_X2 (hts _ (List.mem_of_getElem? (i := 128) (by decide +kernel)))
      exact ⟨(a, b), fun q hq => by cases hq; exact k⟩
    | 4 =>
      obtain ⟨a, b, k⟩ := u_known (n := 5) ht2 in_X3 (hts _ (List.mem_of_getElem? (i := 105) (by decide +kernel)))
      exact ⟨(a, b), fun q hq => by cases hq; exact k⟩
    | 5 =>
      obtain ⟨a, b, k⟩ := u_known (n := 4) ht2 in_X4 (hts _ (List.mem_of_getElem? (i := 82) (by decide +kernel)))
      exact ⟨(a, b), fun q hq => by cases hq; exact k⟩
    | 6 =>
      obtain ⟨a, b, k⟩ := u_known (n := 1) ht2 in_X5 (hts _ (List.mem_of_getElem? (i := 197) (by decide +kernel)))
      exact ⟨(a, b), fun q hq => by cases hq; exact k⟩
    | 7 =>
      obtain ⟨a, b, k⟩ := u_known (n := 15) ht2 in_X6 (hts _ (List.mem_of_getElem? (i := 74) (by decide +kernel)))
      exact ⟨(a, b), fun q hq => by cases hq; exact k⟩
    | c + 8 => exact ⟨(0, fun _ => 0), fun q hq => by cases hq⟩
  obtain ⟨f, hf⟩ := Classical.axiomOfChoice h
  obtain ⟨c0, k0, r0⟩ := arr_of (ty := .int) (hts _ (List.mem_of_getElem? (i := 103) (by decide +kernel))) (fun C q => by cases q)
  obtain ⟨c1, k1, r1⟩ := arr_of (ty := .long) (hts _ (List.mem_of_getElem? (i := 126) (by decide +kernel))) (fun C q => by cases q)
  obtain ⟨c2, k2, r2⟩ := arr_of (ty := .boolean) (hts _ (List.mem_of_getElem? (i := 338) (by decide +kernel))) (fun C q => by cases q)
  obtain ⟨c3, k3, r3⟩ := arr_ob (hts _ (List.mem_of_getElem? (i := 278) (by decide +kernel)))
  refine ⟨(fun c => (f c).1, fun c => (f c).2), fun i => if i = 0 then c0 else if i = 1 then c1 else if i = 2 then c2 else c3, fun c q hq => hf c q hq, fun k q hq => ?_⟩
  match k with
  | 0 => cases hq; exact ⟨k0, r0⟩
  | 1 => cases hq; exact ⟨k1, r1⟩
  | 2 => cases hq; exact ⟨k2, r2⟩
  | 3 => cases hq; exact ⟨k3, r3⟩
  | k + 4 => cases hq
end KNO
