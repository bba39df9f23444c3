section GEO
set_option maxRecDepth 100000 in
set_option maxHeartbeats 4000000 in
theorem txt_of {args : Array Value} {s : State} {k : Nat} {tx : String} (h1 : (Cond.stringRef "SlantSlate" k tx).before args s = true) (h2 : (Cond.exactly (.string "SlantSlate" k) "java/lang/String").before args s = true) : ∃ a, vk_R "SlantSlate" k tx a s := by
  obtain ⟨a, c, cA, kA, q1, -⟩ := Cond.exactly_spec (args := args) (first := s) (o := none) (s := s) (idx := []) (t := .string "SlantSlate" k) (cls := "java/lang/String") h2
  exact ⟨a, vk_R.of (A := args) h1 q1⟩
set_option maxRecDepth 100000 in
set_option maxHeartbeats 8000000 in
theorem GE_of {args : Array Value} {s : State} (hts : ∀ w ∈ lw_tbl, w.before args s = true) (hgv : (Jvm.Cond.and given_1 narrow_1).before args s = true) : GE (fun q => s.heap.size ≤ q) s s.heap := by
  have hs := flat_of_before _ hgv
  have hA : ∀ a : Nat, a < s.heap.size → ¬ (fun q => s.heap.size ≤ q) a := fun a h => Nat.not_le.mpr h
  refine ⟨fun q hq => ?_, ⟨fun q hq => ?_, fun q hq => ?_, fun q hq => ?_, ⟨?_, ?_⟩, ?_, ?_, ?_⟩⟩
  · simp only [nwl, List.mem_cons, List.mem_nil_iff, or_false] at hq
    rcases hq with rfl | rfl | rfl | rfl
    · exact va_Nw.of rfl (hts _ (List.mem_of_getElem? (i := 176) (by decide +kernel)))
    · exact va_Nw.of rfl (hts _ (List.mem_of_getElem? (i := 199) (by decide +kernel)))
    · exact va_Nw.of rfl (hts _ (List.mem_of_getElem? (i := 205) (by decide +kernel)))
    · exact va_Nw.of rfl (hts _ (List.mem_of_getElem? (i := 237) (by decide +kernel)))
  · simp only [csl, List.mem_cons, List.mem_nil_iff, or_false] at hq
    rcases hq with rfl | rfl | rfl | rfl
    · exact va_Nw.of rfl (hts _ (List.mem_of_getElem? (i := 1573) (by decide +kernel)))
    · exact va_Nw.of rfl (hts _ (List.mem_of_getElem? (i := 743) (by decide +kernel)))
    · exact va_Nw.of rfl (hts _ (List.mem_of_getElem? (i := 810) (by decide +kernel)))
    · exact va_Nw.of rfl (hts _ (List.mem_of_getElem? (i := 940) (by decide +kernel)))
  · simp only [ncl, List.mem_cons, List.mem_nil_iff, or_false] at hq
    rcases hq with rfl | rfl | rfl | rfl | rfl | rfl
    · exact va_Nc.of (hs _ (by decide +kernel))
    · exact va_Nc.of (hs _ (by decide +kernel))
    · exact va_Nc.of (hs _ (by decide +kernel))
    · exact va_Nc.of (hs _ (by decide +kernel))
    · exact va_Nc.of (hs _ (by decide +kernel))
    · exact va_Nc.of (hs _ (by decide +kernel))
  · simp only [stx, List.mem_cons, List.mem_nil_iff, or_false] at hq
    rcases hq with rfl | rfl | rfl | rfl | rfl | rfl | rfl | rfl | rfl | rfl | rfl | rfl | rfl | rfl | rfl | rfl | rfl
    · exact txt_of (hts _ (List.mem_of_getElem? (i := 429) (by decide +kernel))) (hs _ (by decide +kernel))
    · exact txt_of (hts _ (List.mem_of_getElem? (i := 782) (by decide +kernel))) (hs _ (by decide +kernel))
    · exact txt_of (hts _ (List.mem_of_getElem? (i := 817) (by decide +kernel))) (hs _ (by decide +kernel))
    · exact txt_of (hts _ (List.mem_of_getElem? (i := 947) (by decide +kernel))) (hs _ (by decide +kernel))
    · exact txt_of (hts _ (List.mem_of_getElem? (i := 980) (by decide +kernel))) (hs _ (by decide +kernel))
    · exact txt_of (hts _ (List.mem_of_getElem? (i := 981) (by decide +kernel))) (hs _ (by decide +kernel))
    · exact txt_of (hts _ (List.mem_of_getElem? (i := 1008) (by decide +kernel))) (hs _ (by decide +kernel))
    · exact txt_of (hts _ (List.mem_of_getElem? (i := 1016) (by decide +kernel))) (hs _ (by decide +kernel))
    · exact txt_of (hts _ (List.mem_of_getElem? (i := 1028) (by decide +kernel))) (hs _ (by decide +kernel))
    · exact txt_of (hts _ (List.mem_of_getElem? (i := 1029) (by decide +kernel))) (hs _ (by decide +kernel))
    · exact txt_of (hts _ (List.mem_of_getElem? (i := 1041) (by decide +kernel))) (hs _ (by decide +kernel))
    · exact txt_of (hts _ (List.mem_of_getElem? (i := 1053) (by decide +kernel))) (hs _ (by decide +kernel))
    · exact txt_of (hts _ (List.mem_of_getElem? (i := 1072) (by decide +kernel))) (hs _ (by decide +kernel))
    · exact txt_of (hts _ (List.mem_of_getElem? (i := 1080) (by decide +kernel))) (hs _ (by decide +kernel))
    · exact txt_of (hts _ (List.mem_of_getElem? (i := 1092) (by decide +kernel))) (hs _ (by decide +kernel))
    · exact txt_of (hts _ (List.mem_of_getElem? (i := 1104) (by decide +kernel))) (hs _ (by decide +kernel))
    · exact txt_of (hts _ (List.mem_of_getElem? (i := 1126) (by decide +kernel))) (hs _ (by decide +kernel))
  · exact vx_Zqof (hts _ (List.mem_of_getElem? (i := 768) (by decide +kernel))) (hts _ (List.mem_of_getElem? (i := 129) (by decide +kernel))) (hs _ (by decide +kernel)) hA
  · exact vx_Zqof (hts _ (List.mem_of_getElem? (i := 770) (by decide +kernel))) (hts _ (List.mem_of_getElem? (i := 129) (by decide +kernel))) (hs _ (by decide +kernel)) hA
  · have tms : ∀ i : Nat, i < 1 → i = 0 := fun i h => by omega
    obtain ⟨adK, adV, h1, h2⟩ := vk_Sof (args := args) (s := s) (N := 1) (tm := fun _ => .string "SlantSlate" 305) (len := [7]) (byt := ltB) (A := fun q => s.heap.size ≤ q) (fun i h => by rw [tms i h]; decide) (fun i h => (hs _ (by decide +kernel))) (fun i h => (hs _ (by decide +kernel))) (fun i h => (hs _ (by decide +kernel))) (fun i h => by rw [tms i h]; exact (hs _ (by decide +kernel))) (fun i h j hj => by
      rw [tms i h] at hj ⊢
      have hj7 : j < 7 := hj
      rcases (by omega : j = 0 ∨ j = 1 ∨ j = 2 ∨ j = 3 ∨ j = 4 ∨ j = 5 ∨ j = 6) with rfl | rfl | rfl | rfl | rfl | rfl | rfl
      all_goals exact (hs _ (by decide +kernel))) (fun i j hi hj ne => absurd ((tms i hi).trans (tms j hj).symm) ne) hA
    refine ⟨adK 0, adV 0, vk_R.of (A := args) (hts _ (List.mem_of_getElem? (i := 429) (by decide +kernel))) (h2 0 (by omega)), ⟨fun i hi => ?_, fun i j hi hj _ => (tms i hi).trans (tms j hj).symm⟩⟩
    rw [tms i hi]
    exact h1.1 0 (by omega)
  · exact va_Zof (hts _ (List.mem_of_getElem? (i := 439) (by decide +kernel))) (hts _ (List.mem_of_getElem? (i := 137) (by decide +kernel))) (va_eqt (hs _ (by decide +kernel))) hA
  · exact va_Zqof (hts _ (List.mem_of_getElem? (i := 455) (by decide +kernel))) (hts _ (List.mem_of_getElem? (i := 135) (by decide +kernel))) (hs _ (by decide +kernel)) hA
end GEO
