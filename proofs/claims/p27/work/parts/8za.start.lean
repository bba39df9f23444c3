section INI
/-- the state of a new slate -/
def c00 : Cs := fun _ => 0
def g00 : Sg := (c00, [], none, none, [])
/-- the cells of a new slate and of a new reference -/
def fx0 : List Nat := [3, 40, 49, 53, 56, 59, 62, 65, 70, 74]
def h00 : Hp := (fun q j => if q ∈ fx0 then -2 else if q = 46 ∧ (j = 0 ∨ j = 2) then 6 else if q = 67 ∧ (j = 0 ∨ j = 2) then 2 else 0, fun _ _ => 0, fun q j => if q = 50 ∧ 0 ≤ j then sv6[j.toNat]? else if q = 71 ∧ 0 ≤ j then ([68, 72] : List Nat)[j.toNat]? else none)
theorem hI00 {q : Nat} {j : Int} : hI h00 q j = if q ∈ fx0 then -2 else if q = 46 ∧ (j = 0 ∨ j = 2) then 6 else if q = 67 ∧ (j = 0 ∨ j = 2) then 2 else 0 := rfl
theorem hI00z {q : Nat} {j : Int} (h : q ∉ fx0) (h1 : q ≠ 46) (h2 : q ≠ 67) : hI h00 q j = 0 := by
  rw [hI00, if_neg h, if_neg (fun z => h1 z.1), if_neg (fun z => h2 z.1)]
theorem rds0 : AS c00 = [] := by
  obtain ⟨q1, q2, q3, q4, -⟩ := rdsH_ok (kd := kdS c00) (n := 0) ⟨by omega, by omega⟩ (fun w w0 w1 => by omega) (fun _ => 0)
  have : rds (kdS c00) 0 = [] := by
    by_cases e : rds (kdS c00) 0 = []
    · exact e
    · have := q4.mp e
      rw [dp_diag (Or.inr (Or.inr rfl))] at this
      omega
  exact this
theorem lf0 : lfS c00 = [] := by
  unfold lfS
  rw [rds0]
  rfl
theorem okS0 : okS c00 := ⟨⟨by decide, by decide⟩, fun w w0 w1 => ⟨by show (0 : Int) ≤ 0; omega, by show (0 : Int) ≤ 6; omega⟩, fun w w0 w1 => ⟨by show (0 : Int) ≤ 0; omega, by show (0 : Int) ≤ 14; omega⟩, ⟨by show (0 : Int) ≤ 0; omega, Or.inl (by rw [lf0]; rfl)⟩, fun w w0 w1 => ⟨rfl, rfl⟩⟩
theorem inv0 : InvS g00 := ⟨okS0, fun c h => (by cases h), fun c h => (by cases h), fun c h => (by cases h), Nat.zero_le _, Nat.zero_le _, fun z h => (by cases h)⟩
theorem rg0 : Rg h00 := fun q j => by
  rw [hI00]
  refine ⟨?_, ?_⟩
  · repeat' split
    all_goals omega
  · repeat' split
    all_goals omega
theorem plC_n {t : Nat} (h : t ≤ 6) : plC t ∉ fx0 ∧ plC t ≠ 46 ∧ plC t ≠ 67 := by
  have := (by decide : ∀ t < 7, plC t ∉ fx0 ∧ plC t ≠ 46 ∧ plC t ≠ 67) t (by omega)
  exact this
theorem body0 : BodyC h00 c00 := by
  refine ⟨⟨hI00z (by decide) (by decide) (by decide), hI00z (by decide) (by decide) (by decide), fun w w0 w1 => ?_, fun w w0 w1 => ?_⟩, ⟨?_, fun i f hi => ?_⟩, ⟨fun t ht x x0 x1 => ?_, fun t ht a b ha hab hb hc _ => ?_⟩, ⟨?_, fun i z hi => ?_⟩, fun ne => absurd lf0 ne⟩
  · exact hI00z (by decide) (by decide) (by decide)
  · rw [hI00, if_pos (by decide)]; rfl
  · rw [rds0]; exact hI00z (by decide) (by decide) (by decide)
  · rw [rds0] at hi; simp at hi
  · obtain ⟨n1, n2, n3⟩ := plC_n ht
    exact hI00z n1 n2 n3
  · obtain ⟨n1, n2, n3⟩ := plC_n ht
    have e0 : nS c00 = 0 := rfl
    rw [e0] at hb
    obtain rfl : a = 0 := by omega
    obtain rfl : b = 0 := by omega
    rw [hI00z n1 n2 n3, dp_diag (hc.resolve_left (by omega))]
  · rw [lf0]; exact hI00z (by decide) (by decide) (by decide)
  · rw [lf0] at hi; simp at hi
theorem hR00 {q : Nat} {j : Int} : hR h00 q j = if q = 50 ∧ 0 ≤ j then sv6[j.toNat]? else if q = 71 ∧ 0 ≤ j then ([68, 72] : List Nat)[j.toNat]? else none := rfl
theorem lsc6 : LsC h00 46 50 sv6 := by
  refine ⟨by rw [hI00, if_neg (by decide), if_pos (by decide)]; rfl, fun i x hx => ?_, fun x hx => ⟨(sv6_st x hx).1, (sv6_st x hx).2.2.2.1⟩, by decide⟩
  rw [hR00, if_pos ⟨rfl, by omega⟩, Int.toNat_natCast]
  exact hx
theorem lsc2 : LsC h00 67 71 [68, 72] := by
  refine ⟨by rw [hI00, if_neg (by decide), if_neg (by decide), if_pos (by decide)]; rfl, fun i x hx => ?_, fun x hx => ?_, by decide⟩
  · rw [hR00, if_neg (by omega), if_pos ⟨rfl, by omega⟩, Int.toNat_natCast]
    exact hx
  · simp only [List.mem_cons, List.mem_nil_iff, or_false] at hx
    rcases hx with rfl | rfl
    · exact ⟨by decide, rfl⟩
    · exact ⟨by decide, rfl⟩
theorem repC0 : RepC g00 h00 := ⟨body0, ⟨sv6, List.Perm.refl _, lsc6, hI00z (by decide) (by decide) (by decide), by decide, fun i c h => by simp [g00] at h⟩, ⟨lsc2, hI00z (by decide) (by decide) (by decide), hI00z (by decide) (by decide) (by decide)⟩, ⟨hI00z (by decide) (by decide) (by decide), fun i z h => by simp [g00] at h⟩⟩
end INI
section GEO
set_option maxRecDepth 100000 in
set_option maxHeartbeats 4000000 in
theorem txt_of {args : Array Value} {s : State} {k : Nat} {tx : String} (h1 : (Cond.stringRef "SlantSlate" k tx).before args s = true) (h2 : (Cond.exactly (.string "SlantSlate" k) "java/lang/String").before args s = true) : ∃ a, vk_R "SlantSlate" k tx a s := by
  obtain ⟨a, c, cA, kA, q1, -⟩ := Cond.exactly_spec (args := args) (first := s) (o := none) (s := s) (idx := []) (t := .string "SlantSlate" k) (cls := "java/lang/String") h2
  exact ⟨a, vk_R.of (A := args) h1 q1⟩
set_option maxRecDepth 100000 in
set_option maxHeartbeats 8000000 in
theorem GE_of {args : Array Value} {s : State} (hts : ∀ w ∈ lw_tbl, w.before args s = true) (hgv : (Jvm.Cond.and given_1 narrow_1).before args s = true) : GE (fun q => s.heap.size ≤ q) s s.heap := by
  have hs := flat_of_before _ hgv
  have hA : ∀ a : Nat, a < s.heap.size → ¬ (fun q => s.heap.size ≤ q) a := fun a h => Nat.not_le.mpr h
  refine ⟨fun q hq => ?_, ⟨fun q hq => ?_, fun q hq => by simp [ncl] at hq, fun q hq => ?_, ⟨?_, ?_⟩, trivial⟩⟩
  · simp only [nwl, List.mem_cons, List.mem_nil_iff, or_false] at hq
    rcases hq with rfl | rfl | rfl | rfl
    · exact va_Nw.of rfl (hts _ (List.mem_of_getElem? (i := 106) (by decide +kernel)))
    · exact va_Nw.of rfl (hts _ (List.mem_of_getElem? (i := 129) (by decide +kernel)))
    · exact va_Nw.of rfl (hts _ (List.mem_of_getElem? (i := 135) (by decide +kernel)))
    · exact va_Nw.of rfl (hts _ (List.mem_of_getElem? (i := 167) (by decide +kernel)))
  · simp only [csl, List.mem_cons, List.mem_nil_iff, or_false] at hq
    rcases hq with rfl | rfl | rfl | rfl
    · exact va_Nw.of rfl (hts _ (List.mem_of_getElem? (i := 886) (by decide +kernel)))
    · exact va_Nw.of rfl (hts _ (List.mem_of_getElem? (i := 625) (by decide +kernel)))
    · exact va_Nw.of rfl (hts _ (List.mem_of_getElem? (i := 345) (by decide +kernel)))
    · exact va_Nw.of rfl (hts _ (List.mem_of_getElem? (i := 690) (by decide +kernel)))
  · simp only [stx, List.mem_cons, List.mem_nil_iff, or_false] at hq
    rcases hq with rfl | rfl | rfl | rfl | rfl | rfl | rfl | rfl | rfl
    · exact txt_of (hts _ (List.mem_of_getElem? (i := 384) (by decide +kernel))) (hs _ (by decide +kernel))
    · exact txt_of (hts _ (List.mem_of_getElem? (i := 632) (by decide +kernel))) (hs _ (by decide +kernel))
    · exact txt_of (hts _ (List.mem_of_getElem? (i := 697) (by decide +kernel))) (hs _ (by decide +kernel))
    · exact txt_of (hts _ (List.mem_of_getElem? (i := 741) (by decide +kernel))) (hs _ (by decide +kernel))
    · exact txt_of (hts _ (List.mem_of_getElem? (i := 795) (by decide +kernel))) (hs _ (by decide +kernel))
    · exact txt_of (hts _ (List.mem_of_getElem? (i := 800) (by decide +kernel))) (hs _ (by decide +kernel))
    · exact txt_of (hts _ (List.mem_of_getElem? (i := 830) (by decide +kernel))) (hs _ (by decide +kernel))
    · exact txt_of (hts _ (List.mem_of_getElem? (i := 835) (by decide +kernel))) (hs _ (by decide +kernel))
    · exact txt_of (hts _ (List.mem_of_getElem? (i := 852) (by decide +kernel))) (hs _ (by decide +kernel))
  · exact vx_Zqof (hts _ (List.mem_of_getElem? (i := 370) (by decide +kernel))) (hts _ (List.mem_of_getElem? (i := 64) (by decide +kernel))) (hs _ (by decide +kernel)) hA
  · exact vx_Zqof (hts _ (List.mem_of_getElem? (i := 372) (by decide +kernel))) (hts _ (List.mem_of_getElem? (i := 64) (by decide +kernel))) (hs _ (by decide +kernel)) hA
end GEO
section STA
set_option maxRecDepth 100000 in
set_option maxHeartbeats 4000000 in
theorem EZ_of {args : Array Value} {s : State} (hts : ∀ w ∈ lw_tbl, w.before args s = true) (hgv : (Jvm.Cond.and given_1 narrow_1).before args s = true) : ∃ z, EZ z (fun q => s.heap.size ≤ q) s s.heap := by
  have hs := flat_of_before _ hgv
  have hA : ∀ a : Nat, a < s.heap.size → ¬ (fun q => s.heap.size ≤ q) a := fun a h => Nat.not_le.mpr h
  obtain ⟨t, ht, hT⟩ := va_Tof (args := args) (s := s) (tm := .static "java/util/ArrayList" "DEFAULTCAPACITY_EMPTY_ELEMENTDATA" "[Ljava/lang/Object;") (ty := .object "java/lang/Object") (N := 0) (f := fun _ => .null) (A := fun q => s.heap.size ≤ q) (by decide) (hs _ (by decide +kernel)) (va_eqt (hs _ (by decide +kernel))) (fun j hj => absurd hj (Nat.not_lt_zero j)) hA
  exact ⟨t, va_Zref ((hts _ (List.mem_of_getElem? (i := 215) (by decide +kernel)))) ((hts _ (List.mem_of_getElem? (i := 60) (by decide +kernel)))) ht hA, hT, va_AO.of ((hts _ (List.mem_of_getElem? (i := 278) (by decide +kernel))))⟩
def sg (b0 b : Nat) : Nat → Nat := fun i => if i = 98 then b else b0 + i
theorem sg_lt {b0 b i : Nat} (h : i < 98) : sg b0 b i = b0 + i := if_neg (by omega)
theorem sg_wd {b0 b : Nat} {cA : Nat → ClassId} {h : Hp} : wd (sg b0 b) cA h = wl b0 77 (ce (sg b0 b) cA h) := by
  unfold wd wl
  refine List.map_congr_left fun i hi => ?_
  rw [sg_lt (Nat.lt_trans (List.mem_range.mp hi) (by decide))]
theorem z_i {σ : Nat → Nat} {cA : Nat → ClassId} {q n : Nat} (hs : SH q = .inr (0, n)) (h : q ∉ fx0) (h1 : q ≠ 46) (h2 : q ≠ 67) : EQ (.inl (cA 0, n, .inl (fun _ => 0))) (ce σ cA h00 q) := by
  rw [ce_i hs]
  exact EQ.is fun j _ => by rw [hI00z h h1 h2]; rfl
theorem z_f {σ : Nat → Nat} {cA : Nat → ClassId} {q n : Nat} (hs : SH q = .inr (0, n)) (h : q ∈ fx0) : EQ (.inl (cA 0, n, .inl (fun _ => (-2)))) (ce σ cA h00 q) := by
  rw [ce_i hs]
  exact EQ.is fun j _ => by rw [hI00, if_pos h]; rfl
theorem z_z {σ : Nat → Nat} {cA : Nat → ClassId} {q n : Nat} (hs : SH q = .inr (2, n)) (h : q ∉ fx0) (h1 : q ≠ 46) (h2 : q ≠ 67) : EQ (.inl (cA 2, n, .inl (fun _ => 0))) (ce σ cA h00 q) := by
  rw [ce_z hs]
  exact EQ.is fun j _ => by rw [hI00z h h1 h2]; rfl
theorem z_l {σ : Nat → Nat} {cA : Nat → ClassId} {q n : Nat} (hs : SH q = .inr (1, n)) : EQ (.inl (cA 1, n, .inr (.inl (fun _ => 0)))) (ce σ cA h00 q) := by
  rw [ce_l hs]
  exact EQ.rf
theorem z_o {σ : Nat → Nat} {cA : Nat → ClassId} {q ci : Nat} {fs : List Value} (hs : SH q = .inl ci) (h : (List.range (nFd ci)).map (fun j => fvk σ q (hI h00 q) (hL h00 q) j (fkd ci j)) = fs) : EQ (.inr (ci, fs)) (ce σ cA h00 q) := by
  rw [ce_obj hs, h]
  exact EQ.rf
theorem z_q {σ : Nat → Nat} {cA : Nat → ClassId} {q : Nat} {g : Nat → Option Nat} (hs : SH q = .inr (3, 10)) (h : ∀ j : Nat, j < 10 → g j = (hR h00 q j).map σ) : EQ (.inl (cA 3, 10, .inr (.inr (.inr (.inr g))))) (ce σ cA h00 q) := by
  rw [ce_q hs]
  exact EQ.qs h
def fI (b0 : Nat) : va_E := .inr (7, [.ref (b0 + (1 + 0)), .ref (b0 + (1 + 3)), .ref (b0 + (1 + 7)), .ref (b0 + (1 + 22)), .int 0, .ref (b0 + (1 + 23)), .ref (b0 + (1 + 30)), .ref (b0 + (1 + 37)), .ref (b0 + (1 + 40)), .ref (b0 + (1 + 44)), .int 0, .ref (b0 + (1 + 65)), .ref (b0 + (1 + 74)), .ref (b0 + (1 + 75)), .int 0])
def fL6 (b0 : Nat) (cA : Nat → ClassId) : List va_E := [.inr (5, [.ref (b0 + (1 + 1)), .ref (b0 + (1 + 2)), .int 0, .int 0]), .inl (cA 0, 12, .inl (fun _ => 0)), .inl (cA 0, 12, .inl (fun _ => (-2))), .inr (4, [.ref (b0 + (1 + 4)), .int 0, .ref (b0 + (1 + 5)), .ref (b0 + (1 + 6)), .int 0]), .inl (cA 1, 42, .inr (.inl (fun _ => 0))), .inl (cA 0, 12, .inl (fun _ => 0)), .inl (cA 0, 12, .inl (fun _ => 0)), .inr (3, [.ref (b0 + (1 + 8)), .ref (b0 + (1 + 10)), .ref (b0 + (1 + 12)), .ref (b0 + (1 + 14)), .ref (b0 + (1 + 16)), .ref (b0 + (1 + 18)), .ref (b0 + (1 + 20))]), .inr (2, [.ref (b0 + (1 + 9))]), .inl (cA 0, 169, .inl (fun _ => 0)), .inr (2, [.ref (b0 + (1 + 11))]), .inl (cA 0, 169, .inl (fun _ => 0)), .inr (2, [.ref (b0 + (1 + 13))]), .inl (cA 0, 169, .inl (fun _ => 0)), .inr (2, [.ref (b0 + (1 + 15))]), .inl (cA 0, 169, .inl (fun _ => 0)), .inr (2, [.ref (b0 + (1 + 17))]), .inl (cA 0, 169, .inl (fun _ => 0)), .inr (2, [.ref (b0 + (1 + 19))]), .inl (cA 0, 169, .inl (fun _ => 0)), .inr (2, [.ref (b0 + (1 + 21))]), .inl (cA 0, 169, .inl (fun _ => 0)), .inl (cA 0, 42, .inl (fun _ => 0)), .inr (1, [.ref (b0 + (1 + 24)), .ref (b0 + (1 + 25)), .ref (b0 + (1 + 26)), .ref (b0 + (1 + 27)), .ref (b0 + (1 + 28)), .ref (b0 + (1 + 29)), .int 0, .int 0]), .inl (cA 0, 12, .inl (fun _ => 0)), .inl (cA 0, 12, .inl (fun _ => 0)), .inl (cA 0, 12, .inl (fun _ => 0)), .inl (cA 0, 12, .inl (fun _ => 0)), .inl (cA 0, 12, .inl (fun _ => 0)), .inl (cA 0, 12, .inl (fun _ => 0)), .inr (1, [.ref (b0 + (1 + 31)), .ref (b0 + (1 + 32)), .ref (b0 + (1 + 33)), .ref (b0 + (1 + 34)), .ref (b0 + (1 + 35)), .ref (b0 + (1 + 36)), .int 0, .int 0]), .inl (cA 0, 12, .inl (fun _ => 0)), .inl (cA 0, 12, .inl (fun _ => 0)), .inl (cA 0, 12, .inl (fun _ => 0)), .inl (cA 0, 12, .inl (fun _ => 0)), .inl (cA 0, 12, .inl (fun _ => 0)), .inl (cA 0, 12, .inl (fun _ => 0)), .inr (5, [.ref (b0 + (1 + 38)), .ref (b0 + (1 + 39)), .int 0, .int 0]), .inl (cA 0, 12, .inl (fun _ => 0)), .inl (cA 0, 12, .inl (fun _ => (-2))), .inr (4, [.ref (b0 + (1 + 41)), .int 0, .ref (b0 + (1 + 42)), .ref (b0 + (1 + 43)), .int 0]), .inl (cA 1, 42, .inr (.inl (fun _ => 0))), .inl (cA 0, 12, .inl (fun _ => 0)), .inl (cA 0, 12, .inl (fun _ => 0)), .inr (6, [.ref (b0 + (1 + 45))]), .inr (0, [.int 6, .ref (b0 + (1 + 49)), .int 6]), .inr (5, [.ref (b0 + (1 + 47)), .ref (b0 + (1 + 48)), .int 0, .int 0]), .inl (cA 0, 12, .inl (fun _ => 0)), .inl (cA 0, 12, .inl (fun _ => (-2))), .inl (cA 3, 10, .inr (.inr (.inr (.inr (va_up (va_up (va_up (va_up (va_up (va_up (fun _ => none) 0 (some (b0 + (1 + 46)))) 1 (some (b0 + (1 + 50)))) 2 (some (b0 + (1 + 53)))) 3 (some (b0 + (1 + 56)))) 4 (some (b0 + (1 + 59)))) 5 (some (b0 + (1 + 62)))))))), .inr (5, [.ref (b0 + (1 + 51)), .ref (b0 + (1 + 52)), .int 0, .int 0]), .inl (cA 0, 12, .inl (fun _ => 0)), .inl (cA 0, 12, .inl (fun _ => (-2))), .inr (5, [.ref (b0 + (1 + 54)), .ref (b0 + (1 + 55)), .int 0, .int 0]), .inl (cA 0, 12, .inl (fun _ => 0)), .inl (cA 0, 12, .inl (fun _ => (-2))), .inr (5, [.ref (b0 + (1 + 57)), .ref (b0 + (1 + 58)), .int 0, .int 0]), .inl (cA 0, 12, .inl (fun _ => 0)), .inl (cA 0, 12, .inl (fun _ => (-2))), .inr (5, [.ref (b0 + (1 + 60)), .ref (b0 + (1 + 61)), .int 0, .int 0]), .inl (cA 0, 12, .inl (fun _ => 0)), .inl (cA 0, 12, .inl (fun _ => (-2))), .inr (5, [.ref (b0 + (1 + 63)), .ref (b0 + (1 + 64)), .int 0, .int 0]), .inl (cA 0, 12, .inl (fun _ => 0)), .inl (cA 0, 12, .inl (fun _ => (-2))), .inr (6, [.ref (b0 + (1 + 66))]), .inr (0, [.int 2, .ref (b0 + (1 + 70)), .int 2]), .inr (5, [.ref (b0 + (1 + 68)), .ref (b0 + (1 + 69)), .int 0, .int 0]), .inl (cA 0, 12, .inl (fun _ => 0)), .inl (cA 0, 12, .inl (fun _ => (-2))), .inl (cA 3, 10, .inr (.inr (.inr (.inr (va_up (va_up (fun _ => none) 0 (some (b0 + (1 + 67)))) 1 (some (b0 + (1 + 71)))))))), .inr (5, [.ref (b0 + (1 + 72)), .ref (b0 + (1 + 73)), .int 0, .int 0]), .inl (cA 0, 12, .inl (fun _ => 0)), .inl (cA 0, 12, .inl (fun _ => (-2))), .inl (cA 2, 2, .inl (fun _ => 0)), .inl (cA 0, 20, .inl (fun _ => 0))]
def g77 (b0 : Nat) (cA : Nat → ClassId) (f : Nat → va_E) : Nat → va_E := W4 1 (up f 0 (.inr (7, [.null, .null, .null, .null, .int 0, .null, .null, .null, .null, .null, .int 0, .null, .null, .null, .int 0]))) 0 (fI b0) (fL6 b0 cA)
theorem ge_0 {b0 b : Nat} {cA : Nat → ClassId} {f : Nat → va_E} : EQ (g77 b0 cA f 0) (ce (sg b0 b) cA h00 0) := z_o rfl rfl
theorem ge_1 {b0 b : Nat} {cA : Nat → ClassId} {f : Nat → va_E} : EQ (g77 b0 cA f 1) (ce (sg b0 b) cA h00 1) := z_o rfl rfl
theorem ge_2 {b0 b : Nat} {cA : Nat → ClassId} {f : Nat → va_E} : EQ (g77 b0 cA f 2) (ce (sg b0 b) cA h00 2) := z_i rfl (by decide) (by decide) (by decide)
theorem ge_3 {b0 b : Nat} {cA : Nat → ClassId} {f : Nat → va_E} : EQ (g77 b0 cA f 3) (ce (sg b0 b) cA h00 3) := z_f rfl (by decide)
theorem ge_4 {b0 b : Nat} {cA : Nat → ClassId} {f : Nat → va_E} : EQ (g77 b0 cA f 4) (ce (sg b0 b) cA h00 4) := z_o rfl rfl
theorem ge_5 {b0 b : Nat} {cA : Nat → ClassId} {f : Nat → va_E} : EQ (g77 b0 cA f 5) (ce (sg b0 b) cA h00 5) := z_l rfl
theorem ge_6 {b0 b : Nat} {cA : Nat → ClassId} {f : Nat → va_E} : EQ (g77 b0 cA f 6) (ce (sg b0 b) cA h00 6) := z_i rfl (by decide) (by decide) (by decide)
theorem ge_7 {b0 b : Nat} {cA : Nat → ClassId} {f : Nat → va_E} : EQ (g77 b0 cA f 7) (ce (sg b0 b) cA h00 7) := z_i rfl (by decide) (by decide) (by decide)
theorem ge_8 {b0 b : Nat} {cA : Nat → ClassId} {f : Nat → va_E} : EQ (g77 b0 cA f 8) (ce (sg b0 b) cA h00 8) := z_o rfl rfl
theorem ge_9 {b0 b : Nat} {cA : Nat → ClassId} {f : Nat → va_E} : EQ (g77 b0 cA f 9) (ce (sg b0 b) cA h00 9) := z_o rfl rfl
theorem ge_10 {b0 b : Nat} {cA : Nat → ClassId} {f : Nat → va_E} : EQ (g77 b0 cA f 10) (ce (sg b0 b) cA h00 10) := z_i rfl (by decide) (by decide) (by decide)
theorem ge_11 {b0 b : Nat} {cA : Nat → ClassId} {f : Nat → va_E} : EQ (g77 b0 cA f 11) (ce (sg b0 b) cA h00 11) := z_o rfl rfl
theorem ge_12 {b0 b : Nat} {cA : Nat → ClassId} {f : Nat → va_E} : EQ (g77 b0 cA f 12) (ce (sg b0 b) cA h00 12) := z_i rfl (by decide) (by decide) (by decide)
theorem ge_13 {b0 b : Nat} {cA : Nat → ClassId} {f : Nat → va_E} : EQ (g77 b0 cA f 13) (ce (sg b0 b) cA h00 13) := z_o rfl rfl
theorem ge_14 {b0 b : Nat} {cA : Nat → ClassId} {f : Nat → va_E} : EQ (g77 b0 cA f 14) (ce (sg b0 b) cA h00 14) := z_i rfl (by decide) (by decide) (by decide)
theorem ge_15 {b0 b : Nat} {cA : Nat → ClassId} {f : Nat → va_E} : EQ (g77 b0 cA f 15) (ce (sg b0 b) cA h00 15) := z_o rfl rfl
theorem ge_16 {b0 b : Nat} {cA : Nat → ClassId} {f : Nat → va_E} : EQ (g77 b0 cA f 16) (ce (sg b0 b) cA h00 16) := z_i rfl (by decide) (by decide) (by decide)
theorem ge_17 {b0 b : Nat} {cA : Nat → ClassId} {f : Nat → va_E} : EQ (g77 b0 cA f 17) (ce (sg b0 b) cA h00 17) := z_o rfl rfl
theorem ge_18 {b0 b : Nat} {cA : Nat → ClassId} {f : Nat → va_E} : EQ (g77 b0 cA f 18) (ce (sg b0 b) cA h00 18) := z_i rfl (by decide) (by decide) (by decide)
theorem ge_19 {b0 b : Nat} {cA : Nat → ClassId} {f : Nat → va_E} : EQ (g77 b0 cA f 19) (ce (sg b0 b) cA h00 19) := z_o rfl rfl
theorem ge_20 {b0 b : Nat} {cA : Nat → ClassId} {f : Nat → va_E} : EQ (g77 b0 cA f 20) (ce (sg b0 b) cA h00 20) := z_i rfl (by decide) (by decide) (by decide)
theorem ge_21 {b0 b : Nat} {cA : Nat → ClassId} {f : Nat → va_E} : EQ (g77 b0 cA f 21) (ce (sg b0 b) cA h00 21) := z_o rfl rfl
theorem ge_22 {b0 b : Nat} {cA : Nat → ClassId} {f : Nat → va_E} : EQ (g77 b0 cA f 22) (ce (sg b0 b) cA h00 22) := z_i rfl (by decide) (by decide) (by decide)
theorem ge_23 {b0 b : Nat} {cA : Nat → ClassId} {f : Nat → va_E} : EQ (g77 b0 cA f 23) (ce (sg b0 b) cA h00 23) := z_i rfl (by decide) (by decide) (by decide)
theorem ge_24 {b0 b : Nat} {cA : Nat → ClassId} {f : Nat → va_E} : EQ (g77 b0 cA f 24) (ce (sg b0 b) cA h00 24) := z_o rfl rfl
theorem ge_25 {b0 b : Nat} {cA : Nat → ClassId} {f : Nat → va_E} : EQ (g77 b0 cA f 25) (ce (sg b0 b) cA h00 25) := z_i rfl (by decide) (by decide) (by decide)
theorem ge_26 {b0 b : Nat} {cA : Nat → ClassId} {f : Nat → va_E} : EQ (g77 b0 cA f 26) (ce (sg b0 b) cA h00 26) := z_i rfl (by decide) (by decide) (by decide)
theorem ge_27 {b0 b : Nat} {cA : Nat → ClassId} {f : Nat → va_E} : EQ (g77 b0 cA f 27) (ce (sg b0 b) cA h00 27) := z_i rfl (by decide) (by decide) (by decide)
theorem ge_28 {b0 b : Nat} {cA : Nat → ClassId} {f : Nat → va_E} : EQ (g77 b0 cA f 28) (ce (sg b0 b) cA h00 28) := z_i rfl (by decide) (by decide) (by decide)
theorem ge_29 {b0 b : Nat} {cA : Nat → ClassId} {f : Nat → va_E} : EQ (g77 b0 cA f 29) (ce (sg b0 b) cA h00 29) := z_i rfl (by decide) (by decide) (by decide)
theorem ge_30 {b0 b : Nat} {cA : Nat → ClassId} {f : Nat → va_E} : EQ (g77 b0 cA f 30) (ce (sg b0 b) cA h00 30) := z_i rfl (by decide) (by decide) (by decide)
theorem ge_31 {b0 b : Nat} {cA : Nat → ClassId} {f : Nat → va_E} : EQ (g77 b0 cA f 31) (ce (sg b0 b) cA h00 31) := z_o rfl rfl
theorem ge_32 {b0 b : Nat} {cA : Nat → ClassId} {f : Nat → va_E} : EQ (g77 b0 cA f 32) (ce (sg b0 b) cA h00 32) := z_i rfl (by decide) (by decide) (by decide)
theorem ge_33 {b0 b : Nat} {cA : Nat → ClassId} {f : Nat → va_E} : EQ (g77 b0 cA f 33) (ce (sg b0 b) cA h00 33) := z_i rfl (by decide) (by decide) (by decide)
theorem ge_34 {b0 b : Nat} {cA : Nat → ClassId} {f : Nat → va_E} : EQ (g77 b0 cA f 34) (ce (sg b0 b) cA h00 34) := z_i rfl (by decide) (by decide) (by decide)
theorem ge_35 {b0 b : Nat} {cA : Nat → ClassId} {f : Nat → va_E} : EQ (g77 b0 cA f 35) (ce (sg b0 b) cA h00 35) := z_i rfl (by decide) (by decide) (by decide)
theorem ge_36 {b0 b : Nat} {cA : Nat → ClassId} {f : Nat → va_E} : EQ (g77 b0 cA f 36) (ce (sg b0 b) cA h00 36) := z_i rfl (by decide) (by decide) (by decide)
theorem ge_37 {b0 b : Nat} {cA : Nat → ClassId} {f : Nat → va_E} : EQ (g77 b0 cA f 37) (ce (sg b0 b) cA h00 37) := z_i rfl (by decide) (by decide) (by decide)
theorem ge_38 {b0 b : Nat} {cA : Nat → ClassId} {f : Nat → va_E} : EQ (g77 b0 cA f 38) (ce (sg b0 b) cA h00 38) := z_o rfl rfl
theorem ge_39 {b0 b : Nat} {cA : Nat → ClassId} {f : Nat → va_E} : EQ (g77 b0 cA f 39) (ce (sg b0 b) cA h00 39) := z_i rfl (by decide) (by decide) (by decide)
theorem ge_40 {b0 b : Nat} {cA : Nat → ClassId} {f : Nat → va_E} : EQ (g77 b0 cA f 40) (ce (sg b0 b) cA h00 40) := z_f rfl (by decide)
theorem ge_41 {b0 b : Nat} {cA : Nat → ClassId} {f : Nat → va_E} : EQ (g77 b0 cA f 41) (ce (sg b0 b) cA h00 41) := z_o rfl rfl
theorem ge_42 {b0 b : Nat} {cA : Nat → ClassId} {f : Nat → va_E} : EQ (g77 b0 cA f 42) (ce (sg b0 b) cA h00 42) := z_l rfl
theorem ge_43 {b0 b : Nat} {cA : Nat → ClassId} {f : Nat → va_E} : EQ (g77 b0 cA f 43) (ce (sg b0 b) cA h00 43) := z_i rfl (by decide) (by decide) (by decide)
theorem ge_44 {b0 b : Nat} {cA : Nat → ClassId} {f : Nat → va_E} : EQ (g77 b0 cA f 44) (ce (sg b0 b) cA h00 44) := z_i rfl (by decide) (by decide) (by decide)
theorem ge_45 {b0 b : Nat} {cA : Nat → ClassId} {f : Nat → va_E} : EQ (g77 b0 cA f 45) (ce (sg b0 b) cA h00 45) := z_o rfl rfl
theorem ge_46 {b0 b : Nat} {cA : Nat → ClassId} {f : Nat → va_E} : EQ (g77 b0 cA f 46) (ce (sg b0 b) cA h00 46) := z_o rfl rfl
theorem ge_47 {b0 b : Nat} {cA : Nat → ClassId} {f : Nat → va_E} : EQ (g77 b0 cA f 47) (ce (sg b0 b) cA h00 47) := z_o rfl rfl
theorem ge_48 {b0 b : Nat} {cA : Nat → ClassId} {f : Nat → va_E} : EQ (g77 b0 cA f 48) (ce (sg b0 b) cA h00 48) := z_i rfl (by decide) (by decide) (by decide)
theorem ge_49 {b0 b : Nat} {cA : Nat → ClassId} {f : Nat → va_E} : EQ (g77 b0 cA f 49) (ce (sg b0 b) cA h00 49) := z_f rfl (by decide)
theorem ge_50 {b0 b : Nat} {cA : Nat → ClassId} {f : Nat → va_E} : EQ (g77 b0 cA f 50) (ce (sg b0 b) cA h00 50) := z_q rfl (fun j hj => by
    rcases (by omega : j = 0 ∨ j = 1 ∨ j = 2 ∨ j = 3 ∨ j = 4 ∨ j = 5 ∨ j = 6 ∨ j = 7 ∨ j = 8 ∨ j = 9) with rfl | rfl | rfl | rfl | rfl | rfl | rfl | rfl | rfl | rfl <;> rfl)
theorem ge_51 {b0 b : Nat} {cA : Nat → ClassId} {f : Nat → va_E} : EQ (g77 b0 cA f 51) (ce (sg b0 b) cA h00 51) := z_o rfl rfl
theorem ge_52 {b0 b : Nat} {cA : Nat → ClassId} {f : Nat → va_E} : EQ (g77 b0 cA f 52) (ce (sg b0 b) cA h00 52) := z_i rfl (by decide) (by decide) (by decide)
theorem ge_53 {b0 b : Nat} {cA : Nat → ClassId} {f : Nat → va_E} : EQ (g77 b0 cA f 53) (ce (sg b0 b) cA h00 53) := z_f rfl (by decide)
theorem ge_54 {b0 b : Nat} {cA : Nat → ClassId} {f : Nat → va_E} : EQ (g77 b0 cA f 54) (ce (sg b0 b) cA h00 54) := z_o rfl rfl
theorem ge_55 {b0 b : Nat} {cA : Nat → ClassId} {f : Nat → va_E} : EQ (g77 b0 cA f 55) (ce (sg b0 b) cA h00 55) := z_i rfl (by decide) (by decide) (by decide)
theorem ge_56 {b0 b : Nat} {cA : Nat → ClassId} {f : Nat → va_E} : EQ (g77 b0 cA f 56) (ce (sg b0 b) cA h00 56) := z_f rfl (by decide)
theorem ge_57 {b0 b : Nat} {cA : Nat → ClassId} {f : Nat → va_E} : EQ (g77 b0 cA f 57) (ce (sg b0 b) cA h00 57) := z_o rfl rfl
theorem ge_58 {b0 b : Nat} {cA : Nat → ClassId} {f : Nat → va_E} : EQ (g77 b0 cA f 58) (ce (sg b0 b) cA h00 58) := z_i rfl (by decide) (by decide) (by decide)
theorem ge_59 {b0 b : Nat} {cA : Nat → ClassId} {f : Nat → va_E} : EQ (g77 b0 cA f 59) (ce (sg b0 b) cA h00 59) := z_f rfl (by decide)
theorem ge_60 {b0 b : Nat} {cA : Nat → ClassId} {f : Nat → va_E} : EQ (g77 b0 cA f 60) (ce (sg b0 b) cA h00 60) := z_o rfl rfl
theorem ge_61 {b0 b : Nat} {cA : Nat → ClassId} {f : Nat → va_E} : EQ (g77 b0 cA f 61) (ce (sg b0 b) cA h00 61) := z_i rfl (by decide) (by decide) (by decide)
theorem ge_62 {b0 b : Nat} {cA : Nat → ClassId} {f : Nat → va_E} : EQ (g77 b0 cA f 62) (ce (sg b0 b) cA h00 62) := z_f rfl (by decide)
theorem ge_63 {b0 b : Nat} {cA : Nat → ClassId} {f : Nat → va_E} : EQ (g77 b0 cA f 63) (ce (sg b0 b) cA h00 63) := z_o rfl rfl
theorem ge_64 {b0 b : Nat} {cA : Nat → ClassId} {f : Nat → va_E} : EQ (g77 b0 cA f 64) (ce (sg b0 b) cA h00 64) := z_i rfl (by decide) (by decide) (by decide)
theorem ge_65 {b0 b : Nat} {cA : Nat → ClassId} {f : Nat → va_E} : EQ (g77 b0 cA f 65) (ce (sg b0 b) cA h00 65) := z_f rfl (by decide)
theorem ge_66 {b0 b : Nat} {cA : Nat → ClassId} {f : Nat → va_E} : EQ (g77 b0 cA f 66) (ce (sg b0 b) cA h00 66) := z_o rfl rfl
theorem ge_67 {b0 b : Nat} {cA : Nat → ClassId} {f : Nat → va_E} : EQ (g77 b0 cA f 67) (ce (sg b0 b) cA h00 67) := z_o rfl rfl
theorem ge_68 {b0 b : Nat} {cA : Nat → ClassId} {f : Nat → va_E} : EQ (g77 b0 cA f 68) (ce (sg b0 b) cA h00 68) := z_o rfl rfl
theorem ge_69 {b0 b : Nat} {cA : Nat → ClassId} {f : Nat → va_E} : EQ (g77 b0 cA f 69) (ce (sg b0 b) cA h00 69) := z_i rfl (by decide) (by decide) (by decide)
theorem ge_70 {b0 b : Nat} {cA : Nat → ClassId} {f : Nat → va_E} : EQ (g77 b0 cA f 70) (ce (sg b0 b) cA h00 70) := z_f rfl (by decide)
theorem ge_71 {b0 b : Nat} {cA : Nat → ClassId} {f : Nat → va_E} : EQ (g77 b0 cA f 71) (ce (sg b0 b) cA h00 71) := z_q rfl (fun j hj => by
    rcases (by omega : j = 0 ∨ j = 1 ∨ j = 2 ∨ j = 3 ∨ j = 4 ∨ j = 5 ∨ j = 6 ∨ j = 7 ∨ j = 8 ∨ j = 9) with rfl | rfl | rfl | rfl | rfl | rfl | rfl | rfl | rfl | rfl <;> rfl)
theorem ge_72 {b0 b : Nat} {cA : Nat → ClassId} {f : Nat → va_E} : EQ (g77 b0 cA f 72) (ce (sg b0 b) cA h00 72) := z_o rfl rfl
theorem ge_73 {b0 b : Nat} {cA : Nat → ClassId} {f : Nat → va_E} : EQ (g77 b0 cA f 73) (ce (sg b0 b) cA h00 73) := z_i rfl (by decide) (by decide) (by decide)
theorem ge_74 {b0 b : Nat} {cA : Nat → ClassId} {f : Nat → va_E} : EQ (g77 b0 cA f 74) (ce (sg b0 b) cA h00 74) := z_f rfl (by decide)
theorem ge_75 {b0 b : Nat} {cA : Nat → ClassId} {f : Nat → va_E} : EQ (g77 b0 cA f 75) (ce (sg b0 b) cA h00 75) := z_z rfl (by decide) (by decide) (by decide)
theorem ge_76 {b0 b : Nat} {cA : Nat → ClassId} {f : Nat → va_E} : EQ (g77 b0 cA f 76) (ce (sg b0 b) cA h00 76) := z_i rfl (by decide) (by decide) (by decide)
theorem fin_eq {b0 b : Nat} {cA : Nat → ClassId} {f : Nat → va_E} : ∀ i, i < 77 → EQ (g77 b0 cA f i) (ce (sg b0 b) cA h00 i)
  | 0, _ => ge_0
  | 1, _ => ge_1
  | 2, _ => ge_2
  | 3, _ => ge_3
  | 4, _ => ge_4
  | 5, _ => ge_5
  | 6, _ => ge_6
  | 7, _ => ge_7
  | 8, _ => ge_8
  | 9, _ => ge_9
  | 10, _ => ge_10
  | 11, _ => ge_11
  | 12, _ => ge_12
  | 13, _ => ge_13
  | 14, _ => ge_14
  | 15, _ => ge_15
  | 16, _ => ge_16
  | 17, _ => ge_17
  | 18, _ => ge_18
  | 19, _ => ge_19
  | 20, _ => ge_20
  | 21, _ => ge_21
  | 22, _ => ge_22
  | 23, _ => ge_23
  | 24, _ => ge_24
  | 25, _ => ge_25
  | 26, _ => ge_26
  | 27, _ => ge_27
  | 28, _ => ge_28
  | 29, _ => ge_29
  | 30, _ => ge_30
  | 31, _ => ge_31
  | 32, _ => ge_32
  | 33, _ => ge_33
  | 34, _ => ge_34
  | 35, _ => ge_35
  | 36, _ => ge_36
  | 37, _ => ge_37
  | 38, _ => ge_38
  | 39, _ => ge_39
  | 40, _ => ge_40
  | 41, _ => ge_41
  | 42, _ => ge_42
  | 43, _ => ge_43
  | 44, _ => ge_44
  | 45, _ => ge_45
  | 46, _ => ge_46
  | 47, _ => ge_47
  | 48, _ => ge_48
  | 49, _ => ge_49
  | 50, _ => ge_50
  | 51, _ => ge_51
  | 52, _ => ge_52
  | 53, _ => ge_53
  | 54, _ => ge_54
  | 55, _ => ge_55
  | 56, _ => ge_56
  | 57, _ => ge_57
  | 58, _ => ge_58
  | 59, _ => ge_59
  | 60, _ => ge_60
  | 61, _ => ge_61
  | 62, _ => ge_62
  | 63, _ => ge_63
  | 64, _ => ge_64
  | 65, _ => ge_65
  | 66, _ => ge_66
  | 67, _ => ge_67
  | 68, _ => ge_68
  | 69, _ => ge_69
  | 70, _ => ge_70
  | 71, _ => ge_71
  | 72, _ => ge_72
  | 73, _ => ge_73
  | 74, _ => ge_74
  | 75, _ => ge_75
  | 76, _ => ge_76
  | i + 77, h => absurd h (by omega)
set_option maxRecDepth 100000 in
set_option maxHeartbeats 4000000 in
theorem law_begin {X : Cxt} {b0 z b : Nat} {cA : Nat → ClassId} (G : BG X RL cL_law 100 600130 7301080 b0 z cA) (kk : BV X b0 77 1886 10 [some (.ref b), some (.ref (b0 + 0)), some (.int (Int32.ofInt 0)), none, none, none, none, none, none, none, none] [] (wl b0 77 (g77 b0 cA (fun _ => .inr (0, []))))) : BV X b0 0 0 0 [some (.ref b), none, none, none, none, none, none, none, none, none, none] [] (wl b0 0 (fun _ => .inr (0, []))) := by
  refine B_new G nb_L_13 (by omega) (by omega) dL_law_0 ?_
  refine B_dup G dL_law_3 rfl ?_
  refine B_cI0 (d1 := 7) (kc1 := 76) (ks1 := 1871) G mi_L_65 dL_law_4 (k_X6 (N := 1) (q := 0) (by decide) up_eq) (by omega) (by omega) (by omega) (Nat.le_of_ble_eq_true rfl) ?_
  refine B_astore1 G dL_law_7 rfl ?_
  refine B_iconst G dL_law_8 (v := Int32.ofInt 0) (by decide) ?_
  refine B_istore2 G dL_law_9 rfl ?_
  exact kk
theorem p27_go {p : Program} {l : Launch} {e : Env} {R : Room} {s : State} {m : MethodId} {args : Array Value} {below : List Frame} {meth : Method} {c : Code} {Q : State → Prop} {D : va_G} {cA : Nat → ClassId} {b L z : Nat} {xs : Nat → Int32} (hlt : l.stackTraces = false) (hL : L ≤ 260)
    (hx : p.tables.exec = Jvm.exec) (hb : c.code = cL_law) (hml : c.maxLocals = 11) (hown : s.vm.findClass RL = some m.cls) (hts : ∀ w ∈ lw_tbl, w.before args s = true) (hlocks : meth.locks = false) (hX : va_X b L xs s s.heap) (hbl : b < s.heap.size)
    (hR : 100 ≤ R.frames ∧ 6400 ≤ R.locals ∧ 600130 ≤ R.cells ∧ 7301080 ≤ R.slots) (hK : va_K D vwCl (atys cA) s) (hGE : GE (fun q => s.heap.size ≤ q) s s.heap) (hEZ : EZ z (fun q => s.heap.size ≤ q) s s.heap)
    (hend : ∀ (H : Heap) (ls : Array Slot), W p l e R s m args below meth c H [] 600130 7301080 Q (F0 m 204 ls [.int 1]))
    {lr : Array Slot} (hl : lok (fun q => q) 11 [some (.ref b), none, none, none, none, none, none, none, none, none, none] lr) : W p l e R s m args below meth c s.heap [] 0 0 Q (F0 m 0 lr []) := by
  have G : BG (p, l, e, R, s, m, args, below, meth, c, D, cA, (fun q => s.heap.size ≤ q), (fun d0 => d0 = s.drawn), Q, (fun q => q), 11) RL cL_law 100 600130 7301080 s.heap.size z cA := ⟨hx, hb, hml, hown, fun w hw => hts w (List.mem_filter.mp hw).1, hK, rfl, Nat.le_refl _, ⟨hGE, hEZ, rfl⟩, hlocks, hR.1, hR.2.1, hR.2.2.1, hR.2.2.2⟩
  refine law_begin (b := b) G ?_ s.heap [] s.drawn lr rfl (by rw [wl_len]; rfl) (fun k q h => by simp [wl] at h) va_S.rf hl
  intro H locs d0 lr1 g1 g0 g2 g3 g4
  subst g1
  have hinj : ∀ i j, i < NN → j < NN → sg s.heap.size b i = sg s.heap.size b j → i = j := fun i j hi hj h => by
    rw [sg_lt (Nat.lt_trans hi (by decide)), sg_lt (Nat.lt_trans hj (by decide))] at h
    omega
  have hA : ∀ i, i < NN → s.heap.size ≤ sg s.heap.size b i := fun i hi => by
    rw [sg_lt (Nat.lt_trans hi (by decide))]
    omega
  refine law_loop (X := (p, l, e, R, s, m, args, below, meth, c, D, cA, (fun q => s.heap.size ≤ q), (fun d0 => d0 = s.drawn), Q, sg s.heap.size b, 11)) (d := 100) (kc := 600130) (ks := 7301080) (L := L) (xs := xs) hlt
    ⟨hx, hb, hml, hown, fun w hw => hts w (List.mem_filter.mp hw).1, hK, ⟨hinj, hA⟩, fun q hq => hq, hGE, hlocks, hR.1, hR.2.1, hR.2.2.1, hR.2.2.2⟩ ⟨b, rfl, hbl, Nat.not_le.mpr hbl, hX⟩ (by omega) ?_ (by omega) (by decide) (by decide) inv0 repC0 rg0 none none none none none none none H locs s.drawn lr1 rfl (by rw [sg_wd]; exact va_P_eqv fin_eq g2) g3 ⟨rfl, g4.2⟩
  intro k1 n1 ls h q1 q2 H1 locs1 d0 lr2 f1 f2 f3 f4
  subst f1
  refine va_forget (fun q hq => f3.2.2 q hq) ?_
  exact W.widen q1 q2 (hend H1 lr2)
end STA
