section INI
/-- the state of a new slate -/
def c00 : Cs := fun _ => 0
def g00 : Sg := (c00, [], none, none, [])
/-- the cells of a new slate and of a new reference -/
def fx0 : List Nat := [3, 40, 49, 53, 56, 59, 62, 65, 70, 74]
def h00 : Hp := (fun q j => if q ∈ fx0 then -2 else if q = 46 ∧ (j = 0 ∨ j = 2) then 6 else if q = 67 ∧ (j = 0 ∨ j = 2) then 2 else 0, fun _ _ => 0, fun q j => if q = 50 ∧ 0 ≤ j then sv6[j.toNat]? else if q = 71 ∧ 0 ≤ j then ([68, 72] : List Nat)[j.toNat]? else none)
theorem hI00 {q : Nat} {j : Int} : hI h00 q j = if q ∈ fx0 then -2 else if q = 46 ∧ (j = 0 ∨ j = 2) then 6 else if q = 67 ∧ (j = 0 ∨ j = 2) then 2 else 0 := rfl
theorem hI00z {q : Nat} {j : Int} (h : q ∉ fx0) (h1 : q ≠ 46) (h2 : q ≠ 67) : hI h00 q j = 0 := by
  rw [hI00, if_neg h, if_neg (fun z => h1 z.1), if_neg (fun z => h2 z.1)]
theorem rds0 : AS c00 = [] := by
  obtain ⟨q1, q2, q3, q4, -⟩ := rdsH_ok (kd := kdS c00) (n := 0) ⟨by omega, by omega⟩ (fun w w0 w1 => by omega) (fun _ => 0)
  have : rds (kdS c00) 0 = [] := by
    by_cases e : rds (kdS c00) 0 = []
    · exact e
    · have := q4.mp e
      rw [dp_diag (Or.inr (Or.inr rfl))] at this
      omega
  exact this
theorem lf0 : lfS c00 = [] := by
  unfold lfS
  rw [rds0]
  rfl
theorem okS0 : okS c00 := ⟨⟨by decide, by decide⟩, fun w w0 w1 => ⟨by show (0 : Int) ≤ 0; omega, by show (0 : Int) ≤ 6; omega⟩, fun w w0 w1 => ⟨by show (0 : Int) ≤ 0; omega, by show (0 : Int) ≤ 14; omega⟩, ⟨by show (0 : Int) ≤ 0; omega, Or.inl (by rw [lf0]; rfl)⟩, fun w w0 w1 => ⟨rfl, rfl⟩⟩
theorem inv0 : InvS g00 := ⟨okS0, fun c h => (by cases h), fun c h => (by cases h), fun c h => (by cases h), Nat.zero_le _, Nat.zero_le _, fun z h => (by cases h)⟩
theorem rg0 : Rg h00 := fun q j => by
  rw [hI00]
  refine ⟨?_, ?_⟩
  · repeat' split
    all_goals omega
  · repeat' split
    all_goals omega
theorem plC_n {t : Nat} (h : t ≤ 6) : plC t ∉ fx0 ∧ plC t ≠ 46 ∧ plC t ≠ 67 := by
  have := (by decide : ∀ t < 7, plC t ∉ fx0 ∧ plC t ≠ 46 ∧ plC t ≠ 67) t (by omega)
  exact this
theorem body0 : BodyC h00 c00 := by
  refine ⟨⟨hI00z (by decide) (by decide) (by decide), hI00z (by decide) (by decide) (by decide), fun w w0 w1 => ?_, fun w w0 w1 => ?_⟩, ⟨?_, fun i f hi => ?_⟩, ⟨fun t ht x x0 x1 => ?_, fun t ht a b ha hab hb hc _ => ?_⟩, ⟨?_, fun i z hi => ?_⟩, fun ne => absurd lf0 ne⟩
  · exact hI00z (by decide) (by decide) (by decide)
  · rw [hI00, if_pos (by decide)]; rfl
  · rw [rds0]; exact hI00z (by decide) (by decide) (by decide)
  · rw [rds0] at hi; simp at hi
  · obtain ⟨n1, n2, n3⟩ := plC_n ht
    exact hI00z n1 n2 n3
  · obtain ⟨n1, n2, n3⟩ := plC_n ht
    have e0 : nS c00 = 0 := rfl
    rw [e0] at hb
    obtain rfl : a = 0 := by omega
    obtain rfl : b = 0 := by omega
    rw [hI00z n1 n2 n3, dp_diag (hc.resolve_left (by omega))]
  · rw [lf0]; exact hI00z (by decide) (by decide) (by decide)
  · rw [lf0] at hi; simp at hi
theorem hR00 {q : Nat} {j : Int} : hR h00 q j = if q = 50 ∧ 0 ≤ j then sv6[j.toNat]? else if q = 71 ∧ 0 ≤ j then ([68, 72] : List Nat)[j.toNat]? else none := rfl
theorem lsc6 : LsC h00 46 50 sv6 := by
  refine ⟨by rw [hI00, if_neg (by decide), if_pos (by decide)]; rfl, fun i x hx => ?_, fun x hx => ⟨(sv6_st x hx).1, (sv6_st x hx).2.2.2.1⟩, by decide⟩
  rw [hR00, if_pos ⟨rfl, by omega⟩, Int.toNat_natCast]
  exact hx
theorem lsc2 : LsC h00 67 71 [68, 72] := by
  refine ⟨by rw [hI00, if_neg (by decide), if_neg (by decide), if_pos (by decide)]; rfl, fun i x hx => ?_, fun x hx => ?_, by decide⟩
  · rw [hR00, if_neg (by omega), if_pos ⟨rfl, by omega⟩, Int.toNat_natCast]
    exact hx
  · simp only [List.mem_cons, List.mem_nil_iff, or_false] at hx
    rcases hx with rfl | rfl
    · exact ⟨by decide, rfl⟩
    · exact ⟨by decide, rfl⟩
theorem repC0 : RepC g00 h00 := ⟨body0, ⟨sv6, List.Perm.refl _, lsc6, hI00z (by decide) (by decide) (by decide), by decide, fun i c h => by simp [g00] at h⟩, ⟨lsc2, hI00z (by decide) (by decide) (by decide), hI00z (by decide) (by decide) (by decide)⟩, ⟨hI00z (by decide) (by decide) (by decide), fun i z h => by simp [g00] at h⟩⟩
theorem repM0 : RepM g00 h00 := ⟨fun j _ _ => hI00z (by decide) (by decide) (by decide), hI00z (by decide) (by decide) (by decide), fun i c h => by simp [g00] at h, hI00z (by decide) (by decide) (by decide), hI00z (by decide) (by decide) (by decide), hI00z (by decide) (by decide) (by decide), fun i z h => by simp [g00] at h⟩
end INI
