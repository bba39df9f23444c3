section C22

theorem body_31 {h h1 : Hp} {c : Cs} (B : BodyC h c) (e : eqx (S7 31) h h1) : BodyC h1 c := B.eq (fun z j q => e.1 z j (S7_31 (by omega))) (fun j => by rw [e.2.1])

theorem slB_c {h : Hp} {k : Int} {q : Nat} {s : Option Cs} (a : slC h k q s) : (hI h 75 k = 0 ∧ slB s = 0) ∨ (hI h 75 k = 1 ∧ slB s = 1) := by
  cases s with
  | none => exact Or.inl ⟨a, rfl⟩
  | some c => exact Or.inr ⟨a.1, rfl⟩

end C22
