
section M10
def savL (S : List Cs) (c : Cs) : List Cs := (if S.length = 6 then S.tail else S) ++ [c]
def begS (c : Cs) : Cs := fun j => if j = 1 ∨ (14 ≤ j ∧ j < 26) then 0 else c j
/-- a call's answer: what was thrown (0: nothing), the number, the state behind it -/
abbrev Rs : Type := Int × Int × Sg
def ores (o : Rs) (x : Int) (h1 : Hp) : Prop := hI h1 77 0 = o.1 ∧ RepM o.2.2 h1 ∧ (o.1 = 0 → x = o.2.1)

theorem begS_at {c : Cs} {j : Int} (h : ¬ (j = 1 ∨ (14 ≤ j ∧ j < 26))) : begS c j = c j := if_neg h

end M10
