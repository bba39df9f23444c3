section M17

def bestF (f : Int → Int) : Nat → Int → Int → Int
  | 0, _, b => b
  | m + 1, k, b => bestF f m (k + 1) (if f k < f b then k else b)
noncomputable def flS (c : Cs) : Int := bestF (fun k => hgtS c (lfA (lfS c) k)) ((lfS c).length - 1) 1 0
noncomputable def opFlat (g : Sg) : Rs := if (lfS g.1).length = 0 then (1, 0, g) else (0, flS g.1, (uC g.1 1 (flS g.1), savL g.2.1 g.1, g.2.2))
def wrS (c : Cs) : List Int := (List.range (nS c).toNat).map (fun (w : Nat) => letF (kdS c (w : Int)))
noncomputable def opWrite (g : Sg) : Rs := if (lfS g.1).length = 0 then (1, 0, g) else (0, nS g.1, (g.1, g.2.1, g.2.2.1, g.2.2.2.1, wrS g.1))
noncomputable def opFix (g : Sg) (w hd1 : Int) : Rs :=
  if ¬ (0 ≤ w ∧ w < nS g.1) ∨ ¬ (-1 ≤ hd1 ∧ hd1 < nS g.1 ∧ hd1 ≠ w) then (1, 0, g) else if lbS g.1 w hd1 = 0 then (2, 0, g) else
  (0, lbS g.1 w hd1, (uC (uC g.1 (14 + w) (hd1 + 2)) 1 0, savL g.2.1 g.1, g.2.2))
noncomputable def opIf (g : Sg) (w hd1 : Int) : Rs :=
  if ¬ (0 ≤ w ∧ w < nS g.1) ∨ ¬ (-1 ≤ hd1 ∧ hd1 < nS g.1 ∧ hd1 ≠ w) then (1, 0, g) else (0, lbS g.1 w hd1, g)
theorem lbS_r {c : Cs} (hA : (AS c).length ≤ 42) (w hd1 : Int) : 0 ≤ lbS c w hd1 ∧ lbS c w hd1 ≤ 42 := by
  have := sumF_le (f := fun k => if whI (fitsP (nS c) w (fxS c) (rowA (AS c) k)) = 1 ∧ rowA (AS c) k w = hd1 then 1 else 0) (b := 1) (by omega) (AS c).length 0 (fun j => by split <;> omega)
  unfold lbS
  omega
theorem LaidM.eq {c : Cs} {h h1 : Hp} (L : LaidM c h) (e : ∀ q j, q = 89 ∨ q = 90 ∨ q = 77 ∧ (j = 16 ∨ j = 18) → hI h1 q j = hI h q j) : LaidM c h1 :=
  ⟨(e 77 16 (by omega)).trans L.1, fun i f hi w q1 q2 => (e 89 _ (by omega)).trans (L.2.1 i f hi w q1 q2), (e 77 18 (by omega)).trans L.2.2.1, fun i z hi => (e 90 _ (by omega)).trans (L.2.2.2 i z hi)⟩

end M17
