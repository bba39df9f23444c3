section M6
theorem aheadF_congr {f g g' : Int → Int} : ∀ (m : Nat) (w : Int), (∀ j, w ≤ j → j < w + m → g j = g' j) → aheadF f g m w = aheadF f g' m w
  | 0, _, _ => rfl
  | m + 1, w, h => by
    rw [aheadF, aheadF, h w (by omega) (by omega), aheadF_congr m (w + 1) (fun j h1 h2 => h j (by omega) (by omega))]
def S89 (q : Nat) (j : Int) : Bool := q == 89 || (q == 77 && j == 16)

end M6
