
section M7
theorem aheadF_congr2 {f f' g g' : Int → Int} : ∀ (m : Nat) (w : Int), (∀ j, w ≤ j → j < w + m → f j = f' j ∧ g j = g' j) → aheadF f g m w = aheadF f' g' m w
  | 0, _, _ => rfl
  | m + 1, w, h => by
    rw [aheadF, aheadF, (h w (by omega) (by omega)).1, (h w (by omega) (by omega)).2, aheadF_congr2 m (w + 1) (fun j h1 h2 => h j (by omega) (by omega))]
/-- one row comes ahead of another, by the heads of n words -/
def ahd (n : Int) (f g : Int → Int) : Prop := aheadF f g n.toNat 0 = true
/-- the run over all choices from cw on: the readings that it lays, the last one that is found first -/
def erun (kd : Int → Int) (n : Int) : Nat → (Int → Int) → List (Int → Int) → Prop
  | 0, _, _ => False
  | m + 1, cw, out => ∃ (x : Int) (row : Option (Int → Int)) (nx : Option (Int → Int)) (rest : List (Int → Int)),
      (∀ w, 0 ≤ w → w < 12 → 0 ≤ cw w ∧ cw w ≤ 16) ∧
      (∀ hd cn, (rdF kd cw n.toNat 0 [(0, 0, -1)] hd cn).1 = x ∧ nxF cw (rdF kd cw n.toNat 0 [(0, 0, -1)] hd cn).2.2 x.toNat = nx ∧
        (match (rdF kd cw n.toNat 0 [(0, 0, -1)] hd cn).2.1 with
          | some (L, hd2) => ((0 < n ∧ ∀ e ∈ L, compl e.1) → ∃ f, row = some f ∧ ∀ w, 0 ≤ w → w < n → hd2 w = f w) ∧ (¬ (0 < n ∧ ∀ e ∈ L, compl e.1) → row = none)
          | none => row = none)) ∧
      (match nx with
        | none => rest = []
        | some cw' => erun kd n m cw' rest) ∧ out = rest ++ row.toList
def rowsAt (n : Int) (h : Hp) (B : List (Int → Int)) : Prop := ∀ (i : Nat) (f : Int → Int), B[i]? = some f → ∀ w, 0 ≤ w → w < n → hI h 89 (12 * (i : Int) + w) = f w
def Sl (q : Nat) (j : Int) : Bool := q == 83 || q == 84 || q == 85 || q == 86 || q == 87 || q == 88 || q == 89 || q == 90 || (q == 77 && (j == 11 || j == 16 || j == 18))
theorem Sp_Sl {h h1 : Hp} (e : eqx Sp h h1) : eqx Sl h h1 := e.mono (fun q j z => by
  simp [Sl] at z
  simp [Sp]
  omega)
theorem S89_Sl {h h1 : Hp} (e : eqx S89 h h1) : eqx Sl h h1 := e.mono (fun q j z => by
  simp [Sl] at z
  simp [S89]
  omega)
theorem S86_Sl {h h1 : Hp} (e : eqx S86 h h1) : eqx Sl h h1 := e.mono (fun q j z => by
  simp [Sl] at z
  simp [S86]
  omega)
def fitsP (n b1 : Int) (fx : Int → Int) (row : Int → Int) : Prop := ∀ w : Int, 0 ≤ w → w < n → 0 < fx w ∧ w ≠ b1 → row w = fx w - 2
noncomputable def lfF (p : Int → Prop) : Nat → Int → List Int
  | 0, _ => []
  | m + 1, k => (if whI (p k) = 1 then [k] else []) ++ lfF p m (k + 1)
def leftAt (h : Hp) (l : List Int) : Prop := hI h 77 18 = l.length ∧ ∀ (i : Nat) (z : Int), l[i]? = some z → hI h 90 i = z
theorem whI_eq {p q : Prop} (h : p ↔ q) : whI p = whI q := by
  by_cases z : p
  · rw [whI_t z, whI_t (h.mp z)]
  · rw [whI_f z, whI_f (fun y => z (h.mpr y))]

end M7
