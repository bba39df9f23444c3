section M14

def letF (k : Int) : Int := if k = 0 then 110 else if k = 1 then 118 else if k = 2 then 97 else if k = 3 then 100 else if k = 4 then 112 else if k = 5 then 99 else 116
def knF (z : Int) : Int := if z = 110 then 0 else if z = 118 then 1 else if z = 97 then 2 else if z = 100 then 3 else if z = 112 then 4 else if z = 99 then 5 else if z = 116 then 6 else -1
def kF (z : Int) : Nat → Int → Int → Int
  | 0, _, its => its
  | m + 1, k, its => kF z m (k + 1) (if letF k = z then k else its)
theorem kF_7 (z : Int) : kF z 7 0 (-1) = knF z := by
  simp only [kF, letF, knF]
  simp
  repeat' split
  all_goals omega
theorem knF_r (z : Int) : -1 ≤ knF z ∧ knF z ≤ 6 := by
  unfold knF
  repeat' split
  all_goals omega
theorem letF_r (k : Int) : 97 ≤ letF k ∧ letF k ≤ 118 := by
  unfold letF
  repeat' split
  all_goals omega
theorem kF_r (z : Int) : ∀ (m : Nat) (k its : Int), -1 ≤ its ∧ its ≤ 12 → -1 ≤ k → k + m ≤ 12 → -1 ≤ kF z m k its ∧ kF z m k its ≤ 12
  | 0, _, _, h, _, _ => h
  | m + 1, k, its, h, h1, h2 => by
    rw [kF]
    refine kF_r z m (k + 1) _ ?_ (by omega) (by omega)
    split <;> omega

/-- the first character that can't be: from k on, at most m more looks -/
def erF (b : Int → Int) (len : Int) : Nat → Int → Int
  | 0, k => k
  | m + 1, k => if k < len ∧ k < 12 ∧ knF (b k) ≠ -1 then erF b len m (k + 1) else k
def bfA (bf : List Int) : Int → Int := fun k => (bf[k.toNat]?).getD 0
def erS (bf : List Int) : Int := erF (bfA bf) bf.length 12 0
theorem erF_r (b : Int → Int) (len : Int) : ∀ (m : Nat) (k : Int), 0 ≤ k → k ≤ len → k + m ≤ 12 → k ≤ erF b len m k ∧ erF b len m k ≤ len ∧ erF b len m k ≤ 12
  | 0, k, h, h2, h3 => by simp [erF]; omega
  | m + 1, k, h, h2, h3 => by
    rw [erF]
    split
    · have := erF_r b len m (k + 1) (by omega) (by omega) (by omega)
      omega
    · omega
theorem erF_all (b : Int → Int) (len : Int) : ∀ (m : Nat) (k : Int), 0 ≤ k → erF b len m k = len → ∀ j, k ≤ j → j < len → knF (b j) ≠ -1
  | 0, k, h, h2, j, j1, j2 => by simp [erF] at h2; omega
  | m + 1, k, h, h2, j, j1, j2 => by
    rw [erF] at h2
    split at h2
    · next hc =>
      by_cases e : j = k
      · rw [e]; exact hc.2.2
      · exact erF_all b len m (k + 1) (by omega) h2 j (by omega) j2
    · omega
theorem RepM.bf {g : Sg} {h : Hp} (R : RepM g h) {k : Int} (k0 : 0 ≤ k) (k1 : k < g.2.2.2.2.length) : hI h 82 k = bfA g.2.2.2.2 k := by
  obtain ⟨z, hz⟩ : ∃ z, g.2.2.2.2[k.toNat]? = some z := ⟨_, List.getElem?_eq_getElem (by omega)⟩
  have := R.2.2.2.2.2.2 k.toNat z hz
  unfold bfA
  rw [hz]
  rwa [show ((k.toNat : Nat) : Int) = k by omega] at this

def opFE (g : Sg) : Rs := (0, erS g.2.2.2.2, g)
def loadC (c : Cs) (bf : List Int) : Cs := fun j => if j = 0 then bf.length else if 2 ≤ j ∧ j < 14 then (if j - 2 < bf.length then knF (bfA bf (j - 2)) else 0) else c j
noncomputable def opLoad (g : Sg) : Rs :=
  if g.2.2.2.2.length = 0 ∨ erS g.2.2.2.2 < g.2.2.2.2.length then (1, 0, g) else
  (0, (AS (begS (loadC g.1 g.2.2.2.2))).length, (begS (loadC g.1 g.2.2.2.2), savL g.2.1 g.1, g.2.2.1, g.2.2.2.1, []))

end M14
