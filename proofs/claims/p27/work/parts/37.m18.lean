section M18

noncomputable def hvS (c : Cs) (w hd1 : Int) : Int := sumF (fun i => if rowA (AS c) (lfA (lfS c) i) w = hd1 then 1 else 0) (lfS c).length 0
noncomputable def hdsS (c : Cs) (w : Int) : Int := sumF (fun hd1 => if 0 < hvS c w hd1 then 1 else 0) (nS c + 1).toNat (-1)
noncomputable def mosS (c : Cs) (w : Int) : Int := mxF (fun hd1 => hvS c w hd1) (nS c + 1).toNat (-1) 0
theorem hvS_r {c : Cs} (w hd1 : Int) : 0 ≤ hvS c w hd1 ∧ hvS c w hd1 ≤ (lfS c).length := by
  have := sumF_le (f := fun i => if rowA (AS c) (lfA (lfS c) i) w = hd1 then 1 else 0) (b := 1) (by omega) (lfS c).length 0 (fun j => by split <;> omega)
  unfold hvS
  omega
theorem hdsS_r {c : Cs} (w : Int) (hn : nS c ≤ 12) : 0 ≤ hdsS c w ∧ hdsS c w ≤ 13 := by
  have := sumF_le (f := fun hd1 => if 0 < hvS c w hd1 then 1 else 0) (b := 1) (by omega) (nS c + 1).toNat (-1) (fun j => by split <;> omega)
  unfold hdsS
  omega
theorem mosS_r {c : Cs} (w : Int) : 0 ≤ mosS c w ∧ mosS c w ≤ (lfS c).length := mxF_r _ _ _ (fun j _ _ => hvS_r w j) (by omega)
def cntK (c : Cs) (kd : Int) : Int := sumF (fun k => if kdS c k = kd then 1 else 0) (nS c).toNat 0
def hldF (n : Int) (f : Int → Int) (w : Int) : Int := sumF (fun k => if f k = w then 1 else 0) n.toNat 0
theorem hldF_congr {n : Int} {f f' : Int → Int} (hf : ∀ w, 0 ≤ w → w < n → f w = f' w) (w : Int) : hldF n f w = hldF n f' w := sumF_congr _ _ (fun k k1 k2 => by rw [hf k k1 (by omega)])
theorem hldF_r (n : Int) (f : Int → Int) (w : Int) : 0 ≤ hldF n f w ∧ hldF n f w ≤ n.toNat := by
  have := sumF_le (f := fun k => if f k = w then 1 else 0) (b := 1) (by omega) n.toNat 0 (fun j => by split <;> omega)
  unfold hldF
  omega
def tdF (n : Int) (kd f : Int → Int) (w what : Int) : Int := if what = 1 then f w else if what = 2 then heldF kd f w else if what = 3 then levF kd f 12 w + 20 else if what = 4 then hldF n f w else w
noncomputable def drS (c : Cs) : Int := lfA (lfS c) (c 1)
noncomputable def wordS (c : Cs) (w what : Int) : Int :=
  if what = 0 then kdS c w else if what = 6 then (if 0 < fxS c w then 1 else 0) else if what = 7 then hdsS c w else if (lfS c).length = 0 then -1 else tdF (nS c) (kdS c) (rowA (AS c) (drS c)) w what
noncomputable def opWord (g : Sg) (w what : Int) : Rs := if ¬ (0 ≤ w ∧ w < nS g.1) then (1, 0, g) else if ¬ (0 ≤ what ∧ what ≤ 7) then (2, 0, g) else (0, wordS g.1 w what, g)
noncomputable def readS (c : Cs) (p what : Int) : Int :=
  if what = 0 then hgtS c (lfA (lfS c) p) else if what = 1 then cntK c 1 else if what = 2 then cntK c 2 + cntK c 3 + cntK c 4 else if what = 3 then cntK c 5 else if what = 4 then mxF (hldF (nS c) (rowA (AS c) (lfA (lfS c) p))) (nS c).toNat 0 0 else lfA (lfS c) p
noncomputable def opRead (g : Sg) (p what : Int) : Rs := if ¬ (0 ≤ p ∧ p < (lfS g.1).length) then (1, 0, g) else if ¬ (0 ≤ what ∧ what ≤ 5) then (2, 0, g) else (0, readS g.1 p what, g)
def askF (hd mo : Int → Int) : Nat → Int → Int → Int → Int
  | 0, _, b, _ => b
  | m + 1, k, b, f => if 1 < hd k ∧ (b = -1 ∨ mo k < f) then askF hd mo m (k + 1) k (mo k) else askF hd mo m (k + 1) b f
noncomputable def askS (c : Cs) : Int := askF (hdsS c) (mosS c) (nS c).toNat 0 (-1) 0
noncomputable def opAsk (g : Sg) : Rs := (0, askS g.1, g)

noncomputable def wwS (c : Cs) (ms : Int) : Int := sumF (fun k => if (if ms = 0 then hdsS c k = 1 else 1 < hdsS c k) then 1 else 0) (nS c).toNat 0

end M18
