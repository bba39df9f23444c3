section M21

theorem inr_toInt (w : Int32) : inr w.toInt := ⟨Int32.le_toInt w, by have := Int32.toInt_lt w; omega⟩
def bitI (k : Int) : Int := (Int32.ofInt 1 <<< (Int32.ofInt k &&& 31)).toInt
def orI (a b : Int) : Int := (Int32.ofInt a ||| Int32.ofInt b).toInt
noncomputable def addF (p : Int → Prop) : Nat → Int → Int → Int
  | 0, _, a => a
  | m + 1, k, a => addF p m (k + 1) (orI a (@ite _ (p k) (Classical.propDecidable _) (bitI k) 0))
def pushS (c : Cs) (k : Int) : Cs := uC (uC c 0 (nS c + 1)) (2 + nS c) k
def addP (c : Cs) (k : Int) : Prop := 0 < dp (kdS (pushS c k)) 5 0 (nS c + 1)
noncomputable def addS (c : Cs) : Int := if nS c = 12 then 0 else addF (addP c) 7 0 0
noncomputable def opNext (g : Sg) : Rs := (0, addS g.1, g)
noncomputable def shS (c : Cs) : UInt64 := if nS c = 0 then FP.dconst1 else FP.ddiv (FP.i2d (Int32.ofInt (wwS c 0))) (FP.i2d (Int32.ofInt (nS c)))
theorem sh_nan : ∀ a < 13, ∀ b < 13, b = 0 ∨ vf_n64 (FP.ddiv (FP.i2d (Int32.ofInt ((a : Nat) : Int))) (FP.i2d (Int32.ofInt ((b : Nat) : Int)))) := by unfold vf_n64; decide +kernel
theorem sh_n {a b : Int} (ha : 0 ≤ a ∧ a ≤ 12) (hb : 0 < b ∧ b ≤ 12) : vf_n64 (FP.ddiv (FP.i2d (Int32.ofInt a)) (FP.i2d (Int32.ofInt b))) := by
  have := sh_nan a.toNat (by omega) b.toNat (by omega)
  rw [show ((a.toNat : Nat) : Int) = a by omega, show ((b.toNat : Nat) : Int) = b by omega] at this
  exact this.resolve_left (by omega)
theorem sh_eq : ∀ a < 13, ∀ b < 13, b = 0 ∨ FP.dcmp (FP.ddiv (FP.i2d (Int32.ofInt ((a : Nat) : Int))) (FP.i2d (Int32.ofInt ((b : Nat) : Int)))) (FP.ddiv (FP.i2d (Int32.ofInt ((a : Nat) : Int))) (FP.i2d (Int32.ofInt ((b : Nat) : Int)))) = some .eq := by decide +kernel
theorem sh_e {a b : Int} (ha : 0 ≤ a ∧ a ≤ 12) (hb : 0 < b ∧ b ≤ 12) : FP.dcmp (FP.ddiv (FP.i2d (Int32.ofInt a)) (FP.i2d (Int32.ofInt b))) (FP.ddiv (FP.i2d (Int32.ofInt a)) (FP.i2d (Int32.ofInt b))) = some .eq := by
  have := sh_eq a.toNat (by omega) b.toNat (by omega)
  rw [show ((a.toNat : Nat) : Int) = a by omega, show ((b.toNat : Nat) : Int) = b by omega] at this
  exact this.resolve_left (by omega)
theorem wwS_r {c : Cs} (hn : nS c ≤ 12) (ms : Int) : 0 ≤ wwS c ms ∧ wwS c ms ≤ 12 := by
  have := sumF_le (f := fun k => if (if ms = 0 then hdsS c k = 1 else 1 < hdsS c k) then 1 else 0) (b := 1) (by omega) (nS c).toNat 0 (fun j => by split <;> omega)
  unfold wwS
  omega
theorem shS_e {c : Cs} (hn : 0 ≤ nS c ∧ nS c ≤ 12) : FP.dcmp (shS c) (shS c) = some .eq := by
  unfold shS
  split
  · decide +kernel
  · exact sh_e (wwS_r hn.2 0) (by omega)

end M21
