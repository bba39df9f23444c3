section C9B
/-- the machine's way to count bits -/
def bcU (x y : Int32) : Int32 := (x.toUInt32 >>> (y.toUInt32 &&& Int32.toUInt32 31)).toInt32
def bc1 (x : Int32) : Int32 := x - (bcU x (Int32.ofInt 1) &&& 1431655765)
def bc2 (x : Int32) : Int32 := (x &&& 858993459) + (bcU x (Int32.ofInt 2) &&& 858993459)
def bc3 (x : Int32) : Int32 := (x + bcU x (Int32.ofInt 4)) &&& 252645135
def bc4 (x : Int32) : Int32 := x + bcU x (Int32.ofInt 8)
def bc5 (x : Int32) : Int32 := x + bcU x (Int32.ofInt 16)
def bcE (x : Int32) : Int32 := bc5 (bc4 (bc3 (bc2 (bc1 x)))) &&& Int32.ofInt 63
def popF (m : Int) : Int := sumF (fun y => if m.toNat.testBit y.toNat = true then 1 else 0) 13 0
set_option maxRecDepth 100000 in
theorem bc_all : ∀ a < 128, ∀ b < 64, (bcE (Int32.ofInt ((64 * a + b : Nat) : Int))).toInt = popF ((64 * a + b : Nat) : Int) := by decide +kernel
theorem bc_pop {m : Int} (h : 0 ≤ m ∧ m < 8192) : (bcE (Int32.ofInt m)).toInt = popF m := by
  have := bc_all (m.toNat / 64) (by omega) (m.toNat % 64) (by omega)
  rw [show ((64 * (m.toNat / 64) + m.toNat % 64 : Nat) : Int) = m by omega] at this
  exact this
end C9B
