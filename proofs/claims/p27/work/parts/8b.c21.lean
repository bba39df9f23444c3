section C21

def nB (x : UInt64) : Bool := decide (x &&& 0x7fffffffffffffff ≤ 0x7ff0000000000000)
theorem nB_t {x : UInt64} (h : nB x = true) : vf_n64 x := by
  unfold nB at h
  have h2 : x &&& 0x7fffffffffffffff ≤ 0x7ff0000000000000 := of_decide_eq_true h
  exact h2
def bsE (s : UInt64) (e r : Int64) : Bool := nB (FP.dsub s FP.dconst1) && (nB (FP.dmul (FP.dsub s FP.dconst1) 4841369599423283200) && decide ((e <<< ((Int32.ofInt 52).toInt64 &&& 63)) + FP.d2l (FP.dmul (FP.dsub s FP.dconst1) 4841369599423283200) = r))
def bsB : Nat → UInt64 → Int64 → Int64 → Bool
  | 0, s, e, r => bsE s e r
  | m + 1, s, e, r => if 0 ≤ Op.cmpValue (FP.dcmp s FP.dconst1) .g then bsE s e r else nB (FP.dmul s 4611686018427387904) && bsB m (FP.dmul s 4611686018427387904) (e - 1) r
def bsT (x : UInt64) : Bool := if 0 < Op.cmpValue (FP.dcmp x FP.dconst0) .l then bsB 64 x 1023 x.toInt64 else decide ((0 : Int64) = x.toInt64)
theorem bs_all : ∀ b < 13, ∀ a < b + 1, b = 0 ∨ bsT (FP.ddiv (FP.i2d (Int32.ofInt ((a : Nat) : Int))) (FP.i2d (Int32.ofInt ((b : Nat) : Int)))) = true := by decide +kernel
theorem bs_1 : bsT FP.dconst1 = true := by decide +kernel
theorem wwS_n {c : Cs} (hn : 0 ≤ nS c) (ms : Int) : wwS c ms ≤ nS c := by
  have := sumF_le (f := fun k => if (if ms = 0 then hdsS c k = 1 else 1 < hdsS c k) then 1 else 0) (b := 1) (by omega) (nS c).toNat 0 (fun j => by split <;> omega)
  unfold wwS
  omega
theorem bs_sh {c : Cs} (hn : 0 ≤ nS c ∧ nS c ≤ 12) : bsT (shS c) = true := by
  unfold shS
  split
  · exact bs_1
  · next q =>
    have w1 := wwS_r hn.2 0
    have w2 := wwS_n hn.1 0
    have := bs_all (nS c).toNat (by omega) (wwS c 0).toNat (by omega)
    rw [show (((nS c).toNat : Nat) : Int) = nS c by omega, show (((wwS c 0).toNat : Nat) : Int) = wwS c 0 by omega] at this
    exact this.resolve_left (by omega)

end C21
