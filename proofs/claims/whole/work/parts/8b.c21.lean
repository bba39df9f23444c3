section C21

def nB (x : UInt64) : Bool := decide (x &&& 0x7fffffffffffffff ≤ 0x7ff0000000000000)
theorem nB_t {x : UInt64} (h : nB x = true) : vf_n64 x := by
  unfold nB at h
  have h2 : x &&& 0x7fffffffffffffff ≤ 0x7ff0000000000000 := of_decide_eq_true h
  exact h2
def bsE (s : UInt64) (e r : Int64) : Bool := nB (FP.dsub s FP.dconst1) && (nB (FP.dmul (FP.dsub s FP.dconst1) 4841369599423283200) && decide ((e <<< ((Int32.ofInt 52).toInt64 &&& 63)) + FP.d2l (FP.dmul (FP.dsub s FP.dconst1) 4841369599423283200) = r))
def bsB : Nat → UInt64 → Int64 → Int64 → Bool
  | 0, s, e, r => bsE s e r
  | m + 1, s, e, r => if 0 ≤ Op.cmpValue (FP.dcmp s FP.dconst1) .g then bsE s e r else nB (FP.dmul s 4611686018427387904) && bsB m (FP.dmul s 4611686018427387904) (e - 1) r
def bsT (x : UInt64) : Bool := if 0 < Op.cmpValue (FP.dcmp x FP.dconst0) .l then bsB 64 x 1023 x.toInt64 else decide ((0 : Int64) = x.toInt64)
theorem bs_all : ∀ b < 13, ∀ a < b + 1, b = 0 ∨ bsT (FP.ddiv (FP.i2d (Int32.ofInt ((a : Nat) : Int))) (FP.i2d (Int32.ofInt ((b : Nat) : Int)))) = true := by decide +kernel
theorem bs_1 : bsT FP.dconst1 = true := by decide +kernel
theorem wwS_n {c : Cs} (hn : 0 ≤ nS c) (ms : Int) : wwS c ms ≤ nS c := by
  have := sumF_le (f := fun k => if (if ms = 0 then hdsS c k = 1 else 1 < hdsS c k) then 1 else 0) (b := 1) (by omega) (nS c).toNat 0 (fun j => by split <;> omega)
  unfold wwS
  omega
theorem bs_sh {c : Cs} (hn : 0 ≤ nS c ∧ nS c ≤ 12) : bsT (shS c) = true := by
  unfold shS
  split
  · exact bs_1
  · next q =>
    have w1 := wwS_r hn.2 0
    have w2 := wwS_n hn.1 0
    have := bs_all (nS c).toNat (by omega) (wwS c 0).toNat (by omega)
    rw [show (((nS c).toNat : Nat) : Int) = nS c by omega, show (((wwS c 0).toNat : Nat) : Int) = wwS c 0 by omega] at this
    exact this.resolve_left (by omega)

set_option maxRecDepth 100000 in
set_option maxHeartbeats 1600000 in
theorem c_X6_bitsOfShare {l : Launch} {d : Nat} {h : Hp} {x : UInt64} (hb : bsT x = true) (hd : 2 ≤ d := by omega) : CP l d 0 0 yX6_bitsOfShare cX6_bitsOfShare 7 (Option.some Jvm.ClassFile.FieldType.long) [.double x] h (pL fun y h1 => y = x.toInt64 ∧ h1 = h) := by
  refine CP.ofV (L := [some (.double x), none, none, none, none, none, none]) RX6 (by decide +kernel) rfl (Nat.le_of_ble_eq_true rfl) rfl (fun X hX G E => ?_)
  subst hX
  have lp : ∀ (m : Nat) (k : Int) (s : UInt64) (e : Int64), k + m = 64 → 0 ≤ k → bsB m s e x.toInt64 = true → V X 0 0 18 [some (.double x), none, some (.double s), none, some (.long e), none, some (iv k)] [] h := by
    intro m
    induction m with
    | zero =>
      intro k s e hm hk hb
      refine V_iload6 G dX6_bitsOfShare_18 ?_
      refine V_bipush G dX6_bitsOfShare_20 (by decide) ?_
      refine V_icmpge G dX6_bitsOfShare_22 (tgt := 49) (by decide) (by first | exact r _ _ | assumption | exact ⟨by omega, by omega⟩) (by first | exact r _ _ | assumption | exact ⟨by omega, by omega⟩) (fun c_22 => ?_) (fun c_22 => ?_)
      ·
        have n0 : bsE s e x.toInt64 = true := hb
        simp only [bsE, Bool.and_eq_true, decide_eq_true_eq] at n0
        obtain ⟨n1, n2, n3⟩ := n0
        refine V_lload4 G dX6_bitsOfShare_49 ?_
        refine V_bipush G dX6_bitsOfShare_51 (by decide) ?_
        refine V_lshl G dX6_bitsOfShare_53 ?_
        refine V_dload2 G dX6_bitsOfShare_54 ?_
        refine V_dconst1 G dX6_bitsOfShare_55 ?_
        refine V_dsub G dX6_bitsOfShare_56 (nB_t n1) ?_
        refine V_ldc2d G dX6_bitsOfShare_57 k_X6_357 ?_
        refine V_dmul G dX6_bitsOfShare_60 (nB_t n2) ?_
        refine V_d2l G dX6_bitsOfShare_61 ?_
        refine V_ladd G dX6_bitsOfShare_62 ?_
        exact V_retl E dX6_bitsOfShare_63 rfl ⟨_, rfl, ⟨n3, rfl⟩⟩
      · omega
    | succ m ih =>
      intro k s e hm hk hb
      rw [bsB] at hb
      refine V_iload6 G dX6_bitsOfShare_18 ?_
      refine V_bipush G dX6_bitsOfShare_20 (by decide) ?_
      refine V_icmpge G dX6_bitsOfShare_22 (tgt := 49) (by decide) (by first | exact r _ _ | assumption | exact ⟨by omega, by omega⟩) (by first | exact r _ _ | assumption | exact ⟨by omega, by omega⟩) (fun c_22 => ?_) (fun c_22 => ?_)
      · omega
      ·
        refine V_dload2 G dX6_bitsOfShare_25 ?_
        refine V_dconst1 G dX6_bitsOfShare_26 ?_
        refine V_dcmp G dX6_bitsOfShare_27 ?_
        refine V_ifge_ G dX6_bitsOfShare_28 (tgt := 49) (by decide) (fun c_28 => ?_) (fun c_28 => ?_)
        · rw [if_pos c_28] at hb
          have n0 : bsE s e x.toInt64 = true := hb
          simp only [bsE, Bool.and_eq_true, decide_eq_true_eq] at n0
          obtain ⟨n1, n2, n3⟩ := n0
          refine V_lload4 G dX6_bitsOfShare_49 ?_
          refine V_bipush G dX6_bitsOfShare_51 (by decide) ?_
          refine V_lshl G dX6_bitsOfShare_53 ?_
          refine V_dload2 G dX6_bitsOfShare_54 ?_
          refine V_dconst1 G dX6_bitsOfShare_55 ?_
          refine V_dsub G dX6_bitsOfShare_56 (nB_t n1) ?_
          refine V_ldc2d G dX6_bitsOfShare_57 k_X6_357 ?_
          refine V_dmul G dX6_bitsOfShare_60 (nB_t n2) ?_
          refine V_d2l G dX6_bitsOfShare_61 ?_
          refine V_ladd G dX6_bitsOfShare_62 ?_
          exact V_retl E dX6_bitsOfShare_63 rfl ⟨_, rfl, ⟨n3, rfl⟩⟩
        · rw [if_neg c_28, Bool.and_eq_true] at hb
          refine V_dload2 G dX6_bitsOfShare_31 ?_
          refine V_ldc2d G dX6_bitsOfShare_32 k_X6_355 ?_
          refine V_dmul G dX6_bitsOfShare_35 (nB_t hb.1) ?_
          refine V_dstore2 G dX6_bitsOfShare_36 rfl ?_
          refine V_lload4 G dX6_bitsOfShare_37 ?_
          refine V_lconst G dX6_bitsOfShare_39 rfl ?_
          refine V_lsub G dX6_bitsOfShare_40 ?_
          refine V_lstore4 G dX6_bitsOfShare_41 rfl ?_
          refine V_iinc6 G dX6_bitsOfShare_43 rfl ?_
          refine V_goto G dX6_bitsOfShare_46 (tgt := 18) (by decide) ?_
          exact ih (k + 1) _ _ (by omega) (by omega) hb.2
  unfold bsT at hb
  refine V_dload0 G dX6_bitsOfShare_0 ?_
  refine V_dconst0 G dX6_bitsOfShare_1 ?_
  refine V_dcmp G dX6_bitsOfShare_2 ?_
  refine V_ifgt_ G dX6_bitsOfShare_3 (tgt := 8) (by decide) (fun c_3 => ?_) (fun c_3 => ?_)
  · rw [if_pos c_3] at hb
    refine V_dload0 G dX6_bitsOfShare_8 ?_
    refine V_dstore2 G dX6_bitsOfShare_9 rfl ?_
    refine V_ldc2 G dX6_bitsOfShare_10 k_X6_353 ?_
    refine V_lstore4 G dX6_bitsOfShare_13 rfl ?_
    refine V_iconst G dX6_bitsOfShare_15 ?_
    refine V_istore6 G dX6_bitsOfShare_16 rfl ?_
    exact lp 64 0 _ _ (by omega) (by omega) hb
  · rw [if_neg c_3] at hb
    refine V_lconst G dX6_bitsOfShare_6 rfl ?_
    exact V_retl E dX6_bitsOfShare_7 rfl ⟨_, rfl, ⟨of_decide_eq_true hb, rfl⟩⟩

end C21
