section C3
theorem toNat_ofInt {a : Nat} (h : a < 2147483648) : (Int32.ofInt (a : Int)).toBitVec.toNat = a := by
  show (BitVec.ofInt 32 (a : Int)).toNat = a
  rw [BitVec.toNat_ofInt]
  omega
theorem toInt_small {w : Int32} (h : w.toBitVec.toNat < 2147483648) : w.toInt = (w.toBitVec.toNat : Int) := by
  show w.toBitVec.toInt = _
  rw [BitVec.toInt_eq_toNat_of_lt (by omega)]
theorem orI_nat {a b : Nat} (ha : a < 2147483648) (hb : b < 2147483648) : orI (a : Int) (b : Int) = ((a ||| b : Nat) : Int) := by
  have e : (Int32.ofInt (a : Int) ||| Int32.ofInt (b : Int)).toBitVec.toNat = a ||| b := by
    rw [Int32.toBitVec_or, BitVec.toNat_or, toNat_ofInt ha, toNat_ofInt hb]
  have hlt : a ||| b < 2147483648 := Nat.or_lt_two_pow (n := 31) ha hb
  unfold orI
  rw [toInt_small (by rw [e]; exact hlt), e]
theorem bitI_nat : ∀ k : Nat, k < 14 → bitI (k : Int) = ((2 ^ k : Nat) : Int) := by decide
/-- bit k of a mask -/
abbrev inM (m k : Int) : Prop := m.toNat.testBit k.toNat = true
theorem orI_bit {a k : Int} {n : Nat} (hn : n ≤ 14) (ha : 0 ≤ a ∧ a < 2 ^ n) (hk : 0 ≤ k ∧ k < n) : (0 ≤ orI a (bitI k) ∧ orI a (bitI k) < 2 ^ n) ∧ ∀ y : Int, 0 ≤ y → (inM (orI a (bitI k)) y ↔ inM a y ∨ y = k) := by
  obtain ⟨A, rfl⟩ : ∃ A : Nat, a = A := ⟨a.toNat, by omega⟩
  obtain ⟨K, rfl⟩ : ∃ K : Nat, k = K := ⟨k.toNat, by omega⟩
  have h14 : (2 : Nat) ^ n ≤ 2 ^ 14 := Nat.pow_le_pow_right (by omega) hn
  have hA : A < 2 ^ n := by
    have := ha.2
    exact_mod_cast this
  have hK : 2 ^ K < 2 ^ n := Nat.pow_lt_pow_right (by omega) (by omega)
  have e14 : (2 : Nat) ^ 14 = 16384 := by decide
  rw [bitI_nat K (by omega), orI_nat (by omega) (by omega)]
  have hlt : A ||| 2 ^ K < 2 ^ n := Nat.or_lt_two_pow hA hK
  refine ⟨⟨by omega, by exact_mod_cast hlt⟩, fun y hy => ?_⟩
  obtain ⟨Y, rfl⟩ : ∃ Y : Nat, y = Y := ⟨y.toNat, by omega⟩
  unfold inM
  simp only [Int.toNat_natCast, Nat.testBit_or, Nat.testBit_two_pow, Bool.or_eq_true, decide_eq_true_eq]
  constructor
  · rintro (h | h)
    · exact Or.inl h
    · exact Or.inr (by omega)
  · rintro (h | h)
    · exact Or.inl h
    · exact Or.inr (by omega)
theorem shr_bit {m k : Int} (hm : 0 ≤ m ∧ m < 2147483648) (hk : 0 ≤ k ∧ k < 31) : ((Int32.ofInt m >>> (Int32.ofInt k &&& 31)) &&& Int32.ofInt 1).toInt = if inM m k then 1 else 0 := by
  obtain ⟨M, rfl⟩ : ∃ A : Nat, m = A := ⟨m.toNat, by omega⟩
  obtain ⟨K, rfl⟩ : ∃ A : Nat, k = A := ⟨k.toNat, by omega⟩
  have hk2 : (Int32.ofInt (K : Int) &&& 31) = Int32.ofInt (K : Int) := by
    apply Int32.toBitVec_inj.mp
    apply BitVec.eq_of_toNat_eq
    rw [Int32.toBitVec_and, BitVec.toNat_and, toNat_ofInt (by omega)]
    show K &&& 31 = K
    rw [show (31 : Nat) = 2 ^ 5 - 1 by decide, Nat.and_two_pow_sub_one_eq_mod]
    omega
  have e : ((Int32.ofInt (M : Int) >>> (Int32.ofInt (K : Int) &&& 31)) &&& Int32.ofInt 1).toBitVec.toNat = (M >>> K) % 2 := by
    rw [hk2, Int32.toBitVec_and, BitVec.toNat_and, Int32.toBitVec_shiftRight]
    have e1 : (Int32.ofInt (K : Int)).toBitVec.smod 32 = BitVec.ofNat 32 K := by
      apply BitVec.eq_of_toInt_eq
      rw [BitVec.toInt_smod]
      have h1 : (Int32.ofInt (K : Int)).toBitVec.toInt = K := by
        rw [BitVec.toInt_eq_toNat_of_lt (by rw [toNat_ofInt (by omega)]; omega), toNat_ofInt (by omega)]
      rw [h1, show (32 : BitVec 32).toInt = 32 by decide, show (BitVec.ofNat 32 K).toInt = K by
        rw [BitVec.toInt_eq_toNat_of_lt (by rw [BitVec.toNat_ofNat]; omega), BitVec.toNat_ofNat]
        omega, Int.fmod_eq_emod_of_nonneg _ (by omega)]
      omega
    rw [e1]
    show (BitVec.sshiftRight' _ _).toNat &&& 1 = _
    rw [BitVec.sshiftRight_eq', BitVec.toNat_sshiftRight_of_msb_false (by
      rw [BitVec.msb_eq_false_iff_two_mul_lt, toNat_ofInt (by omega)]; omega), toNat_ofInt (by omega), BitVec.toNat_ofNat, Nat.mod_eq_of_lt (by omega), Nat.and_one_is_mod]
  rw [toInt_small (by rw [e]; omega), e]
  have e3 : inM (M : Int) (K : Int) ↔ (M >>> K) % 2 = 1 := by
    unfold inM
    simp only [Int.toNat_natCast, Nat.testBit, Nat.one_and_eq_mod_two, bne_iff_ne]
    omega
  by_cases z : inM (M : Int) (K : Int)
  · rw [if_pos z, e3.mp z]; rfl
  · rw [if_neg z]
    have q : ¬ (M >>> K) % 2 = 1 := fun y => z (e3.mpr y)
    clear e3 e z hk2
    generalize M >>> K = Z at q ⊢
    omega

/-- the head of a word in a reading's number -/
def hdI (c : Int64) (w : Int) : Int := ((c.toUInt64 >>> ((Int32.ofInt (4 * w)).toInt64.toUInt64 &&& Int64.toUInt64 63)).toInt64 &&& 15).toInt32.toInt - 1
/-- a reading's number -/
def cdF (f : Int → Int) : Nat → Int → Int64 → Int64
  | 0, _, a => a
  | m + 1, k, a => cdF f m (k + 1) (a ||| (z2l (f k + 1) <<< ((Int32.ofInt (4 * k)).toInt64 &&& 63)))
theorem z2l_nat {a : Nat} (h : a < 2147483648) : (z2l (a : Int)).toBitVec.toNat = a := by
  show ((Int32.ofInt (a : Int)).toBitVec.signExtend 64).toNat = a
  rw [BitVec.signExtend_eq_setWidth_of_msb_false (by rw [BitVec.msb_eq_false_iff_two_mul_lt, toNat_ofInt h]; omega), BitVec.toNat_setWidth, toNat_ofInt h]
  omega
theorem sh_nat {k : Nat} (h : k < 12) : ((Int32.ofInt (4 * (k : Int))).toInt64 &&& 63).toBitVec.toNat = 4 * k ∧ ((Int32.ofInt (4 * (k : Int))).toInt64.toUInt64 &&& Int64.toUInt64 63).toBitVec.toNat = 4 * k := by
  have e : (4 * (k : Int)) = ((4 * k : Nat) : Int) := by omega
  have e1 := z2l_nat (a := 4 * k) (by omega)
  unfold z2l at e1
  rw [e]
  have e2 : 4 * k &&& 63 = 4 * k := by
    rw [show (63 : Nat) = 2 ^ 6 - 1 by decide, Nat.and_two_pow_sub_one_eq_mod]
    omega
  constructor
  · rw [Int64.toBitVec_and, BitVec.toNat_and, e1]
    exact e2
  · rw [UInt64.toBitVec_and, BitVec.toNat_and]
    show (Int32.ofInt ((4 * k : Nat) : Int)).toInt64.toBitVec.toNat &&& 63 = _
    rw [e1]
    exact e2
theorem put4 {A V k w : Nat} (hA : A < 16 ^ k) (hV : V < 16) : ((A ||| (V <<< (4 * k))) >>> (4 * w)) % 16 = if w = k then V else (A >>> (4 * w)) % 16 := by
  have h16 : (16 : Nat) ^ k = 2 ^ (4 * k) := by rw [show (16 : Nat) = 2 ^ 4 by decide, ← Nat.pow_mul]
  rw [h16] at hA
  apply Nat.eq_of_testBit_eq
  intro i
  by_cases hi : i < 4
  · by_cases e : w = k
    · subst e
      rw [if_pos rfl, show (16 : Nat) = 2 ^ 4 by decide, Nat.testBit_mod_two_pow, Nat.testBit_shiftRight, Nat.testBit_or, Nat.testBit_lt_two_pow (Nat.lt_of_lt_of_le hA (Nat.pow_le_pow_right (by omega) (by omega))), Nat.testBit_shiftLeft]
      simp [hi]
    · rw [if_neg e, show (16 : Nat) = 2 ^ 4 by decide, Nat.testBit_mod_two_pow, Nat.testBit_mod_two_pow, Nat.testBit_shiftRight, Nat.testBit_shiftRight, Nat.testBit_or, Nat.testBit_shiftLeft]
      by_cases g : 4 * w + i ≥ 4 * k
      · have : V.testBit (4 * w + i - 4 * k) = false := Nat.testBit_lt_two_pow (Nat.lt_of_lt_of_le hV (show 16 ≤ 2 ^ (4 * w + i - 4 * k) from Nat.pow_le_pow_right (n := 2) (i := 4) (by omega) (by omega)))
        simp [this]
      · simp [g]
  · have h1 : ∀ x : Nat, (x % 16).testBit i = false := fun x => by
      rw [show (16 : Nat) = 2 ^ 4 by decide, Nat.testBit_mod_two_pow]
      simp [hi]
    rw [h1]
    split
    · exact (Nat.testBit_lt_two_pow (Nat.lt_of_lt_of_le hV (show 16 ≤ 2 ^ i from Nat.pow_le_pow_right (n := 2) (i := 4) (by omega) (by omega)))).symm
    · exact (h1 _).symm
theorem or_nat {a : Int64} {V k : Nat} (hk : k < 12) (hA : a.toBitVec.toNat < 16 ^ k) (hV : V < 16) : (a ||| (z2l (V : Int) <<< ((Int32.ofInt (4 * (k : Int))).toInt64 &&& 63))).toBitVec.toNat = a.toBitVec.toNat ||| (V <<< (4 * k)) := by
  rw [Int64.toBitVec_or, BitVec.toNat_or, Int64.toBitVec_shiftLeft]
  have e := (sh_nat hk).1
  have e1 : ((Int32.ofInt (4 * (k : Int))).toInt64 &&& 63).toBitVec.smod 64 = BitVec.ofNat 64 (4 * k) := by
    apply BitVec.eq_of_toInt_eq
    rw [BitVec.toInt_smod, BitVec.toInt_eq_toNat_of_lt (by rw [e]; omega), e, show (64 : BitVec 64).toInt = 64 by decide, show (BitVec.ofNat 64 (4 * k)).toInt = ((4 * k : Nat) : Int) by
      rw [BitVec.toInt_eq_toNat_of_lt (by rw [BitVec.toNat_ofNat]; omega), BitVec.toNat_ofNat]
      omega, Int.fmod_eq_emod_of_nonneg _ (by omega)]
    omega
  rw [e1]
  congr 1
  show ((z2l (V : Int)).toBitVec <<< (BitVec.ofNat 64 (4 * k))).toNat = _
  rw [BitVec.shiftLeft_eq', BitVec.toNat_shiftLeft, z2l_nat (by omega), BitVec.toNat_ofNat, Nat.mod_eq_of_lt (show 4 * k < 2 ^ 64 by omega)]
  apply Nat.mod_eq_of_lt
  rw [Nat.shiftLeft_eq]
  have : 2 ^ (4 * k) ≤ 2 ^ 44 := Nat.pow_le_pow_right (by omega) (by omega)
  have h2 : V * 2 ^ (4 * k) ≤ 16 * 2 ^ 44 := Nat.mul_le_mul (by omega) this
  have h3 : (16 : Nat) * 2 ^ 44 < 2 ^ 64 := by decide
  omega
theorem cdF_at {f : Int → Int} {n : Nat} (hn : n ≤ 12) (hf : ∀ w : Int, 0 ≤ w → w < n → -1 ≤ f w ∧ f w ≤ 14) : ∀ (m k : Nat) (a : Int64), k + m = n → a.toBitVec.toNat < 16 ^ k → (∀ w : Nat, w < k → (a.toBitVec.toNat >>> (4 * w)) % 16 = (f w + 1).toNat) →
    ∀ w : Nat, w < n → ((cdF f m k a).toBitVec.toNat >>> (4 * w)) % 16 = (f w + 1).toNat
  | 0, k, a, hk, _, h, w, hw => by
    show (a.toBitVec.toNat >>> (4 * w)) % 16 = _
    exact h w (by omega)
  | m + 1, k, a, hk, hA, h, w, hw => by
    have hfk := hf k (by omega) (by omega)
    have hV : (f k + 1).toNat < 16 := by omega
    have e := or_nat (a := a) (V := (f k + 1).toNat) (k := k) (by omega) hA hV
    rw [show (((f k + 1).toNat : Nat) : Int) = f k + 1 by omega] at e
    have hpow : (16 : Nat) ^ (k + 1) = 16 ^ k * 16 := Nat.pow_succ 16 k
    refine cdF_at hn hf m (k + 1) _ (by omega) ?_ ?_ w hw
    · rw [e]
      have h16 : (16 : Nat) ^ (k + 1) = 2 ^ (4 * k + 4) := by rw [show (16 : Nat) = 2 ^ 4 by decide, ← Nat.pow_mul]; congr 1
      have h17 : (16 : Nat) ^ k = 2 ^ (4 * k) := by rw [show (16 : Nat) = 2 ^ 4 by decide, ← Nat.pow_mul]
      rw [h16]
      refine Nat.or_lt_two_pow (Nat.lt_of_lt_of_le hA (by rw [h17]; exact Nat.pow_le_pow_right (by omega) (by omega))) ?_
      rw [Nat.shiftLeft_eq, Nat.pow_add, Nat.mul_comm]
      exact Nat.mul_lt_mul_of_pos_left (by omega) (Nat.two_pow_pos _)
    · intro w2 hw2
      rw [e, put4 hA hV]
      by_cases z : w2 = k
      · subst z; rw [if_pos rfl]
      · rw [if_neg z]; exact h w2 (by omega)
theorem hdI_nat {c : Int64} {w : Nat} (hw : w < 12) : hdI c w = (((c.toBitVec.toNat >>> (4 * w)) % 16 : Nat) : Int) - 1 := by
  unfold hdI
  have e2 := (sh_nat hw).2
  have e : ((c.toUInt64 >>> ((Int32.ofInt (4 * (w : Int))).toInt64.toUInt64 &&& Int64.toUInt64 63)).toInt64 &&& 15).toBitVec.toNat = (c.toBitVec.toNat >>> (4 * w)) % 16 := by
    rw [Int64.toBitVec_and, BitVec.toNat_and]
    show (c.toUInt64 >>> _).toBitVec.toNat &&& 15 = _
    rw [UInt64.toBitVec_shiftRight]
    have e3 : (((Int32.ofInt (4 * (w : Int))).toInt64.toUInt64 &&& Int64.toUInt64 63).toBitVec % 64).toNat = 4 * w := by
      rw [BitVec.toNat_umod, e2]
      show (4 * w) % 64 = _
      omega
    rw [BitVec.ushiftRight_eq', BitVec.toNat_ushiftRight, e3, show (15 : Nat) = 2 ^ 4 - 1 by decide, Nat.and_two_pow_sub_one_eq_mod]
    rfl
  generalize hx : ((c.toUInt64 >>> ((Int32.ofInt (4 * (w : Int))).toInt64.toUInt64 &&& Int64.toUInt64 63)).toInt64 &&& 15) = x at e
  have h16 : x.toBitVec.toNat < 16 := by rw [e]; omega
  have e4 : x.toInt32.toBitVec.toNat = x.toBitVec.toNat := by
    show (x.toBitVec.signExtend 32).toNat = _
    rw [BitVec.signExtend_eq_setWidth_of_msb_false (by rw [BitVec.msb_eq_false_iff_two_mul_lt]; omega), BitVec.toNat_setWidth]
    omega
  rw [toInt_small (by rw [e4]; omega), e4, e]
/-- a reading's number tells its heads -/
theorem hdI_cdF {f : Int → Int} {n w : Int} (hn : 0 ≤ n ∧ n ≤ 12) (hf : ∀ w : Int, 0 ≤ w → w < n → -1 ≤ f w ∧ f w ≤ 14) (hw : 0 ≤ w ∧ w < n) : hdI (cdF f n.toNat 0 0) w = f w := by
  obtain ⟨W, rfl⟩ : ∃ A : Nat, w = A := ⟨w.toNat, by omega⟩
  have h := cdF_at (f := f) (n := n.toNat) (by omega) (fun w w1 w2 => hf w w1 (by omega)) n.toNat 0 0 (by omega) (by decide) (fun w hw => by omega) W (by omega)
  rw [hdI_nat (by omega)]
  rw [show ((0 : Nat) : Int) = 0 from rfl] at h
  rw [h]
  have := hf W (by omega) hw.2
  omega

theorem V_alenZ {X : Cxt} {own : String} {cc : ByteArray} {d kc ks k n pc : Nat} {ls : List (Option Value)} {st : List Value} {h : Hp} (G : Gd X own cc d kc ks) {q t N : Nat} (hd : decode cc pc = .ok (.arraylength, 1)) (hq : q < NN) (hs : SH q = .inr (t, N)) (ht : t < 4) (kk : V X k n (pc + 1) ls (.int (Int32.ofInt ((N : Nat) : Int)) :: st) h) : V X k n pc ls (.ref q :: st) h := V_alen G hd hq hs ht Int32.ofInt_eq_ofNat.symm kk

/-- a Readings' places: the object, its codes, kinds, heads -/
def isRd (q : Nat) : Prop := q < NN ∧ q + 1 < NN ∧ q + 2 < NN ∧ q + 3 < NN ∧ SH q = .inl 4 ∧ RF q 0 = some (q + 1) ∧ RF q 2 = some (q + 2) ∧ RF q 3 = some (q + 3) ∧ SH (q + 1) = .inr (1, 42) ∧ SH (q + 2) = .inr (0, 12) ∧ SH (q + 3) = .inr (0, 12)
theorem isRd_all : isRd 4 ∧ isRd 41 := by
  unfold isRd
  repeat' apply And.intro
  all_goals first | rfl | decide
/-- within a search: so many words, their kinds, the heads that are set -/
def RdX (h : Hp) (q : Nat) (n : Int) (ka hd : Int → Int) : Prop := Rg h ∧ hI h q 4 = n ∧ (0 ≤ n ∧ n ≤ 12) ∧ (∀ w, kAt (fun w => hI h (q + 2) w) n w = ka w) ∧ (∀ j, hI h (q + 3) j = hd j) ∧ ∀ w, 0 ≤ ka w ∧ ka w ≤ 6
theorem RdX.set {h : Hp} {q : Nat} {n : Int} {ka hd : Int → Int} (x : RdX h q n ka hd) {w v : Int} (hv : inr v) : RdX (sI h (q + 3) w v) q n ka (upH hd w v) := by
  obtain ⟨x1, x2, x3, x4, x5, x6⟩ := x
  refine ⟨x1.sI hv, by rw [hI_sI, if_neg (by omega)]; exact x2, x3, fun w' => ?_, fun j => ?_, x6⟩
  · rw [← x4 w']
    congr 1
    funext z
    rw [hI_sI, if_neg (by omega)]
  · rw [hI_sI]
    unfold upH
    by_cases e : j = w
    · rw [if_pos ⟨rfl, e⟩, if_pos e]
    · rw [if_neg (fun z => e z.2), if_neg e]; exact x5 j
theorem RdX.hr {h : Hp} {q : Nat} {n : Int} {ka hd : Int → Int} (x : RdX h q n ka hd) (j : Int) : inr (hd j) := by rw [← x.2.2.2.2.1 j]; exact x.1 _ _
def flw (a : Int) : Int := if a = 0 then 58 else if a = 1 then 93 else if a = 3 then 24 else 5
theorem flw_inM : ∀ a : Int, 0 ≤ a ∧ a ≤ 6 → ∀ b : Int, 0 ≤ b ∧ b ≤ 6 → (inM (flw a) b ↔ follows a b) := by
  intro a ha b hb
  have : a = 0 ∨ a = 1 ∨ a = 2 ∨ a = 3 ∨ a = 4 ∨ a = 5 ∨ a = 6 := by omega
  have : b = 0 ∨ b = 1 ∨ b = 2 ∨ b = 3 ∨ b = 4 ∨ b = 5 ∨ b = 6 := by omega
  rcases ‹a = 0 ∨ _› with rfl | rfl | rfl | rfl | rfl | rfl | rfl <;> rcases ‹b = 0 ∨ _› with rfl | rfl | rfl | rfl | rfl | rfl | rfl <;> simp [inM, flw, follows] <;> decide
theorem inM_11 {b : Int} (hb : 0 ≤ b ∧ b ≤ 6) : inM 11 b ↔ b = 0 ∨ b = 1 ∨ b = 3 := by
  have : b = 0 ∨ b = 1 ∨ b = 2 ∨ b = 3 ∨ b = 4 ∨ b = 5 ∨ b = 6 := by omega
  rcases this with rfl | rfl | rfl | rfl | rfl | rfl | rfl <;> decide
theorem inM_56 {b : Int} (hb : 0 ≤ b ∧ b ≤ 6) : inM 56 b ↔ b = 3 ∨ b = 4 ∨ b = 5 := by
  have : b = 0 ∨ b = 1 ∨ b = 2 ∨ b = 3 ∨ b = 4 ∨ b = 5 ∨ b = 6 := by omega
  rcases this with rfl | rfl | rfl | rfl | rfl | rfl | rfl <;> decide
theorem flw_r (a : Int) : 0 ≤ flw a ∧ flw a ≤ 93 := by
  unfold flw
  repeat' split
  all_goals omega

set_option maxRecDepth 100000 in
set_option maxHeartbeats 1500000 in
theorem c_X3_total {l : Launch} {d : Nat} {h : Hp} {q : Nat} (hq : isRd q) (hd : 1 ≤ d := by omega) : CP l d 0 0 yX3_total cX3_total 1 (Option.some Jvm.ClassFile.FieldType.int) [.ref q] h (pI fun x h1 => x = hI h q 1 ∧ h1 = h) := by
  refine CP.ofV (L := [some (.ref q)]) RX3 (by decide +kernel) rfl (Nat.le_of_ble_eq_true rfl) rfl (fun X hX G E => ?_)
  subst hX
  obtain ⟨hq0, hq1, hq2, hq3, hs0, hf0, hf2, hf3, hs1, hs2, hs3⟩ := hq
  refine V_aload0 G dX3_total_0 ?_
  refine V_getIe (jz := 1) G fl_X3_15 dX3_total_1 (by first | decide | assumption) (by first | rfl | assumption) rfl rfl (by first | (simp only [hI_sI, hI_sL, hL_sI, hL_sL, false_and, true_and, and_false, and_true, and_self, if_false, if_true]; first | done | rfl) | rfl) ?_
  exact V_reti E dX3_total_4 rfl rfl ⟨_, rfl, ⟨rfl, rfl⟩⟩

set_option maxRecDepth 100000 in
set_option maxHeartbeats 1500000 in
theorem c_X3_codeAt {l : Launch} {d : Nat} {h : Hp} {q : Nat} (hq : isRd q) {k : Int} (hk : 0 ≤ k ∧ k < 42) (hd : 1 ≤ d := by omega) : CP l d 0 0 yX3_codeAt cX3_codeAt 2 (Option.some Jvm.ClassFile.FieldType.long) [.ref q, iv k] h (pL fun x h1 => x = hL h (q + 1) k ∧ h1 = h) := by
  refine CP.ofV (L := [some (.ref q), some (.int (Int32.ofInt k))]) RX3 (by decide +kernel) rfl (Nat.le_of_ble_eq_true rfl) rfl (fun X hX G E => ?_)
  subst hX
  obtain ⟨hq0, hq1, hq2, hq3, hs0, hf0, hf2, hf3, hs1, hs2, hs3⟩ := hq
  refine V_iload1 G dX3_codeAt_0 ?_
  refine V_iflt G dX3_codeAt_1 (tgt := 22) (by decide) (by first | exact r _ _ | assumption | exact ⟨by omega, by omega⟩) (fun c_1 => ?_) (fun c_1 => ?_)
  · omega
  ·
    refine V_iload1 G dX3_codeAt_4 ?_
    refine V_aload0 G dX3_codeAt_5 ?_
    refine V_getR G fl_X3_9 dX3_codeAt_6 (by first | decide | assumption) (by first | rfl | assumption) rfl (by first | rfl | assumption) ?_
    refine V_alenZ G dX3_codeAt_9 (by first | decide | assumption) (by first | rfl | assumption) (by decide) ?_
    refine V_icmpge G dX3_codeAt_10 (tgt := 22) (by decide) (by first | exact r _ _ | assumption | exact ⟨by omega, by omega⟩) (by first | exact r _ _ | assumption | exact ⟨by omega, by omega⟩) (fun c_10 => ?_) (fun c_10 => ?_)
    · omega
    ·
      refine V_aload0 G dX3_codeAt_13 ?_
      refine V_getR G fl_X3_9 dX3_codeAt_14 (by first | decide | assumption) (by first | rfl | assumption) rfl (by first | rfl | assumption) ?_
      refine V_iload1 G dX3_codeAt_17 ?_
      refine V_lalde G dX3_codeAt_18 (by first | decide | assumption) (by first | rfl | assumption) (by decide) ⟨by omega, by omega⟩ (by first | (simp only [hI_sI, hI_sL, hL_sI, hL_sL, false_and, true_and, and_false, and_true, and_self, if_false, if_true]; first | done | rfl) | rfl) ?_
      refine V_goto G dX3_codeAt_19 (tgt := 23) (by decide) ?_
      exact V_retl E dX3_codeAt_23 rfl ⟨_, rfl, ⟨rfl, rfl⟩⟩

set_option maxRecDepth 100000 in
set_option maxHeartbeats 1500000 in
theorem c_X3_headIn {l : Launch} {d : Nat} {h : Hp} {c : Int64} {w : Int} (hw : 0 ≤ w ∧ w < 12) (hd : 1 ≤ d := by omega) : CP l d 0 0 yX3_headIn cX3_headIn 3 (Option.some Jvm.ClassFile.FieldType.int) [.long c, iv w] h (pI fun x h1 => x = hdI c w ∧ h1 = h) := by
  refine CP.ofV (L := [some (.long c), none, some (.int (Int32.ofInt w))]) RX3 (by decide +kernel) rfl (Nat.le_of_ble_eq_true rfl) rfl (fun X hX G E => ?_)
  subst hX
  refine V_lload0 G dX3_headIn_0 ?_
  refine V_iconst G dX3_headIn_1 ?_
  refine V_iload2 G dX3_headIn_2 ?_
  refine V_imul G dX3_headIn_3 ?_
  refine V_lushr G dX3_headIn_4 ?_
  refine V_ldc2 G dX3_headIn_5 k_X3_29 ?_
  refine V_land G dX3_headIn_8 ?_
  refine V_l2i_ G dX3_headIn_9 ?_
  refine V_ibit G (z := _) rfl ?_
  refine V_iconst G dX3_headIn_10 ?_
  refine V_isub G dX3_headIn_11 ?_
  exact V_reti E dX3_headIn_12 rfl rfl ⟨_, rfl, ⟨rfl, rfl⟩⟩

set_option maxRecDepth 100000 in
set_option maxHeartbeats 1500000 in
theorem c_X3_kindAt {l : Launch} {d : Nat} {h : Hp} {q : Nat} (hq : isRd q) {n : Int} {ka he : Int → Int} (x0 : RdX h q n ka he) {w : Int} (hw : inr w) (hd : 1 ≤ d := by omega) : CP l d 0 0 yX3_kindAt cX3_kindAt 2 (Option.some Jvm.ClassFile.FieldType.int) [.ref q, iv w] h (pI fun x h1 => x = ka w ∧ h1 = h) := by
  refine CP.ofV (L := [some (.ref q), some (.int (Int32.ofInt w))]) RX3 (by decide +kernel) rfl (Nat.le_of_ble_eq_true rfl) rfl (fun X hX G E => ?_)
  subst hX
  obtain ⟨hq0, hq1, hq2, hq3, hs0, hf0, hf2, hf3, hs1, hs2, hs3⟩ := hq
  have hx_ := x0
  obtain ⟨r, hn, hn0, hka, hhd, hk6⟩ := x0
  refine V_iload1 G dX3_kindAt_0 ?_
  refine V_iflt G dX3_kindAt_1 (tgt := 30) (by decide) (by first | exact r _ _ | assumption | exact ⟨by omega, by omega⟩) (fun c_1 => ?_) (fun c_1 => ?_)
  ·
    refine V_bipush G dX3_kindAt_30 (by decide) ?_
    exact V_reti E dX3_kindAt_32 rfl rfl ⟨_, rfl, ⟨by rw [← hka]; unfold kAt; first | (rw [if_pos (by omega)]; done) | (rw [if_neg (by omega)]; done), rfl⟩⟩
  ·
    refine V_iload1 G dX3_kindAt_4 ?_
    refine V_aload0 G dX3_kindAt_5 ?_
    refine V_getIe (jz := 4) G fl_X3_26 dX3_kindAt_6 (by first | decide | assumption) (by first | rfl | assumption) rfl rfl (by first | (simp only [hI_sI, hI_sL, hL_sI, hL_sL, false_and, true_and, and_false, and_true, and_self, if_false, if_true, hn]; first | done | rfl) | rfl) ?_
    refine V_icmpge G dX3_kindAt_9 (tgt := 30) (by decide) (by first | exact r _ _ | assumption | exact ⟨by omega, by omega⟩) (by first | exact r _ _ | assumption | exact ⟨by omega, by omega⟩) (fun c_9 => ?_) (fun c_9 => ?_)
    ·
      refine V_bipush G dX3_kindAt_30 (by decide) ?_
      exact V_reti E dX3_kindAt_32 rfl rfl ⟨_, rfl, ⟨by rw [← hka]; unfold kAt; first | (rw [if_pos (by omega)]; done) | (rw [if_neg (by omega)]; done), rfl⟩⟩
    ·
      refine V_iload1 G dX3_kindAt_12 ?_
      refine V_aload0 G dX3_kindAt_13 ?_
      refine V_getR G fl_X3_19 dX3_kindAt_14 (by first | decide | assumption) (by first | rfl | assumption) rfl (by first | rfl | assumption) ?_
      refine V_alenZ G dX3_kindAt_17 (by first | decide | assumption) (by first | rfl | assumption) (by decide) ?_
      refine V_icmpge G dX3_kindAt_18 (tgt := 30) (by decide) (by first | exact r _ _ | assumption | exact ⟨by omega, by omega⟩) (by first | exact r _ _ | assumption | exact ⟨by omega, by omega⟩) (fun c_18 => ?_) (fun c_18 => ?_)
      ·
        refine V_bipush G dX3_kindAt_30 (by decide) ?_
        exact V_reti E dX3_kindAt_32 rfl rfl ⟨_, rfl, ⟨by rw [← hka]; unfold kAt; first | (rw [if_pos (by omega)]; done) | (rw [if_neg (by omega)]; done), rfl⟩⟩
      ·
        refine V_aload0 G dX3_kindAt_21 ?_
        refine V_getR G fl_X3_19 dX3_kindAt_22 (by first | decide | assumption) (by first | rfl | assumption) rfl (by first | rfl | assumption) ?_
        refine V_iload1 G dX3_kindAt_25 ?_
        refine V_ialde G dX3_kindAt_26 (by first | decide | assumption) (by first | rfl | assumption) (by decide) ⟨by omega, by omega⟩ (by first | (simp only [hI_sI, hI_sL, hL_sI, hL_sL, false_and, true_and, and_false, and_true, and_self, if_false, if_true, hn]; first | done | rfl) | rfl) ?_
        refine V_goto G dX3_kindAt_27 (tgt := 32) (by decide) ?_
        exact V_reti E dX3_kindAt_32 rfl rfl ⟨_, rfl, ⟨by rw [← hka]; unfold kAt; first | (rw [if_pos (by omega)]; done) | (rw [if_neg (by omega)]; done), rfl⟩⟩

set_option maxRecDepth 100000 in
set_option maxHeartbeats 1500000 in
theorem c_X3_headAt {l : Launch} {d : Nat} {h : Hp} {q : Nat} (hq : isRd q) {n : Int} {ka he : Int → Int} (x0 : RdX h q n ka he) {w : Int} (hw : 0 ≤ w ∧ w < 12) (hd : 1 ≤ d := by omega) : CP l d 0 0 yX3_headAt cX3_headAt 2 (Option.some Jvm.ClassFile.FieldType.int) [.ref q, iv w] h (pI fun x h1 => x = he w ∧ h1 = h) := by
  refine CP.ofV (L := [some (.ref q), some (.int (Int32.ofInt w))]) RX3 (by decide +kernel) rfl (Nat.le_of_ble_eq_true rfl) rfl (fun X hX G E => ?_)
  subst hX
  obtain ⟨hq0, hq1, hq2, hq3, hs0, hf0, hf2, hf3, hs1, hs2, hs3⟩ := hq
  have hx_ := x0
  obtain ⟨r, hn, hn0, hka, hhd, hk6⟩ := x0
  refine V_iload1 G dX3_headAt_0 ?_
  refine V_iflt G dX3_headAt_1 (tgt := 22) (by decide) (by first | exact r _ _ | assumption | exact ⟨by omega, by omega⟩) (fun c_1 => ?_) (fun c_1 => ?_)
  · omega
  ·
    refine V_iload1 G dX3_headAt_4 ?_
    refine V_aload0 G dX3_headAt_5 ?_
    refine V_getR G fl_X3_23 dX3_headAt_6 (by first | decide | assumption) (by first | rfl | assumption) rfl (by first | rfl | assumption) ?_
    refine V_alenZ G dX3_headAt_9 (by first | decide | assumption) (by first | rfl | assumption) (by decide) ?_
    refine V_icmpge G dX3_headAt_10 (tgt := 22) (by decide) (by first | exact r _ _ | assumption | exact ⟨by omega, by omega⟩) (by first | exact r _ _ | assumption | exact ⟨by omega, by omega⟩) (fun c_10 => ?_) (fun c_10 => ?_)
    · omega
    ·
      refine V_aload0 G dX3_headAt_13 ?_
      refine V_getR G fl_X3_23 dX3_headAt_14 (by first | decide | assumption) (by first | rfl | assumption) rfl (by first | rfl | assumption) ?_
      refine V_iload1 G dX3_headAt_17 ?_
      refine V_ialde G dX3_headAt_18 (by first | decide | assumption) (by first | rfl | assumption) (by decide) ⟨by omega, by omega⟩ (by first | (simp only [hI_sI, hI_sL, hL_sI, hL_sL, false_and, true_and, and_false, and_true, and_self, if_false, if_true, hhd]; first | done | rfl) | rfl) ?_
      refine V_goto G dX3_headAt_19 (tgt := 23) (by decide) ?_
      exact V_reti E dX3_headAt_23 rfl rfl ⟨_, rfl, ⟨rfl, rfl⟩⟩

set_option maxRecDepth 100000 in
set_option maxHeartbeats 1500000 in
theorem c_X3_setHead {l : Launch} {d : Nat} {h : Hp} {q : Nat} (hq : isRd q) {w v : Int} (hw : 0 ≤ w ∧ w < 12) (hd : 1 ≤ d := by omega) : CP l d 0 0 yX3_setHead cX3_setHead 3 (Option.none : Option Jvm.ClassFile.FieldType) [.ref q, iv w, iv v] h (pV fun h1 => h1 = sI h (q + 3) w v) := by
  refine CP.ofV (L := [some (.ref q), some (.int (Int32.ofInt w)), some (.int (Int32.ofInt v))]) RX3 (by decide +kernel) rfl (Nat.le_of_ble_eq_true rfl) rfl (fun X hX G E => ?_)
  subst hX
  obtain ⟨hq0, hq1, hq2, hq3, hs0, hf0, hf2, hf3, hs1, hs2, hs3⟩ := hq
  refine V_iload1 G dX3_setHead_0 ?_
  refine V_iflt G dX3_setHead_1 (tgt := 20) (by decide) (by first | exact r _ _ | assumption | exact ⟨by omega, by omega⟩) (fun c_1 => ?_) (fun c_1 => ?_)
  · omega
  ·
    refine V_iload1 G dX3_setHead_4 ?_
    refine V_aload0 G dX3_setHead_5 ?_
    refine V_getR G fl_X3_23 dX3_setHead_6 (by first | decide | assumption) (by first | rfl | assumption) rfl (by first | rfl | assumption) ?_
    refine V_alenZ G dX3_setHead_9 (by first | decide | assumption) (by first | rfl | assumption) (by decide) ?_
    refine V_icmpge G dX3_setHead_10 (tgt := 20) (by decide) (by first | exact r _ _ | assumption | exact ⟨by omega, by omega⟩) (by first | exact r _ _ | assumption | exact ⟨by omega, by omega⟩) (fun c_10 => ?_) (fun c_10 => ?_)
    · omega
    ·
      refine V_aload0 G dX3_setHead_13 ?_
      refine V_getR G fl_X3_23 dX3_setHead_14 (by first | decide | assumption) (by first | rfl | assumption) rfl (by first | rfl | assumption) ?_
      refine V_iload1 G dX3_setHead_17 ?_
      refine V_iload2 G dX3_setHead_18 ?_
      refine V_iast G dX3_setHead_19 (by first | decide | assumption) (by first | rfl | assumption) (by decide) ⟨by omega, by omega⟩ ?_
      exact V_retv E dX3_setHead_20 rfl ⟨rfl, rfl⟩

set_option maxRecDepth 100000 in
set_option maxHeartbeats 1500000 in
theorem c_X3_followersOf {l : Launch} {d : Nat} {h : Hp} {a : Int} (ha : 0 ≤ a ∧ a ≤ 6) (hd : 1 ≤ d := by omega) : CP l d 0 0 yX3_followersOf cX3_followersOf 1 (Option.some Jvm.ClassFile.FieldType.int) [iv a] h (pI fun x h1 => x = flw a ∧ h1 = h) := by
  refine CP.ofV (L := [some (.int (Int32.ofInt a))]) RX3 (by decide +kernel) rfl (Nat.le_of_ble_eq_true rfl) rfl (fun X hX G E => ?_)
  subst hX
  refine V_iload0 G dX3_followersOf_0 ?_
  rcases (show a = 0 ∨ a = 1 ∨ a = 3 ∨ a = 2 ∨ (a < 0 ∨ 3 < a) by omega) with e_1 | e_1 | e_1 | e_1 | e_1
  · rw [e_1]
    refine V_tableIn G dX3_followersOf_1 (tgt := 32) ⟨by decide, by decide⟩ (by decide) (by decide) rfl (by decide) ?_
    refine V_bipush G dX3_followersOf_32 (by decide) ?_
    exact V_reti E dX3_followersOf_34 rfl rfl ⟨_, rfl, ⟨by unfold flw; first | (rw [if_pos (by omega)]; done) | (rw [if_neg (by omega), if_pos (by omega)]; done) | (rw [if_neg (by omega), if_neg (by omega), if_pos (by omega)]; done) | (rw [if_neg (by omega), if_neg (by omega), if_neg (by omega)]; done), rfl⟩⟩
  · rw [e_1]
    refine V_tableIn G dX3_followersOf_1 (tgt := 35) ⟨by decide, by decide⟩ (by decide) (by decide) rfl (by decide) ?_
    refine V_bipush G dX3_followersOf_35 (by decide) ?_
    exact V_reti E dX3_followersOf_37 rfl rfl ⟨_, rfl, ⟨by unfold flw; first | (rw [if_pos (by omega)]; done) | (rw [if_neg (by omega), if_pos (by omega)]; done) | (rw [if_neg (by omega), if_neg (by omega), if_pos (by omega)]; done) | (rw [if_neg (by omega), if_neg (by omega), if_neg (by omega)]; done), rfl⟩⟩
  · rw [e_1]
    refine V_tableIn G dX3_followersOf_1 (tgt := 38) ⟨by decide, by decide⟩ (by decide) (by decide) rfl (by decide) ?_
    refine V_bipush G dX3_followersOf_38 (by decide) ?_
    exact V_reti E dX3_followersOf_40 rfl rfl ⟨_, rfl, ⟨by unfold flw; first | (rw [if_pos (by omega)]; done) | (rw [if_neg (by omega), if_pos (by omega)]; done) | (rw [if_neg (by omega), if_neg (by omega), if_pos (by omega)]; done) | (rw [if_neg (by omega), if_neg (by omega), if_neg (by omega)]; done), rfl⟩⟩
  · rw [e_1]
    refine V_tableIn G dX3_followersOf_1 (tgt := 41) ⟨by decide, by decide⟩ (by decide) (by decide) rfl (by decide) ?_
    refine V_iconst G dX3_followersOf_41 ?_
    exact V_reti E dX3_followersOf_42 rfl rfl ⟨_, rfl, ⟨by unfold flw; first | (rw [if_pos (by omega)]; done) | (rw [if_neg (by omega), if_pos (by omega)]; done) | (rw [if_neg (by omega), if_neg (by omega), if_pos (by omega)]; done) | (rw [if_neg (by omega), if_neg (by omega), if_neg (by omega)]; done), rfl⟩⟩
  ·
    refine V_tableOut G dX3_followersOf_1 (tgt := 41) ⟨by omega, by omega⟩ (by omega) (by decide) ?_
    refine V_iconst G dX3_followersOf_41 ?_
    exact V_reti E dX3_followersOf_42 rfl rfl ⟨_, rfl, ⟨by unfold flw; first | (rw [if_pos (by omega)]; done) | (rw [if_neg (by omega), if_pos (by omega)]; done) | (rw [if_neg (by omega), if_neg (by omega), if_pos (by omega)]; done) | (rw [if_neg (by omega), if_neg (by omega), if_neg (by omega)]; done), rfl⟩⟩


theorem shr_bit_z {m k : Int} (hm : 0 ≤ m ∧ m < 2147483648) (hk : 0 ≤ k ∧ k < 31) : (Int32.ofInt (Int32.ofInt m >>> (Int32.ofInt k &&& 31)).toInt &&& Int32.ofInt 1).toInt = if inM m k then 1 else 0 := by
  rw [← zi_re (Int32.ofInt m >>> (Int32.ofInt k &&& 31))]
  exact shr_bit hm hk

set_option maxRecDepth 100000 in
set_option maxHeartbeats 1500000 in
theorem c_X3_inMask {l : Launch} {d : Nat} {h : Hp} {m k : Int} (hm : 0 ≤ m ∧ m < 2147483648) (hk : 0 ≤ k ∧ k < 31) (hd : 1 ≤ d := by omega) : CP l d 0 0 yX3_inMask cX3_inMask 2 (Option.some Jvm.ClassFile.FieldType.boolean) [iv m, iv k] h (pI fun x h1 => x = bI (inM m k) ∧ h1 = h) := by
  refine CP.ofV (L := [some (.int (Int32.ofInt m)), some (.int (Int32.ofInt k))]) RX3 (by decide +kernel) rfl (Nat.le_of_ble_eq_true rfl) rfl (fun X hX G E => ?_)
  subst hX
  refine V_iload0 G dX3_inMask_0 ?_
  refine V_iload1 G dX3_inMask_1 ?_
  refine V_ishr_ G dX3_inMask_2 ?_
  refine V_ibit G (z := _) (rfl) ?_
  refine V_iconst G dX3_inMask_3 ?_
  refine V_iand_ G dX3_inMask_4 ?_
  refine V_ibit G (z := if inM m k then 1 else 0) (shr_bit_z hm hk) ?_
  refine V_ifeq G dX3_inMask_5 (tgt := 12) (by decide) (by split <;> exact ⟨by decide, by decide⟩) (fun c_5 => ?_) (fun c_5 => ?_)
  ·
    have c9 : ¬ inM m k := fun z => by rw [if_pos z] at c_5; exact absurd c_5 (by decide)
    refine V_iconst G dX3_inMask_12 ?_
    exact V_reti E dX3_inMask_13 rfl rfl ⟨_, rfl, ⟨by first | exact bI_t c9 | exact bI_f c9, rfl⟩⟩
  ·
    have c9 : inM m k := Decidable.byContradiction (fun z => by rw [if_neg z] at c_5; exact absurd rfl c_5)
    refine V_iconst G dX3_inMask_8 ?_
    refine V_goto G dX3_inMask_9 (tgt := 13) (by decide) ?_
    exact V_reti E dX3_inMask_13 rfl rfl ⟨_, rfl, ⟨by first | exact bI_t c9 | exact bI_f c9, rfl⟩⟩

set_option maxRecDepth 100000 in
set_option maxHeartbeats 1500000 in
theorem c_X3_isJoined {l : Launch} {d : Nat} {h : Hp} {q : Nat} (hq : isRd q) {n : Int} {ka he : Int → Int} (x0 : RdX h q n ka he) {a b : Int} (ha : 0 ≤ a) (hab : a < b) (hb : b ≤ n) (hd : 2 ≤ d := by omega) : CP l d 0 0 yX3_isJoined cX3_isJoined 4 (Option.some Jvm.ClassFile.FieldType.boolean) [.ref q, iv a, iv b] h (pI fun x h1 => x = bI (joinedF ka he a (b - a - 1).toNat (a + 1) = true) ∧ h1 = h) := by
  refine CP.ofV (L := [some (.ref q), some (.int (Int32.ofInt a)), some (.int (Int32.ofInt b)), none]) RX3 (by decide +kernel) rfl (Nat.le_of_ble_eq_true rfl) rfl (fun X hX G E => ?_)
  subst hX
  have hq_ := hq
  obtain ⟨hq0, hq1, hq2, hq3, hs0, hf0, hf2, hf3, hs1, hs2, hs3⟩ := hq
  have hx_ := x0
  obtain ⟨r, hn, hn0, hka, hhd, hk6⟩ := x0
  have lp : ∀ (m : Nat) (k : Int) , k + m = b → a + 1 ≤ k → joinedF ka he a m k = joinedF ka he a (b - a - 1).toNat (a + 1) → V X 0 0 4 [some (.ref q), some (.int (Int32.ofInt a)), some (.int (Int32.ofInt b)), some (.int (Int32.ofInt k))] [] h := by
    intro m
    induction m with
    | zero =>
      intro k hm_ hk0 hs
      refine V_iload3 G dX3_isJoined_4 ?_
      refine V_iload2 G dX3_isJoined_5 ?_
      refine V_icmpge G dX3_isJoined_6 (tgt := 35) (by decide) (by first | exact r _ _ | assumption | exact ⟨by omega, by omega⟩) (by first | exact r _ _ | assumption | exact ⟨by omega, by omega⟩) (fun c_6 => ?_) (fun c_6 => ?_)
      ·
        refine V_iconst G dX3_isJoined_35 ?_
        exact V_reti E dX3_isJoined_36 rfl rfl ⟨_, rfl, ⟨bI_f (by rw [← hs]; simp [joinedF]), rfl⟩⟩
      · omega
    | succ m ih =>
      intro k hm_ hk0 hs
      refine V_iload3 G dX3_isJoined_4 ?_
      refine V_iload2 G dX3_isJoined_5 ?_
      refine V_icmpge G dX3_isJoined_6 (tgt := 35) (by decide) (by first | exact r _ _ | assumption | exact ⟨by omega, by omega⟩) (by first | exact r _ _ | assumption | exact ⟨by omega, by omega⟩) (fun c_6 => ?_) (fun c_6 => ?_)
      · omega
      ·
        refine V_aload0 G dX3_isJoined_9 ?_
        refine V_iload3 G dX3_isJoined_10 ?_
        refine V_cV1i (d1 := 1) G m_X3_48 dX3_isJoined_11 (by first | decide | assumption) (by first | rfl | assumption) (c_X3_kindAt hq_ hx_ (w := k) ⟨by omega, by omega⟩) (by omega) (by omega) (by omega) (Nat.le_of_ble_eq_true rfl) (fun x_11 h_11 hp_11 => ?_)
        rw [hp_11.1, hp_11.2]
        have kr := hk6 k
        refine V_iconst G dX3_isJoined_14 ?_
        refine V_icmpne G dX3_isJoined_15 (tgt := 29) (by decide) (by first | exact r _ _ | assumption | exact ⟨by omega, by omega⟩) (by first | exact r _ _ | assumption | exact ⟨by omega, by omega⟩) (fun c_15 => ?_) (fun c_15 => ?_)
        ·
          refine V_iinc3 G dX3_isJoined_29 rfl ?_
          refine V_goto G dX3_isJoined_32 (tgt := 4) (by decide) ?_
          first
          | exact ih (k + 1) (by omega) (by omega) (by rw [← hs, joinedF, if_neg (by omega)])
        ·
          refine V_aload0 G dX3_isJoined_18 ?_
          refine V_iload3 G dX3_isJoined_19 ?_
          refine V_cV1i (d1 := 1) G m_X3_73 dX3_isJoined_20 (by first | decide | assumption) (by first | rfl | assumption) (c_X3_headAt hq_ hx_ (w := k) (by omega)) (by omega) (by omega) (by omega) (Nat.le_of_ble_eq_true rfl) (fun x_20 h_20 hp_20 => ?_)
          rw [hp_20.1, hp_20.2]
          refine V_iload1 G dX3_isJoined_23 ?_
          refine V_icmpne G dX3_isJoined_24 (tgt := 29) (by decide) (hx_.hr k) ⟨by omega, by omega⟩ (fun c_24 => ?_) (fun c_24 => ?_)
          ·
            refine V_iinc3 G dX3_isJoined_29 rfl ?_
            refine V_goto G dX3_isJoined_32 (tgt := 4) (by decide) ?_
            first
            | exact ih (k + 1) (by omega) (by omega) (by rw [← hs, joinedF, if_neg (by omega)])
          ·
            refine V_iconst G dX3_isJoined_27 ?_
            exact V_reti E dX3_isJoined_28 rfl rfl ⟨_, rfl, ⟨bI_t (by rw [← hs, joinedF, if_pos (by omega)]), rfl⟩⟩
  refine V_iload1 G dX3_isJoined_0 ?_
  refine V_iconst G dX3_isJoined_1 ?_
  refine V_iadd G dX3_isJoined_2 ?_
  refine V_istore3 G dX3_isJoined_3 rfl ?_
  exact lp (b - a - 1).toNat (a + 1) (by omega) (by omega) rfl


theorem openF_neg {he : Int → Int} {y : Int} : ∀ {m : Nat} {w : Int}, w < 0 → openF he y m w = false
  | 0, _, _ => rfl
  | m + 1, w, h => by rw [openF, if_pos h]
theorem open_step {he : Int → Int} {a w w' y : Int} {m : Nat} {T : Bool} (ha : 0 ≤ a ∧ a < 2 ^ 12) (hw : 0 ≤ w ∧ w < 12) (hy : 0 ≤ y) (hw' : w' = if he w < w then he w else -1) (hs : (inM a y ∨ openF he y (m + 1) w = true) ↔ T = true) : (inM (orI a (bitI w)) y ∨ openF he y m w' = true) ↔ T = true := by
  rw [(orI_bit (n := 12) (by decide) ha (k := w) (by omega)).2 y hy, ← hs, openF, if_neg (by omega), ← hw']
  by_cases e : w = y
  · rw [if_pos e]; simp [e]
  · rw [if_neg e]; simp [Ne.symm e]

set_option maxRecDepth 100000 in
set_option maxHeartbeats 1500000 in
theorem c_X3_openBehind {l : Launch} {d : Nat} {h : Hp} {q : Nat} (hq : isRd q) {n : Int} {ka he : Int → Int} (x0 : RdX h q n ka he) {l0 : Int} (hl0 : -1 ≤ l0 ∧ l0 < 12) (hd : 2 ≤ d := by omega) : CP l d 0 0 yX3_openBehind cX3_openBehind 5 (Option.some Jvm.ClassFile.FieldType.int) [.ref q, iv l0] h (pI fun x h1 => (0 ≤ x ∧ x < 2 ^ 12 ∧ ∀ y : Int, 0 ≤ y → (inM x y ↔ openF he y 12 l0 = true)) ∧ h1 = h) := by
  refine CP.ofV (L := [some (.ref q), some (.int (Int32.ofInt l0)), none, none, none]) RX3 (by decide +kernel) rfl (Nat.le_of_ble_eq_true rfl) rfl (fun X hX G E => ?_)
  subst hX
  have hq_ := hq
  obtain ⟨hq0, hq1, hq2, hq3, hs0, hf0, hf2, hf3, hs1, hs2, hs3⟩ := hq
  have hx_ := x0
  obtain ⟨r, hn, hn0, hka, hhd, hk6⟩ := x0
  have lp : ∀ (m : Nat) (k : Int) (a : Int) (w : Int), k + m = 12 → 0 ≤ k → inr w ∧ w < 12 → 0 ≤ a ∧ a < 2 ^ 12 → (∀ y : Int, 0 ≤ y → ((inM a y ∨ openF he y m w = true) ↔ openF he y 12 l0 = true)) → V X 0 0 7 [some (.ref q), some (.int (Int32.ofInt l0)), some (.int (Int32.ofInt a)), some (.int (Int32.ofInt w)), some (.int (Int32.ofInt k))] [] h := by
    intro m
    induction m with
    | zero =>
      intro k a w hm_ hk0 hw ha hs
      refine V_iload4 G dX3_openBehind_7 ?_
      refine V_bipush G dX3_openBehind_9 (by decide) ?_
      refine V_icmpge G dX3_openBehind_11 (tgt := 49) (by decide) (by first | exact r _ _ | assumption | exact ⟨by omega, by omega⟩) (by first | exact r _ _ | assumption | exact ⟨by omega, by omega⟩) (fun c_11 => ?_) (fun c_11 => ?_)
      ·
        refine V_iload2 G dX3_openBehind_49 ?_
        exact V_reti E dX3_openBehind_50 rfl rfl ⟨_, rfl, ⟨⟨ha.1, ha.2, fun y hy => by rw [← hs y hy]; first | (rw [openF_neg (by omega)]; simp; done) | (simp [openF]; done)⟩, rfl⟩⟩
      · omega
    | succ m ih =>
      intro k a w hm_ hk0 hw ha hs
      refine V_iload4 G dX3_openBehind_7 ?_
      refine V_bipush G dX3_openBehind_9 (by decide) ?_
      refine V_icmpge G dX3_openBehind_11 (tgt := 49) (by decide) (by first | exact r _ _ | assumption | exact ⟨by omega, by omega⟩) (by first | exact r _ _ | assumption | exact ⟨by omega, by omega⟩) (fun c_11 => ?_) (fun c_11 => ?_)
      · omega
      ·
        refine V_iload3 G dX3_openBehind_14 ?_
        refine V_iflt G dX3_openBehind_15 (tgt := 49) (by decide) hw.1 (fun c_15 => ?_) (fun c_15 => ?_)
        ·
          skip
          refine V_iload2 G dX3_openBehind_49 ?_
          exact V_reti E dX3_openBehind_50 rfl rfl ⟨_, rfl, ⟨⟨ha.1, ha.2, fun y hy => by rw [← hs y hy]; first | (rw [openF_neg (by omega)]; simp; done) | (simp [openF]; done)⟩, rfl⟩⟩
        ·
          refine V_iload2 G dX3_openBehind_18 ?_
          refine V_iconst G dX3_openBehind_19 ?_
          refine V_iload3 G dX3_openBehind_20 ?_
          refine V_ishl_ G dX3_openBehind_21 ?_
          refine V_ibit G (z := bitI w) (rfl) ?_
          refine V_ior_ G dX3_openBehind_22 ?_
          refine V_ibit G (z := orI a (bitI w)) (rfl) ?_
          refine V_istore2 G dX3_openBehind_23 rfl ?_
          refine V_aload0 G dX3_openBehind_24 ?_
          refine V_iload3 G dX3_openBehind_25 ?_
          refine V_cV1i (d1 := 1) G m_X3_73 dX3_openBehind_26 (by first | decide | assumption) (by first | rfl | assumption) (c_X3_headAt hq_ hx_ (w := w) (by omega)) (by omega) (by omega) (by omega) (Nat.le_of_ble_eq_true rfl) (fun x_26 h_26 hp_26 => ?_)
          rw [hp_26.1, hp_26.2]
          refine V_iload3 G dX3_openBehind_29 ?_
          refine V_icmpge G dX3_openBehind_30 (tgt := 41) (by decide) (hx_.hr w) hw.1 (fun c_30 => ?_) (fun c_30 => ?_)
          ·
            refine V_iconst G dX3_openBehind_41 ?_
            refine V_istore3 G dX3_openBehind_42 rfl ?_
            refine V_iinc4 G dX3_openBehind_43 rfl ?_
            refine V_goto G dX3_openBehind_46 (tgt := 7) (by decide) ?_
            first
            | exact ih (k + 1) _ (he w) (by omega) (by omega) ⟨hx_.hr w, by omega⟩ (orI_bit (n := 12) (by decide) ha (k := w) (by omega)).1 (fun y hy => open_step ha (by omega) hy (if_pos (by omega)).symm (hs y hy))
            | exact ih (k + 1) _ (-1) (by omega) (by omega) ⟨⟨by decide, by decide⟩, by omega⟩ (orI_bit (n := 12) (by decide) ha (k := w) (by omega)).1 (fun y hy => open_step ha (by omega) hy (if_neg (by omega)).symm (hs y hy))
          ·
            refine V_aload0 G dX3_openBehind_33 ?_
            refine V_iload3 G dX3_openBehind_34 ?_
            refine V_cV1i (d1 := 1) G m_X3_73 dX3_openBehind_35 (by first | decide | assumption) (by first | rfl | assumption) (c_X3_headAt hq_ hx_ (w := w) (by omega)) (by omega) (by omega) (by omega) (Nat.le_of_ble_eq_true rfl) (fun x_35 h_35 hp_35 => ?_)
            rw [hp_35.1, hp_35.2]
            refine V_goto G dX3_openBehind_38 (tgt := 42) (by decide) ?_
            refine V_istore3 G dX3_openBehind_42 rfl ?_
            refine V_iinc4 G dX3_openBehind_43 rfl ?_
            refine V_goto G dX3_openBehind_46 (tgt := 7) (by decide) ?_
            first
            | exact ih (k + 1) _ (he w) (by omega) (by omega) ⟨hx_.hr w, by omega⟩ (orI_bit (n := 12) (by decide) ha (k := w) (by omega)).1 (fun y hy => open_step ha (by omega) hy (if_pos (by omega)).symm (hs y hy))
            | exact ih (k + 1) _ (-1) (by omega) (by omega) ⟨⟨by decide, by decide⟩, by omega⟩ (orI_bit (n := 12) (by decide) ha (k := w) (by omega)).1 (fun y hy => open_step ha (by omega) hy (if_neg (by omega)).symm (hs y hy))
  refine V_iconst G dX3_openBehind_0 ?_
  refine V_istore2 G dX3_openBehind_1 rfl ?_
  refine V_iload1 G dX3_openBehind_2 ?_
  refine V_istore3 G dX3_openBehind_3 rfl ?_
  refine V_iconst G dX3_openBehind_4 ?_
  refine V_istore4 G dX3_openBehind_5 rfl ?_
  exact lp 12 0 0 l0 (by omega) (by omega) ⟨⟨by omega, by omega⟩, hl0.2⟩ ⟨by decide, by decide⟩ (fun y hy => by simp [inM])

set_option maxRecDepth 100000 in
set_option maxHeartbeats 1500000 in
theorem c_X3_canHold {l : Launch} {d : Nat} {h : Hp} {q : Nat} (hq : isRd q) {n : Int} {ka he : Int → Int} (x0 : RdX h q n ka he) {a b : Int} (ha : 0 ≤ a) (hab : a < b) (hb : b < n) (hd : 3 ≤ d := by omega) : CP l d 0 0 yX3_canHold cX3_canHold 4 (Option.some Jvm.ClassFile.FieldType.boolean) [.ref q, iv a, iv b] h (pI fun x h1 => x = bI (holdF ka he a b = true) ∧ h1 = h) := by
  refine CP.ofV (L := [some (.ref q), some (.int (Int32.ofInt a)), some (.int (Int32.ofInt b)), none]) RX3 (by decide +kernel) rfl (Nat.le_of_ble_eq_true rfl) rfl (fun X hX G E => ?_)
  subst hX
  have hq_ := hq
  obtain ⟨hq0, hq1, hq2, hq3, hs0, hf0, hf2, hf3, hs1, hs2, hs3⟩ := hq
  have hx_ := x0
  obtain ⟨r, hn, hn0, hka, hhd, hk6⟩ := x0
  have k1 := hk6 a
  have k2 := hk6 b
  refine V_aload0 G dX3_canHold_0 ?_
  refine V_iload2 G dX3_canHold_1 ?_
  refine V_cV1i (d1 := 1) G m_X3_48 dX3_canHold_2 (by first | decide | assumption) (by first | rfl | assumption) (c_X3_kindAt hq_ hx_ (w := b) ⟨by omega, by omega⟩) (by omega) (by omega) (by omega) (Nat.le_of_ble_eq_true rfl) (fun x_2 h_2 hp_2 => ?_)
  rw [hp_2.1, hp_2.2]
  refine V_istore3 G dX3_canHold_5 rfl ?_
  refine V_aload0 G dX3_canHold_6 ?_
  refine V_iload1 G dX3_canHold_7 ?_
  refine V_cV1i (d1 := 1) G m_X3_48 dX3_canHold_8 (by first | decide | assumption) (by first | rfl | assumption) (c_X3_kindAt hq_ hx_ (w := a) ⟨by omega, by omega⟩) (by omega) (by omega) (by omega) (Nat.le_of_ble_eq_true rfl) (fun x_8 h_8 hp_8 => ?_)
  rw [hp_8.1, hp_8.2]
  refine V_iconst G dX3_canHold_11 ?_
  refine V_icmpne G dX3_canHold_12 (tgt := 26) (by decide) (by first | exact r _ _ | assumption | exact ⟨by omega, by omega⟩) (by first | exact r _ _ | assumption | exact ⟨by omega, by omega⟩) (fun c_12 => ?_) (fun c_12 => ?_)
  ·
    refine V_aload0 G dX3_canHold_26 ?_
    refine V_iload1 G dX3_canHold_27 ?_
    refine V_cV1i (d1 := 1) G m_X3_48 dX3_canHold_28 (by first | decide | assumption) (by first | rfl | assumption) (c_X3_kindAt hq_ hx_ (w := a) ⟨by omega, by omega⟩) (by omega) (by omega) (by omega) (Nat.le_of_ble_eq_true rfl) (fun x_28 h_28 hp_28 => ?_)
    rw [hp_28.1, hp_28.2]
    refine V_ifne G dX3_canHold_31 (tgt := 48) (by decide) (by first | exact r _ _ | assumption | exact ⟨by omega, by omega⟩) (fun c_31 => ?_) (fun c_31 => ?_)
    ·
      refine V_iconst G dX3_canHold_48 ?_
      exact V_reti E dX3_canHold_49 rfl rfl ⟨_, rfl, ⟨by unfold holdF; rw [if_neg (by omega), if_pos (by first | (exact Or.inl (by omega)) | (exact Or.inr (Or.inl (by omega))) | (exact Or.inr (Or.inr c_45)))]; exact bI_f (by simp), rfl⟩⟩
    ·
      refine V_iload3 G dX3_canHold_34 ?_
      refine V_iconst G dX3_canHold_35 ?_
      refine V_icmpeq G dX3_canHold_36 (tgt := 48) (by decide) (by first | exact r _ _ | assumption | exact ⟨by omega, by omega⟩) (by first | exact r _ _ | assumption | exact ⟨by omega, by omega⟩) (fun c_36 => ?_) (fun c_36 => ?_)
      ·
        refine V_iconst G dX3_canHold_48 ?_
        exact V_reti E dX3_canHold_49 rfl rfl ⟨_, rfl, ⟨by unfold holdF; rw [if_neg (by omega), if_pos (by first | (exact Or.inl (by omega)) | (exact Or.inr (Or.inl (by omega))) | (exact Or.inr (Or.inr c_45)))]; exact bI_f (by simp), rfl⟩⟩
      ·
        refine V_aload0 G dX3_canHold_39 ?_
        refine V_iload1 G dX3_canHold_40 ?_
        refine V_iload2 G dX3_canHold_41 ?_
        refine V_cV2i (d1 := 2) G m_X3_76 dX3_canHold_42 (by first | decide | assumption) (by first | rfl | assumption) (c_X3_isJoined hq_ hx_ (a := a) (b := b) ha hab (by omega)) (by omega) (by omega) (by omega) (Nat.le_of_ble_eq_true rfl) (fun x_42 h_42 hp_42 => ?_)
        rw [hp_42.1, hp_42.2]
        refine V_ifeqB G dX3_canHold_45 (tgt := 50) (by decide)  (fun c_45 => ?_) (fun c_45 => ?_)
        ·
          refine V_iload3 G dX3_canHold_50 ?_
          refine V_iconst G dX3_canHold_51 ?_
          refine V_icmpeq G dX3_canHold_52 (tgt := 68) (by decide) (by first | exact r _ _ | assumption | exact ⟨by omega, by omega⟩) (by first | exact r _ _ | assumption | exact ⟨by omega, by omega⟩) (fun c_52 => ?_) (fun c_52 => ?_)
          ·
            refine V_iconst G dX3_canHold_68 ?_
            refine V_goto G dX3_canHold_69 (tgt := 73) (by decide) ?_
            exact V_reti E dX3_canHold_73 rfl rfl ⟨_, rfl, ⟨by unfold holdF; rw [if_neg (by omega), if_neg (fun z => z.elim (fun z => by omega) (fun z => z.elim (fun z => by omega) (fun z => c_45 z)))]; first | exact bI_t (by simp; omega) | exact bI_f (by simp; omega), rfl⟩⟩
          ·
            refine V_aload0 G dX3_canHold_55 ?_
            refine V_aload0 G dX3_canHold_56 ?_
            refine V_iload1 G dX3_canHold_57 ?_
            refine V_cV1i (d1 := 1) G m_X3_73 dX3_canHold_58 (by first | decide | assumption) (by first | rfl | assumption) (c_X3_headAt hq_ hx_ (w := a) (by omega)) (by omega) (by omega) (by omega) (Nat.le_of_ble_eq_true rfl) (fun x_58 h_58 hp_58 => ?_)
            rw [hp_58.1, hp_58.2]
            refine V_cV1i (d1 := 1) G m_X3_48 dX3_canHold_61 (by first | decide | assumption) (by first | rfl | assumption) (c_X3_kindAt hq_ hx_ (w := he a) (hx_.hr a)) (by omega) (by omega) (by omega) (Nat.le_of_ble_eq_true rfl) (fun x_61 h_61 hp_61 => ?_)
            rw [hp_61.1, hp_61.2]
            have k3 := hk6 (he a)
            refine V_iconst G dX3_canHold_64 ?_
            refine V_icmpeq G dX3_canHold_65 (tgt := 72) (by decide) (by first | exact r _ _ | assumption | exact ⟨by omega, by omega⟩) (by first | exact r _ _ | assumption | exact ⟨by omega, by omega⟩) (fun c_65 => ?_) (fun c_65 => ?_)
            ·
              refine V_iconst G dX3_canHold_72 ?_
              exact V_reti E dX3_canHold_73 rfl rfl ⟨_, rfl, ⟨by unfold holdF; rw [if_neg (by omega), if_neg (fun z => z.elim (fun z => by omega) (fun z => z.elim (fun z => by omega) (fun z => c_45 z)))]; first | exact bI_t (by simp; omega) | exact bI_f (by simp; omega), rfl⟩⟩
            ·
              refine V_iconst G dX3_canHold_68 ?_
              refine V_goto G dX3_canHold_69 (tgt := 73) (by decide) ?_
              exact V_reti E dX3_canHold_73 rfl rfl ⟨_, rfl, ⟨by unfold holdF; rw [if_neg (by omega), if_neg (fun z => z.elim (fun z => by omega) (fun z => z.elim (fun z => by omega) (fun z => c_45 z)))]; first | exact bI_t (by simp; omega) | exact bI_f (by simp; omega), rfl⟩⟩
        ·
          refine V_iconst G dX3_canHold_48 ?_
          exact V_reti E dX3_canHold_49 rfl rfl ⟨_, rfl, ⟨by unfold holdF; rw [if_neg (by omega), if_pos (by first | (exact Or.inl (by omega)) | (exact Or.inr (Or.inl (by omega))) | (exact Or.inr (Or.inr c_45)))]; exact bI_f (by simp), rfl⟩⟩
  ·
    refine V_iload3 G dX3_canHold_15 ?_
    refine V_iconst G dX3_canHold_16 ?_
    refine V_icmpeq G dX3_canHold_17 (tgt := 24) (by decide) (by first | exact r _ _ | assumption | exact ⟨by omega, by omega⟩) (by first | exact r _ _ | assumption | exact ⟨by omega, by omega⟩) (fun c_17 => ?_) (fun c_17 => ?_)
    ·
      refine V_iconst G dX3_canHold_24 ?_
      exact V_reti E dX3_canHold_25 rfl rfl ⟨_, rfl, ⟨by unfold holdF; rw [if_pos (by omega)]; first | exact bI_t (by simp; omega) | exact bI_f (by simp; omega), rfl⟩⟩
    ·
      refine V_iconst G dX3_canHold_20 ?_
      refine V_goto G dX3_canHold_21 (tgt := 25) (by decide) ?_
      exact V_reti E dX3_canHold_25 rfl rfl ⟨_, rfl, ⟨by unfold holdF; rw [if_pos (by omega)]; first | exact bI_t (by simp; omega) | exact bI_f (by simp; omega), rfl⟩⟩

set_option maxRecDepth 100000 in
set_option maxHeartbeats 1500000 in
theorem c_X3_hangNoun {l : Launch} {d : Nat} {h : Hp} {q : Nat} (hq : isRd q) {n : Int} {ka he : Int → Int} (x0 : RdX h q n ka he) {w : Int} (hw : 0 ≤ w ∧ w < n) (hd : 2 ≤ d := by omega) : CP l d 0 0 yX3_hangNoun cX3_hangNoun 3 (Option.some Jvm.ClassFile.FieldType.boolean) [.ref q, iv w] h (pI fun x h1 => x = bI (ka (adjF ka w w.toNat he).2 = 6) ∧ eqx (fun a _ => a == q + 3) h h1 ∧ RdX h1 q n ka (upH (adjF ka w w.toNat he).1 w (adjF ka w w.toNat he).2)) := by
  refine CP.ofV (L := [some (.ref q), some (.int (Int32.ofInt w)), none]) RX3 (by decide +kernel) rfl (Nat.le_of_ble_eq_true rfl) rfl (fun X hX G E => ?_)
  subst hX
  have hq_ := hq
  obtain ⟨hq0, hq1, hq2, hq3, hs0, hf0, hf2, hf3, hs1, hs2, hs3⟩ := hq
  have hx_ := x0
  obtain ⟨r, hn, hn0, hka, hhd, hk6⟩ := x0
  have fin : ∀ (g : Hp) (hdc : Int → Int) (b : Int), RdX g q n ka hdc → eqx (fun a _ => a == q + 3) h g → -1 ≤ b → b < w → adjF ka w w.toNat he = (hdc, b) → V X 0 0 29 [some (.ref q), some (.int (Int32.ofInt w)), some (.int (Int32.ofInt b))] [] g := by
    intro g hdc b xg eg hb1 hb2 hA
    have xg2 := xg.set (w := w) (v := b) ⟨by omega, by omega⟩
    have kb := hk6 b
    refine V_aload0 G dX3_hangNoun_29 ?_
    refine V_iload1 G dX3_hangNoun_30 ?_
    refine V_iload2 G dX3_hangNoun_31 ?_
    refine V_cV2v (d1 := 1) G m_X3_60 dX3_hangNoun_32 (by first | decide | assumption) (by first | rfl | assumption) (c_X3_setHead hq_ (w := w) (v := b) (by omega)) (by omega) (by omega) (by omega) (Nat.le_of_ble_eq_true rfl) (fun h_32 hp_32 => ?_)
    rw [hp_32]
    refine V_aload0 G dX3_hangNoun_35 ?_
    refine V_iload2 G dX3_hangNoun_36 ?_
    refine V_cV1i (d1 := 1) G m_X3_48 dX3_hangNoun_37 (by first | decide | assumption) (by first | rfl | assumption) (c_X3_kindAt hq_ xg2 (w := b) ⟨by omega, by omega⟩) (by omega) (by omega) (by omega) (Nat.le_of_ble_eq_true rfl) (fun x_37 h_37 hp_37 => ?_)
    rw [hp_37.1, hp_37.2]
    refine V_bipush G dX3_hangNoun_40 (by decide) ?_
    refine V_icmpne G dX3_hangNoun_42 (tgt := 49) (by decide) (by first | exact r _ _ | assumption | exact ⟨by omega, by omega⟩) (by first | exact r _ _ | assumption | exact ⟨by omega, by omega⟩) (fun c_42 => ?_) (fun c_42 => ?_)
    ·
      refine V_iconst G dX3_hangNoun_49 ?_
      exact V_reti E dX3_hangNoun_50 rfl (nar01 (by first | exact Or.inl rfl | exact Or.inr rfl)) ⟨_, rfl, ⟨by rw [hA]; first | exact bI_t (by omega) | exact bI_f (by omega), eg.st (by simp), by rw [hA]; exact xg2⟩⟩
    ·
      refine V_iconst G dX3_hangNoun_45 ?_
      refine V_goto G dX3_hangNoun_46 (tgt := 50) (by decide) ?_
      exact V_reti E dX3_hangNoun_50 rfl (nar01 (by first | exact Or.inl rfl | exact Or.inr rfl)) ⟨_, rfl, ⟨by rw [hA]; first | exact bI_t (by omega) | exact bI_f (by omega), eg.st (by simp), by rw [hA]; exact xg2⟩⟩
  have lp : ∀ (m : Nat) (b : Int) (g : Hp) (hdc : Int → Int), b + 1 = m → b < w → RdX g q n ka hdc → eqx (fun a _ => a == q + 3) h g → adjF ka w m hdc = adjF ka w w.toNat he → V X 0 0 4 [some (.ref q), some (.int (Int32.ofInt w)), some (.int (Int32.ofInt b))] [] g := by
    intro m
    induction m with
    | zero =>
      intro b g hdc hb hbw xg eg hA
      refine V_iload2 G dX3_hangNoun_4 ?_
      refine V_iflt G dX3_hangNoun_5 (tgt := 29) (by decide) ⟨by omega, by omega⟩ (fun c_5 => ?_) (fun c_5 => ?_)
      ·
        exact fin g hdc b xg eg (by omega) hbw (by rw [← hA, adjF, show b = -1 by omega])
      · omega
    | succ m ih =>
      intro b g hdc hb hbw xg eg hA
      have kb := hk6 b
      have hm : (m : Int) = b := by omega
      refine V_iload2 G dX3_hangNoun_4 ?_
      refine V_iflt G dX3_hangNoun_5 (tgt := 29) (by decide) ⟨by omega, by omega⟩ (fun c_5 => ?_) (fun c_5 => ?_)
      · omega
      ·
        refine V_aload0 G dX3_hangNoun_8 ?_
        refine V_iload2 G dX3_hangNoun_9 ?_
        refine V_cV1i (d1 := 1) G m_X3_48 dX3_hangNoun_10 (by first | decide | assumption) (by first | rfl | assumption) (c_X3_kindAt hq_ xg (w := b) ⟨by omega, by omega⟩) (by omega) (by omega) (by omega) (Nat.le_of_ble_eq_true rfl) (fun x_10 h_10 hp_10 => ?_)
        rw [hp_10.1, hp_10.2]
        refine V_iconst G dX3_hangNoun_13 ?_
        refine V_icmpne G dX3_hangNoun_14 (tgt := 29) (by decide) (by first | exact r _ _ | assumption | exact ⟨by omega, by omega⟩) (by first | exact r _ _ | assumption | exact ⟨by omega, by omega⟩) (fun c_14 => ?_) (fun c_14 => ?_)
        ·
          exact fin g hdc b xg eg (by omega) hbw (by rw [← hA, adjF, hm, if_neg (by omega)])
        ·
          refine V_aload0 G dX3_hangNoun_17 ?_
          refine V_iload2 G dX3_hangNoun_18 ?_
          refine V_iload1 G dX3_hangNoun_19 ?_
          refine V_cV2v (d1 := 1) G m_X3_60 dX3_hangNoun_20 (by first | decide | assumption) (by first | rfl | assumption) (c_X3_setHead hq_ (w := b) (v := w) (by omega)) (by omega) (by omega) (by omega) (Nat.le_of_ble_eq_true rfl) (fun h_20 hp_20 => ?_)
          rw [hp_20]
          refine V_iinc2 G dX3_hangNoun_23 rfl ?_
          refine V_goto G dX3_hangNoun_26 (tgt := 4) (by decide) ?_
          exact ih (b + -1) _ _ (by omega) (by omega) (xg.set ⟨by omega, by omega⟩) (eg.st (by simp)) (by rw [← hA, adjF, hm, if_pos (by omega)])
  refine V_iload1 G dX3_hangNoun_0 ?_
  refine V_iconst G dX3_hangNoun_1 ?_
  refine V_isub G dX3_hangNoun_2 ?_
  refine V_istore2 G dX3_hangNoun_3 rfl ?_
  exact lp w.toNat (w - 1) h he (by omega) (by omega) hx_ eqx.rf rfl

end C3
