
section M8
def sumF (f : Int → Int) : Nat → Int → Int
  | 0, _ => 0
  | m + 1, k => f k + sumF f m (k + 1)
def mnF (f : Int → Int) : Nat → Int → Int → Int
  | 0, _, a => a
  | m + 1, k, a => mnF f m (k + 1) (if f k < a then f k else a)
def mxF (f : Int → Int) : Nat → Int → Int → Int
  | 0, _, a => a
  | m + 1, k, a => mxF f m (k + 1) (if a < f k then f k else a)
theorem sumF_le {f : Int → Int} {b : Int} (hb : 0 ≤ b) : ∀ (m : Nat) (k : Int), (∀ j, 0 ≤ f j ∧ f j ≤ b) → 0 ≤ sumF f m k ∧ sumF f m k ≤ b * m
  | 0, _, _ => by simp [sumF]
  | m + 1, k, h => by
    have ih := sumF_le hb m (k + 1) h
    have hk := h k
    rw [sumF, show ((m + 1 : Nat) : Int) = (m : Int) + 1 by omega, Int.mul_add]
    omega
theorem mnF_r {f : Int → Int} {a b : Int} : ∀ (m : Nat) (k c : Int), (∀ j, k ≤ j → j < k + m → a ≤ f j ∧ f j ≤ b) → a ≤ c ∧ c ≤ b → a ≤ mnF f m k c ∧ mnF f m k c ≤ b
  | 0, _, _, _, h => h
  | m + 1, k, c, h, hc => by
    rw [mnF]
    refine mnF_r m (k + 1) _ (fun j h1 h2 => h j (by omega) (by omega)) ?_
    have := h k (by omega) (by omega)
    split <;> omega
theorem mxF_r {f : Int → Int} {a b : Int} : ∀ (m : Nat) (k c : Int), (∀ j, k ≤ j → j < k + m → a ≤ f j ∧ f j ≤ b) → a ≤ c ∧ c ≤ b → a ≤ mxF f m k c ∧ mxF f m k c ≤ b
  | 0, _, _, _, h => h
  | m + 1, k, c, h, hc => by
    rw [mxF]
    refine mxF_r m (k + 1) _ (fun j h1 h2 => h j (by omega) (by omega)) ?_
    have := h k (by omega) (by omega)
    split <;> omega
def heldF (kd hd : Int → Int) (w : Int) : Int := if hd w = -1 then 0 else if kd w = 0 then (if kd (hd w) = 5 then 4 else if kd (hd w) = 4 then 6 else if w < hd w then 1 else 2) else if kd w = 1 ∨ kd w = 6 then 5 else if kd w = 5 then 4 else 3
def stepF (kd hd : Int → Int) (w : Int) : Int := if heldF kd hd w = 3 ∨ heldF kd hd w = 6 then -1 else if kd w = 6 then 1 else 0
def levF (kd hd : Int → Int) : Nat → Int → Int
  | 0, _ => 0
  | m + 1, w => if hd w = -1 then 0 else stepF kd hd w + levF kd hd m (hd w)
def reachF (hd : Int → Int) : Nat → Int → Prop
  | 0, w => hd w = -1
  | m + 1, w => hd w = -1 ∨ reachF hd m (hd w)
def rok (n : Int) (hd : Int → Int) : Prop := ∀ w, 0 ≤ w → w < n → -1 ≤ hd w ∧ hd w < n
def rtd (n : Int) (hd : Int → Int) : Prop := ∀ w, 0 ≤ w → w < n → reachF hd 11 w
theorem heldF_r (kd hd : Int → Int) (w : Int) : 0 ≤ heldF kd hd w ∧ heldF kd hd w ≤ 6 := by
  unfold heldF
  repeat' split
  all_goals omega
theorem stepF_r (kd hd : Int → Int) (w : Int) : -1 ≤ stepF kd hd w ∧ stepF kd hd w ≤ 1 := by
  unfold stepF
  repeat' split
  all_goals omega
theorem levF_r (kd hd : Int → Int) : ∀ (m : Nat) (w : Int), -(m : Int) ≤ levF kd hd m w ∧ levF kd hd m w ≤ m
  | 0, w => by simp [levF]
  | m + 1, w => by
    have h1 := levF_r kd hd m (hd w)
    have h2 := stepF_r kd hd w
    rw [levF]
    split <;> omega

end M8
