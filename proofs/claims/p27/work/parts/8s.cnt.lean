section CNT
/-! how many readings: the reference's run over all choices lays as many as the table of parts tells -/
/-- a sum over the places 0 to 12 -/
def S0 (f : Int → Int) : Int := sumF f 13 0
theorem S0_congr {f g : Int → Int} (h : ∀ k, 0 ≤ k → k ≤ 12 → f k = g k) : S0 f = S0 g := sumF_congr 13 0 (fun j h1 h2 => h j h1 (by omega))
theorem S0_add {f g : Int → Int} : S0 (fun k => f k + g k) = S0 f + S0 g := (sumF_add 13 0).symm
theorem S0_z {f : Int → Int} (h : ∀ k, 0 ≤ k → k ≤ 12 → f k = 0) : S0 f = 0 := sumF_z 13 0 (fun j h1 h2 => h j h1 (by omega))
theorem sumF_mulc {f : Int → Int} (c : Int) : ∀ (m : Nat) (k : Int), sumF (fun j => c * f j) m k = c * sumF f m k
  | 0, _ => by simp [sumF]
  | m + 1, k => by rw [sumF, sumF, sumF_mulc c m (k + 1), Int.mul_add]
theorem S0_mul {f : Int → Int} {c : Int} : S0 (fun k => c * f k) = c * S0 f := sumF_mulc c 13 0
theorem sumF_swap {F : Int → Int → Int} (m2 : Nat) (k2 : Int) : ∀ (m : Nat) (k : Int), sumF (fun i => sumF (fun j => F i j) m2 k2) m k = sumF (fun j => sumF (fun i => F i j) m k) m2 k2
  | 0, k => by
    rw [sumF]
    exact (sumF_z m2 k2 (fun j _ _ => rfl)).symm
  | m + 1, k => by
    rw [sumF, sumF_swap m2 k2 m (k + 1), sumF_add]
    rfl
theorem S0_swap {F : Int → Int → Int} : S0 (fun i => S0 (fun j => F i j)) = S0 (fun j => S0 (fun i => F i j)) := sumF_swap 13 0 13 0
theorem S0_part {f g : Int → Int} {a : Int} {m : Nat} (h0 : 0 ≤ a) (h1 : a + m ≤ 13) (hz : ∀ k, 0 ≤ k → k ≤ 12 → ¬ (a ≤ k ∧ k < a + m) → f k = 0) (he : ∀ k, a ≤ k → k < a + m → f k = g k) : S0 f = sumF g m a := by
  unfold S0
  rw [show (13 : Nat) = a.toNat + (m + (13 - a.toNat - m)) by omega, sumF_app, sumF_app]
  rw [sumF_z a.toNat 0 (fun j j1 j2 => hz j j1 (by omega) (by omega)), sumF_z (13 - a.toNat - m) _ (fun j j1 j2 => hz j (by omega) (by omega) (by omega))]
  rw [show (0 : Int) + (a.toNat : Nat) = a by omega, sumF_congr m a (fun j j1 j2 => he j j1 j2)]
  omega
theorem S0_one {f : Int → Int} {a : Int} (h0 : 0 ≤ a) (h1 : a ≤ 12) (hz : ∀ k, 0 ≤ k → k ≤ 12 → k ≠ a → f k = 0) : S0 f = f a := by
  rw [S0_part (m := 1) (g := f) h0 (by omega) (fun k k1 k2 k3 => hz k k1 k2 (by omega)) (fun _ _ _ => rfl)]
  rw [sumF, sumF]
  omega
theorem S0_comp {B v : Int → Int} {M : Int → Int → Int} : S0 (fun j => S0 (fun k => B k * M k j) * v j) = S0 (fun k => B k * S0 (fun j => M k j * v j)) := by
  have e1 : S0 (fun j => S0 (fun k => B k * M k j) * v j) = S0 (fun j => S0 (fun k => B k * (M k j * v j))) := S0_congr fun j _ _ => by
    rw [Int.mul_comm, ← S0_mul]
    exact S0_congr fun k _ _ => by rw [Int.mul_comm, Int.mul_assoc]
  rw [e1, S0_swap]
  exact S0_congr fun k _ _ => S0_mul
def EE (kd : Int → Int) (t : Nat) (i j : Int) : Int := if i ≤ j then dp kd t i j else 0
def Av (kd : Int → Int) (t : Nat) (v : Int → Int) (i : Int) : Int := S0 (fun k => EE kd t i k * v k)
variable {kd : Int → Int} {n : Int}
theorem EE_p {t : Nat} {i j : Int} (h : i ≤ j) : EE kd t i j = dp kd t i j := if_pos h
theorem EE_z {t : Nat} {i j : Int} (h : j < i) : EE kd t i j = 0 := if_neg (by omega)
theorem Av_z {t : Nat} {v : Int → Int} {i : Int} (h : ∀ k, i ≤ k → k ≤ 12 → v k = 0) : Av kd t v i = 0 := S0_z fun k _ k2 => by
  by_cases c : i ≤ k
  · rw [h k c k2, Int.mul_zero]
  · rw [EE_z (by omega), Int.zero_mul]
theorem d3 {i : Int} : dp kd 3 i i = 0 := by rw [dp_3 (Int.le_refl _), if_pos rfl]
theorem d4 {i : Int} : dp kd 4 i i = 0 := by
  rw [dp_4 (Int.le_refl _), d3, show (i - i - 1).toNat = 0 by omega, sumF]
  rfl
theorem EE1 {i j : Int} (hi : 0 ≤ i) (hj : j ≤ 12) : EE kd 1 i j = (if i = j then 1 else 0) + (if kd i = 4 then S0 (fun k => EE kd 4 (i + 1) k * EE kd 1 k j) else 0) := by
  have z : ¬ i < j → (if kd i = 4 then S0 (fun k => EE kd 4 (i + 1) k * EE kd 1 k j) else 0) = 0 := fun h => by
    split
    · refine S0_z fun k _ _ => ?_
      by_cases c : i + 1 ≤ k
      · rw [EE_z (i := k) (by omega), Int.mul_zero]
      · rw [EE_z (by omega), Int.zero_mul]
    · rfl
  by_cases c : i < j
  · rw [EE_p (by omega), dp_1 (by omega), if_neg (by omega), if_neg (by omega)]
    by_cases q : kd i = 4
    · rw [if_pos q, S0_part (a := i + 1) (m := (j - i).toNat) (g := fun k => dp kd 0 i k * dp kd 1 k j) (by omega) (by omega) (fun k k1 k2 k3 => ?_) (fun k k1 k2 => ?_)]
      · omega
      · by_cases c2 : i + 1 ≤ k
        · rw [EE_z (i := k) (by omega), Int.mul_zero]
        · rw [EE_z (by omega), Int.zero_mul]
      · rw [EE_p (by omega), EE_p (by omega), dp_0 (by omega), if_pos ⟨by omega, q⟩]
    · rw [if_neg q, sumF_z]
      · rfl
      · intro k k1 k2
        rw [dp_0 (by omega), if_neg (fun h => q h.2), Int.zero_mul]
  · rw [z c]
    by_cases e : i = j
    · subst e
      rw [EE_p (Int.le_refl _), dp_1 (Int.le_refl _), if_pos rfl, if_pos rfl]
      rfl
    · rw [EE_z (by omega), if_neg e]
      rfl
theorem EE2 {i j : Int} (hi : 0 ≤ i) (hj : j ≤ 12) : EE kd 2 i j = (if i = j then 1 else 0) + (if kd i = 3 then EE kd 2 (i + 1) j else 0) + (if kd i = 4 then S0 (fun k => EE kd 4 (i + 1) k * EE kd 2 k j) else 0) := by
  have z : ¬ i < j → (if kd i = 4 then S0 (fun k => EE kd 4 (i + 1) k * EE kd 2 k j) else 0) = 0 := fun h => by
    split
    · refine S0_z fun k _ _ => ?_
      by_cases c : i + 1 ≤ k
      · rw [EE_z (i := k) (by omega), Int.mul_zero]
      · rw [EE_z (by omega), Int.zero_mul]
    · rfl
  have z3 : ¬ i < j → (if kd i = 3 then EE kd 2 (i + 1) j else 0) = 0 := fun h => by
    rw [EE_z (by omega)]
    split <;> rfl
  by_cases c : i < j
  · have ne : ¬ i = j := by omega
    rw [EE_p (by omega), dp_2 (by omega), EE_p (i := i + 1) (t := 2) (by omega)]
    simp only [ne, if_false]
    by_cases q : kd i = 4
    · rw [if_pos q, S0_part (a := i + 1) (m := (j - i).toNat) (g := fun k => dp kd 0 i k * dp kd 2 k j) (by omega) (by omega) (fun k k1 k2 k3 => ?_) (fun k k1 k2 => ?_)]
      · omega
      · by_cases c2 : i + 1 ≤ k
        · rw [EE_z (i := k) (by omega), Int.mul_zero]
        · rw [EE_z (by omega), Int.zero_mul]
      · rw [EE_p (by omega), EE_p (by omega), dp_0 (by omega), if_pos ⟨by omega, q⟩]
    · rw [if_neg q, sumF_z]
      · omega
      · intro k k1 k2
        rw [dp_0 (by omega), if_neg (fun h => q h.2), Int.zero_mul]
  · rw [z c, z3 c]
    by_cases e : i = j
    · subst e
      rw [EE_p (Int.le_refl _), dp_2 (Int.le_refl _), if_pos rfl, if_pos rfl]
      rfl
    · rw [EE_z (by omega), if_neg e]
      rfl
theorem EE3 {i j : Int} : EE kd 3 i j = if kd i = 0 then EE kd 1 (i + 1) j else if kd i = 2 then EE kd 3 (i + 1) j else 0 := by
  by_cases c : i < j
  · rw [EE_p (by omega), dp_3 (by omega), if_neg (by omega), EE_p (by omega), EE_p (by omega)]
  · rw [EE_z (i := i + 1) (t := 1) (by omega), EE_z (i := i + 1) (t := 3) (by omega)]
    have : EE kd 3 i j = 0 := by
      by_cases e : i = j
      · subst e
        rw [EE_p (Int.le_refl _), d3]
      · exact EE_z (by omega)
    rw [this]
    split
    · rfl
    · split <;> rfl
theorem EE4 {i j : Int} (hi : 0 ≤ i) (hi2 : i ≤ 12) (hj : j ≤ 12) : EE kd 4 i j = EE kd 3 i j + S0 (fun k => EE kd 3 i k * (if kd k = 5 then EE kd 3 (k + 1) j else 0)) := by
  by_cases c : i ≤ j
  · rw [EE_p c, EE_p c, dp_4 c, S0_part (a := i + 1) (m := (j - i - 1).toNat) (g := fun k => if kd k = 5 then dp kd 3 i k * dp kd 3 (k + 1) j else 0) (by omega) (by omega) (fun k k1 k2 k3 => ?_) (fun k k1 k2 => ?_)]
    · by_cases q : k < i
      · rw [EE_z q, Int.zero_mul]
      · by_cases q2 : k = i
        · subst q2
          rw [EE_p (Int.le_refl _), d3, Int.zero_mul]
        · rw [EE_z (i := k + 1) (by omega)]
          split <;> rw [Int.mul_zero]
    · rw [EE_p (by omega), EE_p (by omega)]
      split
      · rfl
      · rw [Int.mul_zero]
  · rw [EE_z (by omega), EE_z (by omega), S0_z]
    · rfl
    · intro k _ _
      by_cases q : i ≤ k
      · rw [EE_z (i := k + 1) (by omega)]
        split <;> rw [Int.mul_zero]
      · rw [EE_z (by omega), Int.zero_mul]
theorem EE5 {i j : Int} (hi : 0 ≤ i) (hi2 : i ≤ 12) (hj : j ≤ 12) : EE kd 5 i j = S0 (fun k => EE kd 4 i k * (if kd k = 1 then EE kd 6 (k + 1) j else 0)) := by
  by_cases c : i ≤ j
  · rw [EE_p c, dp_5 c, S0_part (a := i + 1) (m := (j - i - 1).toNat) (g := fun k => if kd k = 1 then dp kd 4 i k * dp kd 6 (k + 1) j else 0) (by omega) (by omega) (fun k k1 k2 k3 => ?_) (fun k k1 k2 => ?_)]
    · by_cases q : k < i
      · rw [EE_z q, Int.zero_mul]
      · by_cases q2 : k = i
        · subst q2
          rw [EE_p (Int.le_refl _), d4, Int.zero_mul]
        · rw [EE_z (i := k + 1) (by omega)]
          split <;> rw [Int.mul_zero]
    · rw [EE_p (by omega), EE_p (by omega)]
      split
      · rfl
      · rw [Int.mul_zero]
  · rw [EE_z (by omega), S0_z]
    intro k _ _
    by_cases q : i ≤ k
    · rw [EE_z (i := k + 1) (by omega)]
      split <;> rw [Int.mul_zero]
    · rw [EE_z (by omega), Int.zero_mul]
theorem EE6 {i j : Int} (hi : 0 ≤ i) (hi2 : i ≤ 12) (hj : j ≤ 12) : EE kd 6 i j = EE kd 2 i j + S0 (fun k => (EE kd 4 i k + (if kd i = 6 then EE kd 5 (i + 1) k else 0)) * EE kd 2 k j) := by
  have zz : ∀ k, k ≤ i → (EE kd 4 i k + (if kd i = 6 then EE kd 5 (i + 1) k else 0)) = 0 := fun k h => by
    rw [EE_z (i := i + 1) (by omega)]
    have : EE kd 4 i k = 0 := by
      by_cases q : k = i
      · subst q
        rw [EE_p (Int.le_refl _), d4]
      · exact EE_z (by omega)
    rw [this]
    split <;> rfl
  by_cases c : i ≤ j
  · rw [EE_p c, EE_p c, dp_6 c, S0_part (a := i + 1) (m := (j - i).toNat) (g := fun k => (dp kd 4 i k + if kd i = 6 then dp kd 5 (i + 1) k else 0) * dp kd 2 k j) (by omega) (by omega) (fun k k1 k2 k3 => ?_) (fun k k1 k2 => ?_)]
    · by_cases q : k ≤ i
      · rw [zz k q, Int.zero_mul]
      · rw [EE_z (i := k) (by omega), Int.mul_zero]
    · rw [EE_p (by omega), EE_p (by omega), EE_p (by omega)]
  · rw [EE_z (by omega), EE_z (by omega), S0_z]
    · rfl
    · intro k _ _
      by_cases q : k ≤ i
      · rw [zz k q, Int.zero_mul]
      · rw [EE_z (i := k) (by omega), Int.mul_zero]
theorem S0_dl {v : Int → Int} {i : Int} (hi : 0 ≤ i) (hi2 : i ≤ 12) : S0 (fun j => (if i = j then 1 else 0) * v j) = v i := by
  rw [S0_one hi hi2 (fun k _ _ h => by rw [if_neg (Ne.symm h), Int.zero_mul]), if_pos rfl, Int.one_mul]
theorem Av1 {v : Int → Int} {i : Int} (hi : 0 ≤ i) (hi2 : i ≤ 12) : Av kd 1 v i = v i + (if kd i = 4 then Av kd 4 (Av kd 1 v) (i + 1) else 0) := by
  have h : Av kd 1 v i = S0 (fun j => (if i = j then 1 else 0) * v j + (if kd i = 4 then S0 (fun k => EE kd 4 (i + 1) k * EE kd 1 k j) else 0) * v j) := S0_congr fun j _ h2 => by
    rw [EE1 hi h2, Int.add_mul]
  rw [h, S0_add, S0_dl hi hi2]
  congr 1
  by_cases q : kd i = 4
  · simp only [q, if_true]
    exact S0_comp
  · simp only [q, if_false, Int.zero_mul]
    exact S0_z fun _ _ _ => rfl
theorem Av2 {v : Int → Int} {i : Int} (hi : 0 ≤ i) (hi2 : i ≤ 12) : Av kd 2 v i = v i + (if kd i = 3 then Av kd 2 v (i + 1) else 0) + (if kd i = 4 then Av kd 4 (Av kd 2 v) (i + 1) else 0) := by
  have h : Av kd 2 v i = S0 (fun j => ((if i = j then 1 else 0) * v j + (if kd i = 3 then EE kd 2 (i + 1) j else 0) * v j) + (if kd i = 4 then S0 (fun k => EE kd 4 (i + 1) k * EE kd 2 k j) else 0) * v j) := S0_congr fun j _ h2 => by
    rw [EE2 hi h2, Int.add_mul, Int.add_mul]
  rw [h, S0_add, S0_add, S0_dl hi hi2]
  congr 1
  · congr 1
    by_cases q : kd i = 3
    · simp only [q, if_true]
      rfl
    · simp only [q, if_false, Int.zero_mul]
      exact S0_z fun _ _ _ => rfl
  · by_cases q : kd i = 4
    · simp only [q, if_true]
      exact S0_comp
    · simp only [q, if_false, Int.zero_mul]
      exact S0_z fun _ _ _ => rfl
theorem Av3 {v : Int → Int} {i : Int} : Av kd 3 v i = if kd i = 0 then Av kd 1 v (i + 1) else if kd i = 2 then Av kd 3 v (i + 1) else 0 := by
  have h : Av kd 3 v i = S0 (fun j => (if kd i = 0 then EE kd 1 (i + 1) j else if kd i = 2 then EE kd 3 (i + 1) j else 0) * v j) := S0_congr fun j _ _ => by rw [← EE3]
  rw [h]
  split
  · rfl
  · split
    · rfl
    · exact S0_z fun k _ _ => Int.zero_mul _
def Uv (kd : Int → Int) (v : Int → Int) : Int → Int := fun k => v k + (if kd k = 5 then Av kd 3 v (k + 1) else 0)
def Kv (kd : Int → Int) (v : Int → Int) : Int → Int := fun k => if kd k = 1 then Av kd 6 v (k + 1) else 0
theorem Av4 {v : Int → Int} {i : Int} (hi : 0 ≤ i) (hi2 : i ≤ 12) : Av kd 4 v i = Av kd 3 (Uv kd v) i := by
  have h : Av kd 4 v i = S0 (fun j => EE kd 3 i j * v j + S0 (fun k => EE kd 3 i k * (if kd k = 5 then EE kd 3 (k + 1) j else 0)) * v j) := S0_congr fun j _ h2 => by
    rw [EE4 hi hi2 h2, Int.add_mul]
  rw [h, S0_add, S0_comp, ← S0_add]
  refine S0_congr fun k _ _ => ?_
  rw [← Int.mul_add]
  congr 1
  unfold Uv
  congr 1
  split
  · rfl
  · exact S0_z fun _ _ _ => Int.zero_mul _
theorem Av5 {v : Int → Int} {i : Int} (hi : 0 ≤ i) (hi2 : i ≤ 12) : Av kd 5 v i = Av kd 4 (Kv kd v) i := by
  have h : Av kd 5 v i = S0 (fun j => S0 (fun k => EE kd 4 i k * (if kd k = 1 then EE kd 6 (k + 1) j else 0)) * v j) := S0_congr fun j _ h2 => by rw [EE5 hi hi2 h2]
  rw [h, S0_comp]
  refine S0_congr fun k _ _ => ?_
  congr 1
  unfold Kv
  split
  · rfl
  · exact S0_z fun _ _ _ => Int.zero_mul _
theorem Av6 {v : Int → Int} {i : Int} (hi : 0 ≤ i) (hi2 : i ≤ 12) : Av kd 6 v i = Av kd 2 v i + (Av kd 4 (Av kd 2 v) i + (if kd i = 6 then Av kd 5 (Av kd 2 v) (i + 1) else 0)) := by
  have h : Av kd 6 v i = S0 (fun j => EE kd 2 i j * v j + S0 (fun k => (EE kd 4 i k + (if kd i = 6 then EE kd 5 (i + 1) k else 0)) * EE kd 2 k j) * v j) := S0_congr fun j _ h2 => by
    rw [EE6 hi hi2 h2, Int.add_mul]
  rw [h, S0_add, S0_comp]
  congr 1
  have h2 : S0 (fun k => (EE kd 4 i k + (if kd i = 6 then EE kd 5 (i + 1) k else 0)) * S0 (fun j => EE kd 2 k j * v j)) = S0 (fun k => EE kd 4 i k * Av kd 2 v k + (if kd i = 6 then EE kd 5 (i + 1) k else 0) * Av kd 2 v k) := S0_congr fun k _ _ => Int.add_mul _ _ _
  rw [h2, S0_add]
  congr 1
  split
  · rfl
  · exact S0_z fun _ _ _ => Int.zero_mul _
end CNT
