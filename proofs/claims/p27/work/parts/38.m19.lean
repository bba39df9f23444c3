section M19
theorem sumF_mono {f g : Int → Int} : ∀ (m : Nat) (k : Int), (∀ j, k ≤ j → j < k + m → f j ≤ g j) → sumF f m k ≤ sumF g m k
  | 0, _, _ => Int.le_refl _
  | m + 1, k, h => by
    have h1 := h k (by omega) (by omega)
    have h2 := sumF_mono m (k + 1) (fun j h1 h2 => h j (by omega) (by omega))
    rw [sumF, sumF]; omega
theorem sumF_nn {f : Int → Int} : ∀ (m : Nat) (k : Int), (∀ j, k ≤ j → j < k + m → 0 ≤ f j) → 0 ≤ sumF f m k
  | 0, _, _ => Int.le_refl _
  | m + 1, k, h => by
    have h1 := h k (by omega) (by omega)
    have h2 := sumF_nn m (k + 1) (fun j h1 h2 => h j (by omega) (by omega))
    rw [sumF]; omega
theorem sumF_shift {f : Int → Int} (c : Int) : ∀ (m : Nat) (k : Int), sumF f m (c + k) = sumF (fun j => f (c + j)) m k
  | 0, _ => rfl
  | m + 1, k => by rw [sumF, sumF, ← sumF_shift c m (k + 1), Int.add_assoc]
/-- in how many ways the part from i to j is: 0 a phrase, 1 phrases in a row, 2 hangings, 3 a name, 4 a group, 5 a clause, 6 what stands behind a verb -/
def dpA (kd : Int → Int) : Nat → Nat → Int → Int → Int
  | 0, _, _, _ => 0
  | m + 1, t, i, j => match t with
    | 0 => if i < j ∧ kd i = 4 then dpA kd m 4 (i + 1) j else 0
    | 1 => if i = j then 1 else sumF (fun k => dpA kd m 0 i k * dpA kd m 1 k j) (j - i).toNat (i + 1)
    | 2 => if i = j then 1 else (if kd i = 3 then dpA kd m 2 (i + 1) j else 0) + sumF (fun k => dpA kd m 0 i k * dpA kd m 2 k j) (j - i).toNat (i + 1)
    | 3 => if i = j then 0 else if kd i = 0 then dpA kd m 1 (i + 1) j else if kd i = 2 then dpA kd m 3 (i + 1) j else 0
    | 4 => dpA kd m 3 i j + sumF (fun k => if kd k = 5 then dpA kd m 3 i k * dpA kd m 3 (k + 1) j else 0) (j - i - 1).toNat (i + 1)
    | 5 => sumF (fun k => if kd k = 1 then dpA kd m 4 i k * dpA kd m 6 (k + 1) j else 0) (j - i - 1).toNat (i + 1)
    | _ => dpA kd m 2 i j + sumF (fun k => (dpA kd m 4 i k + if kd i = 6 then dpA kd m 5 (i + 1) k else 0) * dpA kd m 2 k j) (j - i).toNat (i + 1)
theorem dpA_6 (kd : Int → Int) (m : Nat) (i j : Int) : dpA kd (m + 1) 6 i j = dpA kd m 2 i j + sumF (fun k => (dpA kd m 4 i k + if kd i = 6 then dpA kd m 5 (i + 1) k else 0) * dpA kd m 2 k j) (j - i).toNat (i + 1) := rfl
def dpo (t : Nat) : Nat := if t = 0 ∨ t = 3 ∨ t = 5 then 0 else if t = 1 ∨ t = 2 ∨ t = 4 then 1 else 2
theorem dpA_st (kd : Int → Int) : ∀ (m m' t : Nat) (i j : Int), t ≤ 6 → i ≤ j → 4 * (j - i) + dpo t < m → 4 * (j - i) + dpo t < m' → dpA kd m t i j = dpA kd m' t i j := by
  intro m
  induction m with
  | zero => intro m' t i j ht hij h1 h2; omega
  | succ m ih =>
    intro m' t i j ht hij h1 h2
    cases m' with
    | zero => omega
    | succ m' =>
      have o0 : dpo 0 = 0 := rfl
      have o1 : dpo 1 = 1 := rfl
      have o2 : dpo 2 = 1 := rfl
      have o3 : dpo 3 = 0 := rfl
      have o4 : dpo 4 = 1 := rfl
      have o5 : dpo 5 = 0 := rfl
      have o6 : dpo 6 = 2 := rfl
      match t, ht with
      | 0, _ =>
        rw [dpA, dpA]
        by_cases c : i < j ∧ kd i = 4
        · rw [if_pos c, if_pos c]; exact ih m' 4 _ _ (by omega) (by omega) (by omega) (by omega)
        · rw [if_neg c, if_neg c]
      | 1, _ =>
        rw [dpA, dpA]
        by_cases c : i = j
        · rw [if_pos c, if_pos c]
        · rw [if_neg c, if_neg c]
          refine sumF_congr _ _ (fun k k1 k2 => ?_)
          rw [ih m' 0 i k (by omega) (by omega) (by omega) (by omega), ih m' 1 k j (by omega) (by omega) (by omega) (by omega)]
      | 2, _ =>
        rw [dpA, dpA]
        by_cases c : i = j
        · rw [if_pos c, if_pos c]
        · rw [if_neg c, if_neg c]
          congr 1
          · by_cases c2 : kd i = 3
            · rw [if_pos c2, if_pos c2]; exact ih m' 2 _ _ (by omega) (by omega) (by omega) (by omega)
            · rw [if_neg c2, if_neg c2]
          · refine sumF_congr _ _ (fun k k1 k2 => ?_)
            rw [ih m' 0 i k (by omega) (by omega) (by omega) (by omega), ih m' 2 k j (by omega) (by omega) (by omega) (by omega)]
      | 3, _ =>
        rw [dpA, dpA]
        by_cases c : i = j
        · rw [if_pos c, if_pos c]
        · rw [if_neg c, if_neg c, ih m' 1 (i + 1) j (by omega) (by omega) (by omega) (by omega), ih m' 3 (i + 1) j (by omega) (by omega) (by omega) (by omega)]
      | 4, _ =>
        rw [dpA, dpA, ih m' 3 i j (by omega) (by omega) (by omega) (by omega)]
        congr 1
        refine sumF_congr _ _ (fun k k1 k2 => ?_)
        rw [ih m' 3 i k (by omega) (by omega) (by omega) (by omega), ih m' 3 (k + 1) j (by omega) (by omega) (by omega) (by omega)]
      | 5, _ =>
        rw [dpA, dpA]
        refine sumF_congr _ _ (fun k k1 k2 => ?_)
        rw [ih m' 4 i k (by omega) (by omega) (by omega) (by omega), ih m' 6 (k + 1) j (by omega) (by omega) (by omega) (by omega)]
      | 6, _ =>
        rw [dpA_6, dpA_6, ih m' 2 i j (by omega) (by omega) (by omega) (by omega)]
        congr 1
        refine sumF_congr _ _ (fun k k1 k2 => ?_)
        rw [ih m' 4 i k (by omega) (by omega) (by omega) (by omega), ih m' 5 (i + 1) k (by omega) (by omega) (by omega) (by omega), ih m' 2 k j (by omega) (by omega) (by omega) (by omega)]
def dp (kd : Int → Int) (t : Nat) (i j : Int) : Int := dpA kd (4 * (j - i).toNat + 3) t i j
theorem dp_st {kd : Int → Int} {m t : Nat} {i j : Int} (ht : t ≤ 6) (hij : i ≤ j) (h : 4 * (j - i) + 2 < m) : dpA kd m t i j = dp kd t i j :=
  dpA_st kd m _ t i j ht hij (by have : dpo t ≤ 2 := by (unfold dpo; repeat' split) <;> omega
                                 omega) (by have : dpo t ≤ 2 := by (unfold dpo; repeat' split) <;> omega
                                            omega)
theorem dp_big {kd : Int → Int} {t : Nat} {i j : Int} (ht : t ≤ 6) (hij : i ≤ j) : dp kd t i j = dpA kd (4 * (j - i).toNat + 3 + 1) t i j := (dp_st ht hij (by omega)).symm
theorem dp_big3 {kd : Int → Int} {t : Nat} {i j : Int} (ht : t ≤ 6) (hij : i ≤ j) : dp kd t i j = dpA kd (4 * (j - i).toNat + 3 + 1) t i j := (dp_st ht hij (by omega)).symm
theorem dp_0 {kd : Int → Int} {i j : Int} (h : i ≤ j) : dp kd 0 i j = if i < j ∧ kd i = 4 then dp kd 4 (i + 1) j else 0 := by
  rw [dp_big (by omega) h, dpA]
  by_cases c : i < j ∧ kd i = 4
  · rw [if_pos c, if_pos c, dp_st (by omega) (by omega) (by omega)]
  · rw [if_neg c, if_neg c]
theorem dp_1 {kd : Int → Int} {i j : Int} (h : i ≤ j) : dp kd 1 i j = if i = j then 1 else sumF (fun k => dp kd 0 i k * dp kd 1 k j) (j - i).toNat (i + 1) := by
  rw [dp_big (by omega) h, dpA]
  by_cases c : i = j
  · rw [if_pos c, if_pos c]
  · rw [if_neg c, if_neg c]
    refine sumF_congr _ _ (fun k k1 k2 => ?_)
    rw [dp_st (by omega) (by omega) (by omega), dp_st (by omega) (by omega) (by omega)]
theorem dp_2 {kd : Int → Int} {i j : Int} (h : i ≤ j) : dp kd 2 i j = if i = j then 1 else (if kd i = 3 then dp kd 2 (i + 1) j else 0) + sumF (fun k => dp kd 0 i k * dp kd 2 k j) (j - i).toNat (i + 1) := by
  rw [dp_big (by omega) h, dpA]
  by_cases c : i = j
  · rw [if_pos c, if_pos c]
  · rw [if_neg c, if_neg c, dp_st (by omega) (by omega) (by omega)]
    congr 1
    refine sumF_congr _ _ (fun k k1 k2 => ?_)
    rw [dp_st (by omega) (by omega) (by omega), dp_st (by omega) (by omega) (by omega)]
theorem dp_3 {kd : Int → Int} {i j : Int} (h : i ≤ j) : dp kd 3 i j = if i = j then 0 else if kd i = 0 then dp kd 1 (i + 1) j else if kd i = 2 then dp kd 3 (i + 1) j else 0 := by
  rw [dp_big (by omega) h, dpA]
  by_cases c : i = j
  · rw [if_pos c, if_pos c]
  · rw [if_neg c, if_neg c, dp_st (by omega) (by omega) (by omega), dp_st (by omega) (by omega) (by omega)]
theorem dp_4 {kd : Int → Int} {i j : Int} (h : i ≤ j) : dp kd 4 i j = dp kd 3 i j + sumF (fun k => if kd k = 5 then dp kd 3 i k * dp kd 3 (k + 1) j else 0) (j - i - 1).toNat (i + 1) := by
  rw [dp_big (by omega) h, dpA, dp_st (by omega) (by omega) (by omega)]
  congr 1
  refine sumF_congr _ _ (fun k k1 k2 => ?_)
  rw [dp_st (by omega) (by omega) (by omega), dp_st (by omega) (by omega) (by omega)]
theorem dp_5 {kd : Int → Int} {i j : Int} (h : i ≤ j) : dp kd 5 i j = sumF (fun k => if kd k = 1 then dp kd 4 i k * dp kd 6 (k + 1) j else 0) (j - i - 1).toNat (i + 1) := by
  rw [dp_big (by omega) h, dpA]
  refine sumF_congr _ _ (fun k k1 k2 => ?_)
  rw [dp_st (by omega) (by omega) (by omega), dp_st (by omega) (by omega) (by omega)]
theorem dp_6 {kd : Int → Int} {i j : Int} (h : i ≤ j) : dp kd 6 i j = dp kd 2 i j + sumF (fun k => (dp kd 4 i k + if kd i = 6 then dp kd 5 (i + 1) k else 0) * dp kd 2 k j) (j - i).toNat (i + 1) := by
  rw [dp_big (by omega) h, dpA_6, dp_st (by omega) (by omega) (by omega)]
  congr 1
  refine sumF_congr _ _ (fun k k1 k2 => ?_)
  rw [dp_st (by omega) (by omega) (by omega), dp_st (by omega) (by omega) (by omega), dp_st (by omega) (by omega) (by omega)]
def dbT : List (List Int) := [[0, 0, 1, 1, 2, 3, 6, 9, 21, 40, 94, 192, 449], [1, 0, 1, 1, 3, 5, 12, 22, 53, 108, 256, 551, 1299], [1, 1, 2, 4, 9, 20, 46, 104, 242, 562, 1326, 3127, 7445], [0, 1, 1, 1, 1, 3, 5, 12, 22, 53, 108, 256, 551], [0, 1, 1, 2, 3, 6, 9, 21, 40, 94, 192, 449, 971], [0, 0, 1, 3, 8, 21, 54, 136, 343, 865, 2182, 5505, 13899], [1, 2, 4, 10, 24, 59, 143, 354, 873, 2175, 5414, 13550, 33925]]
def db (t : Nat) (L : Int) : Int := (dbT.getD t []).getD L.toNat 0
theorem db_nn : ∀ t : Nat, t ≤ 6 → ∀ L : Int, 0 ≤ db t L := by
  intro t ht L
  unfold db
  rw [List.getD_eq_getElem?_getD]
  by_cases h : L.toNat < (dbT.getD t []).length
  · rw [List.getElem?_eq_getElem h]
    have : ∀ x ∈ dbT.getD t [], 0 ≤ x := by
      match t, ht with
      | 0, _ | 1, _ | 2, _ | 3, _ | 4, _ | 5, _ | 6, _ => decide
    exact this _ (List.getElem_mem h)
  · rw [List.getElem?_eq_none (by omega)]; simp
theorem lt13 {p : Nat → Prop} (h : ∀ L, L < 13 → p L) (L : Nat) (hL : L ≤ 12) : p L := h L (by omega)
theorem db_1 : ∀ L : Nat, L < 13 → L ≠ 0 → sumF (fun k => db 0 k * db 1 ((L : Int) - k)) L 1 ≤ db 1 L := by decide +kernel
theorem db_2 : ∀ L : Nat, L < 13 → L ≠ 0 → db 2 ((L : Int) - 1) + sumF (fun k => db 0 k * db 2 ((L : Int) - k)) L 1 ≤ db 2 L := by decide +kernel
theorem db_0 : ∀ L : Nat, L < 13 → L ≠ 0 → db 4 ((L : Int) - 1) ≤ db 0 L := by decide +kernel
theorem db_3 : ∀ L : Nat, L < 13 → L ≠ 0 → db 1 ((L : Int) - 1) ≤ db 3 L ∧ db 3 ((L : Int) - 1) ≤ db 3 L := by decide +kernel
theorem db_4 : ∀ L : Nat, L < 13 → db 3 L + sumF (fun k => db 3 k * db 3 ((L : Int) - k - 1)) (L - 1) 1 ≤ db 4 L := by decide +kernel
theorem db_5 : ∀ L : Nat, L < 13 → sumF (fun k => db 4 k * db 6 ((L : Int) - k - 1)) (L - 1) 1 ≤ db 5 L := by decide +kernel
theorem db_6 : ∀ L : Nat, L < 13 → db 2 L + sumF (fun k => (db 4 k + db 5 (k - 1)) * db 2 ((L : Int) - k)) L 1 ≤ db 6 L := by decide +kernel
theorem dp_b (kd : Int → Int) : ∀ (m t : Nat) (i j : Int), t ≤ 6 → i ≤ j → j - i ≤ 12 → 4 * (j - i) + dpo t < m → 0 ≤ dp kd t i j ∧ dp kd t i j ≤ db t (j - i) := by
  intro m
  induction m with
  | zero => intro t i j ht hij hL h1; omega
  | succ m ih =>
    intro t i j ht hij hL h1
    have o0 : dpo 0 = 0 := rfl
    have o1 : dpo 1 = 1 := rfl
    have o2 : dpo 2 = 1 := rfl
    have o3 : dpo 3 = 0 := rfl
    have o4 : dpo 4 = 1 := rfl
    have o5 : dpo 5 = 0 := rfl
    have o6 : dpo 6 = 2 := rfl
    obtain ⟨L, rfl⟩ : ∃ L : Nat, j = i + L := ⟨(j - i).toNat, by omega⟩
    have eL : i + (L : Int) - i = L := by omega
    have pr : ∀ {a b c e : Int}, 0 ≤ a → a ≤ c → 0 ≤ b → b ≤ e → 0 ≤ a * b ∧ a * b ≤ c * e := fun ha hac hb hbe => ⟨Int.mul_nonneg ha hb, Int.mul_le_mul hac hbe hb (by omega)⟩
    rw [eL]
    match t, ht with
    | 0, _ =>
      rw [dp_0 hij]
      split
      · have q := ih 4 (i + 1) (i + L) (by omega) (by omega) (by omega) (by omega)
        have := db_0 L (by omega) (by omega)
        rw [show i + (L : Int) - (i + 1) = L - 1 by omega] at q
        omega
      · exact ⟨by omega, db_nn 0 (by omega) _⟩
    | 1, _ =>
      rw [dp_1 hij]
      split
      · have : L = 0 := by omega
        subst this
        decide
      · rw [eL, Int.toNat_natCast]
        have q := fun (k : Int) (k1 : i + 1 ≤ k) (k2 : k < i + 1 + L) => pr (ih 0 i k (by omega) (by omega) (by omega) (by omega)).1 (ih 0 i k (by omega) (by omega) (by omega) (by omega)).2 (ih 1 k (i + L) (by omega) (by omega) (by omega) (by omega)).1 (ih 1 k (i + L) (by omega) (by omega) (by omega) (by omega)).2
        refine ⟨sumF_nn _ _ (fun k k1 k2 => (q k k1 k2).1), Int.le_trans (sumF_mono _ _ (fun k k1 k2 => (q k k1 k2).2)) ?_⟩
        rw [sumF_shift]
        refine Int.le_trans (Int.le_of_eq (sumF_congr _ _ (fun k k1 k2 => ?_))) (db_1 L (by omega) (by omega))
        rw [show i + k - i = k by omega, show i + (L : Int) - (i + k) = L - k by omega]
    | 2, _ =>
      rw [dp_2 hij]
      split
      · have : L = 0 := by omega
        subst this
        decide
      · rw [eL, Int.toNat_natCast]
        have q := fun (k : Int) (k1 : i + 1 ≤ k) (k2 : k < i + 1 + L) => pr (ih 0 i k (by omega) (by omega) (by omega) (by omega)).1 (ih 0 i k (by omega) (by omega) (by omega) (by omega)).2 (ih 2 k (i + L) (by omega) (by omega) (by omega) (by omega)).1 (ih 2 k (i + L) (by omega) (by omega) (by omega) (by omega)).2
        have q2 := ih 2 (i + 1) (i + L) (by omega) (by omega) (by omega) (by omega)
        rw [show i + (L : Int) - (i + 1) = L - 1 by omega] at q2
        have s1 := sumF_nn _ _ (fun k k1 k2 => (q k k1 k2).1)
        have s2 := sumF_mono _ _ (fun k k1 k2 => (q k k1 k2).2)
        rw [sumF_shift (f := fun k => db 0 (k - i) * db 2 (i + (L : Int) - k)), sumF_congr (f := fun K => db 0 (i + K - i) * db 2 (i + (L : Int) - (i + K))) (f' := fun k => db 0 k * db 2 ((L : Int) - k)) _ _ (fun k k1 k2 => by
          rw [show i + k - i = k by omega, show i + (L : Int) - (i + k) = L - k by omega])] at s2
        have s3 := db_2 L (by omega) (by omega)
        have s4 := db_nn 2 (by omega) ((L : Int) - 1)
        split <;> omega
    | 3, _ =>
      rw [dp_3 hij]
      have s0 := db_nn 3 (by omega) (L : Int)
      split
      · exact ⟨by omega, s0⟩
      · have q1 := ih 1 (i + 1) (i + L) (by omega) (by omega) (by omega) (by omega)
        have q2 := ih 3 (i + 1) (i + L) (by omega) (by omega) (by omega) (by omega)
        rw [show i + (L : Int) - (i + 1) = L - 1 by omega] at q1 q2
        have s3 := db_3 L (by omega) (by omega)
        split
        · omega
        · split <;> omega
    | 4, _ =>
      rw [dp_4 hij, show (i + (L : Int) - i - 1).toNat = L - 1 by omega]
      have q0 := ih 3 i (i + L) (by omega) (by omega) (by omega) (by omega)
      rw [eL] at q0
      have q : ∀ (k : Int) (k1 : i + 1 ≤ k) (k2 : k < i + 1 + ((L - 1 : Nat) : Int)), 0 ≤ (if kd k = 5 then dp kd 3 i k * dp kd 3 (k + 1) (i + L) else 0) ∧ (if kd k = 5 then dp kd 3 i k * dp kd 3 (k + 1) (i + L) else 0) ≤ db 3 (k - i) * db 3 (i + L - (k + 1)) := fun k k1 k2 => by
        have := pr (ih 3 i k (by omega) (by omega) (by omega) (by omega)).1 (ih 3 i k (by omega) (by omega) (by omega) (by omega)).2 (ih 3 (k + 1) (i + L) (by omega) (by omega) (by omega) (by omega)).1 (ih 3 (k + 1) (i + L) (by omega) (by omega) (by omega) (by omega)).2
        split <;> omega
      have s1 := sumF_nn _ _ (fun k k1 k2 => (q k k1 k2).1)
      have s2 := sumF_mono _ _ (fun k k1 k2 => (q k k1 k2).2)
      rw [sumF_shift (f := fun k => db 3 (k - i) * db 3 (i + (L : Int) - (k + 1))), sumF_congr (f := fun K => db 3 (i + K - i) * db 3 (i + (L : Int) - (i + K + 1))) (f' := fun k => db 3 k * db 3 ((L : Int) - k - 1)) _ _ (fun k k1 k2 => by
          rw [show i + k - i = k by omega, show i + (L : Int) - (i + k + 1) = L - k - 1 by omega])] at s2
      have s3 := db_4 L (by omega)
      omega
    | 5, _ =>
      rw [dp_5 hij, show (i + (L : Int) - i - 1).toNat = L - 1 by omega]
      have q : ∀ (k : Int) (k1 : i + 1 ≤ k) (k2 : k < i + 1 + ((L - 1 : Nat) : Int)), 0 ≤ (if kd k = 1 then dp kd 4 i k * dp kd 6 (k + 1) (i + L) else 0) ∧ (if kd k = 1 then dp kd 4 i k * dp kd 6 (k + 1) (i + L) else 0) ≤ db 4 (k - i) * db 6 (i + L - (k + 1)) := fun k k1 k2 => by
        have := pr (ih 4 i k (by omega) (by omega) (by omega) (by omega)).1 (ih 4 i k (by omega) (by omega) (by omega) (by omega)).2 (ih 6 (k + 1) (i + L) (by omega) (by omega) (by omega) (by omega)).1 (ih 6 (k + 1) (i + L) (by omega) (by omega) (by omega) (by omega)).2
        split <;> omega
      have s1 := sumF_nn _ _ (fun k k1 k2 => (q k k1 k2).1)
      have s2 := sumF_mono _ _ (fun k k1 k2 => (q k k1 k2).2)
      rw [sumF_shift (f := fun k => db 4 (k - i) * db 6 (i + (L : Int) - (k + 1))), sumF_congr (f := fun K => db 4 (i + K - i) * db 6 (i + (L : Int) - (i + K + 1))) (f' := fun k => db 4 k * db 6 ((L : Int) - k - 1)) _ _ (fun k k1 k2 => by
          rw [show i + k - i = k by omega, show i + (L : Int) - (i + k + 1) = L - k - 1 by omega])] at s2
      have s3 := db_5 L (by omega)
      omega
    | 6, _ =>
      rw [dp_6 hij, eL, Int.toNat_natCast]
      have q0 := ih 2 i (i + L) (by omega) (by omega) (by omega) (by omega)
      rw [eL] at q0
      have q : ∀ (k : Int) (k1 : i + 1 ≤ k) (k2 : k < i + 1 + (L : Int)), 0 ≤ (dp kd 4 i k + if kd i = 6 then dp kd 5 (i + 1) k else 0) * dp kd 2 k (i + L) ∧ (dp kd 4 i k + if kd i = 6 then dp kd 5 (i + 1) k else 0) * dp kd 2 k (i + L) ≤ (db 4 (k - i) + db 5 (k - i - 1)) * db 2 (i + L - k) := fun k k1 k2 => by
        have a1 := ih 4 i k (by omega) (by omega) (by omega) (by omega)
        have a2 := ih 5 (i + 1) k (by omega) (by omega) (by omega) (by omega)
        rw [show k - (i + 1) = k - i - 1 by omega] at a2
        have a3 := db_nn 5 (by omega) (k - i - 1)
        exact pr (by split <;> omega) (by split <;> omega) (ih 2 k (i + L) (by omega) (by omega) (by omega) (by omega)).1 (ih 2 k (i + L) (by omega) (by omega) (by omega) (by omega)).2
      have s1 := sumF_nn _ _ (fun k k1 k2 => (q k k1 k2).1)
      have s2 := sumF_mono _ _ (fun k k1 k2 => (q k k1 k2).2)
      rw [sumF_shift (f := fun k => (db 4 (k - i) + db 5 (k - i - 1)) * db 2 (i + (L : Int) - k)), sumF_congr (f := fun K => (db 4 (i + K - i) + db 5 (i + K - i - 1)) * db 2 (i + (L : Int) - (i + K))) (f' := fun k => (db 4 k + db 5 (k - 1)) * db 2 ((L : Int) - k)) _ _ (fun k k1 k2 => by
          rw [show i + k - i = k by omega, show i + (L : Int) - (i + k) = L - k by omega])] at s2
      have s3 := db_6 L (by omega)
      omega
theorem db_le : ∀ t : Nat, t ≤ 6 → ∀ L : Int, db t L ≤ 40000 := by
  intro t ht L
  unfold db
  rw [List.getD_eq_getElem?_getD]
  by_cases h : L.toNat < (dbT.getD t []).length
  · rw [List.getElem?_eq_getElem h]
    have : ∀ x ∈ dbT.getD t [], x ≤ 40000 := by
      match t, ht with
      | 0, _ | 1, _ | 2, _ | 3, _ | 4, _ | 5, _ | 6, _ => decide
    exact this _ (List.getElem_mem h)
  · rw [List.getElem?_eq_none (by omega)]; simp
theorem dpo_le (t : Nat) : dpo t ≤ 2 := by
  unfold dpo
  repeat' split
  all_goals omega
theorem dp_r {kd : Int → Int} {t : Nat} {i j : Int} (ht : t ≤ 6) (hij : i ≤ j) (hL : j - i ≤ 12) : 0 ≤ dp kd t i j ∧ dp kd t i j ≤ 40000 := by
  have h0 := dpo_le t
  have h1 := dp_b kd (4 * (j - i).toNat + 3) t i j ht hij hL (by omega)
  have h2 := db_le t ht (j - i)
  omega

end M19
