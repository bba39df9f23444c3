section M19
theorem sumF_mono {f g : Int → Int} : ∀ (m : Nat) (k : Int), (∀ j, k ≤ j → j < k + m → f j ≤ g j) → sumF f m k ≤ sumF g m k
  | 0, _, _ => Int.le_refl _
  | m + 1, k, h => by
    have h1 := h k (by omega) (by omega)
    have h2 := sumF_mono m (k + 1) (fun j h1 h2 => h j (by omega) (by omega))
    rw [sumF, sumF]; omega
theorem sumF_nn {f : Int → Int} : ∀ (m : Nat) (k : Int), (∀ j, k ≤ j → j < k + m → 0 ≤ f j) → 0 ≤ sumF f m k
  | 0, _, _ => Int.le_refl _
  | m + 1, k, h => by
    have h1 := h k (by omega) (by omega)
    have h2 := sumF_nn m (k + 1) (fun j h1 h2 => h j (by omega) (by omega))
    rw [sumF]; omega
theorem sumF_shift {f : Int → Int} (c : Int) : ∀ (m : Nat) (k : Int), sumF f m (c + k) = sumF (fun j => f (c + j)) m k
  | 0, _ => rfl
  | m + 1, k => by rw [sumF, sumF, ← sumF_shift c m (k + 1), Int.add_assoc]
/-- in how many ways the part from i to j is: 0 a phrase, 1 phrases in a row, 2 hangings, 3 a name, 4 a group, 5 a clause, 6 what stands behind a verb -/
def dpA (kd : Int → Int) : Nat → Nat → Int → Int → Int
  | 0, _, _, _ => 0
  | m + 1, t, i, j => match t with
    | 0 => if i < j ∧ kd i = 4 then dpA kd m 4 (i + 1) j else 0
    | 1 => if i = j then 1 else sumF (fun k => dpA kd m 0 i k * dpA kd m 1 k j) (j - i).toNat (i + 1)
    | 2 => if i = j then 1 else (if kd i = 3 then dpA kd m 2 (i + 1) j else 0) + sumF (fun k => dpA kd m 0 i k * dpA kd m 2 k j) (j - i).toNat (i + 1)
    | 3 => if i = j then 0 else if kd i = 0 then dpA kd m 1 (i + 1) j else if kd i = 2 then dpA kd m 3 (i + 1) j else 0
    | 4 => dpA kd m 3 i j + sumF (fun k => if kd k = 5 then dpA kd m 3 i k * dpA kd m 3 (k + 1) j else 0) (j - i - 1).toNat (i + 1)
    | 5 => sumF (fun k => if kd k = 1 then dpA kd m 4 i k * dpA kd m 6 (k + 1) j else 0) (j - i - 1).toNat (i + 1)
    | _ => dpA kd m 2 i j + sumF (fun k => (dpA kd m 4 i k + if kd i = 6 then dpA kd m 5 (i + 1) k else 0) * dpA kd m 2 k j) (j - i).toNat (i + 1)
theorem dpA_6 (kd : Int → Int) (m : Nat) (i j : Int) : dpA kd (m + 1) 6 i j = dpA kd m 2 i j + sumF (fun k => (dpA kd m 4 i k + if kd i = 6 then dpA kd m 5 (i + 1) k else 0) * dpA kd m 2 k j) (j - i).toNat (i + 1) := rfl
def dpo (t : Nat) : Nat := if t = 0 ∨ t = 3 ∨ t = 5 then 0 else if t = 1 ∨ t = 2 ∨ t = 4 then 1 else 2
theorem dpA_st (kd : Int → Int) : ∀ (m m' t : Nat) (i j : Int), t ≤ 6 → i ≤ j → 4 * (j - i) + dpo t < m → 4 * (j - i) + dpo t < m' → dpA kd m t i j = dpA kd m' t i j := by
  intro m
  induction m with
  | zero => intro m' t i j ht hij h1 h2; omega
  | succ m ih =>
    intro m' t i j ht hij h1 h2
    cases m' with
    | zero => omega
    | succ m' =>
      have o0 : dpo 0 = 0 := rfl
      have o1 : dpo 1 = 1 := rfl
      have o2 : dpo 2 = 1 := rfl
      have o3 : dpo 3 = 0 := rfl
      have o4 : dpo 4 = 1 := rfl
      have o5 : dpo 5 = 0 := rfl
      have o6 : dpo 6 = 2 := rfl
      match t, ht with
      | 0, _ =>
        rw [dpA, dpA]
        by_cases c : i < j ∧ kd i = 4
        · rw [if_pos c, if_pos c]; exact ih m' 4 _ _ (by omega) (by omega) (by omega) (by omega)
        · rw [if_neg c, if_neg c]
      | 1, _ =>
        rw [dpA, dpA]
        by_cases c : i = j
        · rw [if_pos c, if_pos c]
        · rw [if_neg c, if_neg c]
          refine sumF_congr _ _ (fun k k1 k2 => ?_)
          rw [ih m' 0 i k (by omega) (by omega) (by omega) (by omega), ih m' 1 k j (by omega) (by omega) (by omega) (by omega)]
      | 2, _ =>
        rw [dpA, dpA]
        by_cases c : i = j
        · rw [if_pos c, if_pos c]
        · rw [if_neg c, if_neg c]
          congr 1
          · by_cases c2 : kd i = 3
            · rw [if_pos c2, if_pos c2]; exact ih m' 2 _ _ (by omega) (by omega) (by omega) (by omega)
            · rw [if_neg c2, if_neg c2]
          · refine sumF_congr _ _ (fun k k1 k2 => ?_)
            rw [ih m' 0 i k (by omega) (by omega) (by omega) (by omega), ih m' 2 k j (by omega) (by omega) (by omega) (by omega)]
      | 3, _ =>
        rw [dpA, dpA]
        by_cases c : i = j
        · rw [if_pos c, if_pos c]
        · rw [if_neg c, if_neg c, ih m' 1 (i + 1) j (by omega) (by omega) (by omega) (by omega), ih m' 3 (i + 1) j (by omega) (by omega) (by omega) (by omega)]
      | 4, _ =>
        rw [dpA, dpA, ih m' 3 i j (by omega) (by omega) (by omega) (by omega)]
        congr 1
        refine sumF_congr _ _ (fun k k1 k2 => ?_)
        rw [ih m' 3 i k (by omega) (by omega) (by omega) (by omega), ih m' 3 (k + 1) j (by omega) (by omega) (by omega) (by omega)]
      | 5, _ =>
        rw [dpA, dpA]
        refine sumF_congr _ _ (fun k k1 k2 => ?_)
        rw [ih m' 4 i k (by omega) (by omega) (by omega) (by omega), ih m' 6 (k + 1) j (by omega) (by omega) (by omega) (by omega)]
      | 6, _ =>
        rw [dpA_6, dpA_6, ih m' 2 i j (by omega) (by omega) (by omega) (by omega)]
        congr 1
        refine sumF_congr _ _ (fun k k1 k2 => ?_)
        rw [ih m' 4 i k (by omega) (by omega) (by omega) (by omega), ih m' 5 (i + 1) k (by omega) (by omega) (by omega) (by omega), ih m' 2 k j (by omega) (by omega) (by omega) (by omega)]
def dp (kd : Int → Int) (t : Nat) (i j : Int) : Int := dpA kd (4 * (j - i).toNat + 3) t i j
theorem dp_st {kd : Int → Int} {m t : Nat} {i j : Int} (ht : t ≤ 6) (hij : i ≤ j) (h : 4 * (j - i) + 2 < m) : dpA kd m t i j = dp kd t i j :=
  dpA_st kd m _ t i j ht hij (by have : dpo t ≤ 2 := by (unfold dpo; repeat' split) <;> omega
                                 omega) (by have : dpo t ≤ 2 := by (unfold dpo; repeat' split) <;> omega
                                            omega)
theorem dp_big {kd : Int → Int} {t : Nat} {i j : Int} (ht : t ≤ 6) (hij : i ≤ j) : dp kd t i j = dpA kd (4 * (j - i).toNat + 3 + 1) t i j := (dp_st ht hij (by omega)).symm
theorem dp_big3 {kd : Int → Int} {t : Nat} {i j : Int} (ht : t ≤ 6) (hij : i ≤ j) : dp kd t i j = dpA kd (4 * (j - i).toNat + 3 + 1) t i j := (dp_st ht hij (by omega)).symm
theorem dp_0 {kd : Int → Int} {i j : Int} (h : i ≤ j) : dp kd 0 i j = if i < j ∧ kd i = 4 then dp kd 4 (i + 1) j else 0 := by
  rw [dp_big (by omega) h, dpA]
  by_cases c : i < j ∧ kd i = 4
  · rw [if_pos c, if_pos c, dp_st (by omega) (by omega) (by omega)]
  · rw [if_neg c, if_neg c]
theorem dp_1 {kd : Int → Int} {i j : Int} (h : i ≤ j) : dp kd 1 i j = if i = j then 1 else sumF (fun k => dp kd 0 i k * dp kd 1 k j) (j - i).toNat (i + 1) := by
  rw [dp_big (by omega) h, dpA]
  by_cases c : i = j
  · rw [if_pos c, if_pos c]
  · rw [if_neg c, if_neg c]
    refine sumF_congr _ _ (fun k k1 k2 => ?_)
    rw [dp_st (by omega) (by omega) (by omega), dp_st (by omega) (by omega) (by omega)]
theorem dp_2 {kd : Int → Int} {i j : Int} (h : i ≤ j) : dp kd 2 i j = if i = j then 1 else (if kd i = 3 then dp kd 2 (i + 1) j else 0) + sumF (fun k => dp kd 0 i k * dp kd 2 k j) (j - i).toNat (i + 1) := by
  rw [dp_big (by omega) h, dpA]
  by_cases c : i = j
  · rw [if_pos c, if_pos c]
  · rw [if_neg c, if_neg c, dp_st (by omega) (by omega) (by omega)]
    congr 1
    refine sumF_congr _ _ (fun k k1 k2 => ?_)
    rw [dp_st (by omega) (by omega) (by omega), dp_st (by omega) (by omega) (by omega)]
theorem dp_3 {kd : Int → Int} {i j : Int} (h : i ≤ j) : dp kd 3 i j = if i = j then 0 else if kd i = 0 then dp kd 1 (i + 1) j else if kd i = 2 then dp kd 3 (i + 1) j else 0 := by
  rw [dp_big (by omega) h, dpA]
  by_cases c : i = j
  · rw [if_pos c, if_pos c]
  · rw [if_neg c, if_neg c, dp_st (by omega) (by omega) (by omega), dp_st (by omega) (by omega) (by omega)]
theorem dp_4 {kd : Int → Int} {i j : Int} (h : i ≤ j) : dp kd 4 i j = dp kd 3 i j + sumF (fun k => if kd k = 5 then dp kd 3 i k * dp kd 3 (k + 1) j else 0) (j - i - 1).toNat (i + 1) := by
  rw [dp_big (by omega) h, dpA, dp_st (by omega) (by omega) (by omega)]
  congr 1
  refine sumF_congr _ _ (fun k k1 k2 => ?_)
  rw [dp_st (by omega) (by omega) (by omega), dp_st (by omega) (by omega) (by omega)]
theorem dp_5 {kd : Int → Int} {i j : Int} (h : i ≤ j) : dp kd 5 i j = sumF (fun k => if kd k = 1 then dp kd 4 i k * dp kd 6 (k + 1) j else 0) (j - i - 1).toNat (i + 1) := by
  rw [dp_big (by omega) h, dpA]
  refine sumF_congr _ _ (fun k k1 k2 => ?_)
  rw [dp_st (by omega) (by omega) (by omega), dp_st (by omega) (by omega) (by omega)]
theorem dp_6 {kd : Int → Int} {i j : Int} (h : i ≤ j) : dp kd 6 i j = dp kd 2 i j + sumF (fun k => (dp kd 4 i k + if kd i = 6 then dp kd 5 (i + 1) k else 0) * dp kd 2 k j) (j - i).toNat (i + 1) := by
  rw [dp_big (by omega) h, dpA_6, dp_st (by omega) (by omega) (by omega)]
  congr 1
  refine sumF_congr _ _ (fun k k1 k2 => ?_)
  rw [dp_st (by omega) (by omega) (by omega), dp_st (by omega) (by omega) (by omega), dp_st (by omega) (by omega) (by omega)]
def dbT : List (List Int) := [[0, 0, 1, 1, 2, 3, 6, 9, 21, 40, 94, 192, 449], [1, 0, 1, 1, 3, 5, 12, 22, 53, 108, 256, 551, 1299], [1, 1, 2, 4, 9, 20, 46, 104, 242, 562, 1326, 3127, 7445], [0, 1, 1, 1, 1, 3, 5, 12, 22, 53, 108, 256, 551], [0, 1, 1, 2, 3, 6, 9, 21, 40, 94, 192, 449, 971], [0, 0, 1, 3, 8, 21, 54, 136, 343, 865, 2182, 5505, 13899], [1, 2, 4, 10, 24, 59, 143, 354, 873, 2175, 5414, 13550, 33925]]
def db (t : Nat) (L : Int) : Int := (dbT.getD t []).getD L.toNat 0
theorem db_nn : ∀ t : Nat, t ≤ 6 → ∀ L : Int, 0 ≤ db t L := by
  intro t ht L
  unfold db
  rw [List.getD_eq_getElem?_getD]
  by_cases h : L.toNat < (dbT.getD t []).length
  · rw [List.getElem?_eq_getElem h]
    have : ∀ x ∈ dbT.getD t [], 0 ≤ x := by
      match t, ht with
      | 0, _ | 1, _ | 2, _ | 3, _ | 4, _ | 5, _ | 6, _ => decide
    exact this _ (List.getElem_mem h)
  · rw [List.getElem?_eq_none (by omega)]; simp
theorem lt13 {p : Nat → Prop} (h : ∀ L, L < 13 → p L) (L : Nat) (hL : L ≤ 12) : p L := h L (by omega)
theorem db_1 : ∀ L : Nat, L < 13 → L ≠ 0 → sumF (fun k => db 0 k * db 1 ((L : Int) - k)) L 1 ≤ db 1 L := by decide +kernel
theorem db_2 : ∀ L : Nat, L < 13 → L ≠ 0 → db 2 ((L : Int) - 1) + sumF (fun k => db 0 k * db 2 ((L : Int) - k)) L 1 ≤ db 2 L := by decide +kernel
theorem db_0 : ∀ L : Nat, L < 13 → L ≠ 0 → db 4 ((L : Int) - 1) ≤ db 0 L := by decide +kernel
theorem db_3 : ∀ L : Nat, L < 13 → L ≠ 0 → db 1 ((L : Int) - 1) ≤ db 3 L ∧ db 3 ((L : Int) - 1) ≤ db 3 L := by decide +kernel
theorem db_4 : ∀ L : Nat, L < 13 → db 3 L + sumF (fun k => db 3 k * db 3 ((L : Int) - k - 1)) (L - 1) 1 ≤ db 4 L := by decide +kernel
theorem db_5 : ∀ L : Nat, L < 13 → sumF (fun k => db 4 k * db 6 ((L : Int) - k - 1)) (L - 1) 1 ≤ db 5 L := by decide +kernel
theorem db_6 : ∀ L : Nat, L < 13 → db 2 L + sumF (fun k => (db 4 k + db 5 (k - 1)) * db 2 ((L : Int) - k)) L 1 ≤ db 6 L := by decide +kernel
theorem dp_b (kd : Int → Int) : ∀ (m t : Nat) (i j : Int), t ≤ 6 → i ≤ j → j - i ≤ 12 → 4 * (j - i) + dpo t < m → 0 ≤ dp kd t i j ∧ dp kd t i j ≤ db t (j - i) := by
  intro m
  induction m with
  | zero => intro t i j ht hij hL h1; omega
  | succ m ih =>
    intro t i j ht hij hL h1
    have o0 : dpo 0 = 0 := rfl
    have o1 : dpo 1 = 1 := rfl
    have o2 : dpo 2 = 1 := rfl
    have o3 : dpo 3 = 0 := rfl
    have o4 : dpo 4 = 1 := rfl
    have o5 : dpo 5 = 0 := rfl
    have o6 : dpo 6 = 2 := rfl
    obtain ⟨L, rfl⟩ : ∃ L : Nat, j = i + L := ⟨(j - i).toNat, by omega⟩
    have eL : i + (L : Int) - i = L := by omega
    have pr : ∀ {a b c e : Int}, 0 ≤ a → a ≤ c → 0 ≤ b → b ≤ e → 0 ≤ a * b ∧ a * b ≤ c * e := fun ha hac hb hbe => ⟨Int.mul_nonneg ha hb, Int.mul_le_mul hac hbe hb (by omega)⟩
    rw [eL]
    match t, ht with
    | 0, _ =>
      rw [dp_0 hij]
      split
      · have q := ih 4 (i + 1) (i + L) (by omega) (by omega) (by omega) (by omega)
        have := db_0 L (by omega) (by omega)
        rw [show i + (L : Int) - (i + 1) = L - 1 by omega] at q
        omega
      · exact ⟨by omega, db_nn 0 (by omega) _⟩
    | 1, _ =>
      rw [dp_1 hij]
      split
      · have : L = 0 := by omega
        subst this
        decide
      · rw [eL, Int.toNat_natCast]
        have q := fun (k : Int) (k1 : i + 1 ≤ k) (k2 : k < i + 1 + L) => pr (ih 0 i k (by omega) (by omega) (by omega) (by omega)).1 (ih 0 i k (by omega) (by omega) (by omega) (by omega)).2 (ih 1 k (i + L) (by omega) (by omega) (by omega) (by omega)).1 (ih 1 k (i + L) (by omega) (by omega) (by omega) (by omega)).2
        refine ⟨sumF_nn _ _ (fun k k1 k2 => (q k k1 k2).1), Int.le_trans (sumF_mono _ _ (fun k k1 k2 => (q k k1 k2).2)) ?_⟩
        rw [sumF_shift]
        refine Int.le_trans (Int.le_of_eq (sumF_congr _ _ (fun k k1 k2 => ?_))) (db_1 L (by omega) (by omega))
        rw [show i + k - i = k by omega, show i + (L : Int) - (i + k) = L - k by omega]
    | 2, _ =>
      rw [dp_2 hij]
      split
      · have : L = 0 := by omega
        subst this
        decide
      · rw [eL, Int.toNat_natCast]
        have q := fun (k : Int) (k1 : i + 1 ≤ k) (k2 : k < i + 1 + L) => pr (ih 0 i k (by omega) (by omega) (by omega) (by omega)).1 (ih 0 i k (by omega) (by omega) (by omega) (by omega)).2 (ih 2 k (i + L) (by omega) (by omega) (by omega) (by omega)).1 (ih 2 k (i + L) (by omega) (by omega) (by omega) (by omega)).2
        have q2 := ih 2 (i + 1) (i + L) (by omega) (by omega) (by omega) (by omega)
        rw [show i + (L : Int) - (i + 1) = L - 1 by omega] at q2
        have s1 := sumF_nn _ _ (fun k k1 k2 => (q k k1 k2).1)
        have s2 := sumF_mono _ _ (fun k k1 k2 => (q k k1 k2).2)
        rw [sumF_shift (f := fun k => db 0 (k - i) * db 2 (i + (L : Int) - k)), sumF_congr (f := fun K => db 0 (i + K - i) * db 2 (i + (L : Int) - (i + K))) (f' := fun k => db 0 k * db 2 ((L : Int) - k)) _ _ (fun k k1 k2 => by
          rw [show i + k - i = k by omega, show i + (L : Int) - (i + k) = L - k by omega])] at s2
        have s3 := db_2 L (by omega) (by omega)
        have s4 := db_nn 2 (by omega) ((L : Int) - 1)
        split <;> omega
    | 3, _ =>
      rw [dp_3 hij]
      have s0 := db_nn 3 (by omega) (L : Int)
      split
      · exact ⟨by omega, s0⟩
      · have q1 := ih 1 (i + 1) (i + L) (by omega) (by omega) (by omega) (by omega)
        have q2 := ih 3 (i + 1) (i + L) (by omega) (by omega) (by omega) (by omega)
        rw [show i + (L : Int) - (i + 1) = L - 1 by omega] at q1 q2
        have s3 := db_3 L (by omega) (by omega)
        split
        · omega
        · split <;> omega
    | 4, _ =>
      rw [dp_4 hij, show (i + (L : Int) - i - 1).toNat = L - 1 by omega]
      have q0 := ih 3 i (i + L) (by omega) (by omega) (by omega) (by omega)
      rw [eL] at q0
      have q : ∀ (k : Int) (k1 : i + 1 ≤ k) (k2 : k < i + 1 + ((L - 1 : Nat) : Int)), 0 ≤ (if kd k = 5 then dp kd 3 i k * dp kd 3 (k + 1) (i + L) else 0) ∧ (if kd k = 5 then dp kd 3 i k * dp kd 3 (k + 1) (i + L) else 0) ≤ db 3 (k - i) * db 3 (i + L - (k + 1)) := fun k k1 k2 => by
        have := pr (ih 3 i k (by omega) (by omega) (by omega) (by omega)).1 (ih 3 i k (by omega) (by omega) (by omega) (by omega)).2 (ih 3 (k + 1) (i + L) (by omega) (by omega) (by omega) (by omega)).1 (ih 3 (k + 1) (i + L) (by omega) (by omega) (by omega) (by omega)).2
        split <;> omega
      have s1 := sumF_nn _ _ (fun k k1 k2 => (q k k1 k2).1)
      have s2 := sumF_mono _ _ (fun k k1 k2 => (q k k1 k2).2)
      rw [sumF_shift (f := fun k => db 3 (k - i) * db 3 (i + (L : Int) - (k + 1))), sumF_congr (f := fun K => db 3 (i + K - i) * db 3 (i + (L : Int) - (i + K + 1))) (f' := fun k => db 3 k * db 3 ((L : Int) - k - 1)) _ _ (fun k k1 k2 => by
          rw [show i + k - i = k by omega, show i + (L : Int) - (i + k + 1) = L - k - 1 by omega])] at s2
      have s3 := db_4 L (by omega)
      omega
    | 5, _ =>
      rw [dp_5 hij, show (i + (L : Int) - i - 1).toNat = L - 1 by omega]
      have q : ∀ (k : Int) (k1 : i + 1 ≤ k) (k2 : k < i + 1 + ((L - 1 : Nat) : Int)), 0 ≤ (if kd k = 1 then dp kd 4 i k * dp kd 6 (k + 1) (i + L) else 0) ∧ (if kd k = 1 then dp kd 4 i k * dp kd 6 (k + 1) (i + L) else 0) ≤ db 4 (k - i) * db 6 (i + L - (k + 1)) := fun k k1 k2 => by
        have := pr (ih 4 i k (by omega) (by omega) (by omega) (by omega)).1 (ih 4 i k (by omega) (by omega) (by omega) (by omega)).2 (ih 6 (k + 1) (i + L) (by omega) (by omega) (by omega) (by omega)).1 (ih 6 (k + 1) (i + L) (by omega) (by omega) (by omega) (by omega)).2
        split <;> omega
      have s1 := sumF_nn _ _ (fun k k1 k2 => (q k k1 k2).1)
      have s2 := sumF_mono _ _ (fun k k1 k2 => (q k k1 k2).2)
      rw [sumF_shift (f := fun k => db 4 (k - i) * db 6 (i + (L : Int) - (k + 1))), sumF_congr (f := fun K => db 4 (i + K - i) * db 6 (i + (L : Int) - (i + K + 1))) (f' := fun k => db 4 k * db 6 ((L : Int) - k - 1)) _ _ (fun k k1 k2 => by
          rw [show i + k - i = k by omega, show i + (L : Int) - (i + k + 1) = L - k - 1 by omega])] at s2
      have s3 := db_5 L (by omega)
      omega
    | 6, _ =>
      rw [dp_6 hij, eL, Int.toNat_natCast]
      have q0 := ih 2 i (i + L) (by omega) (by omega) (by omega) (by omega)
      rw [eL] at q0
      have q : ∀ (k : Int) (k1 : i + 1 ≤ k) (k2 : k < i + 1 + (L : Int)), 0 ≤ (dp kd 4 i k + if kd i = 6 then dp kd 5 (i + 1) k else 0) * dp kd 2 k (i + L) ∧ (dp kd 4 i k + if kd i = 6 then dp kd 5 (i + 1) k else 0) * dp kd 2 k (i + L) ≤ (db 4 (k - i) + db 5 (k - i - 1)) * db 2 (i + L - k) := fun k k1 k2 => by
        have a1 := ih 4 i k (by omega) (by omega) (by omega) (by omega)
        have a2 := ih 5 (i + 1) k (by omega) (by omega) (by omega) (by omega)
        rw [show k - (i + 1) = k - i - 1 by omega] at a2
        have a3 := db_nn 5 (by omega) (k - i - 1)
        exact pr (by split <;> omega) (by split <;> omega) (ih 2 k (i + L) (by omega) (by omega) (by omega) (by omega)).1 (ih 2 k (i + L) (by omega) (by omega) (by omega) (by omega)).2
      have s1 := sumF_nn _ _ (fun k k1 k2 => (q k k1 k2).1)
      have s2 := sumF_mono _ _ (fun k k1 k2 => (q k k1 k2).2)
      rw [sumF_shift (f := fun k => (db 4 (k - i) + db 5 (k - i - 1)) * db 2 (i + (L : Int) - k)), sumF_congr (f := fun K => (db 4 (i + K - i) + db 5 (i + K - i - 1)) * db 2 (i + (L : Int) - (i + K))) (f' := fun k => (db 4 k + db 5 (k - 1)) * db 2 ((L : Int) - k)) _ _ (fun k k1 k2 => by
          rw [show i + k - i = k by omega, show i + (L : Int) - (i + k) = L - k by omega])] at s2
      have s3 := db_6 L (by omega)
      omega
theorem db_le : ∀ t : Nat, t ≤ 6 → ∀ L : Int, db t L ≤ 40000 := by
  intro t ht L
  unfold db
  rw [List.getD_eq_getElem?_getD]
  by_cases h : L.toNat < (dbT.getD t []).length
  · rw [List.getElem?_eq_getElem h]
    have : ∀ x ∈ dbT.getD t [], x ≤ 40000 := by
      match t, ht with
      | 0, _ | 1, _ | 2, _ | 3, _ | 4, _ | 5, _ | 6, _ => decide
    exact this _ (List.getElem_mem h)
  · rw [List.getElem?_eq_none (by omega)]; simp
theorem dpo_le (t : Nat) : dpo t ≤ 2 := by
  unfold dpo
  repeat' split
  all_goals omega
theorem dp_r {kd : Int → Int} {t : Nat} {i j : Int} (ht : t ≤ 6) (hij : i ≤ j) (hL : j - i ≤ 12) : 0 ≤ dp kd t i j ∧ dp kd t i j ≤ 40000 := by
  have h0 := dpo_le t
  have h1 := dp_b kd (4 * (j - i).toNat + 3) t i j ht hij hL (by omega)
  have h2 := db_le t ht (j - i)
  omega

set_option maxRecDepth 100000 in
set_option maxHeartbeats 4000000 in
theorem c_X7_span {l : Launch} {d : Nat} {h : Hp} {a b : Int} (hd : 1 ≤ d := by omega) : CP l d 0 0 yX7_span cX7_span 2 (Option.some Jvm.ClassFile.FieldType.int) [iv a, iv b] h (pI fun x h1 => x = 13 * a + b ∧ h1 = h) := by
  refine CP.ofV (L := [some (.int (Int32.ofInt a)), some (.int (Int32.ofInt b))]) RX7 (by decide +kernel) rfl (Nat.le_of_ble_eq_true rfl) rfl (fun X hX G E => ?_)
  subst hX
  refine V_bipush G dX7_span_0 (by decide) ?_
  refine V_iload0 G dX7_span_2 ?_
  refine V_imul G dX7_span_3 ?_
  refine V_iload1 G dX7_span_4 ?_
  refine V_iadd G dX7_span_5 ?_
  exact V_reti E dX7_span_6 rfl rfl ⟨_, rfl, ⟨rfl, rfl⟩⟩

set_option maxRecDepth 100000 in
set_option maxHeartbeats 4000000 in
theorem c_X7_rowsOf {l : Launch} {d : Nat} {h : Hp} {kd : Int → Int} {n i j : Int} (hn0 : 0 ≤ n ∧ n ≤ 12) (hk : ∀ w, 0 ≤ w → w < n → hI h 78 (2 + w) = kd w ∧ 0 ≤ kd w ∧ kd w ≤ 6) (hi : 0 ≤ i) (hij : i ≤ j) (hj : j ≤ n) {b : Int} (hb : b = 0 ∨ b = 1) (hp : ∀ k, i < k → k ≤ j → hI h 94 (13 * i + k) = dp kd 0 i k) (hr : b = 0 → ∀ k, i < k → k ≤ j → hI h 91 (13 * k + j) = dp kd 1 k j) (hh : b = 1 → ∀ k, i < k → k ≤ j → hI h 95 (13 * k + j) = dp kd 2 k j) (hd : 2 ≤ d := by omega) : CP l d 0 0 yX7_rowsOf cX7_rowsOf 7 (Option.some Jvm.ClassFile.FieldType.int) [.ref 77, iv i, iv j, iv b] h (pI fun x h1 => x = (if b = 0 then dp kd 1 i j else dp kd 2 i j) ∧ h1 = h) := by
  refine CP.ofV (L := [some (.ref 77), some (.int (Int32.ofInt i)), some (.int (Int32.ofInt j)), some (.int (Int32.ofInt b)), none, none, none]) RX7 (by decide +kernel) rfl (Nat.le_of_ble_eq_true rfl) rfl (fun X hX G E => ?_)
  subst hX
  rcases hb with rfl | rfl
  ·
    by_cases ce : i = j
    ·
      refine V_iload1 G dX7_rowsOf_0 ?_
      refine V_iload2 G dX7_rowsOf_1 ?_
      refine V_icmpne G dX7_rowsOf_2 (tgt := 7) (by decide) (by first | exact r _ _ | assumption | exact ⟨by omega, by omega⟩) (by first | exact r _ _ | assumption | exact ⟨by omega, by omega⟩) (fun c_2 => ?_) (fun c_2 => ?_)
      · exact absurd ce c_2
      ·
        refine V_iconst G dX7_rowsOf_5 ?_
        exact V_reti E dX7_rowsOf_6 rfl rfl ⟨_, rfl, ⟨by simp only [if_true, if_false, show ¬ (1 : Int) = 0 by decide]; rw [dp_1 hij, if_pos ce], rfl⟩⟩
    ·
      have lp : ∀ (m : Nat) (k : Int) (acc : Int) (a6 : Option Value), k + m = j + 1 → i + 1 ≤ k → acc + sumF (fun k => dp kd 0 i k * dp kd 1 k j) m k = dp kd 1 i j → V X 0 0 43 [some (.ref 77), some (.int (Int32.ofInt i)), some (.int (Int32.ofInt j)), some (.int (Int32.ofInt 0)), some (.int (Int32.ofInt acc)), some (.int (Int32.ofInt k)), a6] [] h := by
        intro m
        induction m with
        | zero =>
          intro k acc a6 hm_ hk0 hs
          refine V_iload5 G dX7_rowsOf_43 ?_
          refine V_iload2 G dX7_rowsOf_45 ?_
          refine V_icmpgt G dX7_rowsOf_46 (tgt := 105) (by decide) (by first | exact r _ _ | assumption | exact ⟨by omega, by omega⟩) (by first | exact r _ _ | assumption | exact ⟨by omega, by omega⟩) (fun c_46 => ?_) (fun c_46 => ?_)
          ·
            refine V_iload4 G dX7_rowsOf_105 ?_
            exact V_reti E dX7_rowsOf_107 rfl rfl ⟨_, rfl, ⟨by simp only [if_true, if_false, show ¬ (1 : Int) = 0 by decide]; rw [← hs]; simp [sumF], rfl⟩⟩
          · omega
        | succ m ih =>
          intro k acc a6 hm_ hk0 hs
          refine V_iload5 G dX7_rowsOf_43 ?_
          refine V_iload2 G dX7_rowsOf_45 ?_
          refine V_icmpgt G dX7_rowsOf_46 (tgt := 105) (by decide) (by first | exact r _ _ | assumption | exact ⟨by omega, by omega⟩) (by first | exact r _ _ | assumption | exact ⟨by omega, by omega⟩) (fun c_46 => ?_) (fun c_46 => ?_)
          · omega
          ·
            refine V_iload3 G dX7_rowsOf_49 ?_
            refine V_ifeq G dX7_rowsOf_50 (tgt := 67) (by decide) (by first | exact r _ _ | assumption | exact ⟨by omega, by omega⟩) (fun c_50 => ?_) (fun c_50 => ?_)
            ·
              refine V_aload0 G dX7_rowsOf_67 ?_
              refine V_getR G fl_X7_50 dX7_rowsOf_68 (by first | decide | assumption) (by first | rfl | assumption) rfl (by first | rfl | assumption) ?_
              refine V_iload5 G dX7_rowsOf_71 ?_
              refine V_iload2 G dX7_rowsOf_73 ?_
              refine V_cS2i (d1 := 1) G m_X7_161 dX7_rowsOf_74 (c_X7_span (a := k) (b := j)) (by omega) (by omega) (by omega) (Nat.le_of_ble_eq_true rfl) (fun x_74 h_74 hp_74 => ?_)
              rw [hp_74.1, hp_74.2]
              refine V_ialde G dX7_rowsOf_77 (by first | decide | assumption) (by first | rfl | assumption) (by decide) ⟨by omega, by omega⟩ (hr rfl k (by omega) (by omega)) ?_
              refine V_istore6 G dX7_rowsOf_78 rfl ?_
              refine V_iload4 G dX7_rowsOf_80 ?_
              refine V_aload0 G dX7_rowsOf_82 ?_
              refine V_getR G fl_X7_59 dX7_rowsOf_83 (by first | decide | assumption) (by first | rfl | assumption) rfl (by first | rfl | assumption) ?_
              refine V_iload1 G dX7_rowsOf_86 ?_
              refine V_iload5 G dX7_rowsOf_87 ?_
              refine V_cS2i (d1 := 1) G m_X7_161 dX7_rowsOf_89 (c_X7_span (a := i) (b := k)) (by omega) (by omega) (by omega) (Nat.le_of_ble_eq_true rfl) (fun x_89 h_89 hp_89 => ?_)
              rw [hp_89.1, hp_89.2]
              refine V_ialde G dX7_rowsOf_92 (by first | decide | assumption) (by first | rfl | assumption) (by decide) ⟨by omega, by omega⟩ (hp k (by omega) (by omega)) ?_
              refine V_iload6 G dX7_rowsOf_93 ?_
              refine V_imul G dX7_rowsOf_95 ?_
              refine V_iadd G dX7_rowsOf_96 ?_
              refine V_istore4 G dX7_rowsOf_97 rfl ?_
              refine V_iinc5 G dX7_rowsOf_99 rfl ?_
              refine V_goto G dX7_rowsOf_102 (tgt := 43) (by decide) ?_
              exact ih (k + 1) _ _ (by omega) (by omega) (by
                rw [← hs]
                conv => rhs; rw [sumF]
                omega)
            · exact absurd rfl c_50
      refine V_iload1 G dX7_rowsOf_0 ?_
      refine V_iload2 G dX7_rowsOf_1 ?_
      refine V_icmpne G dX7_rowsOf_2 (tgt := 7) (by decide) (by first | exact r _ _ | assumption | exact ⟨by omega, by omega⟩) (by first | exact r _ _ | assumption | exact ⟨by omega, by omega⟩) (fun c_2 => ?_) (fun c_2 => ?_)
      ·
        refine V_iload3 G dX7_rowsOf_7 ?_
        refine V_ifeq G dX7_rowsOf_8 (tgt := 35) (by decide) (by first | exact r _ _ | assumption | exact ⟨by omega, by omega⟩) (fun c_8 => ?_) (fun c_8 => ?_)
        ·
          refine V_iconst G dX7_rowsOf_35 ?_
          refine V_istore4 G dX7_rowsOf_36 rfl ?_
          refine V_iload1 G dX7_rowsOf_38 ?_
          refine V_iconst G dX7_rowsOf_39 ?_
          refine V_iadd G dX7_rowsOf_40 ?_
          refine V_istore5 G dX7_rowsOf_41 rfl ?_
          first
          | exact lp (j - i).toNat (i + 1) _ _ (by omega) (by omega) (by rw [dp_1 hij, if_neg ce]; omega)
          | exact lp (j - i).toNat (i + 1) _ _ (by omega) (by omega) (by rw [dp_1 hij, if_neg ce])
        · exact absurd rfl c_8
      · exact absurd c_2 ce
  ·
    by_cases ce : i = j
    ·
      refine V_iload1 G dX7_rowsOf_0 ?_
      refine V_iload2 G dX7_rowsOf_1 ?_
      refine V_icmpne G dX7_rowsOf_2 (tgt := 7) (by decide) (by first | exact r _ _ | assumption | exact ⟨by omega, by omega⟩) (by first | exact r _ _ | assumption | exact ⟨by omega, by omega⟩) (fun c_2 => ?_) (fun c_2 => ?_)
      · exact absurd ce c_2
      ·
        refine V_iconst G dX7_rowsOf_5 ?_
        exact V_reti E dX7_rowsOf_6 rfl rfl ⟨_, rfl, ⟨by simp only [if_true, if_false, show ¬ (1 : Int) = 0 by decide]; rw [dp_2 hij, if_pos ce], rfl⟩⟩
    ·
      have lp : ∀ (m : Nat) (k : Int) (acc : Int) (a6 : Option Value), k + m = j + 1 → i + 1 ≤ k → acc + sumF (fun k => dp kd 0 i k * dp kd 2 k j) m k = dp kd 2 i j → V X 0 0 43 [some (.ref 77), some (.int (Int32.ofInt i)), some (.int (Int32.ofInt j)), some (.int (Int32.ofInt 1)), some (.int (Int32.ofInt acc)), some (.int (Int32.ofInt k)), a6] [] h := by
        intro m
        induction m with
        | zero =>
          intro k acc a6 hm_ hk0 hs
          refine V_iload5 G dX7_rowsOf_43 ?_
          refine V_iload2 G dX7_rowsOf_45 ?_
          refine V_icmpgt G dX7_rowsOf_46 (tgt := 105) (by decide) (by first | exact r _ _ | assumption | exact ⟨by omega, by omega⟩) (by first | exact r _ _ | assumption | exact ⟨by omega, by omega⟩) (fun c_46 => ?_) (fun c_46 => ?_)
          ·
            refine V_iload4 G dX7_rowsOf_105 ?_
            exact V_reti E dX7_rowsOf_107 rfl rfl ⟨_, rfl, ⟨by simp only [if_true, if_false, show ¬ (1 : Int) = 0 by decide]; rw [← hs]; simp [sumF], rfl⟩⟩
          · omega
        | succ m ih =>
          intro k acc a6 hm_ hk0 hs
          refine V_iload5 G dX7_rowsOf_43 ?_
          refine V_iload2 G dX7_rowsOf_45 ?_
          refine V_icmpgt G dX7_rowsOf_46 (tgt := 105) (by decide) (by first | exact r _ _ | assumption | exact ⟨by omega, by omega⟩) (by first | exact r _ _ | assumption | exact ⟨by omega, by omega⟩) (fun c_46 => ?_) (fun c_46 => ?_)
          · omega
          ·
            refine V_iload3 G dX7_rowsOf_49 ?_
            refine V_ifeq G dX7_rowsOf_50 (tgt := 67) (by decide) (by first | exact r _ _ | assumption | exact ⟨by omega, by omega⟩) (fun c_50 => ?_) (fun c_50 => ?_)
            · exact absurd c_50 (by decide)
            ·
              refine V_aload0 G dX7_rowsOf_53 ?_
              refine V_getR G fl_X7_62 dX7_rowsOf_54 (by first | decide | assumption) (by first | rfl | assumption) rfl (by first | rfl | assumption) ?_
              refine V_iload5 G dX7_rowsOf_57 ?_
              refine V_iload2 G dX7_rowsOf_59 ?_
              refine V_cS2i (d1 := 1) G m_X7_161 dX7_rowsOf_60 (c_X7_span (a := k) (b := j)) (by omega) (by omega) (by omega) (Nat.le_of_ble_eq_true rfl) (fun x_60 h_60 hp_60 => ?_)
              rw [hp_60.1, hp_60.2]
              refine V_ialde G dX7_rowsOf_63 (by first | decide | assumption) (by first | rfl | assumption) (by decide) ⟨by omega, by omega⟩ (hh rfl k (by omega) (by omega)) ?_
              refine V_goto G dX7_rowsOf_64 (tgt := 78) (by decide) ?_
              refine V_istore6 G dX7_rowsOf_78 rfl ?_
              refine V_iload4 G dX7_rowsOf_80 ?_
              refine V_aload0 G dX7_rowsOf_82 ?_
              refine V_getR G fl_X7_59 dX7_rowsOf_83 (by first | decide | assumption) (by first | rfl | assumption) rfl (by first | rfl | assumption) ?_
              refine V_iload1 G dX7_rowsOf_86 ?_
              refine V_iload5 G dX7_rowsOf_87 ?_
              refine V_cS2i (d1 := 1) G m_X7_161 dX7_rowsOf_89 (c_X7_span (a := i) (b := k)) (by omega) (by omega) (by omega) (Nat.le_of_ble_eq_true rfl) (fun x_89 h_89 hp_89 => ?_)
              rw [hp_89.1, hp_89.2]
              refine V_ialde G dX7_rowsOf_92 (by first | decide | assumption) (by first | rfl | assumption) (by decide) ⟨by omega, by omega⟩ (hp k (by omega) (by omega)) ?_
              refine V_iload6 G dX7_rowsOf_93 ?_
              refine V_imul G dX7_rowsOf_95 ?_
              refine V_iadd G dX7_rowsOf_96 ?_
              refine V_istore4 G dX7_rowsOf_97 rfl ?_
              refine V_iinc5 G dX7_rowsOf_99 rfl ?_
              refine V_goto G dX7_rowsOf_102 (tgt := 43) (by decide) ?_
              exact ih (k + 1) _ _ (by omega) (by omega) (by
                rw [← hs]
                conv => rhs; rw [sumF]
                omega)
      refine V_iload1 G dX7_rowsOf_0 ?_
      refine V_iload2 G dX7_rowsOf_1 ?_
      refine V_icmpne G dX7_rowsOf_2 (tgt := 7) (by decide) (by first | exact r _ _ | assumption | exact ⟨by omega, by omega⟩) (by first | exact r _ _ | assumption | exact ⟨by omega, by omega⟩) (fun c_2 => ?_) (fun c_2 => ?_)
      ·
        refine V_iload3 G dX7_rowsOf_7 ?_
        refine V_ifeq G dX7_rowsOf_8 (tgt := 35) (by decide) (by first | exact r _ _ | assumption | exact ⟨by omega, by omega⟩) (fun c_8 => ?_) (fun c_8 => ?_)
        · exact absurd c_8 (by decide)
        ·
          refine V_aload0 G dX7_rowsOf_11 ?_
          refine V_iload1 G dX7_rowsOf_12 ?_
          refine V_cV1i (d1 := 1) G m_X7_86 dX7_rowsOf_13 (by first | decide | assumption) (by first | rfl | assumption) (c_X7_kind (w := i) (by omega)) (by omega) (by omega) (by omega) (Nat.le_of_ble_eq_true rfl) (fun x_13 h_13 hp_13 => ?_)
          rw [hp_13.1, hp_13.2, (hk (i) (by omega) (by omega)).1]
          have kr_13 := (hk (i) (by omega) (by omega)).2
          refine V_iconst G dX7_rowsOf_16 ?_
          refine V_icmpne G dX7_rowsOf_17 (tgt := 35) (by decide) (by first | exact r _ _ | assumption | exact ⟨by omega, by omega⟩) (by first | exact r _ _ | assumption | exact ⟨by omega, by omega⟩) (fun c_17 => ?_) (fun c_17 => ?_)
          ·
            refine V_iconst G dX7_rowsOf_35 ?_
            refine V_istore4 G dX7_rowsOf_36 rfl ?_
            refine V_iload1 G dX7_rowsOf_38 ?_
            refine V_iconst G dX7_rowsOf_39 ?_
            refine V_iadd G dX7_rowsOf_40 ?_
            refine V_istore5 G dX7_rowsOf_41 rfl ?_
            first
            | exact lp (j - i).toNat (i + 1) _ _ (by omega) (by omega) (by rw [dp_2 hij, if_neg ce]; first | rw [if_pos (by omega)] | rw [if_neg (by omega)]; omega)
            | exact lp (j - i).toNat (i + 1) _ _ (by omega) (by omega) (by rw [dp_2 hij, if_neg ce]; first | rw [if_pos (by omega)] | rw [if_neg (by omega)])
          ·
            refine V_aload0 G dX7_rowsOf_20 ?_
            refine V_getR G fl_X7_62 dX7_rowsOf_21 (by first | decide | assumption) (by first | rfl | assumption) rfl (by first | rfl | assumption) ?_
            refine V_iload1 G dX7_rowsOf_24 ?_
            refine V_iconst G dX7_rowsOf_25 ?_
            refine V_iadd G dX7_rowsOf_26 ?_
            refine V_iload2 G dX7_rowsOf_27 ?_
            refine V_cS2i (d1 := 1) G m_X7_161 dX7_rowsOf_28 (c_X7_span (a := i + 1) (b := j)) (by omega) (by omega) (by omega) (Nat.le_of_ble_eq_true rfl) (fun x_28 h_28 hp_28 => ?_)
            rw [hp_28.1, hp_28.2]
            refine V_ialde G dX7_rowsOf_31 (by first | decide | assumption) (by first | rfl | assumption) (by decide) ⟨by omega, by omega⟩ (hh rfl (i + 1) (by omega) (by omega)) ?_
            refine V_goto G dX7_rowsOf_32 (tgt := 36) (by decide) ?_
            refine V_istore4 G dX7_rowsOf_36 rfl ?_
            refine V_iload1 G dX7_rowsOf_38 ?_
            refine V_iconst G dX7_rowsOf_39 ?_
            refine V_iadd G dX7_rowsOf_40 ?_
            refine V_istore5 G dX7_rowsOf_41 rfl ?_
            first
            | exact lp (j - i).toNat (i + 1) _ _ (by omega) (by omega) (by rw [dp_2 hij, if_neg ce]; first | rw [if_pos (by omega)] | rw [if_neg (by omega)]; omega)
            | exact lp (j - i).toNat (i + 1) _ _ (by omega) (by omega) (by rw [dp_2 hij, if_neg ce]; first | rw [if_pos (by omega)] | rw [if_neg (by omega)])
      · exact absurd c_2 ce


set_option maxRecDepth 100000 in
set_option maxHeartbeats 4000000 in
theorem c_X7_namesOf {l : Launch} {d : Nat} {h : Hp} {kd : Int → Int} {n i j : Int} (hn0 : 0 ≤ n ∧ n ≤ 12) (hk : ∀ w, 0 ≤ w → w < n → hI h 78 (2 + w) = kd w ∧ 0 ≤ kd w ∧ kd w ≤ 6) (hi : 0 ≤ i) (hij : i ≤ j) (hj : j ≤ n) (hr : i < j → hI h 91 (13 * (i + 1) + j) = dp kd 1 (i + 1) j) (hN : i < j → hI h 92 (13 * (i + 1) + j) = dp kd 3 (i + 1) j) (hd : 2 ≤ d := by omega) : CP l d 0 0 yX7_namesOf cX7_namesOf 3 (Option.some Jvm.ClassFile.FieldType.int) [.ref 77, iv i, iv j] h (pI fun x h1 => x = dp kd 3 i j ∧ h1 = h) := by
  refine CP.ofV (L := [some (.ref 77), some (.int (Int32.ofInt i)), some (.int (Int32.ofInt j))]) RX7 (by decide +kernel) rfl (Nat.le_of_ble_eq_true rfl) rfl (fun X hX G E => ?_)
  subst hX
  refine V_iload1 G dX7_namesOf_0 ?_
  refine V_iload2 G dX7_namesOf_1 ?_
  refine V_icmpne G dX7_namesOf_2 (tgt := 7) (by decide) (by first | exact r _ _ | assumption | exact ⟨by omega, by omega⟩) (by first | exact r _ _ | assumption | exact ⟨by omega, by omega⟩) (fun c_2 => ?_) (fun c_2 => ?_)
  ·
    refine V_aload0 G dX7_namesOf_7 ?_
    refine V_iload1 G dX7_namesOf_8 ?_
    refine V_cV1i (d1 := 1) G m_X7_86 dX7_namesOf_9 (by first | decide | assumption) (by first | rfl | assumption) (c_X7_kind (w := i) (by omega)) (by omega) (by omega) (by omega) (Nat.le_of_ble_eq_true rfl) (fun x_9 h_9 hp_9 => ?_)
    rw [hp_9.1, hp_9.2, (hk (i) (by omega) (by omega)).1]
    have kr_9 := (hk (i) (by omega) (by omega)).2
    refine V_ifne G dX7_namesOf_12 (tgt := 30) (by decide) (by first | exact r _ _ | assumption | exact ⟨by omega, by omega⟩) (fun c_12 => ?_) (fun c_12 => ?_)
    ·
      refine V_aload0 G dX7_namesOf_30 ?_
      refine V_iload1 G dX7_namesOf_31 ?_
      refine V_cV1i (d1 := 1) G m_X7_86 dX7_namesOf_32 (by first | decide | assumption) (by first | rfl | assumption) (c_X7_kind (w := i) (by omega)) (by omega) (by omega) (by omega) (Nat.le_of_ble_eq_true rfl) (fun x_32 h_32 hp_32 => ?_)
      rw [hp_32.1, hp_32.2, (hk (i) (by omega) (by omega)).1]
      have kr_32 := (hk (i) (by omega) (by omega)).2
      refine V_iconst G dX7_namesOf_35 ?_
      refine V_icmpne G dX7_namesOf_36 (tgt := 54) (by decide) (by first | exact r _ _ | assumption | exact ⟨by omega, by omega⟩) (by first | exact r _ _ | assumption | exact ⟨by omega, by omega⟩) (fun c_36 => ?_) (fun c_36 => ?_)
      ·
        refine V_iconst G dX7_namesOf_54 ?_
        exact V_reti E dX7_namesOf_55 rfl rfl ⟨_, rfl, ⟨by rw [dp_3 hij]; first | (rw [if_pos (by omega)]; done) | (rw [if_neg (by omega), if_pos (by omega)]; done) | (rw [if_neg (by omega), if_neg (by omega), if_pos (by omega)]; done) | (rw [if_neg (by omega), if_neg (by omega), if_neg (by omega)]; done), rfl⟩⟩
      ·
        refine V_aload0 G dX7_namesOf_39 ?_
        refine V_getR G fl_X7_53 dX7_namesOf_40 (by first | decide | assumption) (by first | rfl | assumption) rfl (by first | rfl | assumption) ?_
        refine V_iload1 G dX7_namesOf_43 ?_
        refine V_iconst G dX7_namesOf_44 ?_
        refine V_iadd G dX7_namesOf_45 ?_
        refine V_iload2 G dX7_namesOf_46 ?_
        refine V_cS2i (d1 := 1) G m_X7_161 dX7_namesOf_47 (c_X7_span (a := i + 1) (b := j)) (by omega) (by omega) (by omega) (Nat.le_of_ble_eq_true rfl) (fun x_47 h_47 hp_47 => ?_)
        rw [hp_47.1, hp_47.2]
        refine V_ialde G dX7_namesOf_50 (by first | decide | assumption) (by first | rfl | assumption) (by decide) ⟨by omega, by omega⟩ (hN (by omega)) ?_
        refine V_goto G dX7_namesOf_51 (tgt := 55) (by decide) ?_
        exact V_reti E dX7_namesOf_55 rfl rfl ⟨_, rfl, ⟨by rw [dp_3 hij]; first | (rw [if_pos (by omega)]; done) | (rw [if_neg (by omega), if_pos (by omega)]; done) | (rw [if_neg (by omega), if_neg (by omega), if_pos (by omega)]; done) | (rw [if_neg (by omega), if_neg (by omega), if_neg (by omega)]; done), rfl⟩⟩
    ·
      refine V_aload0 G dX7_namesOf_15 ?_
      refine V_getR G fl_X7_50 dX7_namesOf_16 (by first | decide | assumption) (by first | rfl | assumption) rfl (by first | rfl | assumption) ?_
      refine V_iload1 G dX7_namesOf_19 ?_
      refine V_iconst G dX7_namesOf_20 ?_
      refine V_iadd G dX7_namesOf_21 ?_
      refine V_iload2 G dX7_namesOf_22 ?_
      refine V_cS2i (d1 := 1) G m_X7_161 dX7_namesOf_23 (c_X7_span (a := i + 1) (b := j)) (by omega) (by omega) (by omega) (Nat.le_of_ble_eq_true rfl) (fun x_23 h_23 hp_23 => ?_)
      rw [hp_23.1, hp_23.2]
      refine V_ialde G dX7_namesOf_26 (by first | decide | assumption) (by first | rfl | assumption) (by decide) ⟨by omega, by omega⟩ (hr (by omega)) ?_
      refine V_goto G dX7_namesOf_27 (tgt := 55) (by decide) ?_
      exact V_reti E dX7_namesOf_55 rfl rfl ⟨_, rfl, ⟨by rw [dp_3 hij]; first | (rw [if_pos (by omega)]; done) | (rw [if_neg (by omega), if_pos (by omega)]; done) | (rw [if_neg (by omega), if_neg (by omega), if_pos (by omega)]; done) | (rw [if_neg (by omega), if_neg (by omega), if_neg (by omega)]; done), rfl⟩⟩
  ·
    refine V_iconst G dX7_namesOf_5 ?_
    exact V_reti E dX7_namesOf_6 rfl rfl ⟨_, rfl, ⟨by rw [dp_3 hij]; first | (rw [if_pos (by omega)]; done) | (rw [if_neg (by omega), if_pos (by omega)]; done) | (rw [if_neg (by omega), if_neg (by omega), if_pos (by omega)]; done) | (rw [if_neg (by omega), if_neg (by omega), if_neg (by omega)]; done), rfl⟩⟩

set_option maxRecDepth 100000 in
set_option maxHeartbeats 4000000 in
theorem c_X7_groupsOf {l : Launch} {d : Nat} {h : Hp} {kd : Int → Int} {n i j : Int} (hn0 : 0 ≤ n ∧ n ≤ 12) (hk : ∀ w, 0 ≤ w → w < n → hI h 78 (2 + w) = kd w ∧ 0 ≤ kd w ∧ kd w ≤ 6) (hi : 0 ≤ i) (hij : i ≤ j) (hj : j ≤ n) (hN : ∀ a b, i ≤ a → a ≤ b → b ≤ j → hI h 92 (13 * a + b) = dp kd 3 a b) (hd : 2 ≤ d := by omega) : CP l d 0 0 yX7_groupsOf cX7_groupsOf 5 (Option.some Jvm.ClassFile.FieldType.int) [.ref 77, iv i, iv j] h (pI fun x h1 => x = dp kd 4 i j ∧ h1 = h) := by
  refine CP.ofV (L := [some (.ref 77), some (.int (Int32.ofInt i)), some (.int (Int32.ofInt j)), none, none]) RX7 (by decide +kernel) rfl (Nat.le_of_ble_eq_true rfl) rfl (fun X hX G E => ?_)
  subst hX
  have lp : ∀ (m : Nat) (k : Int) (acc : Int), k + m = max j (i + 1) → i + 1 ≤ k → acc + sumF (fun k => if kd k = 5 then dp kd 3 i k * dp kd 3 (k + 1) j else 0) m k = dp kd 4 i j → V X 0 0 16 [some (.ref 77), some (.int (Int32.ofInt i)), some (.int (Int32.ofInt j)), some (.int (Int32.ofInt acc)), some (.int (Int32.ofInt k))] [] h := by
    intro m
    induction m with
    | zero =>
      intro k acc hm_ hk0 hs
      refine V_iload4 G dX7_groupsOf_16 ?_
      refine V_iload2 G dX7_groupsOf_18 ?_
      refine V_icmpge G dX7_groupsOf_19 (tgt := 70) (by decide) (by first | exact r _ _ | assumption | exact ⟨by omega, by omega⟩) (by first | exact r _ _ | assumption | exact ⟨by omega, by omega⟩) (fun c_19 => ?_) (fun c_19 => ?_)
      ·
        refine V_iload3 G dX7_groupsOf_70 ?_
        exact V_reti E dX7_groupsOf_71 rfl rfl ⟨_, rfl, ⟨by rw [← hs]; simp [sumF], rfl⟩⟩
      · omega
    | succ m ih =>
      intro k acc hm_ hk0 hs
      refine V_iload4 G dX7_groupsOf_16 ?_
      refine V_iload2 G dX7_groupsOf_18 ?_
      refine V_icmpge G dX7_groupsOf_19 (tgt := 70) (by decide) (by first | exact r _ _ | assumption | exact ⟨by omega, by omega⟩) (by first | exact r _ _ | assumption | exact ⟨by omega, by omega⟩) (fun c_19 => ?_) (fun c_19 => ?_)
      · omega
      ·
        refine V_iload3 G dX7_groupsOf_22 ?_
        refine V_aload0 G dX7_groupsOf_23 ?_
        refine V_iload4 G dX7_groupsOf_24 ?_
        refine V_cV1i (d1 := 1) G m_X7_86 dX7_groupsOf_26 (by first | decide | assumption) (by first | rfl | assumption) (c_X7_kind (w := k) (by omega)) (by omega) (by omega) (by omega) (Nat.le_of_ble_eq_true rfl) (fun x_26 h_26 hp_26 => ?_)
        rw [hp_26.1, hp_26.2, (hk (k) (by omega) (by omega)).1]
        have kr_26 := (hk (k) (by omega) (by omega)).2
        refine V_iconst G dX7_groupsOf_29 ?_
        refine V_icmpne G dX7_groupsOf_30 (tgt := 61) (by decide) (by first | exact r _ _ | assumption | exact ⟨by omega, by omega⟩) (by first | exact r _ _ | assumption | exact ⟨by omega, by omega⟩) (fun c_30 => ?_) (fun c_30 => ?_)
        ·
          refine V_iconst G dX7_groupsOf_61 ?_
          refine V_iadd G dX7_groupsOf_62 ?_
          refine V_istore3 G dX7_groupsOf_63 rfl ?_
          refine V_iinc4 G dX7_groupsOf_64 rfl ?_
          refine V_goto G dX7_groupsOf_67 (tgt := 16) (by decide) ?_
          exact ih (k + 1) _ (by omega) (by omega) (by
            rw [← hs]
            conv => rhs; rw [sumF]
            first | rw [if_pos (by omega)] | rw [if_neg (by omega)]
            omega)
        ·
          refine V_aload0 G dX7_groupsOf_33 ?_
          refine V_getR G fl_X7_53 dX7_groupsOf_34 (by first | decide | assumption) (by first | rfl | assumption) rfl (by first | rfl | assumption) ?_
          refine V_iload1 G dX7_groupsOf_37 ?_
          refine V_iload4 G dX7_groupsOf_38 ?_
          refine V_cS2i (d1 := 1) G m_X7_161 dX7_groupsOf_40 (c_X7_span (a := i) (b := k)) (by omega) (by omega) (by omega) (Nat.le_of_ble_eq_true rfl) (fun x_40 h_40 hp_40 => ?_)
          rw [hp_40.1, hp_40.2]
          refine V_ialde G dX7_groupsOf_43 (by first | decide | assumption) (by first | rfl | assumption) (by decide) ⟨by omega, by omega⟩ (hN i k (by omega) (by omega) (by omega)) ?_
          refine V_aload0 G dX7_groupsOf_44 ?_
          refine V_getR G fl_X7_53 dX7_groupsOf_45 (by first | decide | assumption) (by first | rfl | assumption) rfl (by first | rfl | assumption) ?_
          refine V_iload4 G dX7_groupsOf_48 ?_
          refine V_iconst G dX7_groupsOf_50 ?_
          refine V_iadd G dX7_groupsOf_51 ?_
          refine V_iload2 G dX7_groupsOf_52 ?_
          refine V_cS2i (d1 := 1) G m_X7_161 dX7_groupsOf_53 (c_X7_span (a := k + 1) (b := j)) (by omega) (by omega) (by omega) (Nat.le_of_ble_eq_true rfl) (fun x_53 h_53 hp_53 => ?_)
          rw [hp_53.1, hp_53.2]
          refine V_ialde G dX7_groupsOf_56 (by first | decide | assumption) (by first | rfl | assumption) (by decide) ⟨by omega, by omega⟩ (hN (k + 1) j (by omega) (by omega) (by omega)) ?_
          refine V_imul G dX7_groupsOf_57 ?_
          refine V_goto G dX7_groupsOf_58 (tgt := 62) (by decide) ?_
          refine V_iadd G dX7_groupsOf_62 ?_
          refine V_istore3 G dX7_groupsOf_63 rfl ?_
          refine V_iinc4 G dX7_groupsOf_64 rfl ?_
          refine V_goto G dX7_groupsOf_67 (tgt := 16) (by decide) ?_
          exact ih (k + 1) _ (by omega) (by omega) (by
            rw [← hs]
            conv => rhs; rw [sumF]
            first | rw [if_pos (by omega)] | rw [if_neg (by omega)]
            omega)
  refine V_aload0 G dX7_groupsOf_0 ?_
  refine V_getR G fl_X7_53 dX7_groupsOf_1 (by first | decide | assumption) (by first | rfl | assumption) rfl (by first | rfl | assumption) ?_
  refine V_iload1 G dX7_groupsOf_4 ?_
  refine V_iload2 G dX7_groupsOf_5 ?_
  refine V_cS2i (d1 := 1) G m_X7_161 dX7_groupsOf_6 (c_X7_span (a := i) (b := j)) (by omega) (by omega) (by omega) (Nat.le_of_ble_eq_true rfl) (fun x_6 h_6 hp_6 => ?_)
  rw [hp_6.1, hp_6.2]
  refine V_ialde G dX7_groupsOf_9 (by first | decide | assumption) (by first | rfl | assumption) (by decide) ⟨by omega, by omega⟩ (hN i j (by omega) (by omega) (by omega)) ?_
  refine V_istore3 G dX7_groupsOf_10 rfl ?_
  refine V_iload1 G dX7_groupsOf_11 ?_
  refine V_iconst G dX7_groupsOf_12 ?_
  refine V_iadd G dX7_groupsOf_13 ?_
  refine V_istore4 G dX7_groupsOf_14 rfl ?_
  exact lp (j - i - 1).toNat (i + 1) _ (by omega) (by omega) (by rw [dp_4 hij])

set_option maxRecDepth 100000 in
set_option maxHeartbeats 4000000 in
theorem c_X7_restsOf {l : Launch} {d : Nat} {h : Hp} {kd : Int → Int} {n i j : Int} (hn0 : 0 ≤ n ∧ n ≤ 12) (hk : ∀ w, 0 ≤ w → w < n → hI h 78 (2 + w) = kd w ∧ 0 ≤ kd w ∧ kd w ≤ 6) (hi : 0 ≤ i) (hij : i ≤ j) (hj : j ≤ n) (hh : ∀ k, i ≤ k → k ≤ j → hI h 95 (13 * k + j) = dp kd 2 k j) (hG : ∀ k, i < k → k ≤ j → hI h 93 (13 * i + k) = dp kd 4 i k) (hC : ∀ k, i < k → k ≤ j → hI h 96 (13 * (i + 1) + k) = dp kd 5 (i + 1) k) (hd : 2 ≤ d := by omega) : CP l d 0 0 yX7_restsOf cX7_restsOf 6 (Option.some Jvm.ClassFile.FieldType.int) [.ref 77, iv i, iv j] h (pI fun x h1 => x = dp kd 6 i j ∧ h1 = h) := by
  refine CP.ofV (L := [some (.ref 77), some (.int (Int32.ofInt i)), some (.int (Int32.ofInt j)), none, none, none]) RX7 (by decide +kernel) rfl (Nat.le_of_ble_eq_true rfl) rfl (fun X hX G E => ?_)
  subst hX
  have lp : ∀ (m : Nat) (k : Int) (acc : Int) (a5 : Option Value), k + m = j + 1 → i + 1 ≤ k → acc + sumF (fun k => (dp kd 4 i k + if kd i = 6 then dp kd 5 (i + 1) k else 0) * dp kd 2 k j) m k = dp kd 6 i j → V X 0 0 16 [some (.ref 77), some (.int (Int32.ofInt i)), some (.int (Int32.ofInt j)), some (.int (Int32.ofInt acc)), some (.int (Int32.ofInt k)), a5] [] h := by
    intro m
    induction m with
    | zero =>
      intro k acc a5 hm_ hk0 hs
      refine V_iload4 G dX7_restsOf_16 ?_
      refine V_iload2 G dX7_restsOf_18 ?_
      refine V_icmpgt G dX7_restsOf_19 (tgt := 86) (by decide) (by first | exact r _ _ | assumption | exact ⟨by omega, by omega⟩) (by first | exact r _ _ | assumption | exact ⟨by omega, by omega⟩) (fun c_19 => ?_) (fun c_19 => ?_)
      ·
        refine V_iload3 G dX7_restsOf_86 ?_
        exact V_reti E dX7_restsOf_87 rfl rfl ⟨_, rfl, ⟨by rw [← hs]; simp [sumF], rfl⟩⟩
      · omega
    | succ m ih =>
      intro k acc a5 hm_ hk0 hs
      refine V_iload4 G dX7_restsOf_16 ?_
      refine V_iload2 G dX7_restsOf_18 ?_
      refine V_icmpgt G dX7_restsOf_19 (tgt := 86) (by decide) (by first | exact r _ _ | assumption | exact ⟨by omega, by omega⟩) (by first | exact r _ _ | assumption | exact ⟨by omega, by omega⟩) (fun c_19 => ?_) (fun c_19 => ?_)
      · omega
      ·
        refine V_aload0 G dX7_restsOf_22 ?_
        refine V_getR G fl_X7_56 dX7_restsOf_23 (by first | decide | assumption) (by first | rfl | assumption) rfl (by first | rfl | assumption) ?_
        refine V_iload1 G dX7_restsOf_26 ?_
        refine V_iload4 G dX7_restsOf_27 ?_
        refine V_cS2i (d1 := 1) G m_X7_161 dX7_restsOf_29 (c_X7_span (a := i) (b := k)) (by omega) (by omega) (by omega) (Nat.le_of_ble_eq_true rfl) (fun x_29 h_29 hp_29 => ?_)
        rw [hp_29.1, hp_29.2]
        refine V_ialde G dX7_restsOf_32 (by first | decide | assumption) (by first | rfl | assumption) (by decide) ⟨by omega, by omega⟩ (hG k (by omega) (by omega)) ?_
        refine V_aload0 G dX7_restsOf_33 ?_
        refine V_iload1 G dX7_restsOf_34 ?_
        refine V_cV1i (d1 := 1) G m_X7_86 dX7_restsOf_35 (by first | decide | assumption) (by first | rfl | assumption) (c_X7_kind (w := i) (by omega)) (by omega) (by omega) (by omega) (Nat.le_of_ble_eq_true rfl) (fun x_35 h_35 hp_35 => ?_)
        rw [hp_35.1, hp_35.2, (hk (i) (by omega) (by omega)).1]
        have kr_35 := (hk (i) (by omega) (by omega)).2
        refine V_bipush G dX7_restsOf_38 (by decide) ?_
        refine V_icmpne G dX7_restsOf_40 (tgt := 59) (by decide) (by first | exact r _ _ | assumption | exact ⟨by omega, by omega⟩) (by first | exact r _ _ | assumption | exact ⟨by omega, by omega⟩) (fun c_40 => ?_) (fun c_40 => ?_)
        ·
          refine V_iconst G dX7_restsOf_59 ?_
          refine V_iadd G dX7_restsOf_60 ?_
          refine V_istore5 G dX7_restsOf_61 rfl ?_
          refine V_iload3 G dX7_restsOf_63 ?_
          refine V_iload5 G dX7_restsOf_64 ?_
          refine V_aload0 G dX7_restsOf_66 ?_
          refine V_getR G fl_X7_62 dX7_restsOf_67 (by first | decide | assumption) (by first | rfl | assumption) rfl (by first | rfl | assumption) ?_
          refine V_iload4 G dX7_restsOf_70 ?_
          refine V_iload2 G dX7_restsOf_72 ?_
          refine V_cS2i (d1 := 1) G m_X7_161 dX7_restsOf_73 (c_X7_span (a := k) (b := j)) (by omega) (by omega) (by omega) (Nat.le_of_ble_eq_true rfl) (fun x_73 h_73 hp_73 => ?_)
          rw [hp_73.1, hp_73.2]
          refine V_ialde G dX7_restsOf_76 (by first | decide | assumption) (by first | rfl | assumption) (by decide) ⟨by omega, by omega⟩ (hh k (by omega) (by omega)) ?_
          refine V_imul G dX7_restsOf_77 ?_
          refine V_iadd G dX7_restsOf_78 ?_
          refine V_istore3 G dX7_restsOf_79 rfl ?_
          refine V_iinc4 G dX7_restsOf_80 rfl ?_
          refine V_goto G dX7_restsOf_83 (tgt := 16) (by decide) ?_
          exact ih (k + 1) _ _ (by omega) (by omega) (by
            rw [← hs]
            conv => rhs; rw [sumF]
            first | (rw [if_pos (by omega)]; rw [Int.add_assoc]; done) | (rw [if_neg (by omega)]; rw [Int.add_assoc]; done))
        ·
          refine V_aload0 G dX7_restsOf_43 ?_
          refine V_getR G fl_X7_65 dX7_restsOf_44 (by first | decide | assumption) (by first | rfl | assumption) rfl (by first | rfl | assumption) ?_
          refine V_iload1 G dX7_restsOf_47 ?_
          refine V_iconst G dX7_restsOf_48 ?_
          refine V_iadd G dX7_restsOf_49 ?_
          refine V_iload4 G dX7_restsOf_50 ?_
          refine V_cS2i (d1 := 1) G m_X7_161 dX7_restsOf_52 (c_X7_span (a := i + 1) (b := k)) (by omega) (by omega) (by omega) (Nat.le_of_ble_eq_true rfl) (fun x_52 h_52 hp_52 => ?_)
          rw [hp_52.1, hp_52.2]
          refine V_ialde G dX7_restsOf_55 (by first | decide | assumption) (by first | rfl | assumption) (by decide) ⟨by omega, by omega⟩ (hC k (by omega) (by omega)) ?_
          refine V_goto G dX7_restsOf_56 (tgt := 60) (by decide) ?_
          refine V_iadd G dX7_restsOf_60 ?_
          refine V_istore5 G dX7_restsOf_61 rfl ?_
          refine V_iload3 G dX7_restsOf_63 ?_
          refine V_iload5 G dX7_restsOf_64 ?_
          refine V_aload0 G dX7_restsOf_66 ?_
          refine V_getR G fl_X7_62 dX7_restsOf_67 (by first | decide | assumption) (by first | rfl | assumption) rfl (by first | rfl | assumption) ?_
          refine V_iload4 G dX7_restsOf_70 ?_
          refine V_iload2 G dX7_restsOf_72 ?_
          refine V_cS2i (d1 := 1) G m_X7_161 dX7_restsOf_73 (c_X7_span (a := k) (b := j)) (by omega) (by omega) (by omega) (Nat.le_of_ble_eq_true rfl) (fun x_73 h_73 hp_73 => ?_)
          rw [hp_73.1, hp_73.2]
          refine V_ialde G dX7_restsOf_76 (by first | decide | assumption) (by first | rfl | assumption) (by decide) ⟨by omega, by omega⟩ (hh k (by omega) (by omega)) ?_
          refine V_imul G dX7_restsOf_77 ?_
          refine V_iadd G dX7_restsOf_78 ?_
          refine V_istore3 G dX7_restsOf_79 rfl ?_
          refine V_iinc4 G dX7_restsOf_80 rfl ?_
          refine V_goto G dX7_restsOf_83 (tgt := 16) (by decide) ?_
          exact ih (k + 1) _ _ (by omega) (by omega) (by
            rw [← hs]
            conv => rhs; rw [sumF]
            first | (rw [if_pos (by omega)]; rw [Int.add_assoc]; done) | (rw [if_neg (by omega)]; rw [Int.add_assoc]; done))
  refine V_aload0 G dX7_restsOf_0 ?_
  refine V_getR G fl_X7_62 dX7_restsOf_1 (by first | decide | assumption) (by first | rfl | assumption) rfl (by first | rfl | assumption) ?_
  refine V_iload1 G dX7_restsOf_4 ?_
  refine V_iload2 G dX7_restsOf_5 ?_
  refine V_cS2i (d1 := 1) G m_X7_161 dX7_restsOf_6 (c_X7_span (a := i) (b := j)) (by omega) (by omega) (by omega) (Nat.le_of_ble_eq_true rfl) (fun x_6 h_6 hp_6 => ?_)
  rw [hp_6.1, hp_6.2]
  refine V_ialde G dX7_restsOf_9 (by first | decide | assumption) (by first | rfl | assumption) (by decide) ⟨by omega, by omega⟩ (hh i (by omega) (by omega)) ?_
  refine V_istore3 G dX7_restsOf_10 rfl ?_
  refine V_iload1 G dX7_restsOf_11 ?_
  refine V_iconst G dX7_restsOf_12 ?_
  refine V_iadd G dX7_restsOf_13 ?_
  refine V_istore4 G dX7_restsOf_14 rfl ?_
  exact lp (j - i).toNat (i + 1) _ _ (by omega) (by omega) (by rw [dp_6 hij])

set_option maxRecDepth 100000 in
set_option maxHeartbeats 4000000 in
theorem c_X7_clausesOf {l : Launch} {d : Nat} {h : Hp} {kd : Int → Int} {n i j : Int} (hn0 : 0 ≤ n ∧ n ≤ 12) (hk : ∀ w, 0 ≤ w → w < n → hI h 78 (2 + w) = kd w ∧ 0 ≤ kd w ∧ kd w ≤ 6) (hi : 0 ≤ i) (hij : i ≤ j) (hj : j ≤ n) (hh : ∀ a b, i < a → a ≤ b → b ≤ j → hI h 95 (13 * a + b) = dp kd 2 a b) (hG : ∀ a b, i ≤ a → a ≤ b → b ≤ j → hI h 93 (13 * a + b) = dp kd 4 a b) (hC : ∀ a b, i < a → a ≤ b → b ≤ j → hI h 96 (13 * a + b) = dp kd 5 a b) (hd : 3 ≤ d := by omega) : CP l d 0 0 yX7_clausesOf cX7_clausesOf 5 (Option.some Jvm.ClassFile.FieldType.int) [.ref 77, iv i, iv j] h (pI fun x h1 => x = dp kd 5 i j ∧ h1 = h) := by
  refine CP.ofV (L := [some (.ref 77), some (.int (Int32.ofInt i)), some (.int (Int32.ofInt j)), none, none]) RX7 (by decide +kernel) rfl (Nat.le_of_ble_eq_true rfl) rfl (fun X hX G E => ?_)
  subst hX
  have lp : ∀ (m : Nat) (k : Int) (acc : Int), k + m = max j (i + 1) → i + 1 ≤ k → acc + sumF (fun k => if kd k = 1 then dp kd 4 i k * dp kd 6 (k + 1) j else 0) m k = dp kd 5 i j → V X 0 0 7 [some (.ref 77), some (.int (Int32.ofInt i)), some (.int (Int32.ofInt j)), some (.int (Int32.ofInt acc)), some (.int (Int32.ofInt k))] [] h := by
    intro m
    induction m with
    | zero =>
      intro k acc hm_ hk0 hs
      refine V_iload4 G dX7_clausesOf_7 ?_
      refine V_iload2 G dX7_clausesOf_9 ?_
      refine V_icmpge G dX7_clausesOf_10 (tgt := 57) (by decide) (by first | exact r _ _ | assumption | exact ⟨by omega, by omega⟩) (by first | exact r _ _ | assumption | exact ⟨by omega, by omega⟩) (fun c_10 => ?_) (fun c_10 => ?_)
      ·
        refine V_iload3 G dX7_clausesOf_57 ?_
        exact V_reti E dX7_clausesOf_58 rfl rfl ⟨_, rfl, ⟨by rw [← hs]; simp [sumF], rfl⟩⟩
      · omega
    | succ m ih =>
      intro k acc hm_ hk0 hs
      refine V_iload4 G dX7_clausesOf_7 ?_
      refine V_iload2 G dX7_clausesOf_9 ?_
      refine V_icmpge G dX7_clausesOf_10 (tgt := 57) (by decide) (by first | exact r _ _ | assumption | exact ⟨by omega, by omega⟩) (by first | exact r _ _ | assumption | exact ⟨by omega, by omega⟩) (fun c_10 => ?_) (fun c_10 => ?_)
      · omega
      ·
        refine V_iload3 G dX7_clausesOf_13 ?_
        refine V_aload0 G dX7_clausesOf_14 ?_
        refine V_iload4 G dX7_clausesOf_15 ?_
        refine V_cV1i (d1 := 1) G m_X7_86 dX7_clausesOf_17 (by first | decide | assumption) (by first | rfl | assumption) (c_X7_kind (w := k) (by omega)) (by omega) (by omega) (by omega) (Nat.le_of_ble_eq_true rfl) (fun x_17 h_17 hp_17 => ?_)
        rw [hp_17.1, hp_17.2, (hk (k) (by omega) (by omega)).1]
        have kr_17 := (hk (k) (by omega) (by omega)).2
        refine V_iconst G dX7_clausesOf_20 ?_
        refine V_icmpne G dX7_clausesOf_21 (tgt := 48) (by decide) (by first | exact r _ _ | assumption | exact ⟨by omega, by omega⟩) (by first | exact r _ _ | assumption | exact ⟨by omega, by omega⟩) (fun c_21 => ?_) (fun c_21 => ?_)
        ·
          refine V_iconst G dX7_clausesOf_48 ?_
          refine V_iadd G dX7_clausesOf_49 ?_
          refine V_istore3 G dX7_clausesOf_50 rfl ?_
          refine V_iinc4 G dX7_clausesOf_51 rfl ?_
          refine V_goto G dX7_clausesOf_54 (tgt := 7) (by decide) ?_
          exact ih (k + 1) _ (by omega) (by omega) (by
            rw [← hs]
            conv => rhs; rw [sumF]
            first | rw [if_pos (by omega)] | rw [if_neg (by omega)]
            omega)
        ·
          refine V_aload0 G dX7_clausesOf_24 ?_
          refine V_getR G fl_X7_56 dX7_clausesOf_25 (by first | decide | assumption) (by first | rfl | assumption) rfl (by first | rfl | assumption) ?_
          refine V_iload1 G dX7_clausesOf_28 ?_
          refine V_iload4 G dX7_clausesOf_29 ?_
          refine V_cS2i (d1 := 1) G m_X7_161 dX7_clausesOf_31 (c_X7_span (a := i) (b := k)) (by omega) (by omega) (by omega) (Nat.le_of_ble_eq_true rfl) (fun x_31 h_31 hp_31 => ?_)
          rw [hp_31.1, hp_31.2]
          refine V_ialde G dX7_clausesOf_34 (by first | decide | assumption) (by first | rfl | assumption) (by decide) ⟨by omega, by omega⟩ (hG i k (by omega) (by omega) (by omega)) ?_
          refine V_aload0 G dX7_clausesOf_35 ?_
          refine V_iload4 G dX7_clausesOf_36 ?_
          refine V_iconst G dX7_clausesOf_38 ?_
          refine V_iadd G dX7_clausesOf_39 ?_
          refine V_iload2 G dX7_clausesOf_40 ?_
          refine V_cV2i (d1 := 2) G m_X7_164 dX7_clausesOf_41 (by first | decide | assumption) (by first | rfl | assumption) (c_X7_restsOf hn0 hk (i := k + 1) (j := j) (by omega) (by omega) hj (fun k1 q1 q2 => hh k1 j (by omega) (by omega) (by omega)) (fun k1 q1 q2 => hG _ k1 (by omega) (by omega) (by omega)) (fun k1 q1 q2 => hC _ k1 (by omega) (by omega) (by omega))) (by omega) (by omega) (by omega) (Nat.le_of_ble_eq_true rfl) (fun x_41 h_41 hp_41 => ?_)
          rw [hp_41.1, hp_41.2]
          refine V_imul G dX7_clausesOf_44 ?_
          refine V_goto G dX7_clausesOf_45 (tgt := 49) (by decide) ?_
          refine V_iadd G dX7_clausesOf_49 ?_
          refine V_istore3 G dX7_clausesOf_50 rfl ?_
          refine V_iinc4 G dX7_clausesOf_51 rfl ?_
          refine V_goto G dX7_clausesOf_54 (tgt := 7) (by decide) ?_
          exact ih (k + 1) _ (by omega) (by omega) (by
            rw [← hs]
            conv => rhs; rw [sumF]
            first | rw [if_pos (by omega)] | rw [if_neg (by omega)]
            omega)
  refine V_iconst G dX7_clausesOf_0 ?_
  refine V_istore3 G dX7_clausesOf_1 rfl ?_
  refine V_iload1 G dX7_clausesOf_2 ?_
  refine V_iconst G dX7_clausesOf_3 ?_
  refine V_iadd G dX7_clausesOf_4 ?_
  refine V_istore4 G dX7_clausesOf_5 rfl ?_
  exact lp (j - i - 1).toNat (i + 1) _ (by omega) (by omega) (by rw [dp_5 hij, Int.zero_add])

end M19
