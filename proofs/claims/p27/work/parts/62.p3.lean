section P3
/-! whether a stack can be completed, told by parts: readings are there just where a clause is -/
theorem sumF_pos {f : Int → Int} : ∀ (m : Nat) (k : Int), (∀ j, k ≤ j → j < k + m → 0 ≤ f j) → (0 < sumF f m k ↔ ∃ j, k ≤ j ∧ j < k + m ∧ 0 < f j)
  | 0, k, _ => by
    rw [sumF]
    exact ⟨fun h => by omega, fun ⟨j, h1, h2, _⟩ => by omega⟩
  | m + 1, k, h => by
    have ih := sumF_pos m (k + 1) (fun j h1 h2 => h j (by omega) (by omega))
    have hk := h k (by omega) (by omega)
    have hs := sumF_nn m (k + 1) (fun j h1 h2 => h j (by omega) (by omega))
    rw [sumF]
    constructor
    · intro q
      by_cases z : 0 < f k
      · exact ⟨k, by omega, by omega, z⟩
      · obtain ⟨j, h1, h2, h3⟩ := ih.mp (by omega)
        exact ⟨j, by omega, by omega, h3⟩
    · rintro ⟨j, h1, h2, h3⟩
      by_cases z : j = k
      · subst z; omega
      · have := ih.mpr ⟨j, by omega, by omega, h3⟩
        omega
theorem mul_pp {a b : Int} (ha : 0 ≤ a) (hb : 0 ≤ b) : 0 < a * b ↔ 0 < a ∧ 0 < b := by
  constructor
  · intro h
    by_cases z : a = 0
    · subst z; simp at h
    · by_cases y : b = 0
      · subst y; simp at h
      · exact ⟨by omega, by omega⟩
  · exact fun h => Int.mul_pos h.1 h.2
theorem dpp_0 {kd : Int → Int} {i j : Int} (hij : i ≤ j) : 0 < dp kd 0 i j ↔ i < j ∧ kd i = 4 ∧ 0 < dp kd 4 (i + 1) j := by
  rw [dp_0 hij]
  split
  · next z => exact ⟨fun h => ⟨z.1, z.2, h⟩, fun h => h.2.2⟩
  · next z => exact ⟨fun h => by omega, fun h => absurd ⟨h.1, h.2.1⟩ z⟩
theorem dpp_1 {kd : Int → Int} {i j : Int} (hij : i ≤ j) (hL : j - i ≤ 12) : 0 < dp kd 1 i j ↔ i = j ∨ ∃ k, i < k ∧ k ≤ j ∧ 0 < dp kd 0 i k ∧ 0 < dp kd 1 k j := by
  rw [dp_1 hij]
  split
  · next z => exact ⟨fun _ => Or.inl z, fun _ => by omega⟩
  · next z =>
    rw [sumF_pos _ _ (fun k h1 h2 => Int.mul_nonneg (dp_r (by omega) (by omega) (by omega)).1 (dp_r (by omega) (by omega) (by omega)).1)]
    constructor
    · rintro ⟨k, h1, h2, h3⟩
      rw [mul_pp (dp_r (by omega) (by omega) (by omega)).1 (dp_r (by omega) (by omega) (by omega)).1] at h3
      exact Or.inr ⟨k, by omega, by omega, h3⟩
    · rintro (h | ⟨k, h1, h2, h3⟩)
      · exact absurd h z
      · exact ⟨k, by omega, by omega, (mul_pp (dp_r (by omega) (by omega) (by omega)).1 (dp_r (by omega) (by omega) (by omega)).1).mpr h3⟩
theorem dpp_2 {kd : Int → Int} {i j : Int} (hij : i ≤ j) (hL : j - i ≤ 12) : 0 < dp kd 2 i j ↔ i = j ∨ (i < j ∧ kd i = 3 ∧ 0 < dp kd 2 (i + 1) j) ∨ ∃ k, i < k ∧ k ≤ j ∧ 0 < dp kd 0 i k ∧ 0 < dp kd 2 k j := by
  rw [dp_2 hij]
  by_cases z : i = j
  · rw [if_pos z]; exact ⟨fun _ => Or.inl z, fun _ => by omega⟩
  · rw [if_neg z]
    have hs := sumF_pos (f := fun k => dp kd 0 i k * dp kd 2 k j) (j - i).toNat (i + 1) (fun k h1 h2 => Int.mul_nonneg (dp_r (by omega) (by omega) (by omega)).1 (dp_r (by omega) (by omega) (by omega)).1)
    have hs0 := sumF_nn (f := fun k => dp kd 0 i k * dp kd 2 k j) (j - i).toNat (i + 1) (fun k h1 h2 => Int.mul_nonneg (dp_r (by omega) (by omega) (by omega)).1 (dp_r (by omega) (by omega) (by omega)).1)
    have hb := (dp_r (kd := kd) (t := 2) (i := i + 1) (j := j) (by omega) (by omega) (by omega)).1
    constructor
    · intro h
      by_cases y : 0 < sumF (fun k => dp kd 0 i k * dp kd 2 k j) (j - i).toNat (i + 1)
      · obtain ⟨k, h1, h2, h3⟩ := hs.mp y
        rw [mul_pp (dp_r (by omega) (by omega) (by omega)).1 (dp_r (by omega) (by omega) (by omega)).1] at h3
        exact Or.inr (Or.inr ⟨k, by omega, by omega, h3⟩)
      · split at h
        · next e => exact Or.inr (Or.inl ⟨by omega, e, by omega⟩)
        · omega
    · rintro (h | ⟨h1, h2, h3⟩ | ⟨k, h1, h2, h3⟩)
      · exact absurd h z
      · rw [if_pos h2]; omega
      · have := hs.mpr ⟨k, by omega, by omega, (mul_pp (dp_r (by omega) (by omega) (by omega)).1 (dp_r (by omega) (by omega) (by omega)).1).mpr h3⟩
        split <;> omega
theorem dpp_3 {kd : Int → Int} {i j : Int} (hij : i ≤ j) : 0 < dp kd 3 i j ↔ i < j ∧ ((kd i = 0 ∧ 0 < dp kd 1 (i + 1) j) ∨ (kd i = 2 ∧ 0 < dp kd 3 (i + 1) j)) := by
  rw [dp_3 hij]
  split
  · next z => exact ⟨fun h => by omega, fun h => by omega⟩
  · next z =>
    split
    · next y => exact ⟨fun h => ⟨by omega, Or.inl ⟨y, h⟩⟩, fun h => by
        rcases h.2 with e | e
        · exact e.2
        · omega⟩
    · next y =>
      split
      · next x => exact ⟨fun h => ⟨by omega, Or.inr ⟨x, h⟩⟩, fun h => by
          rcases h.2 with e | e
          · omega
          · exact e.2⟩
      · next x => exact ⟨fun h => by omega, fun h => by omega⟩
theorem dpp_4 {kd : Int → Int} {i j : Int} (hij : i ≤ j) (hL : j - i ≤ 12) : 0 < dp kd 4 i j ↔ 0 < dp kd 3 i j ∨ ∃ k, i < k ∧ k < j ∧ kd k = 5 ∧ 0 < dp kd 3 i k ∧ 0 < dp kd 3 (k + 1) j := by
  rw [dp_4 hij]
  have n0 : ∀ k, i + 1 ≤ k → k < i + 1 + (j - i - 1).toNat → 0 ≤ (if kd k = 5 then dp kd 3 i k * dp kd 3 (k + 1) j else 0) := by
    intro k h1 h2
    split
    · exact Int.mul_nonneg (dp_r (by omega) (by omega) (by omega)).1 (dp_r (by omega) (by omega) (by omega)).1
    · omega
  have hs := sumF_pos _ _ n0
  have hs0 := sumF_nn _ _ n0
  have h30 := (dp_r (kd := kd) (t := 3) (i := i) (j := j) (by omega) (by omega) (by omega)).1
  constructor
  · intro h
    by_cases y : 0 < dp kd 3 i j
    · exact Or.inl y
    · obtain ⟨k, h1, h2, h3⟩ := hs.mp (by omega)
      split at h3
      · next e =>
        rw [mul_pp (dp_r (by omega) (by omega) (by omega)).1 (dp_r (by omega) (by omega) (by omega)).1] at h3
        exact Or.inr ⟨k, by omega, by omega, e, h3⟩
      · omega
  · rintro (h | ⟨k, h1, h2, h3, h4⟩)
    · omega
    · have := hs.mpr ⟨k, by omega, by omega, by rw [if_pos h3]; exact Int.mul_pos h4.1 h4.2⟩
      omega
theorem dpp_5 {kd : Int → Int} {i j : Int} (hij : i ≤ j) (hL : j - i ≤ 12) : 0 < dp kd 5 i j ↔ ∃ k, i < k ∧ k < j ∧ kd k = 1 ∧ 0 < dp kd 4 i k ∧ 0 < dp kd 6 (k + 1) j := by
  rw [dp_5 hij]
  have n0 : ∀ k, i + 1 ≤ k → k < i + 1 + (j - i - 1).toNat → 0 ≤ (if kd k = 1 then dp kd 4 i k * dp kd 6 (k + 1) j else 0) := by
    intro k h1 h2
    split
    · exact Int.mul_nonneg (dp_r (by omega) (by omega) (by omega)).1 (dp_r (by omega) (by omega) (by omega)).1
    · omega
  rw [sumF_pos _ _ n0]
  constructor
  · rintro ⟨k, h1, h2, h3⟩
    split at h3
    · next e =>
      rw [mul_pp (dp_r (by omega) (by omega) (by omega)).1 (dp_r (by omega) (by omega) (by omega)).1] at h3
      exact ⟨k, by omega, by omega, e, h3⟩
    · omega
  · rintro ⟨k, h1, h2, h3, h4⟩
    exact ⟨k, by omega, by omega, by rw [if_pos h3]; exact Int.mul_pos h4.1 h4.2⟩
theorem dpp_6 {kd : Int → Int} {i j : Int} (hij : i ≤ j) (hL : j - i ≤ 12) : 0 < dp kd 6 i j ↔ 0 < dp kd 2 i j ∨ ∃ k, i < k ∧ k ≤ j ∧ (0 < dp kd 4 i k ∨ (kd i = 6 ∧ 0 < dp kd 5 (i + 1) k)) ∧ 0 < dp kd 2 k j := by
  rw [dp_6 hij]
  have ob : ∀ k, i < k → k ≤ j → 0 ≤ (dp kd 4 i k + if kd i = 6 then dp kd 5 (i + 1) k else 0) := by
    intro k h1 h2
    have a1 := (dp_r (kd := kd) (t := 4) (i := i) (j := k) (by omega) (by omega) (by omega)).1
    have a2 := (dp_r (kd := kd) (t := 5) (i := i + 1) (j := k) (by omega) (by omega) (by omega)).1
    split <;> omega
  have n0 : ∀ k, i + 1 ≤ k → k < i + 1 + (j - i).toNat → 0 ≤ (dp kd 4 i k + if kd i = 6 then dp kd 5 (i + 1) k else 0) * dp kd 2 k j := by
    intro k h1 h2
    exact Int.mul_nonneg (ob k (by omega) (by omega)) (dp_r (by omega) (by omega) (by omega)).1
  have hs := sumF_pos _ _ n0
  have hs0 := sumF_nn _ _ n0
  have h20 := (dp_r (kd := kd) (t := 2) (i := i) (j := j) (by omega) (by omega) (by omega)).1
  constructor
  · intro h
    by_cases y : 0 < dp kd 2 i j
    · exact Or.inl y
    · obtain ⟨k, h1, h2, h3⟩ := hs.mp (by omega)
      rw [mul_pp (ob k (by omega) (by omega)) (dp_r (by omega) (by omega) (by omega)).1] at h3
      refine Or.inr ⟨k, by omega, by omega, ?_, h3.2⟩
      have a1 := (dp_r (kd := kd) (t := 4) (i := i) (j := k) (by omega) (by omega) (by omega)).1
      by_cases x : 0 < dp kd 4 i k
      · exact Or.inl x
      · have h4 := h3.1
        split at h4
        · next e => exact Or.inr ⟨e, by omega⟩
        · omega
  · rintro (h | ⟨k, h1, h2, h3, h4⟩)
    · omega
    · have a1 := (dp_r (kd := kd) (t := 4) (i := i) (j := k) (by omega) (by omega) (by omega)).1
      have a2 := (dp_r (kd := kd) (t := 5) (i := i + 1) (j := k) (by omega) (by omega) (by omega)).1
      have := hs.mpr ⟨k, by omega, by omega, Int.mul_pos (by
        rcases h3 with e | e
        · split <;> omega
        · rw [if_pos e.1]; omega) h4⟩
      omega
/-- the shapes of stacks that come up -/
def wf3 : List E3 → Prop
  | [] => True
  | e :: T => e.1 = 3 ∧ wf3 T
def wfN : List E3 → Prop
  | [] => True
  | e :: T => (e.1 = 5 ∧ wfN T) ∨ (e.1 = 1 ∧ wf3 T) ∨ (e.1 = 3 ∧ wf3 T)
def wfX : List E3 → Prop
  | [] => False
  | e :: T => (e.1 = 5 ∧ wfN T) ∨ ((e.1 = 3 ∨ e.1 = 2 ∨ e.1 = 0) ∧ wf3 T) ∨ ((e.1 = 7 ∨ e.1 = 6) ∧ wfN T)
def wfA : List E3 → Prop
  | [] => False
  | e :: T => wfX (e :: T) ∧ (e.1 = 0 ∨ e.1 = 2 ∨ e.1 = 7 ∨ e.1 = 6)
def wfL : List E3 → Prop
  | [] => False
  | e :: T => (e.1 = 4 ∧ wfA T) ∨ wfX (e :: T)
theorem wf3_N : ∀ {T : List E3}, wf3 T → wfN T
  | [], _ => trivial
  | _ :: _, h => Or.inr (Or.inr h)
/-- whether a part of a type can be completed by the words from i to j -/
def lgP (kd : Int → Int) (a c i j : Int) : Prop :=
  if a = 0 then 0 < dp kd 5 i j else if a = 1 then i < j ∧ kd i = 1 ∧ 0 < dp kd 6 (i + 1) j else if a = 2 then 0 < dp kd 6 i j else if a = 3 then 0 < dp kd 2 i j
  else if a = 5 then (∃ k, i ≤ k ∧ k ≤ j ∧ 0 < dp kd 1 i k ∧ (k = j ∨ (c = 1 ∧ k < j ∧ kd k = 5 ∧ 0 < dp kd 3 (k + 1) j))) else if a = 6 then 0 < dp kd 3 i j else if a = 7 then 0 < dp kd 4 i j else False
def CpP (kd : Int → Int) (n : Int) : List E3 → Int → Prop
  | [], i => i = n
  | e :: T, i => if e.1 = 4 then i < n ∧ (kd i = 2 ∨ kd i = 0) ∧ CpP kd n T i else ∃ j, i ≤ j ∧ j ≤ n ∧ lgP kd e.1 e.2.2 i j ∧ CpP kd n T j
theorem Cp0 {kd : Int → Int} {n i b c : Int} {T : List E3} : CpP kd n ((0, b, c) :: T) i ↔ ∃ j, i ≤ j ∧ j ≤ n ∧ 0 < dp kd 5 i j ∧ CpP kd n T j := by
  rw [CpP, if_neg (by simp)]; simp [lgP]
theorem Cp1 {kd : Int → Int} {n i b c : Int} {T : List E3} : CpP kd n ((1, b, c) :: T) i ↔ ∃ j, i ≤ j ∧ j ≤ n ∧ (i < j ∧ kd i = 1 ∧ 0 < dp kd 6 (i + 1) j) ∧ CpP kd n T j := by
  rw [CpP, if_neg (by simp)]; simp [lgP]
theorem Cp2 {kd : Int → Int} {n i b c : Int} {T : List E3} : CpP kd n ((2, b, c) :: T) i ↔ ∃ j, i ≤ j ∧ j ≤ n ∧ 0 < dp kd 6 i j ∧ CpP kd n T j := by
  rw [CpP, if_neg (by simp)]; simp [lgP]
theorem Cp3 {kd : Int → Int} {n i b c : Int} {T : List E3} : CpP kd n ((3, b, c) :: T) i ↔ ∃ j, i ≤ j ∧ j ≤ n ∧ 0 < dp kd 2 i j ∧ CpP kd n T j := by
  rw [CpP, if_neg (by simp)]; simp [lgP]
theorem Cp4 {kd : Int → Int} {n i b c : Int} {T : List E3} : CpP kd n ((4, b, c) :: T) i ↔ i < n ∧ (kd i = 2 ∨ kd i = 0) ∧ CpP kd n T i := by
  rw [CpP, if_pos rfl]
theorem Cp5 {kd : Int → Int} {n i b c : Int} {T : List E3} : CpP kd n ((5, b, c) :: T) i ↔ ∃ j, i ≤ j ∧ j ≤ n ∧ (∃ k, i ≤ k ∧ k ≤ j ∧ 0 < dp kd 1 i k ∧ (k = j ∨ (c = 1 ∧ k < j ∧ kd k = 5 ∧ 0 < dp kd 3 (k + 1) j))) ∧ CpP kd n T j := by
  rw [CpP, if_neg (by simp)]; simp [lgP]
theorem Cp6 {kd : Int → Int} {n i b c : Int} {T : List E3} : CpP kd n ((6, b, c) :: T) i ↔ ∃ j, i ≤ j ∧ j ≤ n ∧ 0 < dp kd 3 i j ∧ CpP kd n T j := by
  rw [CpP, if_neg (by simp)]; simp [lgP]
theorem Cp7 {kd : Int → Int} {n i b c : Int} {T : List E3} : CpP kd n ((7, b, c) :: T) i ↔ ∃ j, i ≤ j ∧ j ≤ n ∧ 0 < dp kd 4 i j ∧ CpP kd n T j := by
  rw [CpP, if_neg (by simp)]; simp [lgP]
theorem dp1_n {kd : Int → Int} {i j : Int} (hij : i ≤ j) (hL : j - i ≤ 12) (h : 0 < dp kd 1 i j) (hk : kd i ≠ 4) : i = j := by
  rcases (dpp_1 hij hL).mp h with e | ⟨k, h1, h2, h3, -⟩
  · exact e
  · exact absurd ((dpp_0 (by omega)).mp h3).2.1 hk
theorem dp2_n {kd : Int → Int} {i j : Int} (hij : i ≤ j) (hL : j - i ≤ 12) (h : 0 < dp kd 2 i j) (hk : kd i ≠ 4 ∧ kd i ≠ 3) : i = j := by
  rcases (dpp_2 hij hL).mp h with e | e | ⟨k, h1, h2, h3, -⟩
  · exact e
  · exact absurd e.2.1 hk.2
  · exact absurd ((dpp_0 (by omega)).mp h3).2.1 hk.1
theorem dp3_n {kd : Int → Int} {i j : Int} (hij : i ≤ j) (h : 0 < dp kd 3 i j) : i < j ∧ (kd i = 0 ∨ kd i = 2) := by
  have := (dpp_3 hij).mp h
  omega
theorem dp4_n {kd : Int → Int} {i j : Int} (hij : i ≤ j) (hL : j - i ≤ 12) (h : 0 < dp kd 4 i j) : i < j ∧ (kd i = 0 ∨ kd i = 2) := by
  rcases (dpp_4 hij hL).mp h with e | ⟨k, h1, h2, -, h4, -⟩
  · exact dp3_n hij e
  · have := dp3_n (by omega) h4
    omega
theorem dp5_n {kd : Int → Int} {i j : Int} (hij : i ≤ j) (hL : j - i ≤ 12) (h : 0 < dp kd 5 i j) : i < j ∧ (kd i = 0 ∨ kd i = 2) := by
  obtain ⟨k, h1, h2, -, h4, -⟩ := (dpp_5 hij hL).mp h
  have := dp4_n (by omega) (by omega) h4
  omega
theorem dp6_n {kd : Int → Int} {i j : Int} (hij : i ≤ j) (hL : j - i ≤ 12) (h : 0 < dp kd 6 i j) (hk : kd i = 1 ∨ kd i = 5) : i = j := by
  rcases (dpp_6 hij hL).mp h with e | ⟨k, h1, h2, h3, -⟩
  · exact dp2_n hij hL e (by omega)
  · rcases h3 with h3 | h3
    · have := dp4_n (by omega) (by omega) h3
      omega
    · omega
/-- words that begin something new can't stand where nothing is waited for -/
theorem NBn {kd : Int → Int} {n w : Int} (hn : n ≤ 12) (h0 : 0 ≤ w) (hw : w < n) (hk : kd w = 0 ∨ kd w = 2 ∨ kd w = 6) : ∀ {T : List E3}, wfN T → ¬ CpP kd n T w
  | [], _, h => by rw [CpP] at h; omega
  | (a, b, c) :: T, wf, h => by
    rcases wf with ⟨e, wf⟩ | ⟨e, wf⟩ | ⟨e, wf⟩
    · dsimp only at e; subst e
      obtain ⟨j, h1, h2, ⟨k, h3, h4, h5, h6⟩, h7⟩ := Cp5.mp h
      have := dp1_n h3 (by omega) h5 (by omega)
      subst this
      rcases h6 with e | e
      · subst e; exact NBn hn h0 hw hk wf h7
      · omega
    · dsimp only at e; subst e
      obtain ⟨j, h1, h2, ⟨h3, h4, h5⟩, h6⟩ := Cp1.mp h
      omega
    · dsimp only at e; subst e
      obtain ⟨j, h1, h2, h3, h7⟩ := Cp3.mp h
      have := dp2_n h1 (by omega) h3 (by omega)
      subst this
      exact NBn hn h0 hw hk (wf3_N wf) h7
theorem NBv {kd : Int → Int} {n w : Int} (hn : n ≤ 12) (h0 : 0 ≤ w) (hw : w < n) (hk : kd w = 1 ∨ kd w = 5) : ∀ {T : List E3}, wf3 T → ¬ CpP kd n T w
  | [], _, h => by rw [CpP] at h; omega
  | (a, b, c) :: T, wf, h => by
    obtain ⟨e, wf⟩ := wf
    dsimp only at e; subst e
    obtain ⟨j, h1, h2, h3, h7⟩ := Cp3.mp h
    have := dp2_n h1 (by omega) h3 (by omega)
    subst this
    exact NBv hn h0 hw hk wf h7
theorem dp4_0 {kd : Int → Int} {w j : Int} (hw : w < j) (hL : j - w ≤ 12) (hk : kd w = 0) : 0 < dp kd 4 w j ↔ ∃ k, w + 1 ≤ k ∧ k ≤ j ∧ 0 < dp kd 1 (w + 1) k ∧ (k = j ∨ ((1 : Int) = 1 ∧ k < j ∧ kd k = 5 ∧ 0 < dp kd 3 (k + 1) j)) := by
  rw [dpp_4 (by omega) hL, dpp_3 (by omega)]
  constructor
  · rintro (⟨h1, h2⟩ | ⟨k, h1, h2, h3, h4, h5⟩)
    · exact ⟨j, by omega, by omega, by rcases h2 with e | e; exact e.2; omega, Or.inl rfl⟩
    · have := (dpp_3 (by omega)).mp h4
      exact ⟨k, by omega, by omega, by rcases this.2 with e | e; exact e.2; omega, Or.inr ⟨rfl, h2, h3, h5⟩⟩
  · rintro ⟨k, h1, h2, h3, h4⟩
    rcases h4 with e | ⟨-, h4, h5, h6⟩
    · subst e; exact Or.inl ⟨by omega, Or.inl ⟨hk, h3⟩⟩
    · exact Or.inr ⟨k, by omega, h4, h5, (dpp_3 (by omega)).mpr ⟨by omega, Or.inl ⟨hk, h3⟩⟩, h6⟩
theorem Cp_nounTop {kd : Int → Int} {n w : Int} (hn : n ≤ 12) (h0 : 0 ≤ w) (hw : w < n) (hk : kd w = 0) {hd : Int → Int} : ∀ {L : List E3}, wfX L → (CpP kd n L w ↔ ∃ L2 hd2, nounTop w L hd = some (L2, hd2) ∧ CpP kd n L2 (w + 1))
  | [], wf => by exact absurd wf (by simp [wfX])
  | (a, b, c) :: T, wf => by
    have no : ∀ {T : List E3}, wfN T → ¬ CpP kd n T w := fun wf => NBn hn h0 hw (Or.inl hk) wf
    rcases wf with ⟨e, wf⟩ | ⟨e, wf⟩ | ⟨e, wf⟩
    · dsimp only at e; subst e
      constructor
      · intro h; exact absurd h (no (Or.inl ⟨rfl, wf⟩))
      · rintro ⟨L2, hd2, h, -⟩; simp [nounTop] at h
    · rcases e with e | e | e
      · dsimp only at e; subst e
        constructor
        · intro h; exact absurd h (no (Or.inr (Or.inr ⟨rfl, wf⟩)))
        · rintro ⟨L2, hd2, h, -⟩; simp [nounTop] at h
      · dsimp only at e; subst e
        have e1 : nounTop w ((2, b, c) :: T) hd = some ((5, w, 1) :: (3, b, c) :: T, upH hd w b) := by simp [nounTop]
        rw [e1]
        have e2 : (∃ L2 hd2, some ((5, w, 1) :: (3, b, c) :: T, upH hd w b) = some (L2, hd2) ∧ CpP kd n L2 (w + 1)) ↔ CpP kd n ((5, w, 1) :: (3, b, c) :: T) (w + 1) := by
          constructor
          · rintro ⟨L2, hd2, h, q⟩; cases h; exact q
          · intro q; exact ⟨_, _, rfl, q⟩
        rw [e2, Cp2, Cp5]
        constructor
        · rintro ⟨j, h1, h2, h3, h4⟩
          rcases (dpp_6 h1 (by omega)).mp h3 with e | ⟨k, k1, k2, k3, k4⟩
          · have := dp2_n h1 (by omega) e (by omega)
            subst this
            exact absurd h4 (no (wf3_N wf))
          · rcases k3 with k3 | k3
            · exact ⟨k, by omega, by omega, (dp4_0 k1 (by omega) hk).mp k3, Cp3.mpr ⟨j, k2, h2, k4, h4⟩⟩
            · omega
        · rintro ⟨k, k1, k2, k3, k4⟩
          obtain ⟨j, h1, h2, h3, h4⟩ := Cp3.mp k4
          exact ⟨j, by omega, h2, (dpp_6 (by omega) (by omega)).mpr (Or.inr ⟨k, by omega, h1, Or.inl ((dp4_0 (by omega) (by omega) hk).mpr k3), h3⟩), h4⟩
      · dsimp only at e; subst e
        have e1 : nounTop w ((0, b, c) :: T) hd = some ((5, w, 1) :: (1, w, c) :: T, hd) := by simp [nounTop]
        rw [e1]
        have e2 : (∃ L2 hd2, some ((5, w, 1) :: (1, w, c) :: T, hd) = some (L2, hd2) ∧ CpP kd n L2 (w + 1)) ↔ CpP kd n ((5, w, 1) :: (1, w, c) :: T) (w + 1) := by
          constructor
          · rintro ⟨L2, hd2, h, q⟩; cases h; exact q
          · intro q; exact ⟨_, _, rfl, q⟩
        rw [e2, Cp0, Cp5]
        constructor
        · rintro ⟨j, h1, h2, h3, h4⟩
          obtain ⟨k, k1, k2, k3, k4, k5⟩ := (dpp_5 h1 (by omega)).mp h3
          exact ⟨k, by omega, by omega, (dp4_0 k1 (by omega) hk).mp k4, Cp1.mpr ⟨j, by omega, h2, ⟨k2, k3, k5⟩, h4⟩⟩
        · rintro ⟨k, k1, k2, k3, k4⟩
          obtain ⟨j, h1, h2, ⟨h3, h5, h6⟩, h4⟩ := Cp1.mp k4
          exact ⟨j, by omega, h2, (dpp_5 (by omega) (by omega)).mpr ⟨k, by omega, h3, h5, (dp4_0 (by omega) (by omega) hk).mpr k3, h6⟩, h4⟩
    · rcases e with e | e
      · dsimp only at e; subst e
        have e1 : nounTop w ((7, b, c) :: T) hd = some ((5, w, 1) :: T, upH hd w b) := by simp [nounTop]
        rw [e1]
        have e2 : (∃ L2 hd2, some ((5, w, 1) :: T, upH hd w b) = some (L2, hd2) ∧ CpP kd n L2 (w + 1)) ↔ CpP kd n ((5, w, 1) :: T) (w + 1) := by
          constructor
          · rintro ⟨L2, hd2, h, q⟩; cases h; exact q
          · intro q; exact ⟨_, _, rfl, q⟩
        rw [e2, Cp7, Cp5]
        constructor
        · rintro ⟨j, h1, h2, h3, h4⟩
          have := dp4_n h1 (by omega) h3
          exact ⟨j, by omega, h2, (dp4_0 this.1 (by omega) hk).mp h3, h4⟩
        · rintro ⟨k, k1, k2, k3, k4⟩
          exact ⟨k, by omega, k2, (dp4_0 (by omega) (by omega) hk).mpr k3, k4⟩
      · dsimp only at e; subst e
        have e1 : nounTop w ((6, b, c) :: T) hd = some ((5, w, 0) :: T, upH hd w b) := by simp [nounTop]
        rw [e1]
        have e2 : (∃ L2 hd2, some ((5, w, 0) :: T, upH hd w b) = some (L2, hd2) ∧ CpP kd n L2 (w + 1)) ↔ CpP kd n ((5, w, 0) :: T) (w + 1) := by
          constructor
          · rintro ⟨L2, hd2, h, q⟩; cases h; exact q
          · intro q; exact ⟨_, _, rfl, q⟩
        rw [e2, Cp6, Cp5]
        constructor
        · rintro ⟨j, h1, h2, h3, h4⟩
          have := (dpp_3 h1).mp h3
          exact ⟨j, by omega, h2, ⟨j, by omega, by omega, by rcases this.2 with e | e; exact e.2; omega, Or.inl rfl⟩, h4⟩
        · rintro ⟨j, k1, k2, ⟨k, h1, h2, h3, h5⟩, k4⟩
          rcases h5 with e | e
          · subst e
            exact ⟨k, by omega, k2, (dpp_3 (by omega)).mpr ⟨by omega, Or.inl ⟨hk, h3⟩⟩, k4⟩
          · omega
theorem Cp_noun {kd : Int → Int} {n w : Int} (hn : n ≤ 12) (h0 : 0 ≤ w) (hw : w < n) (hk : kd w = 0) {hd : Int → Int} : ∀ {L : List E3}, wfL L → (CpP kd n L w ↔ ∃ L2 hd2, nounStep w L hd = some (L2, hd2) ∧ CpP kd n L2 (w + 1))
  | [], wf => by exact absurd wf (by simp [wfL])
  | (a, b, c) :: T, wf => by
    rcases wf with ⟨e, wf⟩ | wf
    · dsimp only at e; subst e
      have wx : wfX T := by
        cases T with
        | nil => exact absurd wf (by simp [wfA])
        | cons x T => exact wf.1
      rw [nounStep, if_pos rfl, Cp4]
      rw [← Cp_nounTop hn h0 hw hk wx]
      exact ⟨fun h => h.2.2, fun h => ⟨hw, Or.inr hk, h⟩⟩
    · have e : a ≠ 4 := by rcases wf with ⟨e, -⟩ | ⟨e, -⟩ | ⟨e, -⟩ <;> (dsimp only at e; omega)
      rw [nounStep, if_neg e]
      exact Cp_nounTop hn h0 hw hk wf
theorem Cp_verb {kd : Int → Int} {n w : Int} (hn : n ≤ 12) (h0 : 0 ≤ w) (hw : w < n) (hk : kd w = 1) {hd : Int → Int} : ∀ {L : List E3}, wfN L → (CpP kd n L w ↔ ∃ L2 hd2, verbStep w L hd = some (L2, hd2) ∧ CpP kd n L2 (w + 1))
  | [], wf => by
    constructor
    · intro h; rw [CpP] at h; omega
    · rintro ⟨L2, hd2, h, -⟩; simp [verbStep] at h
  | (a, b, c) :: T, wf => by
    rcases wf with ⟨e, wf⟩ | ⟨e, wf⟩ | ⟨e, wf⟩
    · dsimp only at e; subst e
      rw [verbStep, if_pos rfl, ← Cp_verb hn h0 hw hk wf, Cp5]
      constructor
      · rintro ⟨j, h1, h2, ⟨k, h3, h4, h5, h6⟩, h7⟩
        have := dp1_n h3 (by omega) h5 (by omega)
        subst this
        rcases h6 with e | e
        · subst e; exact h7
        · omega
      · intro h
        exact ⟨w, by omega, by omega, ⟨w, by omega, by omega, by rw [dp_one (Or.inl rfl)]; omega, Or.inl rfl⟩, h⟩
    · dsimp only at e; subst e
      have e1 : verbStep w ((1, b, c) :: T) hd = some ((2, w, c) :: T, upH (upH hd b w) w c) := by simp [verbStep]
      rw [e1, Cp1]
      constructor
      · rintro ⟨j, h1, h2, ⟨h3, h4, h5⟩, h6⟩
        exact ⟨_, _, rfl, Cp2.mpr ⟨j, by omega, h2, h5, h6⟩⟩
      · rintro ⟨L2, hd2, h, q⟩
        cases h
        obtain ⟨j, h1, h2, h3, h4⟩ := Cp2.mp q
        exact ⟨j, by omega, h2, ⟨by omega, hk, h3⟩, h4⟩
    · dsimp only at e; subst e
      constructor
      · intro h
        exact absurd h (NBv hn h0 hw (Or.inl hk) ⟨rfl, wf⟩)
      · rintro ⟨L2, hd2, h, -⟩
        simp [verbStep] at h
theorem Cp_verbX {kd : Int → Int} {n w : Int} (hn : n ≤ 12) (h0 : 0 ≤ w) (hw : w < n) (hk : kd w = 1) {hd : Int → Int} {a b c : Int} {T : List E3} (wf : wfX ((a, b, c) :: T)) : CpP kd n ((a, b, c) :: T) w ↔ ∃ L2 hd2, verbStep w ((a, b, c) :: T) hd = some (L2, hd2) ∧ CpP kd n L2 (w + 1) := by
  rcases wf with ⟨e, wf⟩ | ⟨e, wf⟩ | ⟨e, wf⟩
  · exact Cp_verb hn h0 hw hk (Or.inl ⟨e, wf⟩)
  · rcases e with e | e | e
    · exact Cp_verb hn h0 hw hk (Or.inr (Or.inr ⟨e, wf⟩))
    · dsimp only at e; subst e
      constructor
      · intro h
        obtain ⟨j, h1, h2, h3, h4⟩ := Cp2.mp h
        have := dp6_n h1 (by omega) h3 (Or.inl hk)
        subst this
        exact absurd h4 (NBv hn h0 hw (Or.inl hk) wf)
      · rintro ⟨L2, hd2, h, -⟩; simp [verbStep] at h
    · dsimp only at e; subst e
      constructor
      · intro h
        obtain ⟨j, h1, h2, h3, h4⟩ := Cp0.mp h
        have := dp5_n h1 (by omega) h3
        omega
      · rintro ⟨L2, hd2, h, -⟩; simp [verbStep] at h
  · rcases e with e | e
    · dsimp only at e; subst e
      constructor
      · intro h
        obtain ⟨j, h1, h2, h3, h4⟩ := Cp7.mp h
        have := dp4_n h1 (by omega) h3
        omega
      · rintro ⟨L2, hd2, h, -⟩; simp [verbStep] at h
    · dsimp only at e; subst e
      constructor
      · intro h
        obtain ⟨j, h1, h2, h3, h4⟩ := Cp6.mp h
        have := dp3_n h1 h3
        omega
      · rintro ⟨L2, hd2, h, -⟩; simp [verbStep] at h
end P3
