section P5
/-! what the class's forced heads are, word by word -/
/-- the last word ahead of w that is no adjective -/
def bA (ka : Int → Int) : Nat → Int
  | 0 => -1
  | w + 1 => if ka w = 2 then bA ka w else w
/-- the last opener ahead of w -/
def opA (ka : Int → Int) : Nat → Int
  | 0 => -1
  | w + 1 => if ka w = 6 then w else opA ka w
/-- the subject that waits for its verb ahead of w -/
def suA (ka : Int → Int) : Nat → Int
  | 0 => -1
  | w + 1 => if ka w = 0 ∧ ka (bA ka w) = 6 then w else if ka w = 1 then -1 else suA ka w
theorem bA_r (ka : Int → Int) : ∀ w : Nat, -1 ≤ bA ka w ∧ bA ka w < w ∧ (∀ z, bA ka w < z → z < w → ka z = 2) ∧ (0 ≤ bA ka w → ka (bA ka w) ≠ 2)
  | 0 => by
    refine ⟨by rw [bA]; omega, by rw [bA]; omega, fun z h1 h2 => ?_, fun h => ?_⟩
    · rw [bA] at h1; omega
    · rw [bA] at h; omega
  | w + 1 => by
    obtain ⟨h1, h2, h3, h4⟩ := bA_r ka w
    rw [bA]
    split
    · next e =>
      refine ⟨h1, by omega, fun z z1 z2 => ?_, h4⟩
      by_cases y : z = w
      · rw [y]; exact e
      · exact h3 z z1 (by omega)
    · next e => exact ⟨by omega, by omega, fun z z1 z2 => by omega, fun _ => e⟩
theorem opA_r (ka : Int → Int) : ∀ w : Nat, -1 ≤ opA ka w ∧ opA ka w < w ∧ (0 ≤ opA ka w → ka (opA ka w) = 6) ∧ (∀ z, opA ka w < z → 0 ≤ z → z < w → ka z ≠ 6)
  | 0 => by
    refine ⟨by rw [opA]; omega, by rw [opA]; omega, fun h => ?_, fun z h1 h2 h3 => by omega⟩
    rw [opA] at h; omega
  | w + 1 => by
    obtain ⟨h1, h2, h3, h4⟩ := opA_r ka w
    rw [opA]
    split
    · next e => exact ⟨by omega, by omega, fun _ => e, fun z z1 z2 z3 => by omega⟩
    · next e =>
      refine ⟨h1, by omega, h3, fun z z1 z2 z3 => ?_⟩
      by_cases y : z = w
      · rw [y]; exact e
      · exact h4 z z1 z2 (by omega)
theorem suA_r (ka : Int → Int) : ∀ w : Nat, suA ka w = -1 ∨ (0 ≤ suA ka w ∧ suA ka w < w ∧ ka (suA ka w) = 0)
  | 0 => Or.inl rfl
  | w + 1 => by
    rw [suA]
    split
    · next e => exact Or.inr ⟨by omega, by omega, e.1⟩
    · split
      · exact Or.inl rfl
      · rcases suA_r ka w with h | h
        · exact Or.inl h
        · exact Or.inr ⟨h.1, by omega, h.2.2⟩
theorem adjF_eq (ka : Int → Int) (x : Int) : ∀ (w : Nat) (hd : Int → Int), adjF ka x w hd = (fun j => if bA ka w < j ∧ j < w then x else hd j, bA ka w)
  | 0, hd => by
    rw [adjF, bA]
    congr 1
    funext j
    rw [if_neg (by omega)]
  | w + 1, hd => by
    have hb := bA_r ka w
    rw [adjF, bA]
    split
    · next e =>
      rw [adjF_eq ka x w]
      congr 1
      funext j
      unfold upH
      by_cases c1 : bA ka w < j ∧ j < w
      · rw [if_pos c1, if_pos (by omega)]
      · rw [if_neg c1]
        by_cases c2 : j = w
        · rw [if_pos c2, if_pos (by omega)]
        · rw [if_neg c2, if_neg (by omega)]
    · congr 1
      funext j
      rw [if_neg (by omega)]
/-- the forced heads of the words from a to b -/
def FcP (ka h0 : Int → Int) (a b : Nat) : Prop := ∀ v : Nat, a ≤ v → v < b → follows (ka ((v : Int) - 1)) (ka v) ∧ (ka v = 0 → (∀ j, bA ka v < j → j < v → h0 j = v) ∧ (ka (bA ka v) ≠ 6 → h0 v = bA ka v)) ∧ (ka v = 1 → suA ka v ≠ -1 ∧ h0 (suA ka v) = v ∧ h0 v = opA ka v) ∧ (ka v = 6 → h0 v = (v : Int) - 1)
def frK (k : Int) : Prop := k = 3 ∨ k = 4 ∨ k = 5
theorem forc_some {ka : Int → Int} (hk : ∀ w, 0 ≤ ka w ∧ ka w ≤ 6) : ∀ (m w : Nat) (hd h0 : Int → Int) (s : Int), forcF ka m w (opA ka w) (suA ka w) hd = some (h0, s) → s = suA ka (w + m) ∧ FcP ka h0 w (w + m) ∧ (∀ j : Int, 0 ≤ j → ((j < w ∨ (w : Int) + m ≤ j) ∨ frK (ka j)) → j ≠ suA ka w → ¬ (bA ka w < j ∧ j < w) → h0 j = hd j)
  | 0, w, hd, h0, s, h => by
    rw [forcF] at h
    cases h
    exact ⟨rfl, fun v h1 h2 => by omega, fun _ _ _ _ _ => rfl⟩
  | m + 1, w, hd, h0, s, h => by
    rw [forcF] at h
    have hs := suA_r ka w
    have hb := bA_r ka w
    have ho := opA_r ka w
    have hkw := hk w
    by_cases cf : follows (ka ((w : Int) - 1)) (ka w)
    · rw [whI_t cf, if_neg (by omega)] at h
      simp only [Int.toNat_natCast, adjF_eq] at h
      have step : ∀ (op sub : Int) (hd2 : Int → Int), op = opA ka (w + 1) → sub = suA ka (w + 1) → forcF ka m ((w : Int) + 1) op sub hd2 = some (h0, s) →
          (ka w = 0 → (∀ j, bA ka w < j → j < w → h0 j = w) ∧ (ka (bA ka w) ≠ 6 → h0 w = bA ka w)) → (ka w = 1 → suA ka w ≠ -1 ∧ h0 (suA ka w) = w ∧ h0 w = opA ka w) → (ka w = 6 → h0 w = (w : Int) - 1) →
          (∀ j : Int, 0 ≤ j → ((j < w ∨ (w : Int) + (m + 1 : Nat) ≤ j) ∨ frK (ka j)) → j ≠ suA ka w → ¬ (bA ka w < j ∧ j < w) → j ≠ suA ka (w + 1) ∧ ¬ (bA ka (w + 1) < j ∧ j < ((w + 1 : Nat) : Int)) ∧ hd2 j = hd j) →
          s = suA ka (w + (m + 1)) ∧ FcP ka h0 w (w + (m + 1)) ∧ (∀ j : Int, 0 ≤ j → ((j < w ∨ (w : Int) + (m + 1 : Nat) ≤ j) ∨ frK (ka j)) → j ≠ suA ka w → ¬ (bA ka w < j ∧ j < w) → h0 j = hd j) := by
        intro op sub hd2 e1 e2 h3 f0 f1 f6 hkp
        subst e1 e2
        obtain ⟨i1, i2, i3⟩ := forc_some hk m (w + 1) hd2 h0 s h3
        refine ⟨by rw [i1]; congr 1; omega, fun v v1 v2 => ?_, fun j jn j1 j2 j3 => ?_⟩
        · by_cases y : v = w
          · subst y
            exact ⟨cf, f0, f1, f6⟩
          · exact i2 v (by omega) (by omega)
        · obtain ⟨k1, k2, k3⟩ := hkp j jn j1 j2 j3
          have j9 : (j < ((w + 1 : Nat) : Int) ∨ ((w + 1 : Nat) : Int) + (m : Int) ≤ j) ∨ frK (ka j) := by
            rcases j1 with j1 | j1
            · exact Or.inl (by omega)
            · exact Or.inr j1
          rw [i3 j jn j9 k1 k2, k3]
      have keep : ∀ (hd2 : Int → Int), forcF ka m ((w : Int) + 1) (opA ka (w + 1)) (suA ka (w + 1)) hd2 = some (h0, s) → ∀ j : Int, 0 ≤ j → j < (w : Int) + 1 → j ≠ suA ka (w + 1) → ¬ (bA ka (w + 1) < j ∧ j < ((w + 1 : Nat) : Int)) → h0 j = hd2 j := by
        intro hd2 h3 j jn j1 j2 j3
        exact (forc_some hk m (w + 1) hd2 h0 s h3).2.2 j jn (Or.inl (Or.inl (by omega))) j2 j3
      by_cases k0 : ka w = 0
      · have eo : opA ka (w + 1) = opA ka w := by rw [opA, if_neg (by omega)]
        have eb : bA ka (w + 1) = w := by rw [bA, if_neg (by omega)]
        rw [if_pos k0] at h
        by_cases k6 : ka (bA ka w) = 6
        · have es : suA ka (w + 1) = w := by rw [suA, if_pos ⟨k0, k6⟩]
          rw [if_pos k6] at h
          refine step _ _ _ eo.symm es.symm h (fun _ => ⟨fun j j1 j2 => ?_, fun z => absurd k6 z⟩) (fun z => by omega) (fun z => by omega) (fun j jn j1 j2 j3 => ?_)
          · rw [keep _ (by rw [eo, es]; exact h) j (by omega) (by omega) (by omega) (by omega)]
            unfold upH
            rw [if_neg (by omega)]
            exact if_pos ⟨j1, j2⟩
          · have jw : j ≠ w := by
              rintro rfl
              unfold frK at j1
              omega
            refine ⟨by rw [es]; exact jw, by omega, ?_⟩
            unfold upH
            rw [if_neg jw]
            exact if_neg j3
        · have es : suA ka (w + 1) = suA ka w := by rw [suA, if_neg (by omega), if_neg (by omega)]
          rw [if_neg k6] at h
          have ns : ∀ j, bA ka w < j → j < w → j ≠ suA ka w := by
            rintro j j1 j2 rfl
            have := hb.2.2.1 _ j1 j2
            omega
          refine step _ _ _ eo.symm es.symm h (fun _ => ⟨fun j j1 j2 => ?_, fun _ => ?_⟩) (fun z => by omega) (fun z => by omega) (fun j jn j1 j2 j3 => ?_)
          · rw [keep _ (by rw [eo, es]; exact h) j (by omega) (by omega) (by rw [es]; exact ns j j1 j2) (by omega)]
            unfold upH
            rw [if_neg (by omega)]
            exact if_pos ⟨j1, j2⟩
          · rw [keep _ (by rw [eo, es]; exact h) w (by omega) (by omega) (by omega) (by omega)]
            unfold upH
            rw [if_pos rfl]
          · have jw : j ≠ w := by
              rintro rfl
              unfold frK at j1
              omega
            refine ⟨by rw [es]; exact j2, by omega, ?_⟩
            unfold upH
            rw [if_neg jw]
            exact if_neg j3
      rw [if_neg k0] at h
      by_cases k1 : ka w = 1
      · have eo : opA ka (w + 1) = opA ka w := by rw [opA, if_neg (by omega)]
        have eb : bA ka (w + 1) = w := by rw [bA, if_neg (by omega)]
        have es : suA ka (w + 1) = -1 := by rw [suA, if_neg (by omega), if_pos k1]
        rw [if_pos k1] at h
        by_cases sm : suA ka w = -1
        · rw [if_pos sm] at h; cases h
        · rw [if_neg sm] at h
          refine step _ _ _ eo.symm es.symm h (fun z => by omega) (fun _ => ⟨sm, ?_, ?_⟩) (fun z => by omega) (fun j jn j1 j2 j3 => ?_)
          · rw [keep _ (by rw [eo, es]; exact h) _ (by omega) (by omega) (by omega) (by omega)]
            unfold upH
            rw [if_neg (by omega), if_pos rfl]
          · rw [keep _ (by rw [eo, es]; exact h) w (by omega) (by omega) (by omega) (by omega)]
            unfold upH
            rw [if_pos rfl]
          · have jw : j ≠ w := by
              rintro rfl
              unfold frK at j1
              omega
            refine ⟨by rw [es]; omega, by omega, ?_⟩
            unfold upH
            rw [if_neg jw]
            exact if_neg j2
      rw [if_neg k1] at h
      by_cases k6 : ka w = 6
      · have eo : opA ka (w + 1) = w := by rw [opA, if_pos k6]
        have eb : bA ka (w + 1) = w := by rw [bA, if_neg (by omega)]
        have es : suA ka (w + 1) = suA ka w := by rw [suA, if_neg (by omega), if_neg (by omega)]
        rw [if_pos k6] at h
        refine step _ _ _ eo.symm es.symm h (fun z => by omega) (fun z => by omega) (fun _ => ?_) (fun j jn j1 j2 j3 => ?_)
        · rw [keep _ (by rw [eo, es]; exact h) w (by omega) (by omega) (by omega) (by omega)]
          unfold upH
          rw [if_pos rfl]
        · have jw : j ≠ w := by
            rintro rfl
            unfold frK at j1
            omega
          refine ⟨by rw [es]; exact j2, by omega, ?_⟩
          unfold upH
          rw [if_neg jw]
      rw [if_neg k6] at h
      have eo : opA ka (w + 1) = opA ka w := by rw [opA, if_neg k6]
      have es : suA ka (w + 1) = suA ka w := by rw [suA, if_neg (by omega), if_neg (by omega)]
      refine step _ _ _ eo.symm es.symm h (fun z => by omega) (fun z => by omega) (fun z => by omega) (fun j jn j1 j2 j3 => ⟨by rw [es]; exact j2, ?_, rfl⟩)
      rw [bA]
      split
      · next e =>
        intro z
        by_cases y : j = w
        · subst y; unfold frK at j1; omega
        · exact j3 ⟨z.1, by omega⟩
      · omega
    · rw [whI_f cf, if_pos rfl] at h
      cases h
theorem forc_none {ka : Int → Int} : ∀ (m w : Nat) (hd : Int → Int), forcF ka m w (opA ka w) (suA ka w) hd = none → ∃ v : Nat, w ≤ v ∧ v < w + m ∧ (¬ follows (ka ((v : Int) - 1)) (ka v) ∨ (ka v = 1 ∧ suA ka v = -1))
  | 0, w, hd, h => by rw [forcF] at h; cases h
  | m + 1, w, hd, h => by
    rw [forcF] at h
    by_cases cf : follows (ka ((w : Int) - 1)) (ka w)
    · rw [whI_t cf, if_neg (by omega)] at h
      simp only [Int.toNat_natCast, adjF_eq] at h
      have go : ∀ (hd2 : Int → Int), forcF ka m ((w : Int) + 1) (opA ka (w + 1)) (suA ka (w + 1)) hd2 = none → ∃ v : Nat, w ≤ v ∧ v < w + (m + 1) ∧ (¬ follows (ka ((v : Int) - 1)) (ka v) ∨ (ka v = 1 ∧ suA ka v = -1)) := by
        intro hd2 h2
        obtain ⟨v, v1, v2, v3⟩ := forc_none m (w + 1) hd2 h2
        exact ⟨v, by omega, by omega, v3⟩
      by_cases k0 : ka w = 0
      · have eo : opA ka (w + 1) = opA ka w := by rw [opA, if_neg (by omega)]
        rw [if_pos k0] at h
        by_cases k6 : ka (bA ka w) = 6
        · have es : suA ka (w + 1) = w := by rw [suA, if_pos ⟨k0, k6⟩]
          rw [if_pos k6] at h
          exact go _ (by rw [eo, es]; exact h)
        · have es : suA ka (w + 1) = suA ka w := by rw [suA, if_neg (by omega), if_neg (by omega)]
          rw [if_neg k6] at h
          exact go _ (by rw [eo, es]; exact h)
      rw [if_neg k0] at h
      by_cases k1 : ka w = 1
      · have eo : opA ka (w + 1) = opA ka w := by rw [opA, if_neg (by omega)]
        have es : suA ka (w + 1) = -1 := by rw [suA, if_neg (by omega), if_pos k1]
        rw [if_pos k1] at h
        by_cases sm : suA ka w = -1
        · exact ⟨w, by omega, by omega, Or.inr ⟨k1, sm⟩⟩
        · rw [if_neg sm] at h
          exact go _ (by rw [eo, es]; exact h)
      rw [if_neg k1] at h
      have es : suA ka (w + 1) = suA ka w := by rw [suA, if_neg (by omega), if_neg (by omega)]
      by_cases k6 : ka w = 6
      · have eo : opA ka (w + 1) = w := by rw [opA, if_pos k6]
        rw [if_pos k6] at h
        exact go _ (by rw [eo, es]; exact h)
      · have eo : opA ka (w + 1) = opA ka w := by rw [opA, if_neg k6]
        rw [if_neg k6] at h
        exact go _ (by rw [eo, es]; exact h)
    · exact ⟨w, by omega, by omega, Or.inl cf⟩
/-- what the class's search gives -/
theorem hang_char {ka : Int → Int} : ∀ (m w : Nat) (he f : Int → Int), f ∈ hangF ka m w he → (∀ j : Int, (j < w ∨ (w : Int) + m ≤ j ∨ ¬ frK (ka j)) → f j = he j) ∧ ∀ j : Int, (w : Int) ≤ j → j < (w : Int) + m → frK (ka j) → 0 ≤ f j ∧ f j < j ∧ openF f (f j) 12 (j - 1) = true ∧ holdF ka f (f j) j = true
  | 0, w, he, f, h => by
    rw [hangF] at h
    simp at h
    subst h
    exact ⟨fun _ _ => rfl, fun j h1 h2 => by omega⟩
  | m + 1, w, he, f, h => by
    rw [hangF] at h
    by_cases z : ka w = 3 ∨ ka w = 4 ∨ ka w = 5
    · rw [if_pos z, List.mem_flatMap] at h
      obtain ⟨x, hx, h2⟩ := h
      have hx := List.mem_range.mp hx
      rw [Int.toNat_natCast] at hx
      split at h2
      · next c =>
        obtain ⟨i1, i2⟩ := hang_char m (w + 1) (upH he w x) f h2
        have ew : f w = x := by rw [i1 w (Or.inl (by omega))]; unfold upH; rw [if_pos rfl]
        have el : ∀ j : Int, j < w → f j = he j := fun j hj => by rw [i1 j (Or.inl (by omega))]; unfold upH; rw [if_neg (by omega)]
        refine ⟨fun j hj => ?_, fun j h1 h2 h3 => ?_⟩
        · by_cases y : j = w
          · subst y
            exfalso
            rcases hj with hj | hj | hj
            · omega
            · omega
            · exact hj z
          · rw [i1 j (by rcases hj with hj | hj | hj; exact Or.inl (by omega); exact Or.inr (Or.inl (by omega)); exact Or.inr (Or.inr hj))]
            unfold upH
            rw [if_neg y]
        · by_cases y : j = w
          · subst y
            rw [ew]
            refine ⟨by omega, by omega, ?_, ?_⟩
            · rw [openF_congr (f' := he) 12 _ (fun j hj => el j (by omega))]; exact c.1
            · rw [holdF_congr (f' := he) (by omega) (by omega) (fun j hj => el j (by omega))]; exact c.2
          · exact i2 j (by omega) (by omega) h3
      · simp at h2
    · rw [if_neg z] at h
      obtain ⟨i1, i2⟩ := hang_char m (w + 1) he f h
      refine ⟨fun j hj => ?_, fun j h1 h2 h3 => ?_⟩
      · by_cases y : j = w
        · subst y; exact i1 _ (Or.inl (by omega))
        · exact i1 j (by rcases hj with hj | hj | hj; exact Or.inl (by omega); exact Or.inr (Or.inl (by omega)); exact Or.inr (Or.inr hj))
      · by_cases y : j = w
        · subst y; exact absurd h3 z
        · exact i2 j (by omega) (by omega) h3
/-- what is known of a reading of the class -/
def RdP (ka : Int → Int) (n : Nat) (f : Int → Int) : Prop := 0 < n ∧ FcP ka f 0 n ∧ suA ka n = -1 ∧ (ka ((n : Int) - 1) = 0 ∨ ka ((n : Int) - 1) = 1 ∨ ka ((n : Int) - 1) = 3) ∧ ∀ j : Int, 0 ≤ j → j < n → frK (ka j) → 0 ≤ f j ∧ f j < j ∧ openF f (f j) 12 (j - 1) = true ∧ holdF ka f (f j) j = true
theorem FcP.congr {ka f g : Int → Int} {a b : Nat} (h : FcP ka f a b) (hk : ∀ w, 0 ≤ ka w ∧ ka w ≤ 6) (e : ∀ j, ¬ frK (ka j) → g j = f j) : FcP ka g a b := by
  intro v h1 h2
  obtain ⟨q1, q2, q3, q4⟩ := h v h1 h2
  refine ⟨q1, fun z => ⟨fun j j1 j2 => ?_, fun y => ?_⟩, fun z => ?_, fun z => ?_⟩
  · rw [e j (by have := (bA_r ka v).2.2.1 j j1 j2; unfold frK; omega)]; exact (q2 z).1 j j1 j2
  · rw [e v (by unfold frK; omega)]; exact (q2 z).2 y
  · obtain ⟨r1, r2, r3⟩ := q3 z
    refine ⟨r1, ?_, ?_⟩
    · rw [e _ (by
        rcases suA_r ka v with y | y
        · exact absurd y r1
        · unfold frK; omega)]; exact r2
    · rw [e v (by unfold frK; omega)]; exact r3
  · rw [e v (by unfold frK; omega)]; exact q4 z
theorem kAt_n {kd : Int → Int} {n : Int} (h : ∀ w, 0 ≤ w → w < n → 0 ≤ kd w ∧ kd w ≤ 6) : ∀ w, 0 ≤ kAt kd n w ∧ kAt kd n w ≤ 6 := fun w => kAt_r h w
theorem rdsH_P {kd : Int → Int} {n : Nat} (hk : ∀ w, 0 ≤ w → w < (n : Int) → 0 ≤ kd w ∧ kd w ≤ 6) {h0 f : Int → Int} (h : f ∈ rdsH (kAt kd n) n h0) : RdP (kAt kd n) n f := by
  have hk2 := kAt_n hk
  unfold rdsH at h
  rw [Int.toNat_natCast] at h
  cases e : forcF (kAt kd n) n 0 (-1) (-1) h0 with
  | none => rw [e] at h; simp at h
  | some p =>
    obtain ⟨he, s⟩ := p
    rw [e] at h
    dsimp only at h
    obtain ⟨c1, c2, c3⟩ := forc_some hk2 n 0 h0 he s e
    split at h
    · next z =>
      obtain ⟨d1, d2⟩ := hang_char n 0 he f h
      rw [Nat.zero_add] at c1 c2
      refine ⟨by omega, c2.congr hk2 (fun j hj => d1 j (Or.inr (Or.inr hj))), by rw [← c1]; exact z.2.1, z.2.2, fun j j1 j2 j3 => d2 j (by omega) (by omega) j3⟩
    · simp at h
end P5
