section P8
/-- an adjective's noun -/
theorem adj_noun {ka : Int → Int} {n : Nat} (hk : ∀ w, 0 ≤ ka w ∧ ka w ≤ 6) (hf : ∀ v : Nat, v < n → follows (ka ((v : Int) - 1)) (ka v)) (he : ka ((n : Int) - 1) ≠ 2) : ∀ (m w : Nat), w + m = n → m ≠ 0 → ka w = 2 → ∃ v : Nat, w < v ∧ v < n ∧ ka v = 0 ∧ bA ka v = bA ka w
  | 0, _, _, h, _ => absurd rfl h
  | m + 1, w, hw, _, k2 => by
    by_cases m0 : m = 0
    · subst m0
      rw [show (n : Int) - 1 = w by omega] at he
      exact absurd k2 he
    · have q := (fol_pre (hf (w + 1) (by omega)) (hk _)).2.2.2.2.2 (by rw [show ((w + 1 : Nat) : Int) - 1 = w by omega]; exact k2)
      have eb : bA ka (w + 1) = bA ka w := by rw [bA, if_pos k2]
      rcases q with q | q
      · exact ⟨w + 1, by omega, by omega, q, eb⟩
      · obtain ⟨v, v1, v2, v3, v4⟩ := adj_noun hk hf he m (w + 1) (by omega) m0 q
        exact ⟨v, by omega, v2, v3, by rw [v4, eb]⟩
theorem rd_rch {ka f : Int → Int} {n : Nat} (hn : n ≤ 12) (hk : ∀ w, 0 ≤ ka w ∧ ka w ≤ 6) (hk1 : ka (-1) = 6) (P : RdP ka n f) : ∀ w : Nat, w < n → rch f w := by
  have F := rd_facts hn hk hk1 P
  obtain ⟨n0, hF, hsn, hend, hfree⟩ := P
  have hf : ∀ v : Nat, v < n → follows (ka ((v : Int) - 1)) (ka v) := fun v hv => (hF v (by omega) hv).1
  have nonadj : ∀ w : Nat, w < n → ka w ≠ 2 → rch f w := by
    intro w hw k2
    obtain ⟨r1, r2, r3, r4⟩ := F w hw k2
    by_cases e : suA ka (w + 1) = -1
    · exact r3 e
    · have c := r2 e
      obtain ⟨v, v1, v2, v3, v4⟩ := su_verb hk1 hf hsn (n - (w + 1)) (w + 1) (by omega) e
      have fv := (hF v (by omega) v2).2.2.1 v3
      rw [v4] at fv
      have rv := (F v v2 (by omega)).2.2.1 (by rw [suA, if_neg (by omega), if_pos v3])
      obtain ⟨k, hk9⟩ := Ch_anc 12 w (by omega) (by omega) (by omega) c
      exact rch_up hk9 (rch_iff.mpr (Or.inr (by rw [fv.2.1]; exact rv)))
  intro w hw
  by_cases k2 : ka w = 2
  · obtain ⟨v, v1, v2, v3, v4⟩ := adj_noun hk hf (by omega) (n - w) w (by omega) (by omega) k2
    have hb := bA_r ka w
    have := ((hF v (by omega) v2).2.1 v3).1 w (by omega) (by omega)
    exact rch_iff.mpr (Or.inr (by rw [this]; exact nonadj v v2 (by omega)))
  · exact nonadj w hw k2
/-- each word's head: where it lies, and that the words between hang below it -/
theorem rd_edge {ka f : Int → Int} {n : Nat} (hn : n ≤ 12) (hk : ∀ w, 0 ≤ ka w ∧ ka w ≤ 6) (hk1 : ka (-1) = 6) (P : RdP ka n f) : ∀ w : Nat, w < n → -1 ≤ f w ∧ f w < n ∧ (f w ≠ -1 → ∀ z : Int, ((w : Int) < z ∧ z < f w) ∨ (f w < z ∧ z < w) → anc f (f w) z) ∧ (f w = -1 → ka w = 1 ∧ opA ka w = -1) ∧ (ka w = 0 → ka (f w) = 1 ∨ ka (f w) = 4 ∨ ka (f w) = 5) := by
  have F := rd_facts hn hk hk1 P
  obtain ⟨n0, hF, hsn, hend, hfree⟩ := P
  have hf : ∀ v : Nat, v < n → follows (ka ((v : Int) - 1)) (ka v) := fun v hv => (hF v (by omega) hv).1
  intro w hw
  have hkw := hk w
  have hb := bA_r ka w
  have ho := opA_r ka w
  obtain ⟨f0, fN, fV, fO⟩ := hF w (by omega) hw
  have hp := fol_pre f0 (hk _)
  by_cases k2 : ka w = 2
  · obtain ⟨v, v1, v2, v3, v4⟩ := adj_noun hk hf (by omega) (n - w) w (by omega) (by omega) k2
    have fA := ((hF v (by omega) v2).2.1 v3).1
    have e := fA w (by omega) (by omega)
    rw [e]
    refine ⟨by omega, by omega, fun _ z hz => ?_, fun y => by omega, fun y => by omega⟩
    exact anc_st (by rw [fA z (by omega) (by omega)]; omega) (by rw [fA z (by omega) (by omega)]; exact anc_rf)
  by_cases k0 : ka w = 0
  · by_cases k6 : ka (bA ka w) = 6
    · have es : suA ka (w + 1) = w := by rw [suA, if_pos ⟨k0, k6⟩]
      obtain ⟨v, v1, v2, v3, v4⟩ := su_verb hk1 hf hsn (n - (w + 1)) (w + 1) (by omega) (by rw [es]; omega)
      have fv := (hF v (by omega) v2).2.2.1 v3
      rw [v4, es] at fv
      have q := su_char (f := f) hk1 v (fun v hv => hf v (by omega)) (by rw [v4, es]; omega)
      rw [v4, es, Int.toNat_natCast] at q
      rw [fv.2.1]
      refine ⟨by omega, by omega, fun _ z hz => ?_, fun y => by omega, fun _ => Or.inl v3⟩
      exact (F v v2 (by omega)).2.2.2 v3 z (by rw [q.2.2.2.2.2.2.2]; omega) (by omega)
    · have fw := (fN k0).2 k6
      have b0 : 0 ≤ bA ka w := by
        apply Classical.byContradiction
        intro y
        have : bA ka w = -1 := by omega
        rw [this] at k6
        exact k6 hk1
      rw [fw]
      refine ⟨by omega, by omega, fun _ z hz => ?_, fun y => by omega, fun _ => ?_⟩
      · have e := (fN k0).1 z (by omega) (by omega)
        exact anc_st (by omega) (by rw [e]; exact anc_st (by omega) (by rw [fw]; exact anc_rf))
      · have k9 := hb.2.2.2 b0
        have k10 := hk (bA ka w)
        obtain ⟨b, eb⟩ : ∃ b : Nat, bA ka w = b := ⟨(bA ka w).toNat, by omega⟩
        -- what stands right behind the last word that is no adjective is a name's first word
        have nx := fol_pre (hf (b + 1) (by omega)) (hk _)
        rw [show ((b + 1 : Nat) : Int) - 1 = b by omega] at nx
        have kn : ka ((b + 1 : Nat) : Int) = 0 ∨ ka ((b + 1 : Nat) : Int) = 2 := by
          by_cases y : b + 1 = w
          · rw [y]; exact Or.inl k0
          · exact Or.inr (hb.2.2.1 _ (by omega) (by omega))
        rw [eb] at k6 k9 k10 ⊢
        have := nx.2.2.2.2.1 kn
        omega
  by_cases k1 : ka w = 1
  · obtain ⟨sm, fs, fw⟩ := fV k1
    rw [fw]
    refine ⟨by omega, by omega, fun y z hz => ?_, fun y => ⟨k1, y⟩, fun y => by omega⟩
    have := (F w hw k2).2.2.2 k1 z (by omega) (by omega)
    exact anc_tr this (anc_st (by omega) (by rw [fw]; exact anc_rf))
  by_cases k6 : ka w = 6
  · have fw := fO k6
    have pw := hp.2.2.2.1 k6
    have w0 : w ≠ 0 := by
      rintro rfl
      rw [show ((0 : Nat) : Int) - 1 = -1 from rfl, hk1] at pw
      omega
    rw [fw]
    exact ⟨by omega, by omega, fun _ z hz => by omega, fun y => by omega, fun y => by omega⟩
  · obtain ⟨h1, h2, h3, h4⟩ := hfree w (by omega) (by omega) (by unfold frK; omega)
    refine ⟨by omega, by omega, fun _ z hz => ?_, fun y => by omega, fun y => by omega⟩
    have pw : ka ((w : Int) - 1) = 0 ∨ ka ((w : Int) - 1) = 1 ∨ ka ((w : Int) - 1) = 3 := by
      by_cases y : ka w = 5
      · exact Or.inl (hp.2.1 y)
      · exact hp.1 (by omega)
    obtain ⟨u, eu⟩ : ∃ u : Nat, (w : Int) - 1 = u := ⟨w - 1, by omega⟩
    rw [eu] at pw h3
    exact (F u (by omega) (by omega)).1 (f w) h3 z (by omega) (by omega)
theorem root_one {ka : Int → Int} {n : Nat} (hk1 : ka (-1) = 6) (hf : ∀ v : Nat, v < n → follows (ka ((v : Int) - 1)) (ka v)) (hs : ∀ v : Nat, v < n → ka v = 1 → suA ka v ≠ -1) {w v : Nat} (hwv : w < v) (hv : v < n) (kw : ka w = 1) (kv : ka v = 1) : opA ka v ≠ -1 := by
  obtain ⟨s1, s2, s3, s4, s5, s6, s7, s8⟩ := su_char (f := fun _ => 0) hk1 v (fun u hu => hf u (by omega)) (hs v hv kv)
  obtain ⟨s, ee⟩ : ∃ s : Nat, suA ka v = s := ⟨(suA ka v).toNat, by omega⟩
  rw [ee, Int.toNat_natCast] at s8
  rw [ee] at s6
  have hb := bA_r ka s
  have ws : (w : Int) < s := by
    apply Classical.byContradiction
    intro y
    exact s6 w (by omega) (by omega) kw
  rw [s8]
  intro y
  have := hb.2.2.1 w (by omega) ws
  omega
/-- what lies between a word and one above it hangs below that -/
theorem convex {f : Int → Int} {n : Nat} (hr : ∀ w : Nat, w < n → -1 ≤ f w ∧ f w < n) (hE : ∀ w : Nat, w < n → f w ≠ -1 → ∀ z, ((w : Int) < z ∧ z < f w) ∨ (f w < z ∧ z < w) → anc f (f w) z) : ∀ (k : Nat) (w : Nat) (c : Int), w < n → Pt f k w c → ∀ y, ((w : Int) ≤ y ∧ y ≤ c) ∨ (c ≤ y ∧ y ≤ w) → anc f c y
  | 0, w, c, hw, h, y, hy => by
    have e : (w : Int) = c := h
    rw [show y = c by omega]
    exact anc_rf
  | k + 1, w, c, hw, h, y, hy => by
    have r := hr w hw
    obtain ⟨u, eu⟩ : ∃ u : Nat, f w = u := ⟨(f w).toNat, by have := h.1; omega⟩
    have h2 := h.2
    rw [eu] at h2
    by_cases z : ((u : Int) ≤ y ∧ y ≤ c) ∨ (c ≤ y ∧ y ≤ u)
    · exact convex hr hE k u c (by omega) h2 y z
    · by_cases e : y = w
      · rw [e]; exact ⟨k + 1, h⟩
      · have := hE w hw h.1 y (by omega)
        rw [eu] at this
        exact anc_tr this ⟨k, h2⟩
theorem anc_uniq {f : Int → Int} {c c' w y : Int} (hw : rch f w) (w1 : w ≠ -1) (h1 : f c = w) (h2 : f c' = w) (a1 : anc f c y) (a2 : anc f c' y) : c = c' := by
  obtain ⟨k1, p1⟩ := a1
  obtain ⟨k2, p2⟩ := a2
  have key : ∀ (k j : Nat) (c c' : Int), f c = w → f c' = w → Pt f k y c → Pt f (k + (j + 1)) y c' → False := by
    intro k j c c' e1 e2 q1 q2
    have sub : ∀ (k : Nat) (y c : Int) (j : Nat), Pt f k y c → Pt f (k + j) y c' → Pt f j c c' := by
      intro k
      induction k with
      | zero =>
        intro y c j q1 q2
        have e : y = c := q1
        rw [Nat.zero_add, e] at q2
        exact q2
      | succ k ih =>
        intro y c j q1 q2
        rw [Nat.add_right_comm] at q2
        exact ih (f y) c j q1.2 q2.2
    have q3 := sub k y c (j + 1) q1 q2
    have q4 := q3.2
    rw [e1] at q4
    have q5 := Pt_rot q4 (by rw [e2]; exact w1)
    rw [e2] at q5
    exact rch_ac hw j q5
  rcases Nat.lt_trichotomy k1 k2 with h | h | h
  · exact (key k1 (k2 - k1 - 1) c c' h1 h2 p1 (by rw [show k1 + (k2 - k1 - 1 + 1) = k2 by omega]; exact p2)).elim
  · subst h
    have uq : ∀ (k : Nat) (y : Int), Pt f k y c → Pt f k y c' → c = c' := by
      intro k
      induction k with
      | zero =>
        intro y q1 q2
        have e1 : y = c := q1
        have e2 : y = c' := q2
        rw [← e1, e2]
      | succ k ih => exact fun y q1 q2 => ih (f y) q1.2 q2.2
    exact uq k1 y p1 p2
  · exact (key k2 (k1 - k2 - 1) c' c h2 h1 p2 (by rw [show k2 + (k1 - k2 - 1 + 1) = k1 by omega]; exact p1)).elim
/-- what is read from a word on: each just once, by ascending numbers -/
theorem ra_mem {f : Int → Int} {n : Nat} : ∀ (m : Nat) (w z : Int), z ∈ raF n f m w → (0 ≤ z ∧ z < n) ∧ (0 ≤ w ∧ w < n) ∧ anc f w z
  | 0, w, z, h => by simp [raF] at h
  | m + 1, w, z, h => by
    rw [raF] at h
    split at h
    · next c =>
      rw [List.mem_append, List.mem_cons] at h
      have side : ∀ (l : List Nat), z ∈ l.flatMap (fun x : Nat => if f x = w then raF n f m x else []) → (0 ≤ z ∧ z < n) ∧ (0 ≤ w ∧ w < n) ∧ anc f w z := by
        intro l hl
        obtain ⟨x, hx, h2⟩ := List.mem_flatMap.mp hl
        split at h2
        · next e =>
          obtain ⟨i1, i2, i3⟩ := ra_mem m x z h2
          exact ⟨i1, c, anc_tr i3 (anc_st (by omega) (by rw [e]; exact anc_rf))⟩
        · simp at h2
      rcases h with h | h | h
      · exact side _ h
      · rw [h]; exact ⟨c, c, anc_rf⟩
      · exact side _ h
    · simp at h
theorem Pt_tail {f : Int → Int} : ∀ {k : Nat} {z x : Int}, Pt f (k + 1) z x → ∃ y, Pt f k z y ∧ f y = x ∧ f y ≠ -1
  | 0, z, x, h => ⟨z, rfl, h.2, h.1⟩
  | k + 1, z, x, h => by
    obtain ⟨y, h1, h2, h3⟩ := Pt_tail (k := k) h.2
    exact ⟨y, ⟨h.1, h1⟩, h2, h3⟩
theorem ra_all {f : Int → Int} {n : Nat} (hr : ∀ w : Nat, w < n → -1 ≤ f w ∧ f w < n) (hc : ∀ w : Nat, w < n → rch f w) : ∀ (m : Nat) (k : Nat) (w : Int) (z : Nat), k < m → z < n → (0 ≤ w ∧ w < n) → Pt f k z w → (z : Int) ∈ raF n f m w
  | 0, _, _, _, h, _, _, _ => by omega
  | m + 1, 0, w, z, _, hz, hw, h => by
    have e : (z : Int) = w := h
    rw [raF, if_pos hw, e]
    simp
  | m + 1, k + 1, w, z, hk, hz, hw, h => by
    obtain ⟨y, h1, h2, h3⟩ := Pt_tail h
    have yr : 0 ≤ y ∧ y < n := by
      have rng : ∀ (k : Nat) (z : Nat), z < n → Pt f k z y → 0 ≤ y ∧ y < n := by
        intro k
        induction k with
        | zero =>
          intro z hz q
          have e : (z : Int) = y := q
          omega
        | succ k ih =>
          intro z hz q
          have r := hr z hz
          obtain ⟨u, eu⟩ : ∃ u : Nat, f z = u := ⟨(f z).toNat, by have := q.1; omega⟩
          have q2 := q.2
          rw [eu] at q2
          exact ih u (by omega) q2
      exact rng k z hz h1
    obtain ⟨u, eu⟩ : ∃ u : Nat, y = u := ⟨y.toNat, by omega⟩
    subst eu
    have ne : (u : Int) ≠ w := by
      intro e
      have q : Pt f 1 u u := ⟨h3, by show f u = u; rw [h2, e]⟩
      exact rch_ac (hc u (by omega)) 0 q
    have ih := ra_all hr hc m k u z (by omega) hz yr h1
    rw [raF, if_pos hw, List.mem_append, List.mem_cons]
    by_cases lt : (u : Int) < w
    · exact Or.inl (List.mem_flatMap.mpr ⟨u, by rw [List.mem_range'_1]; omega, by rw [if_pos h2]; exact ih⟩)
    · exact Or.inr (Or.inr (List.mem_flatMap.mpr ⟨u, by rw [List.mem_range'_1]; omega, by rw [if_pos h2]; exact ih⟩))
end P8
