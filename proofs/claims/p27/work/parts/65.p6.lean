section P6
/-! each reading of the class is a tree without crossings -/
/-- from z by heads to x in so many steps -/
def Pt (f : Int → Int) : Nat → Int → Int → Prop
  | 0, z, x => z = x
  | k + 1, z, x => f z ≠ -1 ∧ Pt f k (f z) x
def anc (f : Int → Int) (x z : Int) : Prop := ∃ k, Pt f k z x
theorem anc_rf {f : Int → Int} {x : Int} : anc f x x := ⟨0, rfl⟩
theorem anc_st {f : Int → Int} {x z : Int} (h1 : f z ≠ -1) (h : anc f x (f z)) : anc f x z := by
  obtain ⟨k, hk⟩ := h
  exact ⟨k + 1, h1, hk⟩
theorem Pt_add {f : Int → Int} : ∀ {a b : Nat} {x y z : Int}, Pt f a z y → Pt f b y x → Pt f (a + b) z x
  | 0, b, x, y, z, h1, h2 => by
    have e : z = y := h1
    rw [Nat.zero_add, e]; exact h2
  | a + 1, b, x, y, z, h1, h2 => by
    rw [Nat.add_right_comm]
    exact ⟨h1.1, Pt_add h1.2 h2⟩
theorem anc_tr {f : Int → Int} {x y z : Int} (h1 : anc f y z) (h2 : anc f x y) : anc f x z := by
  obtain ⟨a, ha⟩ := h1
  obtain ⟨b, hb⟩ := h2
  exact ⟨a + b, Pt_add ha hb⟩
/-- x lies on the chain of heads that go back from w -/
def Ch (f : Int → Int) (x w : Int) : Prop := openF f x 12 w = true
theorem openF_st {f : Int → Int} {x : Int} : ∀ (m m' : Nat) (w : Int), w < m → w < m' → openF f x m w = openF f x m' w
  | 0, 0, _, _, _ => rfl
  | 0, m' + 1, w, h, _ => by rw [openF, openF, if_pos (by omega)]
  | m + 1, 0, w, _, h => by rw [openF, openF, if_pos (by omega)]
  | m + 1, m' + 1, w, h1, h2 => by
    rw [openF, openF]
    by_cases z : w < 0
    · rw [if_pos z, if_pos z]
    · rw [if_neg z, if_neg z]
      by_cases y : w = x
      · rw [if_pos y, if_pos y]
      · rw [if_neg y, if_neg y]
        by_cases q : f w < w
        · rw [if_pos q]; exact openF_st m m' _ (by omega) (by omega)
        · rw [if_neg q]; exact openF_st m m' _ (by omega) (by omega)
theorem openF_ng {f : Int → Int} {x w : Int} (h : w < 0) : ∀ m, openF f x m w = false
  | 0 => rfl
  | m + 1 => by rw [openF, if_pos h]
theorem Ch_iff {f : Int → Int} {x w : Int} (h0 : 0 ≤ w) (h : w < 12) : Ch f x w ↔ w = x ∨ (0 ≤ f w ∧ f w < w ∧ Ch f x (f w)) := by
  unfold Ch
  have e : openF f x 12 w = if w < 0 then false else if w = x then true else openF f x 11 (if f w < w then f w else -1) := by rw [openF]
  rw [e, if_neg (by omega)]
  by_cases y : w = x
  · rw [if_pos y]; exact ⟨fun _ => Or.inl y, fun _ => rfl⟩
  · rw [if_neg y]
    by_cases q : f w < w
    · rw [if_pos q, openF_st 11 12 (f w) (by omega) (by omega)]
      constructor
      · intro c
        by_cases z : 0 ≤ f w
        · exact Or.inr ⟨z, q, c⟩
        · rw [openF_ng (by omega)] at c; cases c
      · rintro (c | c)
        · exact absurd c y
        · exact c.2.2
    · rw [if_neg q, openF_ng (by omega)]
      constructor
      · intro c; cases c
      · rintro (c | c)
        · exact absurd c y
        · omega
theorem Ch_rf {f : Int → Int} {w : Int} (h0 : 0 ≤ w) (h : w < 12) : Ch f w w := (Ch_iff h0 h).mpr (Or.inl rfl)
theorem Ch_le {f : Int → Int} {x : Int} : ∀ (m : Nat) (w : Int), 0 ≤ w → w < 12 → w < m → Ch f x w → 0 ≤ x ∧ x ≤ w
  | 0, w, h0, _, h, _ => by omega
  | m + 1, w, h0, h12, h, c => by
    rcases (Ch_iff h0 h12).mp c with e | ⟨h1, h2, h3⟩
    · omega
    · have := Ch_le m (f w) h1 (by omega) (by omega) h3
      omega
theorem Ch_anc {f : Int → Int} {x : Int} : ∀ (m : Nat) (w : Int), 0 ≤ w → w < 12 → w < m → Ch f x w → anc f x w
  | 0, w, h0, _, h, _ => by omega
  | m + 1, w, h0, h12, h, c => by
    rcases (Ch_iff h0 h12).mp c with e | ⟨h1, h2, h3⟩
    · rw [e]; exact anc_rf
    · exact anc_st (by omega) (Ch_anc m (f w) h1 (by omega) (by omega) h3)
theorem Ch_tr {f : Int → Int} {x y : Int} : ∀ (m : Nat) (w : Int), 0 ≤ w → w < 12 → w < m → Ch f y w → Ch f x y → Ch f x w
  | 0, w, h0, _, h, _, _ => by omega
  | m + 1, w, h0, h12, h, c, c2 => by
    rcases (Ch_iff h0 h12).mp c with e | ⟨h1, h2, h3⟩
    · rw [e]; exact c2
    · exact (Ch_iff h0 h12).mpr (Or.inr ⟨h1, h2, Ch_tr m (f w) h1 (by omega) (by omega) h3 c2⟩)
/-- the last one of a chain lies on the chain of each one of it -/
theorem Ch_last {f : Int → Int} {x s : Int} (hs : s ≤ f s) : ∀ (m : Nat) (w : Int), 0 ≤ w → w < 12 → w < m → Ch f x w → Ch f s w → Ch f s x
  | 0, w, h0, _, h, _, _ => by omega
  | m + 1, w, h0, h12, h, cx, cs => by
    rcases (Ch_iff h0 h12).mp cx with e | ⟨h1, h2, h3⟩
    · rw [← e]; exact cs
    · rcases (Ch_iff h0 h12).mp cs with e | ⟨-, -, g3⟩
      · subst e; omega
      · exact Ch_last hs m (f w) h1 (by omega) (by omega) h3 g3
def rch (f : Int → Int) (z : Int) : Prop := ∃ m, reachF f m z
theorem rch_iff {f : Int → Int} {z : Int} : rch f z ↔ f z = -1 ∨ rch f (f z) := by
  constructor
  · rintro ⟨m, h⟩
    cases m with
    | zero => exact Or.inl h
    | succ m =>
      rcases h with h | h
      · exact Or.inl h
      · exact Or.inr ⟨m, h⟩
  · rintro (h | ⟨m, h⟩)
    · exact ⟨0, h⟩
    · exact ⟨m + 1, Or.inr h⟩
theorem rch_up {f : Int → Int} : ∀ {k : Nat} {x z : Int}, Pt f k z x → rch f x → rch f z
  | 0, x, z, h, r => by
    have e : z = x := h
    rw [e]; exact r
  | k + 1, x, z, h, r => rch_iff.mpr (Or.inr (rch_up h.2 r))
theorem rch_dn {f : Int → Int} : ∀ {k : Nat} {x z : Int}, Pt f k z x → rch f z → rch f x
  | 0, x, z, h, r => by
    have e : z = x := h
    rw [← e]; exact r
  | k + 1, x, z, h, r => by
    rcases rch_iff.mp r with e | e
    · exact absurd e h.1
    · exact rch_dn h.2 e
theorem Pt_rot {f : Int → Int} : ∀ {k : Nat} {z x : Int}, Pt f k z x → f x ≠ -1 → Pt f (k + 1) z (f x)
  | 0, z, x, h, hx => by
    have e : z = x := h
    subst e
    exact ⟨hx, rfl⟩
  | k + 1, z, x, h, hx => ⟨h.1, Pt_rot h.2 hx⟩
theorem acyc {f : Int → Int} : ∀ (m : Nat) (w : Int), reachF f m w → ∀ k, ¬ Pt f (k + 1) w w
  | 0, w, h, k, c => c.1 h
  | m + 1, w, h, k, c => by
    rcases h with h | h
    · exact c.1 h
    · exact acyc m (f w) h k (Pt_rot c.2 c.1)
theorem rch_ac {f : Int → Int} {w : Int} (h : rch f w) (k : Nat) : ¬ Pt f (k + 1) w w := by
  obtain ⟨m, hm⟩ := h
  exact acyc m w hm k
/-- what stands of the words where a subject waits for its verb -/
theorem su_char {ka f : Int → Int} (hk1 : ka (-1) = 6) : ∀ (w : Nat), (∀ v : Nat, v < w → follows (ka ((v : Int) - 1)) (ka v)) → suA ka w ≠ -1 → 0 ≤ suA ka w ∧ suA ka w < w ∧ ka (suA ka w) = 0 ∧ ka (bA ka w) ≠ 6 ∧ suA ka w ≤ bA ka w ∧ (∀ z, suA ka w ≤ z → z < w → ka z ≠ 1) ∧ ka (bA ka (suA ka w).toNat) = 6 ∧ opA ka w = bA ka (suA ka w).toNat
  | 0, _, h => absurd rfl h
  | w + 1, hf, h => by
    have ih := su_char (f := f) hk1 w (fun v hv => hf v (by omega))
    have hb := bA_r ka w
    have ho := opA_r ka w
    rw [suA] at h ⊢
    by_cases c : ka w = 0 ∧ ka (bA ka w) = 6
    · rw [if_pos c, bA, if_neg (by omega), opA, if_neg (by omega), Int.toNat_natCast]
      refine ⟨by omega, by omega, c.1, by omega, by omega, fun z z1 z2 => ?_, c.2, ?_⟩
      · rw [show z = w by omega]; omega
      · by_cases y : 0 ≤ bA ka w
        · apply Classical.byContradiction
          intro ne
          by_cases lt : opA ka w < bA ka w
          · exact ho.2.2.2 _ lt y hb.2.1 c.2
          · have := hb.2.2.1 (opA ka w) (by omega) ho.2.1
            have := ho.2.2.1 (by omega)
            omega
        · apply Classical.byContradiction
          intro ne
          have := hb.2.2.1 (opA ka w) (by omega) ho.2.1
          have := ho.2.2.1 (by omega)
          omega
    · rw [if_neg c] at h ⊢
      by_cases k1 : ka w = 1
      · rw [if_pos k1] at h; exact absurd rfl h
      · rw [if_neg k1] at h ⊢
        obtain ⟨i1, i2, i3, i4, i5, i6, i7, i8⟩ := ih h
        have k6 : ka w ≠ 6 := by
          intro k6
          have q := hf w (by omega)
          unfold follows at q
          rw [k6] at q
          have p1 : ka ((w : Int) - 1) = 1 := by
            repeat' split at q
            all_goals omega
          by_cases w0 : w = 0
          · subst w0
            rw [suA] at h; exact h rfl
          · exact i6 ((w : Int) - 1) (by
              by_cases y : suA ka w = w
              · omega
              · omega) (by omega) p1
        rw [opA, if_neg k6]
        refine ⟨i1, by omega, i3, ?_, ?_, fun z z1 z2 => ?_, i7, i8⟩
        · rw [bA]
          split
          · exact i4
          · exact k6
        · rw [bA]
          split
          · exact i5
          · omega
        · by_cases y : z = w
          · rw [y]; exact k1
          · exact i6 z z1 (by omega)
theorem su_adj {ka : Int → Int} : ∀ (w : Nat), 0 ≤ bA ka w → suA ka w = suA ka ((bA ka w).toNat + 1) ∧ opA ka w = opA ka ((bA ka w).toNat + 1)
  | 0, h => by rw [bA] at h; omega
  | w + 1, h => by
    have hb := bA_r ka w
    rw [bA] at h ⊢
    by_cases k2 : ka w = 2
    · rw [if_pos k2] at h ⊢
      rw [suA, if_neg (by omega), if_neg (by omega), opA, if_neg (by omega)]
      exact su_adj w h
    · rw [if_neg k2, Int.toNat_natCast]
      exact ⟨rfl, rfl⟩
/-- a subject that waits gets its verb -/
theorem su_verb {ka : Int → Int} {n : Nat} (hk1 : ka (-1) = 6) (hf : ∀ v : Nat, v < n → follows (ka ((v : Int) - 1)) (ka v)) (he : suA ka n = -1) : ∀ (m w : Nat), w + m = n → suA ka w ≠ -1 → ∃ v : Nat, w ≤ v ∧ v < n ∧ ka v = 1 ∧ suA ka v = suA ka w
  | 0, w, hw, h => by rw [show w = n by omega] at h; exact absurd he h
  | m + 1, w, hw, h => by
    by_cases k1 : ka w = 1
    · exact ⟨w, by omega, by omega, k1, rfl⟩
    · have q := su_char (f := fun _ => 0) hk1 w (fun v hv => hf v (by omega)) h
      have e : suA ka (w + 1) = suA ka w := by rw [suA, if_neg (fun z => q.2.2.2.1 z.2), if_neg k1]
      obtain ⟨v, v1, v2, v3, v4⟩ := su_verb hk1 hf he m (w + 1) (by omega) (by rw [e]; exact h)
      exact ⟨v, by omega, v2, v3, by rw [v4, e]⟩
end P6
