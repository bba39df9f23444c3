section P7
theorem fol_pre {a b : Int} (h : follows a b) (ha : 0 ≤ a ∧ a ≤ 6) : (b = 3 ∨ b = 4 → a = 0 ∨ a = 1 ∨ a = 3) ∧ (b = 5 → a = 0) ∧ (b = 1 → a = 0) ∧ (b = 6 → a = 1) ∧ (b = 0 ∨ b = 2 → a = 1 ∨ a = 2 ∨ a = 4 ∨ a = 5 ∨ a = 6) ∧ (a = 2 → b = 0 ∨ b = 2) := by
  unfold follows at h
  by_cases c0 : a = 0
  · rw [if_pos c0] at h; omega
  · rw [if_neg c0] at h
    by_cases c1 : a = 1
    · rw [if_pos c1] at h; omega
    · rw [if_neg c1] at h
      by_cases c3 : a = 3
      · rw [if_pos c3] at h; omega
      · rw [if_neg c3] at h; omega
/-- the facts of a reading, bundled -/
theorem rd_facts {ka f : Int → Int} {n : Nat} (hn : n ≤ 12) (hk : ∀ w, 0 ≤ ka w ∧ ka w ≤ 6) (hk1 : ka (-1) = 6) (P : RdP ka n f) : ∀ w : Nat, w < n → ka w ≠ 2 →
    (∀ x, Ch f x w → ∀ z, x < z → z ≤ w → anc f x z) ∧ (suA ka (w + 1) ≠ -1 → Ch f (suA ka (w + 1)) w) ∧ (suA ka (w + 1) = -1 → rch f w) ∧ (ka w = 1 → (∀ z, opA ka w < z → z < w → anc f w z)) := by
  obtain ⟨n0, hF, hsn, hend, hfree⟩ := P
  have hf : ∀ v : Nat, v < n → follows (ka ((v : Int) - 1)) (ka v) := fun v hv => (hF v (by omega) hv).1
  intro w
  induction w using Nat.strongRecOn with
  | ind w ih =>
    intro hw k2
    have hb := bA_r ka w
    have ho := opA_r ka w
    have hkw := hk w
    obtain ⟨f0, fN, fV, fO⟩ := hF w (by omega) hw
    have hp := fol_pre f0 (hk _)
    have w12 : (w : Int) < 12 := by omega
    have cl : ∀ {x y : Int}, Ch f x y → 0 ≤ y → y < 12 → 0 ≤ x ∧ x ≤ y := fun h h1 h2 => Ch_le 12 _ h1 h2 h2 h
    by_cases k0 : ka w = 0
    · by_cases k6 : ka (bA ka w) = 6
      · -- a subject
        have es : suA ka (w + 1) = w := by rw [suA, if_pos ⟨k0, k6⟩]
        obtain ⟨v, v1, v2, v3, v4⟩ := su_verb hk1 hf hsn (n - (w + 1)) (w + 1) (by omega) (by rw [es]; omega)
        have fv := (hF v (by omega) v2).2.2.1 v3
        rw [v4, es] at fv
        refine ⟨fun x c z z1 z2 => ?_, fun _ => by rw [es]; exact Ch_rf (by omega) w12, fun e => by rw [es] at e; omega, fun e => by omega⟩
        rcases (Ch_iff (by omega) w12).mp c with e | ⟨-, e, -⟩
        · omega
        · omega
      · have fw := (fN k0).2 k6
        have b0 : 0 ≤ bA ka w := by
          apply Classical.byContradiction
          intro y
          have : bA ka w = -1 := by omega
          rw [this] at k6
          exact k6 hk1
        obtain ⟨b, eb⟩ : ∃ b : Nat, bA ka w = b := ⟨(bA ka w).toNat, by omega⟩
        obtain ⟨r1, r2, r3, r4⟩ := ih b (by omega) (by omega) (by rw [← eb]; exact hb.2.2.2 b0)
        have sa := su_adj w b0
        rw [eb, Int.toNat_natCast] at sa
        have es : suA ka (w + 1) = suA ka (b + 1) := by rw [← sa.1, suA, if_neg (by omega), if_neg (by omega)]
        have aw : ∀ z, (b : Int) < z → z ≤ w → anc f b z := by
          intro z z1 z2
          by_cases y : z = w
          · rw [y]; exact anc_st (by omega) (by rw [fw, eb]; exact anc_rf)
          · have := (fN k0).1 z (by omega) (by omega)
            refine anc_st (by omega) ?_
            rw [this]
            exact anc_st (by omega) (by rw [fw, eb]; exact anc_rf)
        refine ⟨fun x c z z1 z2 => ?_, fun e => ?_, fun e => ?_, fun e => by omega⟩
        · rcases (Ch_iff (by omega) w12).mp c with e | ⟨e1, e2, e3⟩
          · omega
          · rw [fw, eb] at e3
            have xl := cl e3 (by omega) (by omega)
            by_cases y : z ≤ b
            · exact r1 x e3 z z1 y
            · exact anc_tr (aw z (by omega) z2) (Ch_anc 12 _ (by omega) (by omega) (by omega) e3)
        · rw [es] at e ⊢
          exact (Ch_iff (by omega) w12).mpr (Or.inr ⟨by omega, by omega, by rw [fw, eb]; exact r2 e⟩)
        · rw [es] at e
          exact rch_iff.mpr (Or.inr (by rw [fw, eb]; exact r3 e))
    · by_cases k1 : ka w = 1
      · -- a verb
        obtain ⟨sm, fs, fw⟩ := fV k1
        obtain ⟨s1, s2, s3, s4, s5, s6, s7, s8⟩ := su_char (f := f) hk1 w (fun v hv => hf v (by omega)) sm
        have es : suA ka (w + 1) = -1 := by rw [suA, if_neg (by omega), if_pos k1]
        obtain ⟨s, ee⟩ : ∃ s : Nat, suA ka w = s := ⟨(suA ka w).toNat, by omega⟩
        rw [ee, Int.toNat_natCast] at s7 s8
        rw [ee] at fs s1 s2 s3 s5 s6
        have hbs := bA_r ka s
        have fs0 := (hF s (by omega) (by omega)).2.1 s3
        have pw : ka ((w : Int) - 1) = 0 := hp.2.2.1 k1
        obtain ⟨u, eu⟩ : ∃ u : Nat, (w : Int) - 1 = u := ⟨w - 1, by omega⟩
        have ew : w = u + 1 := by omega
        rw [eu] at pw
        have ru := ih u (by omega) (by omega) (by omega)
        have csu : Ch f s u := by
          have := ru.2.1 (by rw [← ew, ee]; omega)
          rw [← ew, ee] at this
          exact this
        have win : ∀ z, opA ka w < z → z < w → anc f w z := by
          intro z z1 z2
          have sv : anc f w s := anc_st (by omega) (by rw [fs]; exact anc_rf)
          by_cases y : (s : Int) < z
          · exact anc_tr (ru.1 s csu z y (by omega)) sv
          · by_cases y2 : z = s
            · rw [y2]; exact sv
            · have := fs0.1 z (by omega) (by omega)
              exact anc_st (by omega) (by rw [this]; exact sv)
        refine ⟨fun x c z z1 z2 => ?_, fun e => absurd es e, fun _ => ?_, fun _ => win⟩
        · rcases (Ch_iff (by omega) w12).mp c with e | ⟨e1, e2, e3⟩
          · omega
          · rw [fw] at e1 e2 e3
            obtain ⟨o, eo⟩ : ∃ o : Nat, opA ka w = o := ⟨(opA ka w).toNat, by omega⟩
            rw [eo] at e1 e2 e3
            have ko : ka o = 6 := by rw [← eo]; exact ho.2.2.1 (by omega)
            have ro := ih o (by omega) (by omega) (by omega)
            have wo : anc f o w := anc_st (by omega) (by rw [fw, eo]; exact anc_rf)
            have xo : anc f x o := Ch_anc 12 _ (by omega) (by omega) (by omega) e3
            by_cases y : z ≤ o
            · exact ro.1 x e3 z z1 y
            · by_cases y2 : z = w
              · rw [y2]; exact anc_tr wo xo
              · exact anc_tr (win z (by omega) (by omega)) (anc_tr wo xo)
        · by_cases om : opA ka w = -1
          · exact rch_iff.mpr (Or.inl (by rw [fw, om]))
          · obtain ⟨o, eo⟩ : ∃ o : Nat, opA ka w = o := ⟨(opA ka w).toNat, by omega⟩
            have ko : ka o = 6 := by rw [← eo]; exact ho.2.2.1 (by omega)
            have ro := ih o (by omega) (by omega) (by omega)
            have po := (fol_pre (hf o (by omega)) (hk _)).2.2.2.1 ko
            have so : suA ka (o + 1) = -1 := by
              rw [suA, if_neg (by omega), if_neg (by omega)]
              cases o with
              | zero => rfl
              | succ o =>
                rw [show ((o + 1 : Nat) : Int) - 1 = o by omega] at po
                rw [suA, if_neg (by omega), if_pos po]
            exact rch_iff.mpr (Or.inr (by rw [fw, eo]; exact ro.2.2.1 so))
      · by_cases k6 : ka w = 6
        · -- an opener
          have fw := fO k6
          have pw := hp.2.2.2.1 k6
          have w0 : w ≠ 0 := by
            rintro rfl
            rw [show ((0 : Nat) : Int) - 1 = -1 from rfl, hk1] at pw
            omega
          obtain ⟨u, eu⟩ : ∃ u : Nat, (w : Int) - 1 = u := ⟨w - 1, by omega⟩
          have ew : w = u + 1 := by omega
          rw [eu] at pw fw
          have ru := ih u (by omega) (by omega) (by omega)
          have es0 : suA ka w = -1 := by rw [ew, suA, if_neg (by omega), if_pos pw]
          have es : suA ka (w + 1) = -1 := by rw [suA, if_neg (by omega), if_neg (by omega), es0]
          refine ⟨fun x c z z1 z2 => ?_, fun e => absurd es e, fun _ => ?_, fun e => by omega⟩
          · rcases (Ch_iff (by omega) w12).mp c with e | ⟨e1, e2, e3⟩
            · omega
            · rw [fw] at e3
              by_cases y : z ≤ u
              · exact ru.1 x e3 z z1 y
              · rw [show z = w by omega]
                exact anc_st (by omega) (by rw [fw]; exact Ch_anc 12 _ (by omega) (by omega) (by omega) e3)
          · exact rch_iff.mpr (Or.inr (by rw [fw]; exact ru.2.2.1 (by rw [← ew]; exact es0)))
        · -- a word that hangs
          have fr : frK (ka w) := by unfold frK; omega
          obtain ⟨h1, h2, h3, h4⟩ := hfree w (by omega) (by omega) fr
          have pw : ka ((w : Int) - 1) = 0 ∨ ka ((w : Int) - 1) = 1 ∨ ka ((w : Int) - 1) = 3 := by
            by_cases y : ka w = 5
            · exact Or.inl (hp.2.1 y)
            · exact hp.1 (by omega)
          have w0 : w ≠ 0 := by
            rintro rfl
            omega
          obtain ⟨u, eu⟩ : ∃ u : Nat, (w : Int) - 1 = u := ⟨w - 1, by omega⟩
          have ew : w = u + 1 := by omega
          rw [eu] at pw h3
          have h3 : Ch f (f w) u := h3
          have ru := ih u (by omega) (by omega) (by omega)
          have es : suA ka (w + 1) = suA ka (u + 1) := by rw [suA, if_neg (by omega), if_neg k1, ew]
          have cw : ∀ {x}, Ch f x (f w) → Ch f x w := fun c => (Ch_iff (by omega) w12).mpr (Or.inr ⟨h1, h2, c⟩)
          refine ⟨fun x c z z1 z2 => ?_, fun e => ?_, fun e => ?_, fun e => absurd e k1⟩
          · rcases (Ch_iff (by omega) w12).mp c with e | ⟨e1, e2, e3⟩
            · omega
            · by_cases y : z ≤ u
              · exact ru.1 x (Ch_tr 12 _ (by omega) (by omega) (by omega) h3 e3) z z1 y
              · rw [show z = w by omega]
                exact anc_st (by omega) (Ch_anc 12 _ e1 (by omega) (by omega) e3)
          · rw [es] at e ⊢
            have q := ru.2.1 e
            obtain ⟨v, v1, v2, v3, v4⟩ := su_verb hk1 hf hsn (n - (u + 1)) (u + 1) (by omega) e
            have fv := (hF v (by omega) v2).2.2.1 v3
            rw [v4] at fv
            have sl := cl q (by omega) (by omega)
            exact cw (Ch_last (by omega) 12 u (by omega) (by omega) (by omega) h3 q)
          · rw [es] at e
            have ra := ru.2.2.1 e
            obtain ⟨k, hk9⟩ := Ch_anc 12 u (by omega) (by omega) (by omega) h3
            exact rch_iff.mpr (Or.inr (rch_dn hk9 ra))
end P7
