section P1
/-! the reference's run over all choices, told by its stack -/
/-- from word w on: H holds of the heads so far; out: what is laid, the last found first -/
def TR (kd : Int → Int) (n : Int) : Nat → Int → List E3 → ((Int → Int) → Prop) → List (Int → Int) → Prop
  | 0, _, L, H, out => ((0 < n ∧ ∀ e ∈ L, compl e.1) → ∃ f, out = [f] ∧ ∀ hd, H hd → ∀ w, 0 ≤ w → w < n → hd w = f w) ∧ (¬ (0 < n ∧ ∀ e ∈ L, compl e.1) → out = [])
  | m + 1, w, L, H, out => (out = [] ∧ ∀ hd, H hd → stepW (kd w) w 0 L hd = none) ∨
      ∃ outs : List (List (Int → Int)), outs ≠ [] ∧ (outs.length : Int) = canW (kd w) L ∧ outs.length ≤ 16 ∧ out = outs.reverse.flatten ∧
        ∀ (i : Nat) (o : List (Int → Int)), outs[i]? = some o → ∃ (L2 : List E3) (H2 : (Int → Int) → Prop), (∀ hd, H hd → ∃ hd2, stepW (kd w) w (i : Int) L hd = some (L2, hd2) ∧ H2 hd2) ∧ TR kd n m (w + 1) L2 H2 o
theorem nxF_congr {cw cw' cn cn' : Int → Int} : ∀ x : Nat, (∀ j : Nat, j < x → cn j = cn' j ∧ cw j = cw' j) → (∀ j : Int, cw j = cw' j ∨ ((x : Int) ≤ j ∧ j < 12)) → nxF cw cn x = nxF cw' cn' x
  | 0, _, _ => rfl
  | x + 1, h, h2 => by
    have hx := h x (by omega)
    rw [nxF, nxF, hx.1, hx.2, nxF_congr x (fun j hj => h j (by omega)) (fun j => by
      rcases h2 j with e | e
      · exact Or.inl e
      · exact Or.inr ⟨by omega, e.2⟩)]
    split
    · rfl
    · congr 1
      funext j
      by_cases e1 : j = x
      · rw [if_pos e1, if_pos e1]
      · rw [if_neg e1, if_neg e1]
        by_cases e2 : (x : Int) < j ∧ j < 12
        · rw [if_pos e2, if_pos e2]
        · rw [if_neg e2, if_neg e2]
          rcases h2 j with e | e
          · exact e
          · omega
def nxok (kd : Int → Int) (n : Int) (nx : Option (Int → Int)) (rest : List (Int → Int)) : Prop := match nx with
  | none => rest = []
  | some cw2 => ∃ m2, erun kd n m2 cw2 rest
theorem erun_mk {kd cw : Int → Int} {n x : Int} {row nx : Option (Int → Int)} {rest : List (Int → Int)} (hcw : ∀ w, 0 ≤ w → w < 12 → 0 ≤ cw w ∧ cw w ≤ 16)
    (hc : ∀ hd cn, (rdF kd cw n.toNat 0 [(0, 0, -1)] hd cn).1 = x ∧ nxF cw (rdF kd cw n.toNat 0 [(0, 0, -1)] hd cn).2.2 x.toNat = nx ∧
        (match (rdF kd cw n.toNat 0 [(0, 0, -1)] hd cn).2.1 with
          | some (L, hd2) => ((0 < n ∧ ∀ e ∈ L, compl e.1) → ∃ f, row = some f ∧ ∀ w, 0 ≤ w → w < n → hd2 w = f w) ∧ (¬ (0 < n ∧ ∀ e ∈ L, compl e.1) → row = none)
          | none => row = none)) (hn : nxok kd n nx rest) : ∃ m2, erun kd n m2 cw (rest ++ row.toList) := by
  cases nx with
  | none => exact ⟨1, x, row, none, rest, hcw, hc, hn, rfl⟩
  | some c =>
    obtain ⟨m2, h⟩ := hn
    exact ⟨m2 + 1, x, row, some c, rest, hcw, hc, h, rfl⟩
theorem rdF_none {kd cw : Int → Int} {m : Nat} {w : Int} {L : List E3} {hd cn : Int → Int} (h : stepW (kd w) w (cw w) L hd = none) : rdF kd cw (m + 1) w L hd cn = (w, none, upH cn w (canW (kd w) L)) := by
  rw [rdF, h]
theorem rdF_some {kd cw : Int → Int} {m : Nat} {w : Int} {L L2 : List E3} {hd hd2 cn : Int → Int} (h : stepW (kd w) w (cw w) L hd = some (L2, hd2)) : rdF kd cw (m + 1) w L hd cn = rdF kd cw m (w + 1) L2 hd2 (upH cn w (canW (kd w) L)) := by
  rw [rdF, h]
theorem TR_erun {kd : Int → Int} {n : Int} (hn : 0 ≤ n ∧ n ≤ 12) : ∀ (m : Nat) (w : Int) (L : List E3) (H : (Int → Int) → Prop) (out : List (Int → Int)), 0 ≤ w → w + m = n → TR kd n m w L H out → ∀ (cw : Int → Int) (nx : Option (Int → Int)) (rest : List (Int → Int)), (∀ j, 0 ≤ j → j < 12 → 0 ≤ cw j ∧ cw j ≤ 16) → (∀ j, w ≤ j → j < 12 → cw j = 0) →
    (∀ cw2 : Int → Int, (∀ j, 0 ≤ j → j < w → cw2 j = cw j) → ∀ hd cn, ∃ hd2 cn2, H hd2 ∧ rdF kd cw2 n.toNat 0 [(0, 0, -1)] hd cn = rdF kd cw2 m w L hd2 cn2 ∧ nxF cw cn2 w.toNat = nx) → nxok kd n nx rest → ∃ m2, erun kd n m2 cw (rest ++ out)
  | 0, w, L, H, out, h0, hw, hT, cw, nx, rest, hcw, hz, hr, hnx => by
    obtain ⟨t1, t2⟩ := hT
    have ew : w = n := by omega
    by_cases c : 0 < n ∧ ∀ e ∈ L, compl e.1
    · obtain ⟨f, rfl, hf⟩ := t1 c
      refine erun_mk (x := n) (row := some f) hcw (fun hd cn => ?_) hnx
      obtain ⟨hd2, cn2, hH, e, hx⟩ := hr cw (fun _ _ _ => rfl) hd cn
      rw [e, rdF]
      refine ⟨ew, by rw [← ew]; exact hx, fun _ => ⟨f, rfl, hf hd2 hH⟩, fun z => absurd c z⟩
    · have := t2 c
      subst this
      refine erun_mk (x := n) (row := none) hcw (fun hd cn => ?_) hnx
      obtain ⟨hd2, cn2, hH, e, hx⟩ := hr cw (fun _ _ _ => rfl) hd cn
      rw [e, rdF]
      refine ⟨ew, by rw [← ew]; exact hx, fun z => absurd z c, fun _ => rfl⟩
  | m + 1, w, L, H, out, h0, hw, hT, cw, nx, rest, hcw, hz, hr, hnx => by
    have hw0 : cw w = 0 := hz w (by omega) (by omega)
    rcases hT with ⟨rfl, hs⟩ | ⟨outs, hne, hlen, h16, rfl, hall⟩
    · refine erun_mk (x := w) (row := none) hcw (fun hd cn => ?_) hnx
      obtain ⟨hd2, cn2, hH, e, hx⟩ := hr cw (fun _ _ _ => rfl) hd cn
      rw [e, rdF_none (by rw [hw0]; exact hs hd2 hH)]
      refine ⟨rfl, ?_, rfl⟩
      rw [← hx]
      exact nxF_congr _ (fun j hj => ⟨by show upH cn2 w _ _ = _; unfold upH; rw [if_neg (by omega)], rfl⟩) (fun j => Or.inl rfl)
    · have claim : ∀ (k i : Nat), i + k + 1 = outs.length → ∃ m2, erun kd n m2 (upH cw w i) (rest ++ (outs.drop i).reverse.flatten) := by
        intro k
        induction k with
        | zero =>
          intro i hi
          have hil : i < outs.length := by omega
          obtain ⟨L2, H2, hst, hTR⟩ := hall i outs[i] (List.getElem?_eq_getElem hil)
          have ed : outs.drop i = [outs[i]] := by
            rw [List.drop_eq_getElem_cons hil, List.drop_of_length_le (by omega)]
          rw [ed]
          simp only [List.reverse_cons, List.reverse_nil, List.nil_append, List.flatten_cons, List.flatten_nil, List.append_nil]
          refine TR_erun hn m (w + 1) L2 H2 outs[i] (by omega) (by omega) hTR (upH cw w i) nx rest (fun j j0 j1 => ?_) (fun j j0 j1 => ?_) (fun cw2 hc2 hd cn => ?_) hnx
          · unfold upH; split
            · omega
            · exact hcw j j0 j1
          · unfold upH; rw [if_neg (by omega)]; exact hz j (by omega) j1
          · obtain ⟨hd2, cn2, hH, e, hx⟩ := hr cw2 (fun j j0 j1 => by rw [hc2 j j0 (by omega)]; unfold upH; rw [if_neg (by omega)]) hd cn
            have ecw : cw2 w = i := by rw [hc2 w h0 (by omega)]; unfold upH; rw [if_pos rfl]
            obtain ⟨hd3, es, hH3⟩ := hst hd2 hH
            refine ⟨hd3, _, hH3, by rw [e]; exact rdF_some (by rw [ecw]; exact es), ?_⟩
            rw [show (w + 1).toNat = w.toNat + 1 by omega, nxF, show ((w.toNat : Nat) : Int) = w by omega]
            rw [if_pos (by unfold upH; rw [if_pos rfl, if_pos rfl]; omega), ← hx]
            exact nxF_congr _ (fun j hj => ⟨by unfold upH; rw [if_neg (by omega)], by unfold upH; rw [if_neg (by omega)]⟩) (fun j => by
              unfold upH
              by_cases ej : j = w
              · exact Or.inr (by omega)
              · exact Or.inl (if_neg ej))
        | succ k ih =>
          intro i hi
          have hil : i < outs.length := by omega
          obtain ⟨L2, H2, hst, hTR⟩ := hall i outs[i] (List.getElem?_eq_getElem hil)
          have ed : outs.drop i = outs[i] :: outs.drop (i + 1) := List.drop_eq_getElem_cons hil
          rw [ed, List.reverse_cons, List.flatten_append]
          simp only [List.flatten_cons, List.flatten_nil, List.append_nil]
          rw [← List.append_assoc]
          refine TR_erun hn m (w + 1) L2 H2 outs[i] (by omega) (by omega) hTR (upH cw w i) (some (upH cw w ((i + 1 : Nat) : Int))) _ (fun j j0 j1 => ?_) (fun j j0 j1 => ?_) (fun cw2 hc2 hd cn => ?_) (ih (i + 1) (by omega))
          · unfold upH; split
            · omega
            · exact hcw j j0 j1
          · unfold upH; rw [if_neg (by omega)]; exact hz j (by omega) j1
          · obtain ⟨hd2, cn2, hH, e, hx⟩ := hr cw2 (fun j j0 j1 => by rw [hc2 j j0 (by omega)]; unfold upH; rw [if_neg (by omega)]) hd cn
            have ecw : cw2 w = i := by rw [hc2 w h0 (by omega)]; unfold upH; rw [if_pos rfl]
            obtain ⟨hd3, es, hH3⟩ := hst hd2 hH
            refine ⟨hd3, _, hH3, by rw [e]; exact rdF_some (by rw [ecw]; exact es), ?_⟩
            rw [show (w + 1).toNat = w.toNat + 1 by omega, nxF, show ((w.toNat : Nat) : Int) = w by omega]
            rw [if_neg (by unfold upH; rw [if_pos rfl, if_pos rfl]; omega)]
            congr 1
            funext j
            unfold upH
            by_cases e1 : j = w
            · rw [if_pos e1, if_pos e1, if_pos rfl]; omega
            · rw [if_neg e1, if_neg e1]
              by_cases e2 : w < j ∧ j < 12
              · rw [if_pos e2, if_neg e1, hz j (by omega) e2.2]
              · rw [if_neg e2, if_neg e1]
      have hl : 0 < outs.length := List.length_pos_iff.mpr hne
      have := claim (outs.length - 1) 0 (by omega)
      have e0 : upH cw w ((0 : Nat) : Int) = cw := by
        funext j
        unfold upH
        split
        · next e => rw [e, hw0]; rfl
        · rfl
      rw [e0, List.drop_zero] at this
      exact this
theorem TR_run {kd : Int → Int} {n : Int} (hn : 0 ≤ n ∧ n ≤ 12) {out : List (Int → Int)} (h : TR kd n n.toNat 0 [(0, 0, -1)] (fun _ => True) out) (cw : Int → Int) (hz : ∀ w, 0 ≤ w → w < 12 → cw w = 0) : ∃ m, erun kd n m cw out := by
  have := TR_erun hn n.toNat 0 _ _ _ (Int.le_refl _) (by omega) h cw none [] (fun j h1 h2 => by rw [hz j h1 h2]; omega) (fun j h1 h2 => hz j h1 h2) (fun cw2 _ hd cn => ⟨hd, cn, trivial, rfl, rfl⟩) rfl
  exact this
end P1
