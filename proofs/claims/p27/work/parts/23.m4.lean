
section M4
noncomputable def stepW (kd w cw : Int) (L : List E3) (hd : Int → Int) : Option St3 :=
  if kd = 0 then nounStep w L hd else if kd = 1 then verbStep w L hd else if kd = 2 then adjStep w L hd else if kd = 6 then openStep w L hd else hangStep w kd cw L hd
noncomputable def canW (kd : Int) (L : List E3) : Int := if kd = 0 ∨ kd = 1 ∨ kd = 2 ∨ kd = 6 then 1 else (cands kd L).length
/-- what holds of the stack ahead of word w -/
def okL (w : Int) (L : List E3) : Prop := L ≠ [] ∧ (∀ e ∈ L, 0 ≤ e.2.1 ∧ e.2.1 ≤ w ∧ e.2.1 < 12) ∧ (∀ e, L.getLast? = some e → 0 ≤ e.1 ∧ e.1 ≤ 3) ∧ (L.length : Int) ≤ w + 1
theorem okL.tail {w : Int} {e : E3} {T : List E3} (h : okL w (e :: T)) (hT : T ≠ []) : okL w T := by
  obtain ⟨-, h2, h3, h4⟩ := h
  obtain ⟨f, T', rfl⟩ := List.exists_cons_of_ne_nil hT
  exact ⟨hT, fun x hx => h2 x (List.mem_cons_of_mem _ hx), fun x hx => h3 x (by rw [List.getLast?_cons_cons]; exact hx), by simp at h4 ⊢; omega⟩
theorem okL.bot {w a b c : Int} {T : List E3} (h : okL w ((a, b, c) :: T)) (ha : 4 ≤ a) : T ≠ [] := by
  rintro rfl
  have := h.2.2.1 (a, b, c) rfl
  dsimp only at this
  omega
theorem okL.top {w a b c a' b' c' : Int} {T : List E3} (h : okL w ((a, b, c) :: T)) (hb : 0 ≤ b' ∧ b' ≤ w + 1 ∧ b' < 12) (ha : T = [] → 0 ≤ a' ∧ a' ≤ 3) : okL (w + 1) ((a', b', c') :: T) := by
  obtain ⟨-, h2, h3, h4⟩ := h
  refine ⟨by simp, fun x hx => ?_, fun x hx => ?_, by simp at h4 ⊢; omega⟩
  · rcases List.mem_cons.mp hx with rfl | hx
    · exact hb
    · have := h2 x (List.mem_cons_of_mem _ hx)
      omega
  · cases T with
    | nil => cases hx; exact ha rfl
    | cons f T' =>
      rw [List.getLast?_cons_cons] at hx
      exact h3 x (by rw [List.getLast?_cons_cons]; exact hx)
theorem okL.push {w a b c : Int} {L : List E3} (h : okL w L) (hb : 0 ≤ b ∧ b ≤ w ∧ b < 12) (hl : (L.length : Int) ≤ w) : okL w ((a, b, c) :: L) := by
  obtain ⟨h1, h2, h3, h4⟩ := h
  obtain ⟨f, T', rfl⟩ := List.exists_cons_of_ne_nil h1
  refine ⟨by simp, fun x hx => ?_, fun x hx => h3 x (by rw [List.getLast?_cons_cons] at hx; exact hx), by simp at hl ⊢; omega⟩
  rcases List.mem_cons.mp hx with rfl | hx
  · exact hb
  · exact h2 x hx
theorem okL.up {w : Int} {L : List E3} (h : okL w L) : okL (w + 1) L := ⟨h.1, fun e he => by have := h.2.1 e he; omega, h.2.2.1, by have := h.2.2.2; omega⟩
theorem okL_nounTop {w : Int} (hw : 0 ≤ w ∧ w < 12) : ∀ {L L2 : List E3} {hd hd2 : Int → Int}, okL w L → nounTop w L hd = some (L2, hd2) → okL (w + 1) L2
  | [], L2, hd, hd2, _, e => by simp [nounTop] at e
  | (a, b, c) :: T, L2, hd, hd2, h, e => by
    have hl := h.2.2.2
    simp only [nounTop] at e
    split at e
    · simp at e
      obtain ⟨rfl, -⟩ := e
      exact (h.top (a' := 1) (b' := w) (c' := c) (by omega) (fun _ => by omega)).push (by omega) (by simp at hl ⊢; omega)
    · split at e
      · simp at e
        obtain ⟨rfl, -⟩ := e
        have hb := h.2.1 (a, b, c) List.mem_cons_self
        dsimp only at hb
        exact (h.top (a' := 3) (b' := b) (c' := c) (by omega) (fun _ => by omega)).push (by omega) (by simp at hl ⊢; omega)
      · split at e
        · simp at e
          obtain ⟨rfl, -⟩ := e
          exact h.top (by omega) (fun z => absurd z (h.bot (by omega)))
        · split at e
          · simp at e
            obtain ⟨rfl, -⟩ := e
            exact h.top (by omega) (fun z => absurd z (h.bot (by omega)))
          · cases e
theorem okL_noun {w : Int} (hw : 0 ≤ w ∧ w < 12) : ∀ {L L2 : List E3} {hd hd2 : Int → Int}, okL w L → nounStep w L hd = some (L2, hd2) → okL (w + 1) L2
  | [], L2, hd, hd2, _, e => by simp [nounStep] at e
  | (a, b, c) :: T, L2, hd, hd2, h, e => by
    simp only [nounStep] at e
    split at e
    · exact okL_nounTop hw (h.tail (h.bot (by omega))) e
    · exact okL_nounTop hw h e
theorem okL_verb {w : Int} (hw : 0 ≤ w ∧ w < 12) : ∀ {L L2 : List E3} {hd hd2 : Int → Int}, okL w L → verbStep w L hd = some (L2, hd2) → okL (w + 1) L2
  | [], L2, hd, hd2, _, e => by simp [verbStep] at e
  | (a, b, c) :: T, L2, hd, hd2, h, e => by
    rw [verbStep] at e
    split at e
    · exact okL_verb hw (h.tail (h.bot (by omega))) e
    · split at e
      · simp at e
        obtain ⟨rfl, -⟩ := e
        exact h.top (by omega) (fun _ => by omega)
      · cases e
theorem okL_adj {w : Int} (hw : 0 ≤ w ∧ w < 12) : ∀ {L L2 : List E3} {hd hd2 : Int → Int}, okL w L → adjStep w L hd = some (L2, hd2) → okL (w + 1) L2
  | [], L2, hd, hd2, _, e => by simp [adjStep] at e
  | (a, b, c) :: T, L2, hd, hd2, h, e => by
    have hl := h.2.2.2
    simp only [adjStep] at e
    split at e
    · simp at e
      obtain ⟨rfl, -⟩ := e
      exact h.up
    · split at e
      · simp at e
        obtain ⟨rfl, -⟩ := e
        exact h.up.push (by omega) (by simp at hl ⊢; omega)
      · cases e
theorem okL_open {w : Int} (hw : 0 ≤ w ∧ w < 12) : ∀ {L L2 : List E3} {hd hd2 : Int → Int}, okL w L → openStep w L hd = some (L2, hd2) → okL (w + 1) L2
  | [], L2, hd, hd2, _, e => by simp [openStep] at e
  | (a, b, c) :: T, L2, hd, hd2, h, e => by
    have hl := h.2.2.2
    have hb := h.2.1 (a, b, c) List.mem_cons_self
    dsimp only at hb
    simp only [openStep] at e
    split at e
    · simp at e
      obtain ⟨rfl, -⟩ := e
      exact (h.top (a' := 3) (b' := b) (c' := c) (by omega) (fun _ => by omega)).push (by omega) (by simp at hl ⊢; omega)
    · cases e
theorem okL_suf {w kd : Int} : ∀ {L S : List E3}, okL w L → S ∈ cands kd L → okL w S
  | [], S, _, h => by simp [cands] at h
  | (a, b, c) :: T, S, h, hs => by
    have key : S = (a, b, c) :: T ∨ S ∈ cands kd T := by
      rw [cands] at hs
      split at hs
      · split at hs <;> split at hs <;> first | exact (List.mem_cons.mp hs).elim Or.inl Or.inr | exact Or.inr hs
      · simp at hs
    rcases key with rfl | h2
    · exact h
    · refine okL_suf (h.tail ?_) h2
      rintro rfl
      simp [cands] at h2
theorem okL_hang {w kd cw : Int} (hw : 0 ≤ w ∧ w < 12) {L L2 : List E3} {hd hd2 : Int → Int} (h : okL w L) (e : hangStep w kd cw L hd = some (L2, hd2)) : okL (w + 1) L2 := by
  unfold hangStep at e
  split at e
  · next a b c T hc =>
    have hm := List.mem_of_getElem? hc
    have h2 := okL_suf h hm
    have ht := cands_top L hm
    have hl := h2.2.2.2
    have hb := h2.2.1 (a, b, c) List.mem_cons_self
    dsimp only at hb
    have hv : T = [] → 0 ≤ (if a = 2 then (3 : Int) else a) ∧ (if a = 2 then (3 : Int) else a) ≤ 3 := fun z => by
      rcases ht with rfl | rfl | rfl
      · exact absurd z (h2.bot (by omega))
      · simp
      · simp
    split at e
    · simp only [Option.some.injEq, Prod.mk.injEq] at e
      obtain ⟨rfl, -⟩ := e
      exact (h2.top (b' := b) (c' := c) (by omega) hv).push (by omega) (by simp at hl ⊢; omega)
    · split at e
      · next h5 =>
        simp only [Option.some.injEq, Prod.mk.injEq] at e
        obtain ⟨rfl, -⟩ := e
        refine h2.top (by omega) (fun z => ?_)
        have : ∀ {L : List E3} {a b c : Int} {T : List E3}, (a, b, c) :: T ∈ cands 5 L → a = 5 := by
          intro L
          induction L with
          | nil => intro a b c T h; simp [cands] at h
          | cons x L ih =>
            obtain ⟨a', b', c'⟩ := x
            intro a b c T h
            rw [cands] at h
            split at h
            · simp only [if_true] at h
              split at h
              · next hz =>
                rcases List.mem_cons.mp h with e | h
                · cases e; exact hz.1
                · exact ih h
              · exact ih h
            · simp at h
        subst h5
        exact absurd z (h2.bot (by have := this hm; omega))
      · simp only [Option.some.injEq, Prod.mk.injEq] at e
        obtain ⟨rfl, -⟩ := e
        exact h2.top (by omega) hv
  · cases e
theorem okL_step {kd w cw : Int} (hw : 0 ≤ w ∧ w < 12) {L L2 : List E3} {hd hd2 : Int → Int} (h : okL w L) (e : stepW kd w cw L hd = some (L2, hd2)) : okL (w + 1) L2 := by
  unfold stepW at e
  split at e
  · exact okL_noun hw h e
  · split at e
    · exact okL_verb hw h e
    · split at e
      · exact okL_adj hw h e
      · split at e
        · exact okL_open hw h e
        · exact okL_hang hw h e
theorem nres_01 {x : Int} {h1 : Hp} : ∀ {o : Option St3}, nres x h1 o → x = 0 ∨ x = 1
  | none, h => Or.inl h
  | some _, h => Or.inr h.1
theorem nar01 {x : Int} (h : x = 0 ∨ x = 1) : narrow .boolean (.int (Int32.ofInt x)) = .int (Int32.ofInt x) := by rcases h with rfl | rfl <;> rfl
theorem nres.mono {x : Int} {h1 : Hp} {o o' : Option St3} (h : nres x h1 o) (e : o = o') : nres x h1 o' := e ▸ h

end M4
