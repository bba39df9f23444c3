
section M4
noncomputable def stepW (kd w cw : Int) (L : List E3) (hd : Int → Int) : Option St3 :=
  if kd = 0 then nounStep w L hd else if kd = 1 then verbStep w L hd else if kd = 2 then adjStep w L hd else if kd = 6 then openStep w L hd else hangStep w kd cw L hd
noncomputable def canW (kd : Int) (L : List E3) : Int := if kd = 0 ∨ kd = 1 ∨ kd = 2 ∨ kd = 6 then 1 else (cands kd L).length
/-- what holds of the stack ahead of word w -/
def okL (w : Int) (L : List E3) : Prop := L ≠ [] ∧ (∀ e ∈ L, 0 ≤ e.2.1 ∧ e.2.1 ≤ w ∧ e.2.1 < 12) ∧ (∀ e, L.getLast? = some e → 0 ≤ e.1 ∧ e.1 ≤ 3) ∧ (L.length : Int) ≤ w + 1
theorem okL.tail {w : Int} {e : E3} {T : List E3} (h : okL w (e :: T)) (hT : T ≠ []) : okL w T := by
  obtain ⟨-, h2, h3, h4⟩ := h
  obtain ⟨f, T', rfl⟩ := List.exists_cons_of_ne_nil hT
  exact ⟨hT, fun x hx => h2 x (List.mem_cons_of_mem _ hx), fun x hx => h3 x (by rw [List.getLast?_cons_cons]; exact hx), by simp at h4 ⊢; omega⟩
theorem okL.bot {w a b c : Int} {T : List E3} (h : okL w ((a, b, c) :: T)) (ha : 4 ≤ a) : T ≠ [] := by
  rintro rfl
  have := h.2.2.1 (a, b, c) rfl
  dsimp only at this
  omega
theorem okL.top {w a b c a' b' c' : Int} {T : List E3} (h : okL w ((a, b, c) :: T)) (hb : 0 ≤ b' ∧ b' ≤ w + 1 ∧ b' < 12) (ha : T = [] → 0 ≤ a' ∧ a' ≤ 3) : okL (w + 1) ((a', b', c') :: T) := by
  obtain ⟨-, h2, h3, h4⟩ := h
  refine ⟨by simp, fun x hx => ?_, fun x hx => ?_, by simp at h4 ⊢; omega⟩
  · rcases List.mem_cons.mp hx with rfl | hx
    · exact hb
    · have := h2 x (List.mem_cons_of_mem _ hx)
      omega
  · cases T with
    | nil => cases hx; exact ha rfl
    | cons f T' =>
      rw [List.getLast?_cons_cons] at hx
      exact h3 x (by rw [List.getLast?_cons_cons]; exact hx)
theorem okL.push {w a b c : Int} {L : List E3} (h : okL w L) (hb : 0 ≤ b ∧ b ≤ w ∧ b < 12) (hl : (L.length : Int) ≤ w) : okL w ((a, b, c) :: L) := by
  obtain ⟨h1, h2, h3, h4⟩ := h
  obtain ⟨f, T', rfl⟩ := List.exists_cons_of_ne_nil h1
  refine ⟨by simp, fun x hx => ?_, fun x hx => h3 x (by rw [List.getLast?_cons_cons] at hx; exact hx), by simp at hl ⊢; omega⟩
  rcases List.mem_cons.mp hx with rfl | hx
  · exact hb
  · exact h2 x hx
theorem okL.up {w : Int} {L : List E3} (h : okL w L) : okL (w + 1) L := ⟨h.1, fun e he => by have := h.2.1 e he; omega, h.2.2.1, by have := h.2.2.2; omega⟩
theorem okL_nounTop {w : Int} (hw : 0 ≤ w ∧ w < 12) : ∀ {L L2 : List E3} {hd hd2 : Int → Int}, okL w L → nounTop w L hd = some (L2, hd2) → okL (w + 1) L2
  | [], L2, hd, hd2, _, e => by simp [nounTop] at e
  | (a, b, c) :: T, L2, hd, hd2, h, e => by
    have hl := h.2.2.2
    simp only [nounTop] at e
    split at e
    · simp at e
      obtain ⟨rfl, -⟩ := e
      exact (h.top (a' := 1) (b' := w) (c' := c) (by omega) (fun _ => by omega)).push (by omega) (by simp at hl ⊢; omega)
    · split at e
      · simp at e
        obtain ⟨rfl, -⟩ := e
        have hb := h.2.1 (a, b, c) List.mem_cons_self
        dsimp only at hb
        exact (h.top (a' := 3) (b' := b) (c' := c) (by omega) (fun _ => by omega)).push (by omega) (by simp at hl ⊢; omega)
      · split at e
        · simp at e
          obtain ⟨rfl, -⟩ := e
          exact h.top (by omega) (fun z => absurd z (h.bot (by omega)))
        · split at e
          · simp at e
            obtain ⟨rfl, -⟩ := e
            exact h.top (by omega) (fun z => absurd z (h.bot (by omega)))
          · cases e
theorem okL_noun {w : Int} (hw : 0 ≤ w ∧ w < 12) : ∀ {L L2 : List E3} {hd hd2 : Int → Int}, okL w L → nounStep w L hd = some (L2, hd2) → okL (w + 1) L2
  | [], L2, hd, hd2, _, e => by simp [nounStep] at e
  | (a, b, c) :: T, L2, hd, hd2, h, e => by
    simp only [nounStep] at e
    split at e
    · exact okL_nounTop hw (h.tail (h.bot (by omega))) e
    · exact okL_nounTop hw h e
theorem okL_verb {w : Int} (hw : 0 ≤ w ∧ w < 12) : ∀ {L L2 : List E3} {hd hd2 : Int → Int}, okL w L → verbStep w L hd = some (L2, hd2) → okL (w + 1) L2
  | [], L2, hd, hd2, _, e => by simp [verbStep] at e
  | (a, b, c) :: T, L2, hd, hd2, h, e => by
    rw [verbStep] at e
    split at e
    · exact okL_verb hw (h.tail (h.bot (by omega))) e
    · split at e
      · simp at e
        obtain ⟨rfl, -⟩ := e
        exact h.top (by omega) (fun _ => by omega)
      · cases e
theorem okL_adj {w : Int} (hw : 0 ≤ w ∧ w < 12) : ∀ {L L2 : List E3} {hd hd2 : Int → Int}, okL w L → adjStep w L hd = some (L2, hd2) → okL (w + 1) L2
  | [], L2, hd, hd2, _, e => by simp [adjStep] at e
  | (a, b, c) :: T, L2, hd, hd2, h, e => by
    have hl := h.2.2.2
    simp only [adjStep] at e
    split at e
    · simp at e
      obtain ⟨rfl, -⟩ := e
      exact h.up
    · split at e
      · simp at e
        obtain ⟨rfl, -⟩ := e
        exact h.up.push (by omega) (by simp at hl ⊢; omega)
      · cases e
theorem okL_open {w : Int} (hw : 0 ≤ w ∧ w < 12) : ∀ {L L2 : List E3} {hd hd2 : Int → Int}, okL w L → openStep w L hd = some (L2, hd2) → okL (w + 1) L2
  | [], L2, hd, hd2, _, e => by simp [openStep] at e
  | (a, b, c) :: T, L2, hd, hd2, h, e => by
    have hl := h.2.2.2
    have hb := h.2.1 (a, b, c) List.mem_cons_self
    dsimp only at hb
    simp only [openStep] at e
    split at e
    · simp at e
      obtain ⟨rfl, -⟩ := e
      exact (h.top (a' := 3) (b' := b) (c' := c) (by omega) (fun _ => by omega)).push (by omega) (by simp at hl ⊢; omega)
    · cases e
theorem okL_suf {w kd : Int} : ∀ {L S : List E3}, okL w L → S ∈ cands kd L → okL w S
  | [], S, _, h => by simp [cands] at h
  | (a, b, c) :: T, S, h, hs => by
    have key : S = (a, b, c) :: T ∨ S ∈ cands kd T := by
      rw [cands] at hs
      split at hs
      · split at hs <;> split at hs <;> first | exact (List.mem_cons.mp hs).elim Or.inl Or.inr | exact Or.inr hs
      · simp at hs
    rcases key with rfl | h2
    · exact h
    · refine okL_suf (h.tail ?_) h2
      rintro rfl
      simp [cands] at h2
theorem okL_hang {w kd cw : Int} (hw : 0 ≤ w ∧ w < 12) {L L2 : List E3} {hd hd2 : Int → Int} (h : okL w L) (e : hangStep w kd cw L hd = some (L2, hd2)) : okL (w + 1) L2 := by
  unfold hangStep at e
  split at e
  · next a b c T hc =>
    have hm := List.mem_of_getElem? hc
    have h2 := okL_suf h hm
    have ht := cands_top L hm
    have hl := h2.2.2.2
    have hb := h2.2.1 (a, b, c) List.mem_cons_self
    dsimp only at hb
    have hv : T = [] → 0 ≤ (if a = 2 then (3 : Int) else a) ∧ (if a = 2 then (3 : Int) else a) ≤ 3 := fun z => by
      rcases ht with rfl | rfl | rfl
      · exact absurd z (h2.bot (by omega))
      · simp
      · simp
    split at e
    · simp only [Option.some.injEq, Prod.mk.injEq] at e
      obtain ⟨rfl, -⟩ := e
      exact (h2.top (b' := b) (c' := c) (by omega) hv).push (by omega) (by simp at hl ⊢; omega)
    · split at e
      · next h5 =>
        simp only [Option.some.injEq, Prod.mk.injEq] at e
        obtain ⟨rfl, -⟩ := e
        refine h2.top (by omega) (fun z => ?_)
        have : ∀ {L : List E3} {a b c : Int} {T : List E3}, (a, b, c) :: T ∈ cands 5 L → a = 5 := by
          intro L
          induction L with
          | nil => intro a b c T h; simp [cands] at h
          | cons x L ih =>
            obtain ⟨a', b', c'⟩ := x
            intro a b c T h
            rw [cands] at h
            split at h
            · simp only [if_true] at h
              split at h
              · next hz =>
                rcases List.mem_cons.mp h with e | h
                · cases e; exact hz.1
                · exact ih h
              · exact ih h
            · simp at h
        subst h5
        exact absurd z (h2.bot (by have := this hm; omega))
      · simp only [Option.some.injEq, Prod.mk.injEq] at e
        obtain ⟨rfl, -⟩ := e
        exact h2.top (by omega) hv
  · cases e
theorem okL_step {kd w cw : Int} (hw : 0 ≤ w ∧ w < 12) {L L2 : List E3} {hd hd2 : Int → Int} (h : okL w L) (e : stepW kd w cw L hd = some (L2, hd2)) : okL (w + 1) L2 := by
  unfold stepW at e
  split at e
  · exact okL_noun hw h e
  · split at e
    · exact okL_verb hw h e
    · split at e
      · exact okL_adj hw h e
      · split at e
        · exact okL_open hw h e
        · exact okL_hang hw h e
theorem nres_01 {x : Int} {h1 : Hp} : ∀ {o : Option St3}, nres x h1 o → x = 0 ∨ x = 1
  | none, h => Or.inl h
  | some _, h => Or.inr h.1
theorem nar01 {x : Int} (h : x = 0 ∨ x = 1) : narrow .boolean (.int (Int32.ofInt x)) = .int (Int32.ofInt x) := by rcases h with rfl | rfl <;> rfl
theorem nres.mono {x : Int} {h1 : Hp} {o o' : Option St3} (h : nres x h1 o) (e : o = o') : nres x h1 o' := e ▸ h

set_option maxRecDepth 100000 in
set_option maxHeartbeats 4000000 in
theorem c_X7_takes {l : Launch} {d : Nat} {h : Hp} (r : Rg h) {w kd cw : Int} (hw : 0 ≤ w ∧ w < 12) (hkd : hI h 78 (2 + w) = kd) (hk : 0 ≤ kd ∧ kd ≤ 6) (hcw : hI h 86 w = cw) (hcw0 : 0 ≤ cw) {L : List E3} (okl : okL w L) (sk : stk h L) (hdep : hI h 77 11 = L.length) (hd : 4 ≤ d := by omega) : CP l d 0 0 yX7_takes cX7_takes 2 (Option.some Jvm.ClassFile.FieldType.boolean) [.ref 77, iv w] h (pI fun x h1 => eqx Sp h h1 ∧ Rg h1 ∧ hI h1 87 w = canW kd L ∧ (∀ j, j ≠ w → hI h1 87 j = hI h 87 j) ∧ nres x h1 (stepW kd w cw L (hI h 88))) := by
  refine CP.ofV (L := [some (.ref 77), some (.int (Int32.ofInt w))]) RX7 (by decide +kernel) rfl (Nat.le_of_ble_eq_true rfl) rfl (fun X hX G E => ?_)
  subst hX
  have r0 : Rg (sI h 87 w 1) := r.sI ⟨by omega, by omega⟩
  have s0 : stk (sI h 87 w 1) L := stk_w (by omega) sk
  have d0 : hI (sI h 87 w 1) 77 11 = L.length := hdep
  have hl := okl.2.2.2
  have hkr : inr kd := ⟨by omega, by omega⟩
  have e0 : eqx Sp h (sI h 87 w 1) := eqx.rf.st rfl
  have q87 : ∀ {g : Hp}, eqx Sq (sI h 87 w 1) g → kd = 0 ∨ kd = 1 ∨ kd = 2 ∨ kd = 6 → eqx Sp h g ∧ hI g 87 w = canW kd L ∧ ∀ j, j ≠ w → hI g 87 j = hI h 87 j := fun {g} e hk => ⟨e0.tr (Sq_Sp e), by
    rw [e.1 87 w rfl]
    unfold canW
    rw [if_pos hk]
    simp [hI_sI], fun j hj => by rw [e.1 87 j rfl]; simp [hI_sI, hj]⟩
  refine V_aload0 G dX7_takes_0 ?_
  refine V_getR G fl_X7_38 dX7_takes_1 (by first | decide | assumption) (by first | rfl | assumption) rfl (by first | rfl | assumption) ?_
  refine V_iload1 G dX7_takes_4 ?_
  refine V_iconst G dX7_takes_5 ?_
  refine V_iast G dX7_takes_6 (by first | decide | assumption) (by first | rfl | assumption) (by decide) ⟨by omega, by omega⟩ ?_
  refine V_aload0 G dX7_takes_7 ?_
  refine V_iload1 G dX7_takes_8 ?_
  refine V_cV1i (d1 := 1) G m_X7_86 dX7_takes_9 (by first | decide | assumption) (by first | rfl | assumption) (c_X7_kind (w := w) hw) (by omega) (by omega) (by omega) (Nat.le_of_ble_eq_true rfl) (fun x_9 h_9 hp_9 => ?_)
  rw [hp_9.1, hp_9.2]
  rw [show hI (sI h 87 w 1) 78 (2 + w) = kd from hkd]
  rcases (show kd = 0 ∨ kd = 1 ∨ kd = 2 ∨ kd = 3 ∨ kd = 4 ∨ kd = 5 ∨ kd = 6 by omega) with e_12 | e_12 | e_12 | e_12 | e_12 | e_12 | e_12
  · rw [e_12]
    refine V_tableIn G dX7_takes_12 (tgt := 56) ⟨by decide, by decide⟩ (by decide) (by decide) rfl (by decide) ?_
    refine V_aload0 G dX7_takes_56 ?_
    refine V_iload1 G dX7_takes_57 ?_
    refine V_cV1i (d1 := 2) G m_X7_105 dX7_takes_58 (by first | decide | assumption) (by first | rfl | assumption) (c_X7_takesNoun r0 hw (by omega) s0 d0 (fun a b c T e ha => by subst e; exact ⟨okl.bot (by omega), by have := okl.2.1 (a, b, c) List.mem_cons_self; dsimp only at this; omega⟩) okl.1) (by omega) (by omega) (by omega) (Nat.le_of_ble_eq_true rfl) (fun x_58 h_58 hp_58 => ?_)
    obtain ⟨ea, ra, na⟩ := hp_58
    obtain ⟨qa, qb, qc⟩ := q87 ea (by omega)
    exact V_reti E dX7_takes_61 rfl (nar01 (nres_01 na)) ⟨_, rfl, ⟨qa, ra, qb, qc, by rw [e_12]; exact na⟩⟩
  · rw [e_12]
    refine V_tableIn G dX7_takes_12 (tgt := 62) ⟨by decide, by decide⟩ (by decide) (by decide) rfl (by decide) ?_
    refine V_aload0 G dX7_takes_62 ?_
    refine V_iload1 G dX7_takes_63 ?_
    refine V_cV1i (d1 := 1) G m_X7_108 dX7_takes_64 (by first | decide | assumption) (by first | rfl | assumption) (c_X7_takesVerb r0 hw (by omega) s0 d0 (fun e he h1 => by have := okl.2.1 e he; omega)) (by omega) (by omega) (by omega) (Nat.le_of_ble_eq_true rfl) (fun x_64 h_64 hp_64 => ?_)
    obtain ⟨ea, ra, na⟩ := hp_64
    obtain ⟨qa, qb, qc⟩ := q87 ea (by omega)
    exact V_reti E dX7_takes_67 rfl (nar01 (nres_01 na)) ⟨_, rfl, ⟨qa, ra, qb, qc, by rw [e_12]; exact na⟩⟩
  · rw [e_12]
    refine V_tableIn G dX7_takes_12 (tgt := 68) ⟨by decide, by decide⟩ (by decide) (by decide) rfl (by decide) ?_
    refine V_aload0 G dX7_takes_68 ?_
    refine V_iload1 G dX7_takes_69 ?_
    obtain ⟨⟨a, b, c⟩, T, hLe⟩ := List.exists_cons_of_ne_nil okl.1
    obtain ⟨t, ht⟩ : ∃ t : Int, t = (T.length : Int) := ⟨_, rfl⟩
    have s1 := s0
    rw [hLe] at s1
    obtain ⟨k1, k2, k3, k4⟩ := s1
    dsimp only at k1 k2 k3
    rw [← ht] at k1 k2 k3
    have hl2 : t + 1 ≤ w + 1 := by rw [hLe] at hl; simp at hl; omega
    have dt : hI (sI h 87 w 1) 77 11 = t + 1 := by rw [d0, hLe]; simp; omega
    refine V_cV1i (d1 := 2) G m_X7_111 dX7_takes_70 (by first | decide | assumption) (by first | rfl | assumption) (c_X7_takesAdjective r0 (t := t) (by omega) dt) (by omega) (by omega) (by omega) (Nat.le_of_ble_eq_true rfl) (fun x_70 h_70 hp_70 => ?_)
    have st : stepW kd w cw L (hI h 88) = adjStep w ((a, b, c) :: T) (hI h 88) := by rw [e_12, hLe]; rfl
    rw [k1] at hp_70
    exact V_reti E dX7_takes_73 rfl (nar01 (by omega)) ⟨_, rfl, by
  rcases hp_70 with ⟨z1, rfl, rfl⟩ | ⟨z1, z2, rfl, rfl⟩ | ⟨z1, z2, rfl, rfl⟩
  · obtain ⟨qa, qb, qc⟩ := q87 (eqx.rf) (by omega)
    refine ⟨qa, r0, qb, qc, ?_⟩
    rw [st]
    simp only [adjStep]
    rw [if_pos z1]
    exact ⟨rfl, by rw [← hLe]; exact s0, by rw [← hLe]; exact d0, fun k => rfl⟩
  · have e9 : eqx Sq (sI h 87 w 1) (mOpens (sI h 87 w 1) (t + 1) 4 w 0) := mOpens_eqx eqx.rf rfl rfl rfl rfl
    obtain ⟨qa, qb, qc⟩ := q87 e9 (by omega)
    refine ⟨qa, mOpens_Rg r0 ⟨by omega, by omega⟩ ⟨by omega, by omega⟩ ⟨by omega, by omega⟩ ⟨by omega, by omega⟩, qb, qc, ?_⟩
    rw [st]
    simp only [adjStep]
    rw [if_neg z1, if_pos z2]
    have q := mOpens_stk (a := 4) (b := w) (c := 0) (t := t + 1) (by rw [hLe]; simp; omega) s0
    rw [hLe] at q
    exact ⟨rfl, q.1, q.2, fun k => by rw [mOpens_ne (by decide) (by decide) (by decide) (by decide)]; rfl⟩
  · obtain ⟨qa, qb, qc⟩ := q87 (eqx.rf) (by omega)
    refine ⟨qa, r0, qb, qc, ?_⟩
    rw [st]
    simp only [adjStep]
    rw [if_neg z1, if_neg z2]
    rfl⟩
  · rw [e_12]
    refine V_tableIn G dX7_takes_12 (tgt := 80) ⟨by decide, by decide⟩ (by decide) (by decide) rfl (by decide) ?_
    refine V_aload0 G dX7_takes_80 ?_
    refine V_iload1 G dX7_takes_81 ?_
    refine V_cV1i (d1 := 3) G m_X7_117 dX7_takes_82 (by first | decide | assumption) (by first | rfl | assumption) (c_X7_takesHanging r0 (kd := kd) (cw := cw) hw hkd hcw hcw0 (by omega) s0 d0) (by omega) (by omega) (by omega) (Nat.le_of_ble_eq_true rfl) (fun x_82 h_82 hp_82 => ?_)
    obtain ⟨ea, ra, ca, cb, na⟩ := hp_82
    exact V_reti E dX7_takes_85 rfl (nar01 (nres_01 na)) ⟨_, rfl, ⟨e0.tr ea, ra, by rw [ca]; unfold canW; rw [if_neg (by omega)], fun j hj => by rw [cb j hj]; simp [hI_sI, hj], by unfold stepW; rw [if_neg (by omega), if_neg (by omega), if_neg (by omega), if_neg (by omega)]; exact na⟩⟩
  · rw [e_12]
    refine V_tableIn G dX7_takes_12 (tgt := 80) ⟨by decide, by decide⟩ (by decide) (by decide) rfl (by decide) ?_
    refine V_aload0 G dX7_takes_80 ?_
    refine V_iload1 G dX7_takes_81 ?_
    refine V_cV1i (d1 := 3) G m_X7_117 dX7_takes_82 (by first | decide | assumption) (by first | rfl | assumption) (c_X7_takesHanging r0 (kd := kd) (cw := cw) hw hkd hcw hcw0 (by omega) s0 d0) (by omega) (by omega) (by omega) (Nat.le_of_ble_eq_true rfl) (fun x_82 h_82 hp_82 => ?_)
    obtain ⟨ea, ra, ca, cb, na⟩ := hp_82
    exact V_reti E dX7_takes_85 rfl (nar01 (nres_01 na)) ⟨_, rfl, ⟨e0.tr ea, ra, by rw [ca]; unfold canW; rw [if_neg (by omega)], fun j hj => by rw [cb j hj]; simp [hI_sI, hj], by unfold stepW; rw [if_neg (by omega), if_neg (by omega), if_neg (by omega), if_neg (by omega)]; exact na⟩⟩
  · rw [e_12]
    refine V_tableIn G dX7_takes_12 (tgt := 80) ⟨by decide, by decide⟩ (by decide) (by decide) rfl (by decide) ?_
    refine V_aload0 G dX7_takes_80 ?_
    refine V_iload1 G dX7_takes_81 ?_
    refine V_cV1i (d1 := 3) G m_X7_117 dX7_takes_82 (by first | decide | assumption) (by first | rfl | assumption) (c_X7_takesHanging r0 (kd := kd) (cw := cw) hw hkd hcw hcw0 (by omega) s0 d0) (by omega) (by omega) (by omega) (Nat.le_of_ble_eq_true rfl) (fun x_82 h_82 hp_82 => ?_)
    obtain ⟨ea, ra, ca, cb, na⟩ := hp_82
    exact V_reti E dX7_takes_85 rfl (nar01 (nres_01 na)) ⟨_, rfl, ⟨e0.tr ea, ra, by rw [ca]; unfold canW; rw [if_neg (by omega)], fun j hj => by rw [cb j hj]; simp [hI_sI, hj], by unfold stepW; rw [if_neg (by omega), if_neg (by omega), if_neg (by omega), if_neg (by omega)]; exact na⟩⟩
  · rw [e_12]
    refine V_tableIn G dX7_takes_12 (tgt := 74) ⟨by decide, by decide⟩ (by decide) (by decide) rfl (by decide) ?_
    refine V_aload0 G dX7_takes_74 ?_
    refine V_iload1 G dX7_takes_75 ?_
    refine V_cV1i (d1 := 2) G m_X7_114 dX7_takes_76 (by first | decide | assumption) (by first | rfl | assumption) (c_X7_takesOpener r0 hw (by omega) s0 d0 okl.1) (by omega) (by omega) (by omega) (Nat.le_of_ble_eq_true rfl) (fun x_76 h_76 hp_76 => ?_)
    obtain ⟨ea, ra, na⟩ := hp_76
    obtain ⟨qa, qb, qc⟩ := q87 ea (by omega)
    exact V_reti E dX7_takes_79 rfl (nar01 (nres_01 na)) ⟨_, rfl, ⟨qa, ra, qb, qc, by rw [e_12]; exact na⟩⟩

end M4
