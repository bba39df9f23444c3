section M16

noncomputable def opDraw (g : Sg) (p : Int) : Rs :=
  if ¬ (0 ≤ p ∧ p < (lfS g.1).length) then (1, 0, g) else (0, hgtS g.1 (lfA (lfS g.1) p), (uC g.1 1 p, savL g.2.1 g.1, g.2.2))
/-- what doesn't look at the drawn one -/
theorem nS_u {c : Cs} {k v : Int} (h : k ≠ 0) : nS (uC c k v) = nS c := if_neg (Ne.symm h)
theorem kdS_u {c : Cs} {k v : Int} (h : k < 2 ∨ 14 ≤ k) {w : Int} (h1 : 0 ≤ w) (h2 : w < 12) : kdS (uC c k v) w = kdS c w := if_neg (by omega)
theorem fxS_u {c : Cs} {k v : Int} (h : k < 14) {w : Int} (h1 : 0 ≤ w) : fxS (uC c k v) w = fxS c w := if_neg (by omega)
theorem AS_u {c : Cs} {k v : Int} (hn : nS c ≤ 12) (h : k = 1 ∨ 14 ≤ k) : AS (uC c k v) = AS c := by
  unfold AS
  rw [nS_u (by omega)]
  exact rds_congr (fun w h1 h2 => kdS_u (by omega) h1 (by omega))
theorem lfS_u1 {c : Cs} {v : Int} (hn : nS c ≤ 12) : lfS (uC c 1 v) = lfS c := by
  unfold lfS
  rw [AS_u hn (Or.inl rfl), nS_u (by omega)]
  exact lfF_congr _ _ (fun j h1 h2 => fxS_congr (fun w w1 w2 => fxS_u (by omega) w1))
theorem okS_u1 {c : Cs} {v : Int} (I : okS c) (h0 : 0 ≤ v) (h1 : v < (lfS c).length) : okS (uC c 1 v) := by
  obtain ⟨i1, i2, i3, i4, i5⟩ := I
  refine ⟨by rw [nS_u (by omega)]; exact i1, fun w w1 w2 => ?_, fun w w1 w2 => by rw [fxS_u (by omega) w1]; exact i3 w w1 w2, ⟨?_, ?_⟩, fun w w1 w2 => ?_⟩
  · rw [nS_u (by omega)] at w2
    rw [kdS_u (by omega) w1 (by omega)]
    exact i2 w w1 w2
  · show 0 ≤ uC c 1 v 1
    unfold uC
    rw [if_pos rfl]
    exact h0
  · rw [lfS_u1 i1.2]
    refine Or.inr ?_
    show uC c 1 v 1 < _
    unfold uC
    rw [if_pos rfl]
    exact h1
  · rw [nS_u (by omega)] at w1
    have := i5 w w1 w2
    unfold uC
    rw [if_neg (by omega), if_neg (by omega)]
    exact this
theorem LaidM_u1 {c : Cs} {v : Int} {h h1 : Hp} (hn : nS c ≤ 12) (L : LaidM c h) (e : ∀ q j, q = 89 ∨ q = 90 ∨ q = 77 ∧ (j = 16 ∨ j = 18) → hI h1 q j = hI h q j) : LaidM (uC c 1 v) h1 := by
  unfold LaidM
  rw [AS_u hn (Or.inl rfl), lfS_u1 hn, nS_u (by omega)]
  exact ⟨(e 77 16 (by omega)).trans L.1, fun i f hi w q1 q2 => (e 89 _ (by omega)).trans (L.2.1 i f hi w q1 q2), (e 77 18 (by omega)).trans L.2.2.1, fun i z hi => (e 90 _ (by omega)).trans (L.2.2.2 i z hi)⟩
theorem hgtS_u1 {c : Cs} {v i : Int} (T : RdsOk) (I : okS c) (h1 : 0 ≤ i) (h2 : i < (AS c).length) : hgtS (uC c 1 v) i = hgtS c i := by
  obtain ⟨f, hf⟩ : ∃ f, (AS c)[i.toNat]? = some f := ⟨_, List.getElem?_eq_getElem (by omega)⟩
  have hq := rowA_at hf
  rw [show ((i.toNat : Nat) : Int) = i by omega] at hq
  obtain ⟨-, -, -, t4⟩ := T (kdS c) (nS c) I.1 I.2.1
  unfold hgtS
  rw [AS_u I.1.2 (Or.inl rfl), nS_u (by omega), hq]
  exact hgtF_congr (fun w w1 w2 => kdS_u (by omega) w1 (by have := I.1; omega)) (fun _ _ _ => rfl) (t4 f (List.mem_of_getElem? hf)).1
theorem RepM.u {g : Sg} {h : Hp} {k v : Int} (R : RepM g h) : RepM (uC g.1 k v, g.2) (sI h 78 k v) := R.cur (eqx.rf.st rfl) (fun j j1 j2 => by
  unfold uC
  rw [hI_sI]
  by_cases q : j = k
  · rw [if_pos ⟨rfl, q⟩, if_pos q]
  · rw [if_neg (fun z => q z.2), if_neg q]; exact R.at' j1 j2)

end M16
