section M15
/-! rows that are alike on the words give alike answers -/
theorem heldF_congr {n : Int} {kd kd' f f' : Int → Int} (hk : ∀ w, 0 ≤ w → w < n → kd w = kd' w) (hf : ∀ w, 0 ≤ w → w < n → f w = f' w) (hr : rok n f) {w : Int} (h1 : 0 ≤ w) (h2 : w < n) : heldF kd f w = heldF kd' f' w := by
  have e := hr w h1 h2
  unfold heldF
  rw [← hf w h1 h2, ← hk w h1 h2]
  by_cases z : f w = -1
  · rw [if_pos z, if_pos z]
  · rw [if_neg z, if_neg z, ← hk (f w) (by omega) (by omega)]
theorem stepF_congr {n : Int} {kd kd' f f' : Int → Int} (hk : ∀ w, 0 ≤ w → w < n → kd w = kd' w) (hf : ∀ w, 0 ≤ w → w < n → f w = f' w) (hr : rok n f) {w : Int} (h1 : 0 ≤ w) (h2 : w < n) : stepF kd f w = stepF kd' f' w := by
  unfold stepF
  rw [← heldF_congr hk hf hr h1 h2, ← hk w h1 h2]
theorem levF_congr {n : Int} {kd kd' f f' : Int → Int} (hk : ∀ w, 0 ≤ w → w < n → kd w = kd' w) (hf : ∀ w, 0 ≤ w → w < n → f w = f' w) (hr : rok n f) : ∀ (m : Nat) (w : Int), 0 ≤ w → w < n → levF kd f m w = levF kd' f' m w
  | 0, _, _, _ => rfl
  | m + 1, w, h1, h2 => by
    have e := hr w h1 h2
    rw [levF, levF, ← hf w h1 h2, stepF_congr hk hf hr h1 h2]
    by_cases z : f w = -1
    · rw [if_pos z, if_pos z]
    · rw [if_neg z, if_neg z, levF_congr hk hf hr m (f w) (by omega) (by omega)]
theorem mxF_congr {f f' : Int → Int} : ∀ (m : Nat) (k a : Int), (∀ j, k ≤ j → j < k + m → f j = f' j) → mxF f m k a = mxF f' m k a
  | 0, _, _, _ => rfl
  | m + 1, k, a, h => by rw [mxF, mxF, h k (by omega) (by omega), mxF_congr m (k + 1) _ (fun j h1 h2 => h j (by omega) (by omega))]
theorem mnF_congr {f f' : Int → Int} : ∀ (m : Nat) (k a : Int), (∀ j, k ≤ j → j < k + m → f j = f' j) → mnF f m k a = mnF f' m k a
  | 0, _, _, _ => rfl
  | m + 1, k, a, h => by rw [mnF, mnF, h k (by omega) (by omega), mnF_congr m (k + 1) _ (fun j h1 h2 => h j (by omega) (by omega))]
theorem sumF_congr {f f' : Int → Int} : ∀ (m : Nat) (k : Int), (∀ j, k ≤ j → j < k + m → f j = f' j) → sumF f m k = sumF f' m k
  | 0, _, _ => rfl
  | m + 1, k, h => by rw [sumF, sumF, h k (by omega) (by omega), sumF_congr m (k + 1) (fun j h1 h2 => h j (by omega) (by omega))]
theorem reachF_congr {n : Int} {f f' : Int → Int} (hf : ∀ w, 0 ≤ w → w < n → f w = f' w) (hr : rok n f) : ∀ (m : Nat) (w : Int), 0 ≤ w → w < n → reachF f m w → reachF f' m w
  | 0, w, h1, h2, q => (hf w h1 h2).symm.trans q
  | m + 1, w, h1, h2, q => by
    have e := hr w h1 h2
    show f' w = -1 ∨ reachF f' m (f' w)
    rw [← hf w h1 h2]
    by_cases z : f w = -1
    · exact Or.inl z
    · exact Or.inr (reachF_congr hf hr m (f w) (by omega) (by omega) (q.elim (fun y => absurd y z) id))
def hgtF (n : Int) (kd f : Int → Int) : Int := mxF (levF kd f 12) n.toNat 0 0 - mnF (levF kd f 12) n.toNat 0 0 + 1
theorem hgtF_congr {n : Int} {kd kd' f f' : Int → Int} (hk : ∀ w, 0 ≤ w → w < n → kd w = kd' w) (hf : ∀ w, 0 ≤ w → w < n → f w = f' w) (hr : rok n f) : hgtF n kd f = hgtF n kd' f' := by
  unfold hgtF
  rw [mxF_congr n.toNat 0 0 (fun j h1 h2 => levF_congr hk hf hr 12 j h1 (by omega)), mnF_congr n.toNat 0 0 (fun j h1 h2 => levF_congr hk hf hr 12 j h1 (by omega))]
theorem hgtF_r (n : Int) (kd f : Int → Int) : 1 ≤ hgtF n kd f ∧ hgtF n kd f ≤ 25 := by
  have h1 := mxF_r (f := levF kd f 12) (a := -12) (b := 12) n.toNat 0 0 (fun j _ _ => levF_r kd f 12 j) (by omega)
  have h2 := mnF_r (f := levF kd f 12) (a := -12) (b := 12) n.toNat 0 0 (fun j _ _ => levF_r kd f 12 j) (by omega)
  have h3 : ∀ (m : Nat) (k a : Int), a ≤ mxF (levF kd f 12) m k a := fun m => by
    induction m with
    | zero => intro k a; exact Int.le_refl _
    | succ m ih =>
      intro k a
      rw [mxF]
      have := ih (k + 1) (if a < levF kd f 12 k then levF kd f 12 k else a)
      split at this <;> split <;> omega
  have h4 : ∀ (m : Nat) (k a : Int), mnF (levF kd f 12) m k a ≤ a := fun m => by
    induction m with
    | zero => intro k a; exact Int.le_refl _
    | succ m ih =>
      intro k a
      rw [mnF]
      have := ih (k + 1) (if levF kd f 12 k < a then levF kd f 12 k else a)
      split at this <;> split <;> omega
  have := h3 n.toNat 0 0
  have := h4 n.toNat 0 0
  unfold hgtF
  omega
def lfA (l : List Int) (k : Int) : Int := (l[k.toNat]?).getD 0
theorem lfF_mem {p : Int → Prop} : ∀ (m : Nat) (k : Int), ∀ z ∈ lfF p m k, k ≤ z ∧ z < k + m
  | 0, _, z, h => by simp [lfF] at h
  | m + 1, k, z, h => by
    rw [lfF] at h
    rcases List.mem_append.mp h with h | h
    · split at h
      · simp at h; omega
      · simp at h
    · have := lfF_mem m (k + 1) z h; omega
theorem lfF_len {p : Int → Prop} : ∀ (m : Nat) (k : Int), (lfF p m k).length ≤ m
  | 0, _ => by simp [lfF]
  | m + 1, k => by
    have := lfF_len (p := p) m (k + 1)
    rw [lfF, List.length_append]
    split <;> simp <;> omega
/-- what is known behind laysAll of one reading and of one that is left -/
theorem laid_row {g : Sg} {h : Hp} (T : RdsOk) (R : RepM g h) (I : okS g.1) (L : LaidM g.1 h) {i : Int} (h1 : 0 ≤ i) (h2 : i < (AS g.1).length) :
    (∀ w, 0 ≤ w → w < nS g.1 → hI h 89 (12 * i + w) = rowA (AS g.1) i w) ∧ rok (nS g.1) (rowA (AS g.1) i) ∧ rtd (nS g.1) (rowA (AS g.1) i) ∧ rok (nS g.1) (fun w => hI h 89 (12 * i + w)) ∧ rtd (nS g.1) (fun w => hI h 89 (12 * i + w)) := by
  obtain ⟨f, hf⟩ : ∃ f, (AS g.1)[i.toNat]? = some f := ⟨_, List.getElem?_eq_getElem (by omega)⟩
  have hq := rowA_at hf
  rw [show ((i.toNat : Nat) : Int) = i by omega] at hq
  have e1 : ∀ w, 0 ≤ w → w < nS g.1 → hI h 89 (12 * i + w) = rowA (AS g.1) i w := fun w w1 w2 => by
    have := L.2.1 i.toNat f hf w w1 w2
    rw [show ((i.toNat : Nat) : Int) = i by omega] at this
    rw [this, hq]
  obtain ⟨-, -, -, t4⟩ := T (kdS g.1) (nS g.1) I.1 I.2.1
  obtain ⟨t5, t6⟩ := t4 f (List.mem_of_getElem? hf)
  rw [hq] at e1 ⊢
  have e2 : rok (nS g.1) (fun w => hI h 89 (12 * i + w)) := fun w w1 w2 => by
    dsimp only
    rw [e1 w w1 w2]
    exact t5 w w1 w2
  exact ⟨e1, t5, t6, e2, fun w w1 w2 => reachF_congr (fun j j1 j2 => (e1 j j1 j2).symm) t5 11 w w1 w2 (t6 w w1 w2)⟩
theorem AS_le {c : Cs} (T : RdsOk) (I : okS c) : (AS c).length ≤ 42 := (T (kdS c) (nS c) I.1 I.2.1).2.2.1
theorem lfS_at {c : Cs} (T : RdsOk) (I : okS c) {h : Hp} (L : LaidM c h) : (lfS c).length ≤ 42 ∧ hI h 77 18 = (lfS c).length ∧ ∀ i : Int, 0 ≤ i → i < (lfS c).length → hI h 90 i = lfA (lfS c) i ∧ 0 ≤ lfA (lfS c) i ∧ lfA (lfS c) i < (AS c).length := by
  have := lfF_len (p := fun k => fitsP (nS c) (-1) (fxS c) (rowA (AS c) k)) (AS c).length 0
  have := AS_le T I
  refine ⟨by unfold lfS; omega, L.2.2.1, fun i h1 h2 => ?_⟩
  obtain ⟨z, hz⟩ : ∃ z, (lfS c)[i.toNat]? = some z := ⟨_, List.getElem?_eq_getElem (by omega)⟩
  have e1 := L.2.2.2 i.toNat z hz
  have e2 := lfF_mem _ _ z (List.mem_of_getElem? hz)
  unfold lfA
  rw [hz]
  rw [show ((i.toNat : Nat) : Int) = i by omega] at e1
  exact ⟨e1, by simp; omega, by simp; omega⟩
theorem RepM.kd {g : Sg} {h : Hp} (R : RepM g h) (I : okS g.1) : ∀ w, 0 ≤ w → w < nS g.1 → hI h 78 (2 + w) = kdS g.1 w := fun w h1 h2 => R.at' (by omega) (by have := I.1; omega)
theorem RepM.fx {g : Sg} {h : Hp} (R : RepM g h) : ∀ w, 0 ≤ w → w < 12 → hI h 78 (14 + w) = fxS g.1 w := fun w h1 h2 => R.at' (by omega) (by omega)
noncomputable def hgtS (c : Cs) (i : Int) : Int := hgtF (nS c) (kdS c) (rowA (AS c) i)
noncomputable def lbS (c : Cs) (w hd1 : Int) : Int := sumF (fun k => if whI (fitsP (nS c) w (fxS c) (rowA (AS c) k)) = 1 ∧ rowA (AS c) k w = hd1 then 1 else 0) (AS c).length 0
end M15
