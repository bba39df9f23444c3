section INV
theorem sav_ok {S : List Cs} {c : Cs} (hS : ∀ x ∈ S, okS x) (h6 : S.length ≤ 6) (hc : okS c) : (∀ x ∈ savL S c, okS x) ∧ (savL S c).length ≤ 6 := by
  unfold savL
  split
  · refine ⟨fun x hx => ?_, by simp; omega⟩
    rcases List.mem_append.mp hx with hx | hx
    · exact hS x (List.mem_of_mem_tail hx)
    · rw [List.mem_singleton.mp hx]; exact hc
  · refine ⟨fun x hx => ?_, by simp; omega⟩
    rcases List.mem_append.mp hx with hx | hx
    · exact hS x hx
    · rw [List.mem_singleton.mp hx]; exact hc
theorem inv_set {g : Sg} {c : Cs} (I : InvS g) (hc : okS c) : InvS (c, savL g.2.1 g.1, g.2.2) := by
  obtain ⟨i1, i2, i3, i4, i5, i6, i7⟩ := I
  have := sav_ok i2 i5 i1
  exact ⟨hc, this.1, i3, i4, this.2, i6, i7⟩
theorem okS_beg {c : Cs} (hn : 0 ≤ nS c ∧ nS c ≤ 12) (hk : ∀ w, 0 ≤ w → w < nS c → 0 ≤ kdS c w ∧ kdS c w ≤ 6) (hz : ∀ w, nS c ≤ w → w < 12 → c (2 + w) = 0) : okS (begS c) := by
  have e0 : nS (begS c) = nS c := by unfold nS begS; rw [if_neg (by omega)]
  have e1 : ∀ w, 0 ≤ w → w < 12 → kdS (begS c) w = kdS c w := fun w w0 w1 => by unfold kdS begS; rw [if_neg (by omega)]
  have e2 : ∀ w, 0 ≤ w → w < 12 → fxS (begS c) w = 0 := fun w w0 w1 => by unfold fxS begS; rw [if_pos (by omega)]
  have e3 : begS c 1 = 0 := by unfold begS; rw [if_pos (by omega)]
  refine ⟨by rw [e0]; exact hn, fun w w0 w1 => ?_, fun w w0 w1 => by rw [e2 w w0 w1]; omega, ⟨by rw [e3]; omega, ?_⟩, fun w w0 w1 => ⟨?_, ?_⟩⟩
  · rw [e0] at w1
    rw [e1 w w0 (by omega)]
    exact hk w w0 w1
  · rw [e3]
    omega
  · rw [e0] at w0
    show kdS (begS c) w = 0
    rw [e1 w (by omega) w1]
    exact hz w w0 w1
  · rw [e0] at w0
    exact e2 w (by omega) w1
theorem okS_add {c : Cs} (I : okS c) {p : Int} (hp : 0 ≤ p ∧ p ≤ 6) (hn : nS c ≠ 12) : okS (begS (uC (uC c (2 + nS c) p) 0 (nS c + 1))) := by
  obtain ⟨h1, h2, h3, h4, h5⟩ := I
  have e0 : nS (uC (uC c (2 + nS c) p) 0 (nS c + 1)) = nS c + 1 := by unfold nS uC; rw [if_pos rfl]
  have e1 : ∀ w, 0 ≤ w → kdS (uC (uC c (2 + nS c) p) 0 (nS c + 1)) w = if w = nS c then p else kdS c w := fun w w0 => by
    unfold kdS uC
    rw [if_neg (by omega)]
    by_cases e : w = nS c
    · rw [if_pos (by omega), if_pos e]
    · rw [if_neg (by omega), if_neg e]
  refine okS_beg (by rw [e0]; omega) (fun w w0 w1 => ?_) (fun w w0 w1 => ?_)
  · rw [e0] at w1
    rw [e1 w w0]
    split
    · exact hp
    · exact h2 w w0 (by omega)
  · rw [e0] at w0
    have := e1 w (by omega)
    rw [if_neg (by omega)] at this
    exact this.trans (h5 w (by omega) w1).1
theorem okS_chg {c : Cs} (I : okS c) {w p : Int} (hp : 0 ≤ p ∧ p ≤ 6) (hw : 0 ≤ w ∧ w < nS c) : okS (begS (uC c (2 + w) p)) := by
  obtain ⟨h1, h2, h3, h4, h5⟩ := I
  have e0 : nS (uC c (2 + w) p) = nS c := nS_u (by omega)
  refine okS_beg (by rw [e0]; exact h1) (fun z w0 w1 => ?_) (fun z w0 w1 => ?_)
  · rw [e0] at w1
    unfold kdS uC
    split
    · exact hp
    · exact h2 z w0 (by omega)
  · rw [e0] at w0
    show uC c (2 + w) p (2 + z) = 0
    unfold uC
    rw [if_neg (by omega)]
    exact (h5 z (by omega) w1).1
theorem okS_wip {c : Cs} (I : okS c) {w : Int} (hw : 0 ≤ w ∧ w < nS c) : okS (begS (wipeC c w)) := by
  obtain ⟨h1, h2, h3, h4, h5⟩ := I
  have e0 : nS (wipeC c w) = nS c - 1 := by unfold nS wipeC; rw [if_pos rfl]; rfl
  refine okS_beg (by rw [e0]; omega) (fun z w0 w1 => ?_) (fun z w0 w1 => ?_)
  · rw [e0] at w1
    unfold kdS wipeC
    rw [if_neg (by omega)]
    split
    · have := h2 (z + 1) (by omega) (by omega)
      rw [show 2 + z + 1 = 2 + (z + 1) by omega]
      exact this
    · rw [if_neg (by omega)]
      exact h2 z w0 (by omega)
  · rw [e0] at w0
    show wipeC c w (2 + z) = 0
    unfold wipeC
    rw [if_neg (by omega), if_neg (by omega)]
    split
    · rfl
    · exact (h5 z (by omega) w1).1
theorem okS_lod {c : Cs} {bf : List Int} (h12 : bf.length ≤ 12) (hk : ∀ j : Int, 0 ≤ j → j < bf.length → knF (bfA bf j) ≠ -1) : okS (begS (loadC c bf)) := by
  have e0 : nS (loadC c bf) = bf.length := by unfold nS loadC; rw [if_pos rfl]
  refine okS_beg (by rw [e0]; omega) (fun z w0 w1 => ?_) (fun z w0 w1 => ?_)
  · rw [e0] at w1
    unfold kdS loadC
    rw [if_neg (by omega), if_pos (by omega), if_pos (by omega), show 2 + z - 2 = z by omega]
    have := @knF_rr (bfA bf z)
    have := hk z w0 w1
    omega
  · rw [e0] at w0
    show loadC c bf (2 + z) = 0
    unfold loadC
    rw [if_neg (by omega), if_pos (by omega), if_neg (by omega)]
theorem okS_fx {c : Cs} (I : okS c) {w v : Int} (hw : 0 ≤ w ∧ w < nS c) (hv : 0 ≤ v ∧ v ≤ 14) : okS (uC (uC c (14 + w) v) 1 0) := by
  obtain ⟨h1, h2, h3, h4, h5⟩ := I
  have e0 : nS (uC (uC c (14 + w) v) 1 0) = nS c := (nS_u (by omega)).trans (nS_u (by omega))
  refine ⟨by rw [e0]; exact h1, fun z w0 w1 => ?_, fun z w0 w1 => ?_, ⟨?_, ?_⟩, fun z w0 w1 => ⟨?_, ?_⟩⟩
  · rw [e0] at w1
    unfold kdS uC
    rw [if_neg (by omega), if_neg (by omega)]
    exact h2 z w0 w1
  · unfold fxS uC
    rw [if_neg (by omega)]
    split
    · exact hv
    · exact h3 z w0 w1
  · show 0 ≤ uC _ 1 0 1
    unfold uC
    rw [if_pos rfl]
    omega
  · have : uC (uC c (14 + w) v) 1 0 1 = 0 := by
      unfold uC
      rw [if_pos rfl]
    rw [this]
    omega
  · rw [e0] at w0
    show uC (uC c (14 + w) v) 1 0 (2 + z) = 0
    unfold uC
    rw [if_neg (by omega), if_neg (by omega)]
    exact (h5 z w0 w1).1
  · rw [e0] at w0
    show uC (uC c (14 + w) v) 1 0 (14 + z) = 0
    unfold uC
    rw [if_neg (by omega), if_neg (by omega)]
    exact (h5 z w0 w1).2
theorem inv_opAdd {g : Sg} (I : InvS g) (p : Int) : InvS (opAdd g p).2.2 := by
  unfold opAdd
  split
  · exact I
  split
  · exact I
  · next a b => exact inv_set I (okS_add I.1 (by omega) b)
theorem inv_opChange {g : Sg} (I : InvS g) (w p : Int) : InvS (opChange g w p).2.2 := by
  unfold opChange
  split
  · exact I
  split
  · exact I
  · next a b => exact inv_set I (okS_chg I.1 (by omega) (by omega))
theorem inv_opWipe {g : Sg} (I : InvS g) (w : Int) : InvS (opWipe g w).2.2 := by
  unfold opWipe
  split
  · exact I
  · next a => exact inv_set I (okS_wip I.1 (by omega))
theorem inv_opLoosen {g : Sg} (I : InvS g) (w : Int) : InvS (opLoosen g w).2.2 := by
  unfold opLoosen
  split
  · exact I
  · next a => exact inv_set I (okS_fx I.1 (by omega) (by omega))
theorem inv_opFix {g : Sg} (I : InvS g) (w z : Int) : InvS (opFix g w z).2.2 := by
  unfold opFix
  have := I.1.1
  split
  · exact I
  split
  · exact I
  · next a b => exact inv_set I (okS_fx I.1 (by omega) (by omega))
theorem inv_opAppend {g : Sg} (I : InvS g) (z : Int) : InvS (opAppend g z).2.2 := by
  unfold opAppend
  split
  · exact I
  split
  · exact I
  · next a b =>
    obtain ⟨i1, i2, i3, i4, i5, i6, i7⟩ := I
    refine ⟨i1, i2, i3, i4, i5, by simp; omega, fun x hx => ?_⟩
    rcases List.mem_append.mp hx with hx | hx
    · exact i7 x hx
    · rw [List.mem_singleton.mp hx]; omega
theorem inv_opClear {g : Sg} (I : InvS g) : InvS (opClear g).2.2 := ⟨I.1, I.2.1, I.2.2.1, I.2.2.2.1, I.2.2.2.2.1, Nat.zero_le _, fun _ h => by cases h⟩
theorem inv_opKeep {g : Sg} (I : InvS g) (k : Int) : InvS (opKeep g k).2.2 := by
  obtain ⟨i1, i2, i3, i4, i5⟩ := I
  unfold opKeep
  split
  · exact ⟨i1, i2, fun c hc => by cases hc; exact i1, i4, i5⟩
  split
  · exact ⟨i1, i2, i3, fun c hc => by cases hc; exact i1, i5⟩
  · exact ⟨i1, i2, i3, i4, i5⟩
theorem inv_opBack {g : Sg} (I : InvS g) (k : Int) : InvS (opBack g k).2.2 := by
  unfold opBack
  split
  · split
    · exact I
    · next c hc => exact inv_set I (I.2.2.1 c hc)
  split
  · split
    · exact I
    · next c hc => exact inv_set I (I.2.2.2.1 c hc)
  · exact I
theorem inv_opUndo {g : Sg} (I : InvS g) : InvS (opUndo g).2.2 := by
  unfold opUndo
  split
  · exact I
  · next c hc =>
    obtain ⟨i1, i2, i3, i4, i5, i6⟩ := I
    exact ⟨i2 c (List.mem_of_getLast? hc), fun x hx => i2 x ((List.dropLast_sublist _).subset hx), i3, i4, by simp; omega, i6⟩
theorem inv_opDraw {g : Sg} (I : InvS g) (p : Int) : InvS (opDraw g p).2.2 := by
  unfold opDraw
  split
  · exact I
  · next a => exact inv_set I (okS_u1 I.1 (by omega) (by omega))
theorem inv_opLoad {g : Sg} (I : InvS g) : InvS (opLoad g).2.2 := by
  unfold opLoad
  split
  · exact I
  · next a =>
    have hr := erF_r (bfA g.2.2.2.2) g.2.2.2.2.length 12 0 (by omega) (by omega) (by omega)
    have he : erF (bfA g.2.2.2.2) g.2.2.2.2.length 12 0 = g.2.2.2.2.length := by
      have : erS g.2.2.2.2 = erF (bfA g.2.2.2.2) g.2.2.2.2.length 12 0 := rfl
      omega
    have := inv_set I (okS_lod (c := g.1) (bf := g.2.2.2.2) (by omega) (fun j j0 j1 => erF_all _ _ 12 0 (by omega) he j j0 j1))
    exact ⟨this.1, this.2.1, this.2.2.1, this.2.2.2.1, this.2.2.2.2.1, Nat.zero_le _, fun _ h => by cases h⟩
theorem bestF_r (f : Int → Int) : ∀ (m : Nat) (k b : Int), (bestF f m k b = b ∨ (k ≤ bestF f m k b ∧ bestF f m k b < k + m))
  | 0, k, b => Or.inl rfl
  | m + 1, k, b => by
    rw [bestF]
    split
    · have := bestF_r f m (k + 1) k
      omega
    · have := bestF_r f m (k + 1) b
      omega
theorem inv_opFlat {g : Sg} (I : InvS g) : InvS (opFlat g).2.2 := by
  unfold opFlat
  split
  · exact I
  · next a =>
    have := bestF_r (fun k => hgtS g.1 (lfA (lfS g.1) k)) ((lfS g.1).length - 1) 1 0
    have e : flS g.1 = bestF (fun k => hgtS g.1 (lfA (lfS g.1) k)) ((lfS g.1).length - 1) 1 0 := rfl
    exact inv_set I (okS_u1 I.1 (by omega) (by omega))
theorem inv_opWrite {g : Sg} (I : InvS g) : InvS (opWrite g).2.2 := by
  unfold opWrite
  split
  · exact I
  · next a =>
    obtain ⟨i1, i2, i3, i4, i5, i6, i7⟩ := I
    refine ⟨i1, i2, i3, i4, i5, ?_, fun x hx => ?_⟩
    · have := i1.1
      show (wrS g.1).length ≤ 20
      simp [wrS]
      omega
    · obtain ⟨w, -, rfl⟩ := List.mem_map.mp hx
      have := letF_r (kdS g.1 w)
      omega
end INV
