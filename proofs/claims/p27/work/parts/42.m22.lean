section M22

def z2l (x : Int) : Int64 := (Int32.ofInt x).toInt64
def hF (f : Int → Int64) : Nat → Int → Int64 → Int64
  | 0, _, a => a
  | m + 1, k, a => hF f m (k + 1) (31 * a + f k)
/-- as eqx, the digest's cell left aside -/
def eqy (S : Nat → Int → Bool) (h h' : Hp) : Prop := (∀ q j, S q j = false → hI h' q j = hI h q j) ∧ (∀ q j, ¬ (q = 77 ∧ j = 25) → hL h' q j = hL h q j) ∧ hR h' = hR h
theorem eqx.y {S : Nat → Int → Bool} {h h1 : Hp} (e : eqx S h h1) : eqy S h h1 := ⟨e.1, fun q j _ => by rw [e.2.1], e.2.2⟩
theorem eqy.tr {S : Nat → Int → Bool} {h h1 h2 : Hp} (a : eqy S h h1) (b : eqy S h1 h2) : eqy S h h2 := ⟨fun q j e => (b.1 q j e).trans (a.1 q j e), fun q j e => (b.2.1 q j e).trans (a.2.1 q j e), b.2.2.trans a.2.2⟩
theorem eqy.sl {S : Nat → Int → Bool} {h h1 : Hp} {v : Int64} (a : eqy S h h1) : eqy S h (sL h1 77 25 v) := ⟨a.1, fun q j e => by rw [hL_sL, if_neg e]; exact a.2.1 q j e, a.2.2⟩
def ptF (kd : Int → Int) : Nat → Int → Int64 → Int64
  | 0, _, a => a
  | m + 1, w, a => ptF kd m (w + 1) (hF (fun q => z2l (dp kd (ptT q) 0 (w + 1))) 5 0 a)
theorem sL_sL {h : Hp} {q : Nat} {j : Int} {v w : Int64} : sL (sL h q j v) q j w = sL h q j w := by
  unfold sL
  congr 2
  funext a b
  show (if a = q ∧ b = j then w else if a = q ∧ b = j then v else h.2.1 a b) = if a = q ∧ b = j then w else h.2.1 a b
  split <;> rfl

/-- within a digest: the reference's cells, as they were laid -/
def DG (g : Sg) (h f : Hp) (a : Int64) : Prop := Rg f ∧ RepM g f ∧ LaidM g.1 f ∧ eqy SM h f ∧ hI f 77 0 = 0 ∧ hL f 77 25 = a
theorem DG.st {g : Sg} {h f : Hp} {a v : Int64} (d : DG g h f a) : DG g h (sL f 77 25 (31 * hL f 77 25 + v)) (31 * a + v) := by
  obtain ⟨d1, d2, d3, d4, d5, d6⟩ := d
  exact ⟨d1, d2.eq (fun _ _ _ => rfl), d3.eq (fun _ _ _ => rfl), d4.sl, d5, by rw [hL_sL, if_pos ⟨rfl, rfl⟩, d6]⟩
theorem DG.dp {g : Sg} {h f f1 : Hp} {a : Int64} (d : DG g h f a) (e : eqx SDP f f1) (r : Rg f1) : DG g h f1 a := by
  obtain ⟨d1, d2, d3, d4, d5, d6⟩ := d
  exact ⟨r, d2.sdp e, d3.eq (fun q j z => e.1 q j (by unfold SDP; simp; omega)), d4.tr (SDP_SM e).y, (e.1 77 0 rfl).trans d5, by rw [e.2.1]; exact d6⟩
noncomputable def dg1 (g : Sg) : Int64 := hF (fun q => z2l (cntS g q)) 9 0 3407
noncomputable def dg2 (g : Sg) : Int64 := hF (fun k => z2l (wordS g.1 (k / 8) (k % 8))) (8 * nS g.1).toNat 0 (dg1 g)
noncomputable def dg3 (g : Sg) : Int64 := hF (fun k => z2l (readS g.1 (k / 6) (k % 6))) (min (6 * ((lfS g.1).length : Int)) 60).toNat 0 (dg2 g)
noncomputable def dg4 (g : Sg) : Int64 := ptF (kdS g.1) (nS g.1).toNat 0 (dg3 g)
noncomputable def dg5 (g : Sg) : Int64 := 31 * (31 * (31 * dg4 g + z2l (askS g.1)) + z2l (addS g.1)) + (shS g.1).toInt64
def slB (s : Option Cs) : Int64 := match s with
  | none => 0
  | some _ => 1
noncomputable def dg6 (g : Sg) : Int64 := 31 * (31 * (31 * dg5 g + slB g.2.2.1) + slB g.2.2.2.1) + z2l g.2.2.2.2.length
noncomputable def digS (g : Sg) : Int64 := hF (fun k => z2l (lfA g.2.2.2.2 k)) g.2.2.2.2.length 0 (dg6 g)
theorem slB_at {h : Hp} {k : Int} {s : Option Cs} (a : sAt h k s) : (hI h 81 k = 0 ∧ slB s = 0) ∨ (hI h 81 k = 1 ∧ slB s = 1) := by
  cases s with
  | none => exact Or.inl ⟨a, rfl⟩
  | some c => exact Or.inr ⟨a.1, rfl⟩


theorem rd_buf {g : Sg} {h : Hp} (R : RepM g h) {k : Int} (h0 : 0 ≤ k) (h1 : k < g.2.2.2.2.length) : hI h 82 k = lfA g.2.2.2.2 k := by
  obtain ⟨z, hz⟩ : ∃ z, g.2.2.2.2[k.toNat]? = some z := ⟨_, List.getElem?_eq_getElem (by omega)⟩
  have := R.2.2.2.2.2.2 k.toNat z hz
  rw [show ((k.toNat : Nat) : Int) = k by omega] at this
  rw [this]
  unfold lfA
  rw [hz]
  rfl

end M22
