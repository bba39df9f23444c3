section M20

def plc (t : Nat) : Nat := match t with
  | 0 => 94
  | 1 => 91
  | 2 => 95
  | 3 => 92
  | 4 => 93
  | _ => 96
def spP (h : Hp) (kd : Int → Int) (n : Int) (p : Nat → Int → Int → Prop) : Prop := ∀ t, t ≤ 5 → ∀ a b, 0 ≤ a → a ≤ b → b ≤ n → p t a b → hI h (plc t) (13 * a + b) = dp kd t a b
theorem spP.put {h : Hp} {kd : Int → Int} {n i j : Int} {p p' : Nat → Int → Int → Prop} (u : spP h kd n p) (t0 : Nat) (ht : t0 ≤ 5) (hn : n ≤ 12) (hi : 0 ≤ i) (hij : i ≤ j) (hj : j ≤ n) (hp : ∀ t, t ≤ 5 → ∀ a b, 0 ≤ a → a ≤ b → b ≤ n → p' t a b → p t a b ∨ (t = t0 ∧ a = i ∧ b = j)) : spP (sI h (plc t0) (13 * i + j) (dp kd t0 i j)) kd n p' := by
  intro t ht2 a b ha hab hb q
  rw [hI_sI]
  by_cases e : t = t0 ∧ a = i ∧ b = j
  · obtain ⟨rfl, rfl, rfl⟩ := e
    rw [if_pos ⟨rfl, rfl⟩]
  · rw [if_neg]
    · rcases hp t ht2 a b ha hab hb q with z | z
      · exact u t ht2 a b ha hab hb z
      · exact absurd z e
    · rintro ⟨z1, z2⟩
      apply e
      have : a = i ∧ b = j := by omega
      refine ⟨?_, this⟩
      exact (by decide : ∀ t < 6, ∀ t0 < 6, plc t = plc t0 → t = t0) t (by omega) t0 (by omega) z1
theorem dp50 {kd : Int → Int} {n : Int} (e : n = 0) : 0 = dp kd 5 0 n := by
  subst e
  rw [dp_5 (by omega)]
  rfl
theorem hkst {h : Hp} {kd : Int → Int} {n : Int} {q : Nat} {j v : Int} (hk : ∀ w, 0 ≤ w → w < n → hI h 78 (2 + w) = kd w ∧ 0 ≤ kd w ∧ kd w ≤ 6) (hq : q ≠ 78) : ∀ w, 0 ≤ w → w < n → hI (sI h q j v) 78 (2 + w) = kd w ∧ 0 ≤ kd w ∧ kd w ≤ 6 := fun w h1 h2 => by
  rw [hI_sI, if_neg (fun z => hq z.1.symm)]
  exact hk w h1 h2
theorem spP.mono {h : Hp} {kd : Int → Int} {n : Int} {p p' : Nat → Int → Int → Prop} (u : spP h kd n p) (hp : ∀ t a b, p' t a b → p t a b) : spP h kd n p' := fun t ht a b h1 h2 h3 q => u t ht a b h1 h2 h3 (hp t a b q)
def SDP (q : Nat) (_ : Int) : Bool := decide (91 ≤ q ∧ q ≤ 96)
theorem SDP_SM {h h1 : Hp} (e : eqx SDP h h1) : eqx SM h h1 := e.mono (fun q j z => by
  simp [SM] at z
  simp [SDP]
  omega)

def ptT (q : Int) : Nat := if q = 0 then 3 else if q = 1 then 4 else if q = 2 then 0 else if q = 3 then 5 else 2
def partS (c : Cs) (i j q : Int) : Int := dp (kdS c) (ptT q) i j
def opPart (g : Sg) (i j q : Int) : Rs := if ¬ (0 ≤ i ∧ i < j ∧ j ≤ nS g.1) then (1, 0, g) else if ¬ (0 ≤ q ∧ q ≤ 4) then (2, 0, g) else (0, partS g.1 i j q, g)

theorem RepM.hk {g : Sg} {h : Hp} (R : RepM g h) (I : okS g.1) : ∀ w, 0 ≤ w → w < nS g.1 → hI h 78 (2 + w) = kdS g.1 w ∧ 0 ≤ kdS g.1 w ∧ kdS g.1 w ≤ 6 := fun w h1 h2 => ⟨R.kd I w h1 h2, I.2.1 w h1 h2⟩
theorem RepM.sdp {g : Sg} {h h1 : Hp} (R : RepM g h) (e : eqx SDP h h1) : RepM g h1 := R.eq (fun q j z => e.1 q j (by unfold SDP; simp; omega))

noncomputable def fwS (c : Cs) : Int := sumF (fun k => if 0 < fxS c k then 1 else 0) (nS c).toNat 0
noncomputable def cntS (g : Sg) (q : Int) : Int :=
  if q = 0 then nS g.1 else if q = 1 then (AS g.1).length else if q = 2 then dp (kdS g.1) 5 0 (nS g.1) else if q = 3 then (lfS g.1).length
  else if q = 4 then (if (lfS g.1).length = 0 then -1 else g.1 1) else if q = 5 then fwS g.1 else if q = 6 then wwS g.1 1 else if q = 7 then (if (lfS g.1).length = 0 then 0 else hgtS g.1 (drS g.1)) else g.2.1.length
noncomputable def opCount (g : Sg) (q : Int) : Rs := if ¬ (0 ≤ q ∧ q ≤ 8) then (1, 0, g) else (0, cntS g q, g)
end M20
