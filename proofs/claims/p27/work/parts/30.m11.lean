
section M11
def uC (c : Cs) (k v : Int) : Cs := fun j => if j = k then v else c j
/-- what a call answers over the abstract state -/
noncomputable def opAdd (g : Sg) (p : Int) : Rs :=
  if ¬ (0 ≤ p ∧ p ≤ 6) then (1, 0, g) else if nS g.1 = 12 then (2, 0, g) else
  (0, (AS (begS (uC (uC g.1 (2 + nS g.1) p) 0 (nS g.1 + 1)))).length, (begS (uC (uC g.1 (2 + nS g.1) p) 0 (nS g.1 + 1)), savL g.2.1 g.1, g.2.2))
noncomputable def opChange (g : Sg) (w p : Int) : Rs :=
  if ¬ (0 ≤ w ∧ w < nS g.1) then (1, 0, g) else if ¬ (0 ≤ p ∧ p ≤ 6) then (2, 0, g) else
  (0, (AS (begS (uC g.1 (2 + w) p))).length, (begS (uC g.1 (2 + w) p), savL g.2.1 g.1, g.2.2))
def wipeC (c : Cs) (w : Int) : Cs := fun j => if j = 0 then nS c - 1 else if 2 + w ≤ j ∧ j < 2 + (nS c - 1) then c (j + 1) else if j = 2 + (nS c - 1) then 0 else c j
noncomputable def opWipe (g : Sg) (w : Int) : Rs :=
  if ¬ (0 ≤ w ∧ w < nS g.1) then (1, 0, g) else
  (0, (AS (begS (wipeC g.1 w))).length, (begS (wipeC g.1 w), savL g.2.1 g.1, g.2.2))
noncomputable def opLoosen (g : Sg) (w : Int) : Rs :=
  if ¬ (0 ≤ w ∧ w < nS g.1) then (1, 0, g) else
  (0, (lfS (uC (uC g.1 (14 + w) 0) 1 0)).length, (uC (uC g.1 (14 + w) 0) 1 0, savL g.2.1 g.1, g.2.2))
def opAppend (g : Sg) (z : Int) : Rs :=
  if ¬ (33 ≤ z ∧ z ≤ 126) then (1, 0, g) else if g.2.2.2.2.length = 20 then (2, 0, g) else
  (0, g.2.2.2.2.length + 1, (g.1, g.2.1, g.2.2.1, g.2.2.2.1, g.2.2.2.2 ++ [z]))
def opClear (g : Sg) : Rs := (0, g.2.2.2.2.length, (g.1, g.2.1, g.2.2.1, g.2.2.2.1, []))
def opKeep (g : Sg) (k : Int) : Rs :=
  if k = 0 then (0, nS g.1, (g.1, g.2.1, some g.1, g.2.2.2.1, g.2.2.2.2)) else if k = 1 then (0, nS g.1, (g.1, g.2.1, g.2.2.1, some g.1, g.2.2.2.2)) else (1, 0, g)
def opBack (g : Sg) (k : Int) : Rs :=
  if k = 0 then (match g.2.2.1 with | none => (2, 0, g) | some c => (0, nS c, (c, savL g.2.1 g.1, g.2.2))) else if k = 1 then (match g.2.2.2.1 with | none => (2, 0, g) | some c => (0, nS c, (c, savL g.2.1 g.1, g.2.2))) else (1, 0, g)
def opUndo (g : Sg) : Rs := match g.2.1.getLast? with
  | none => (1, 0, g)
  | some c => (0, (g.2.1.length : Int) - 1, (c, g.2.1.dropLast, g.2.2))
/-- what holds behind a call -/
def aft (o : Rs) (x : Int) (h h1 : Hp) : Prop := eqx SM h h1 ∧ Rg h1 ∧ ores o x h1
theorem RepM.n {g : Sg} {h : Hp} (R : RepM g h) : hI h 78 0 = nS g.1 := by
  have := R.1 0 (by omega) (by omega)
  rwa [Int.zero_add] at this
theorem RepM.at' {g : Sg} {h : Hp} (R : RepM g h) {j : Int} (j1 : 0 ≤ j) (j2 : j < 26) : hI h 78 j = g.1 j := by
  have := R.1 j j1 j2
  rwa [Int.zero_add] at this
theorem aft_fail {g : Sg} {h h0 : Hp} {t : Int} (e : eqx SM h h0) (r : Rg h0) (R : RepM g h0) (ht : t ≠ 0) (hr : inr t) : aft (t, 0, g) 0 h (sI h0 77 0 t) := ⟨e.st rfl, r.sI hr, by simp [hI_sI], R.thr, fun z => absurd z ht⟩
/-- the current state written anew -/
theorem RepM.cur {g : Sg} {h h1 : Hp} {c : Cs} (R : RepM g h) (e : eqx (fun q _ => q == 78) h h1) (hc : ∀ j, 0 ≤ j → j < 26 → hI h1 78 j = c j) : RepM (c, g.2) h1 :=
  ⟨fun j j1 j2 => by rw [Int.zero_add]; exact hc j j1 j2, (e.1 77 3 rfl).trans R.2.1, fun i v hv => (R.2.2.1 i v hv).eq (fun j => e.1 79 j rfl), R.2.2.2.1.eq (fun j => e.1 81 j rfl) (fun j => e.1 80 j rfl), R.2.2.2.2.1.eq (fun j => e.1 81 j rfl) (fun j => e.1 80 j rfl), (e.1 77 7 rfl).trans R.2.2.2.2.2.1, fun i z hz => (e.1 82 _ rfl).trans (R.2.2.2.2.2.2 i z hz)⟩
theorem S79_SM {h h1 : Hp} (e : eqx (fun q j => q == 79 || (q == 77 && j == 3)) h h1) : eqx SM h h1 := e.mono (fun q j z => by
  simp [SM] at z
  simp
  omega)
theorem S78_SM {h h1 : Hp} (e : eqx (fun q _ => q == 78) h h1) : eqx SM h h1 := e.mono (fun q j z => by
  simp [SM] at z
  simp
  omega)

end M11
