
section M11
def uC (c : Cs) (k v : Int) : Cs := fun j => if j = k then v else c j
/-- what a call answers over the abstract state -/
noncomputable def opAdd (g : Sg) (p : Int) : Rs :=
  if ¬ (0 ≤ p ∧ p ≤ 6) then (1, 0, g) else if nS g.1 = 12 then (2, 0, g) else
  (0, (AS (begS (uC (uC g.1 (2 + nS g.1) p) 0 (nS g.1 + 1)))).length, (begS (uC (uC g.1 (2 + nS g.1) p) 0 (nS g.1 + 1)), savL g.2.1 g.1, g.2.2))
noncomputable def opChange (g : Sg) (w p : Int) : Rs :=
  if ¬ (0 ≤ w ∧ w < nS g.1) then (1, 0, g) else if ¬ (0 ≤ p ∧ p ≤ 6) then (2, 0, g) else
  (0, (AS (begS (uC g.1 (2 + w) p))).length, (begS (uC g.1 (2 + w) p), savL g.2.1 g.1, g.2.2))
def wipeC (c : Cs) (w : Int) : Cs := fun j => if j = 0 then nS c - 1 else if 2 + w ≤ j ∧ j < 2 + (nS c - 1) then c (j + 1) else if j = 2 + (nS c - 1) then 0 else c j
noncomputable def opWipe (g : Sg) (w : Int) : Rs :=
  if ¬ (0 ≤ w ∧ w < nS g.1) then (1, 0, g) else
  (0, (AS (begS (wipeC g.1 w))).length, (begS (wipeC g.1 w), savL g.2.1 g.1, g.2.2))
noncomputable def opLoosen (g : Sg) (w : Int) : Rs :=
  if ¬ (0 ≤ w ∧ w < nS g.1) then (1, 0, g) else
  (0, (lfS (uC (uC g.1 (14 + w) 0) 1 0)).length, (uC (uC g.1 (14 + w) 0) 1 0, savL g.2.1 g.1, g.2.2))
def opAppend (g : Sg) (z : Int) : Rs :=
  if ¬ (33 ≤ z ∧ z ≤ 126) then (1, 0, g) else if g.2.2.2.2.length = 20 then (2, 0, g) else
  (0, g.2.2.2.2.length + 1, (g.1, g.2.1, g.2.2.1, g.2.2.2.1, g.2.2.2.2 ++ [z]))
def opClear (g : Sg) : Rs := (0, g.2.2.2.2.length, (g.1, g.2.1, g.2.2.1, g.2.2.2.1, []))
def opKeep (g : Sg) (k : Int) : Rs :=
  if k = 0 then (0, nS g.1, (g.1, g.2.1, some g.1, g.2.2.2.1, g.2.2.2.2)) else if k = 1 then (0, nS g.1, (g.1, g.2.1, g.2.2.1, some g.1, g.2.2.2.2)) else (1, 0, g)
def opBack (g : Sg) (k : Int) : Rs :=
  if k = 0 then (match g.2.2.1 with | none => (2, 0, g) | some c => (0, nS c, (c, savL g.2.1 g.1, g.2.2))) else if k = 1 then (match g.2.2.2.1 with | none => (2, 0, g) | some c => (0, nS c, (c, savL g.2.1 g.1, g.2.2))) else (1, 0, g)
def opUndo (g : Sg) : Rs := match g.2.1.getLast? with
  | none => (1, 0, g)
  | some c => (0, (g.2.1.length : Int) - 1, (c, g.2.1.dropLast, g.2.2))
/-- what holds behind a call -/
def aft (o : Rs) (x : Int) (h h1 : Hp) : Prop := eqx SM h h1 ∧ Rg h1 ∧ ores o x h1
theorem RepM.n {g : Sg} {h : Hp} (R : RepM g h) : hI h 78 0 = nS g.1 := by
  have := R.1 0 (by omega) (by omega)
  rwa [Int.zero_add] at this
theorem RepM.at' {g : Sg} {h : Hp} (R : RepM g h) {j : Int} (j1 : 0 ≤ j) (j2 : j < 26) : hI h 78 j = g.1 j := by
  have := R.1 j j1 j2
  rwa [Int.zero_add] at this
theorem aft_fail {g : Sg} {h h0 : Hp} {t : Int} (e : eqx SM h h0) (r : Rg h0) (R : RepM g h0) (ht : t ≠ 0) (hr : inr t) : aft (t, 0, g) 0 h (sI h0 77 0 t) := ⟨e.st rfl, r.sI hr, by simp [hI_sI], R.thr, fun z => absurd z ht⟩
/-- the current state written anew -/
theorem RepM.cur {g : Sg} {h h1 : Hp} {c : Cs} (R : RepM g h) (e : eqx (fun q _ => q == 78) h h1) (hc : ∀ j, 0 ≤ j → j < 26 → hI h1 78 j = c j) : RepM (c, g.2) h1 :=
  ⟨fun j j1 j2 => by rw [Int.zero_add]; exact hc j j1 j2, (e.1 77 3 rfl).trans R.2.1, fun i v hv => (R.2.2.1 i v hv).eq (fun j => e.1 79 j rfl), R.2.2.2.1.eq (fun j => e.1 81 j rfl) (fun j => e.1 80 j rfl), R.2.2.2.2.1.eq (fun j => e.1 81 j rfl) (fun j => e.1 80 j rfl), (e.1 77 7 rfl).trans R.2.2.2.2.2.1, fun i z hz => (e.1 82 _ rfl).trans (R.2.2.2.2.2.2 i z hz)⟩
theorem S79_SM {h h1 : Hp} (e : eqx (fun q j => q == 79 || (q == 77 && j == 3)) h h1) : eqx SM h h1 := e.mono (fun q j z => by
  simp [SM] at z
  simp
  omega)
theorem S78_SM {h h1 : Hp} (e : eqx (fun q _ => q == 78) h h1) : eqx SM h h1 := e.mono (fun q j z => by
  simp [SM] at z
  simp
  omega)

set_option maxRecDepth 100000 in
set_option maxHeartbeats 4000000 in
theorem c_X7_add {l : Launch} {d : Nat} {h : Hp} (r : Rg h) {g : Sg} (T : RdsOk) (R : RepM g h) (I : okS g.1) (hl6 : g.2.1.length ≤ 6) {p : Int} (hp : inr p) (hd : 8 ≤ d := by omega) : CP l d 0 0 yX7_add cX7_add 2 (Option.some Jvm.ClassFile.FieldType.int) [.ref 77, iv p] h (pI fun x h1 => aft (opAdd g p) x h h1) := by
  refine CP.ofV (L := [some (.ref 77), some (.int (Int32.ofInt p))]) RX7 (by decide +kernel) rfl (Nat.le_of_ble_eq_true rfl) rfl (fun X hX G E => ?_)
  subst hX
  have r0 : Rg (sI h 77 0 0) := r.sI ⟨by decide, by decide⟩
  have R0 : RepM g (sI h 77 0 0) := R.thr
  have e0 : eqx SM h (sI h 77 0 0) := eqx.rf.st rfl
  have hn := R0.n
  have hn0 := I.1
  refine V_aload0 G dX7_add_0 ?_
  refine V_iconst G dX7_add_1 ?_
  refine V_putI (jz := 0) G fw_X7_68 dX7_add_2 (by first | decide | assumption) (by first | rfl | assumption) rfl rfl ?_
  refine V_iload1 G dX7_add_5 ?_
  refine V_iconst G dX7_add_6 ?_
  refine V_bipush G dX7_add_7 (by decide) ?_
  refine V_cS3i (d1 := 1) G m_X7_72 dX7_add_9 (c_X7_in (v := p) (a := 0) (b := 6) hp ⟨by decide, by decide⟩ ⟨by decide, by decide⟩) (by omega) (by omega) (by omega) (Nat.le_of_ble_eq_true rfl) (fun x_9 h_9 hp_9 => ?_)
  rw [hp_9.1, hp_9.2]
  refine V_ifneB G dX7_add_12 (tgt := 21) (by decide)  (fun c_12 => ?_) (fun c_12 => ?_)
  ·
    refine V_aload0 G dX7_add_21 ?_
    refine V_getR G fl_X7_7 dX7_add_22 (by first | decide | assumption) (by first | rfl | assumption) rfl (by first | rfl | assumption) ?_
    refine V_iconst G dX7_add_25 ?_
    refine V_ialde G dX7_add_26 (by first | decide | assumption) (by first | rfl | assumption) (by decide) ⟨by omega, by omega⟩ (by first | (simp only [hI_sI, hI_sL, hL_sI, hL_sL, false_and, true_and, and_false, and_true, and_self, if_false, if_true, hn, hn39]; first | done | rfl) | (simp only [hI_sI, hI_sL, hL_sI, hL_sL, false_and, true_and, and_false, and_true, and_self, if_false, if_true, hn]; first | done | rfl) | rfl) ?_
    refine V_bipush G dX7_add_27 (by decide) ?_
    refine V_icmpne G dX7_add_29 (tgt := 38) (by decide) (by first | exact r _ _ | assumption | exact ⟨by omega, by omega⟩) (by first | exact r _ _ | assumption | exact ⟨by omega, by omega⟩) (fun c_29 => ?_) (fun c_29 => ?_)
    ·
      refine V_aload0 G dX7_add_38 ?_
      refine V_cV0v (d1 := 1) G m_X7_193 dX7_add_39 (by first | decide | assumption) (by first | rfl | assumption) (c_X7_saves r0 R0 hl6) (by omega) (by omega) (by omega) (Nat.le_of_ble_eq_true rfl) (fun h_39 hp_39 => ?_)
      obtain ⟨z1, z2, z3⟩ := hp_39
      have hn39 := z3.n
      dsimp only at hn39
      have r := z2
      refine V_aload0 G dX7_add_42 ?_
      refine V_getR G fl_X7_7 dX7_add_43 (by first | decide | assumption) (by first | rfl | assumption) rfl (by first | rfl | assumption) ?_
      refine V_iconst G dX7_add_46 ?_
      refine V_aload0 G dX7_add_47 ?_
      refine V_getR G fl_X7_7 dX7_add_48 (by first | decide | assumption) (by first | rfl | assumption) rfl (by first | rfl | assumption) ?_
      refine V_iconst G dX7_add_51 ?_
      refine V_ialde G dX7_add_52 (by first | decide | assumption) (by first | rfl | assumption) (by decide) ⟨by omega, by omega⟩ (by first | (simp only [hI_sI, hI_sL, hL_sI, hL_sL, false_and, true_and, and_false, and_true, and_self, if_false, if_true, hn, hn39]; first | done | rfl) | (simp only [hI_sI, hI_sL, hL_sI, hL_sL, false_and, true_and, and_false, and_true, and_self, if_false, if_true, hn]; first | done | rfl) | rfl) ?_
      refine V_iadd G dX7_add_53 ?_
      refine V_iload1 G dX7_add_54 ?_
      refine V_iast G dX7_add_55 (by first | decide | assumption) (by first | rfl | assumption) (by decide) ⟨by omega, by omega⟩ ?_
      refine V_aload0 G dX7_add_56 ?_
      refine V_getR G fl_X7_7 dX7_add_57 (by first | decide | assumption) (by first | rfl | assumption) rfl (by first | rfl | assumption) ?_
      refine V_iconst G dX7_add_60 ?_
      refine V_dup2 G dX7_add_61 rfl rfl ?_
      refine V_ialde G dX7_add_62 (by first | decide | assumption) (by first | rfl | assumption) (by decide) ⟨by omega, by omega⟩ (show hI _ 78 0 = nS g.1 by rw [hI_sI, if_neg (by omega)]; exact hn39) ?_
      refine V_iconst G dX7_add_63 ?_
      refine V_iadd G dX7_add_64 ?_
      refine V_iast G dX7_add_65 (by first | decide | assumption) (by first | rfl | assumption) (by decide) ⟨by omega, by omega⟩ ?_
      refine V_aload0 G dX7_add_66 ?_
      have e67 : eqx (fun q _ => q == 78) h_39 (sI (sI h_39 78 (2 + nS g.1) p) 78 0 (nS g.1 + 1)) := (eqx.rf.st rfl).st rfl
      have R67 := z3.cur e67 (c := uC (uC g.1 (2 + nS g.1) p) 0 (nS g.1 + 1)) (fun j j1 j2 => by
        have := z3.at' j1 j2
        dsimp only at this
        unfold uC
        simp only [hI_sI, true_and]
        by_cases q1 : j = 0
        · rw [if_pos q1, if_pos q1]
        · rw [if_neg q1, if_neg q1]
          by_cases q2 : j = 2 + nS g.1
          · rw [if_pos q2, if_pos q2]
          · rw [if_neg q2, if_neg q2]; exact this)
      refine V_cV0i (d1 := 7) G m_X7_196 dX7_add_67 (by first | decide | assumption) (by first | rfl | assumption) (c_X7_begins (g := (uC (uC g.1 (2 + nS g.1) p) 0 (nS g.1 + 1), savL g.2.1 g.1, g.2.2)) ((z2.sI hp).sI ⟨by omega, by omega⟩) T R67 (by show 0 ≤ nS g.1 + 1 ∧ nS g.1 + 1 ≤ 12; omega) (fun w w1 w2 => by
    have w2 : w < nS g.1 + 1 := w2
    show 0 ≤ uC (uC g.1 (2 + nS g.1) p) 0 (nS g.1 + 1) (2 + w) ∧ uC (uC g.1 (2 + nS g.1) p) 0 (nS g.1 + 1) (2 + w) ≤ 6
    unfold uC
    rw [if_neg (by omega)]
    by_cases q2 : 2 + w = 2 + nS g.1
    · rw [if_pos q2]; exact c_12
    · rw [if_neg q2]; exact I.2.1 w w1 (by omega))) (by omega) (by omega) (by omega) (Nat.le_of_ble_eq_true rfl) (fun x_67 h_67 hp_67 => ?_)
      obtain ⟨y1, y2, y3, y4, y5⟩ := hp_67
      exact V_reti E dX7_add_70 rfl rfl ⟨_, rfl, by
    unfold opAdd
    rw [if_neg (fun z => z c_12), if_neg (by omega)]
    exact ⟨(e0.tr (S79_SM z1)).tr ((S78_SM e67).tr y1), y2, (y5.trans (e67.1 77 0 rfl)).trans ((z1.1 77 0 rfl).trans (by simp [hI_sI])), y4, fun _ => y3⟩⟩
    ·
      refine V_aload0 G dX7_add_32 ?_
      refine V_iconst G dX7_add_33 ?_
      refine V_cV1i (d1 := 1) G m_X7_190 dX7_add_34 (by first | decide | assumption) (by first | rfl | assumption) (c_X7_fails) (by omega) (by omega) (by omega) (Nat.le_of_ble_eq_true rfl) (fun x_34 h_34 hp_34 => ?_)
      rw [hp_34.1, hp_34.2]
      exact V_reti E dX7_add_37 rfl rfl ⟨_, rfl, by unfold opAdd; rw [if_neg (fun z => z c_12), if_pos (by omega)]; exact aft_fail e0 r0 R0 (by decide) ⟨by decide, by decide⟩⟩
  ·
    refine V_aload0 G dX7_add_15 ?_
    refine V_iconst G dX7_add_16 ?_
    refine V_cV1i (d1 := 1) G m_X7_190 dX7_add_17 (by first | decide | assumption) (by first | rfl | assumption) (c_X7_fails) (by omega) (by omega) (by omega) (Nat.le_of_ble_eq_true rfl) (fun x_17 h_17 hp_17 => ?_)
    rw [hp_17.1, hp_17.2]
    exact V_reti E dX7_add_20 rfl rfl ⟨_, rfl, by unfold opAdd; rw [if_pos c_12]; exact aft_fail e0 r0 R0 (by decide) ⟨by decide, by decide⟩⟩

end M11
