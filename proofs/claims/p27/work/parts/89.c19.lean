section C19

theorem slC.put {h h1 : Hp} {k : Int} {q : Nat} {c : Cs} (S : StC h1 q c) (e1 : hI h1 75 k = 1) : slC h1 k q (some c) := ⟨e1, S⟩
theorem rep_sl {g : Sg} {h h1 : Hp} {s0 s1 : Option Cs} (R : RepC g h) (e : ∀ a j, ¬ (67 ≤ a ∧ a ≤ 75) → hI h1 a j = hI h a j) (eL : hL h1 = hL h) (eR : hR h1 = hR h) (B : SlC h1 s0 s1) : RepC (g.1, g.2.1, s0, s1, g.2.2.2.2) h1 ∧ eqC h h1 := by
  obtain ⟨P, W⟩ := R.2.1
  exact ⟨⟨R.1.eq (fun z j q => e z j (by omega)) (fun j => by rw [eL]), ⟨P, W.eq (fun z j q => e z j (by simp [SV] at q; omega)) (fun j => by rw [eR])⟩, B, R.2.2.2.eq (e 0 14 (by omega)) (fun j => e 76 j (by omega))⟩, fun a j q => e a j (by omega), fun a j q => by rw [eL]⟩

theorem slk {h h1 : Hp} {k : Int} {q : Nat} {s : Option Cs} (a : slC h k q s) (_ : q ≠ 75) (e : ∀ z j, z = q ∨ z = q + 1 ∨ z = q + 2 → hI h1 z j = hI h z j) (e2 : hI h1 75 k = hI h 75 k) : slC h1 k q s := by
  cases s with
  | none => exact e2.trans a
  | some c => exact ⟨e2.trans a.1, a.2.eq (fun z j q => e z j (by omega))⟩

theorem slk2 {h h1 : Hp} {s0 s1 : Option Cs} (a : SlC h s0 s1) (e : eqz SV noL h h1) : SlC h1 s0 s1 := a.eq (fun z j q => e.1 z j (by simp [SV]; omega)) (fun j => e.2.2 71 j (by decide))

theorem last_at {S : List Cs} {c : Cs} (h : S.getLast? = some c) : 0 < S.length ∧ S[S.length - 1]? = some c := by
  cases S with
  | nil => simp at h
  | cons a t => exact ⟨by simp, by rw [← List.getLast?_eq_getElem?]; exact h⟩
theorem last_no {S : List Cs} (h : S.getLast? = none) : S.length = 0 := by
  cases S with
  | nil => rfl
  | cons a t => simp at h

set_option maxRecDepth 100000 in
set_option maxHeartbeats 1600000 in
theorem c_X6_undo {l : Launch} {d : Nat} {h : Hp} (hlt : l.stackTraces = false) (r : Rg h) {g : Sg} (R : RepC g h) (I : InvS g) (hd : 36 ≤ d := by omega) : CX l d 1 6 yX6_undo cX6_undo 1 (Option.some Jvm.ClassFile.FieldType.int) [.ref 0] h (pI (opP (opUndo g) h)) (opX (opUndo g) ISE ISE h) := by
  refine CX.ofV (L := [some (.ref 0)]) RX6 hlt (by decide +kernel) rfl (Nat.le_of_ble_eq_true rfl) rfl (fun X hX G Y E => ?_)
  subst hX
  obtain ⟨S, RD, PT, LF, DR⟩ := R.1
  obtain ⟨P, W⟩ := R.2.1
  have i1 := I.1
  have hn0 := i1.1
  have hn := S.1
  have w3 := W.2.2.1
  have w4 := W.2.2.2.1
  rcases hs : g.2.1.getLast? with _ | c
  · have l0 := last_no hs
    refine V_aload0 G dX6_undo_0 ?_
    refine V_getIe (jz := 10) G fl_X6_63 dX6_undo_1 (by first | decide | assumption) (by first | rfl | assumption) rfl rfl w3 ?_
    refine V_ifne G dX6_undo_4 (tgt := 17) (by decide) (by first | exact r _ _ | assumption | exact ⟨by omega, by omega⟩) (fun c_4 => ?_) (fun c_4 => ?_)
    · omega
    ·
      exact V_throw G Y th_ISE dX6_undo_7 dX6_undo_10 dX6_undo_11 dX6_undo_13 dX6_undo_16 (text := "no saved state") (by decide) ⟨rfl, Or.inl ⟨by unfold opUndo; rw [hs], rfl⟩⟩ (by omega) (by omega) (by omega)
  · obtain ⟨l0, l1⟩ := last_at hs
    have ic : okS c := I.2.1 c (List.mem_of_getLast? hs)
    obtain ⟨x, x1, x2⟩ := W.2.2.2.2 _ c l1
    have xm := W.1.mem_iff.mp (List.mem_of_getElem? x1)
    have xr := sv6_r x xm
    have w5 : hI (sI h 0 10 ((g.2.1.length : Int) - 1)) 0 10 = ((g.2.1.length - 1 : Nat) : Int) := by rw [hI_sI, if_pos ⟨rfl, rfl⟩]; omega
    have a1 : eqz SV noL h (sI h 0 10 ((g.2.1.length : Int) - 1)) := eqz.rf.st (by rfl)
    have W2 : SvC (sI h 0 10 ((g.2.1.length : Int) - 1)) P g.2.1.dropLast := by
      refine ⟨W.1, ⟨by rw [hI_sI, if_neg (by omega)]; exact W.2.1.1, W.2.1.2⟩, by rw [w5]; simp, by simp; omega, fun i e he => ?_⟩
      have il := (List.getElem?_eq_some_iff.mp he).1
      simp at il
      rw [List.getElem?_dropLast, if_pos (by omega)] at he
      obtain ⟨p, p1, p2⟩ := W.2.2.2.2 i e he
      have pr := sv6_r p (W.1.mem_iff.mp (List.mem_of_getElem? p1))
      exact ⟨p, p1, p2.eq (fun z j q => by rw [hI_sI, if_neg (by omega)])⟩
    refine V_aload0 G dX6_undo_0 ?_
    refine V_getIe (jz := 10) G fl_X6_63 dX6_undo_1 (by first | decide | assumption) (by first | rfl | assumption) rfl rfl w3 ?_
    refine V_ifne G dX6_undo_4 (tgt := 17) (by decide) (by first | exact r _ _ | assumption | exact ⟨by omega, by omega⟩) (fun c_4 => ?_) (fun c_4 => ?_)
    ·
      refine V_aload0 G dX6_undo_17 ?_
      refine V_dup G dX6_undo_18 rfl ?_
      refine V_getIe (jz := 10) G fl_X6_63 dX6_undo_19 (by first | decide | assumption) (by first | rfl | assumption) rfl rfl w3 ?_
      refine V_iconst G dX6_undo_22 ?_
      refine V_isub G dX6_undo_23 ?_
      refine V_putI (jz := 10) G fw_X6_63 dX6_undo_24 (by first | decide | assumption) (by first | rfl | assumption) rfl rfl ?_
      refine V_aload0 G dX6_undo_27 ?_
      refine V_getR G fl_X6_59 dX6_undo_28 (by first | decide | assumption) (by first | rfl | assumption) rfl (by first | rfl | assumption) ?_
      refine V_aload0 G dX6_undo_31 ?_
      refine V_getIe (jz := 10) G fl_X6_63 dX6_undo_32 (by first | decide | assumption) (by first | rfl | assumption) rfl rfl rfl ?_
      rw [w5]
      refine V_aload0 G dX6_undo_35 ?_
      refine V_getR G fl_X6_12 dX6_undo_36 (by first | decide | assumption) (by first | rfl | assumption) rfl (by first | rfl | assumption) ?_
      refine V_cV2v (d1 := 16) G m_X6_189 dX6_undo_39 (by first | decide | assumption) (by first | rfl | assumption) (c_X5_copyTo isSs_all.1 (r.sI ⟨by omega, by omega⟩) W2.2.1 x1 (sv6_st x xm) isSt_all.1 (by omega) (x2.eq (fun z j q => by rw [hI_sI, if_neg (by omega)])) ic.1) (by omega) (by omega) (by omega) (Nat.le_of_ble_eq_true rfl) (fun h_39 hp_39 => ?_)
      obtain ⟨d1, d2, d3⟩ := hp_39
      have b1 : eqx S13 (sI h 0 10 ((g.2.1.length : Int) - 1)) h_39 := d1.mono (fun a j q => by simp [S13] at q; simp [Sst]; omega)
      refine V_aload0 G dX6_undo_42 ?_
      refine V_cV0v (d1 := 23) G m_X6_192 dX6_undo_43 (by first | decide | assumption) (by first | rfl | assumption) (c_X6_tellReadings d2 ic d3 (zrk PT a1 b1)) (by omega) (by omega) (by omega) (Nat.le_of_ble_eq_true rfl) (fun h_43 hp_43 => ?_)
      obtain ⟨e1, e2, e3⟩ := hp_43
      have fs := fin_sen R a1 W2 b1 (e1.mono (fun a j q => by simp [SB1] at q; simp [SBd]; omega)) e3
      have w6 : hI h_43 0 10 = (g.2.1.length : Int) - 1 := by
        rw [e1.1 0 10 (by decide), b1.1 0 10 (by decide), w5]
        omega
      refine V_aload0 G dX6_undo_46 ?_
      refine V_getIe (jz := 10) G fl_X6_63 dX6_undo_47 (by first | decide | assumption) (by first | rfl | assumption) rfl rfl w6 ?_
      exact V_reti E dX6_undo_50 rfl rfl ⟨_, rfl, ⟨by unfold opUndo; rw [hs], by unfold opUndo; rw [hs], by unfold opUndo; rw [hs]; exact fs.1, e2, fs.2⟩⟩
    · omega

end C19
