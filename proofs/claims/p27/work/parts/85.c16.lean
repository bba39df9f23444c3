section C16
set_option maxRecDepth 100000 in
set_option maxHeartbeats 800000 in
theorem c_X6_needKind {l : Launch} {d : Nat} {h : Hp} (hlt : l.stackTraces = false) {k : Int} (hk : inr k) (hd : 7 ≤ d := by omega) : CX l d 1 6 yX6_needKind cX6_needKind 2 (Option.none : Option Jvm.ClassFile.FieldType) [.ref 0, iv k] h (pV fun h1 => h1 = h ∧ (0 ≤ k ∧ k ≤ 6)) (fun E h1 => h1 = h ∧ E = IAE ∧ ¬ (0 ≤ k ∧ k ≤ 6)) := by
  refine CX.ofV (L := [some (.ref 0), some (.int (Int32.ofInt k))]) RX6 hlt (by decide +kernel) rfl (Nat.le_of_ble_eq_true rfl) rfl (fun X hX G Y E => ?_)
  subst hX
  refine V_iload1 G dX6_needKind_0 ?_
  refine V_iflt G dX6_needKind_1 (tgt := 10) (by decide) (by first | exact r _ _ | assumption | exact ⟨by omega, by omega⟩) (fun c_1 => ?_) (fun c_1 => ?_)
  ·
    exact V_throw G Y th_IAE dX6_needKind_10 dX6_needKind_13 dX6_needKind_14 dX6_needKind_16 dX6_needKind_19 (text := "no such kind") (by decide) ⟨rfl, rfl, by first | omega | assumption⟩ (by omega) (by omega) (by omega)
  ·
    refine V_iload1 G dX6_needKind_4 ?_
    refine V_bipush G dX6_needKind_5 (by decide) ?_
    refine V_icmplt G dX6_needKind_7 (tgt := 20) (by decide) (by first | exact r _ _ | assumption | exact ⟨by omega, by omega⟩) (by first | exact r _ _ | assumption | exact ⟨by omega, by omega⟩) (fun c_7 => ?_) (fun c_7 => ?_)
    ·
      exact V_retv E dX6_needKind_20 rfl ⟨rfl, ⟨rfl, by first | omega | assumption⟩⟩
    ·
      exact V_throw G Y th_IAE dX6_needKind_10 dX6_needKind_13 dX6_needKind_14 dX6_needKind_16 dX6_needKind_19 (text := "no such kind") (by decide) ⟨rfl, rfl, by first | omega | assumption⟩ (by omega) (by omega) (by omega)

set_option maxRecDepth 100000 in
set_option maxHeartbeats 800000 in
theorem c_X6_needAsked {l : Launch} {d : Nat} {h : Hp} (hlt : l.stackTraces = false) {k m : Int} (hk : inr k) (hm : inr m) (hd : 7 ≤ d := by omega) : CX l d 1 6 yX6_needAsked cX6_needAsked 3 (Option.none : Option Jvm.ClassFile.FieldType) [.ref 0, iv k, iv m] h (pV fun h1 => h1 = h ∧ (0 ≤ k ∧ k ≤ m)) (fun E h1 => h1 = h ∧ E = IAE ∧ ¬ (0 ≤ k ∧ k ≤ m)) := by
  refine CX.ofV (L := [some (.ref 0), some (.int (Int32.ofInt k)), some (.int (Int32.ofInt m))]) RX6 hlt (by decide +kernel) rfl (Nat.le_of_ble_eq_true rfl) rfl (fun X hX G Y E => ?_)
  subst hX
  refine V_iload1 G dX6_needAsked_0 ?_
  refine V_iflt G dX6_needAsked_1 (tgt := 9) (by decide) (by first | exact r _ _ | assumption | exact ⟨by omega, by omega⟩) (fun c_1 => ?_) (fun c_1 => ?_)
  ·
    exact V_throww G Y th_IAE dX6_needAsked_9 dX6_needAsked_12 dX6_needAsked_13 dX6_needAsked_16 dX6_needAsked_19 (text := "nothing is told by this number") (by decide) ⟨rfl, rfl, by first | omega | assumption⟩ (by omega) (by omega) (by omega)
  ·
    refine V_iload1 G dX6_needAsked_4 ?_
    refine V_iload2 G dX6_needAsked_5 ?_
    refine V_icmple G dX6_needAsked_6 (tgt := 20) (by decide) (by first | exact r _ _ | assumption | exact ⟨by omega, by omega⟩) (by first | exact r _ _ | assumption | exact ⟨by omega, by omega⟩) (fun c_6 => ?_) (fun c_6 => ?_)
    ·
      exact V_retv E dX6_needAsked_20 rfl ⟨rfl, ⟨rfl, by first | omega | assumption⟩⟩
    ·
      exact V_throww G Y th_IAE dX6_needAsked_9 dX6_needAsked_12 dX6_needAsked_13 dX6_needAsked_16 dX6_needAsked_19 (text := "nothing is told by this number") (by decide) ⟨rfl, rfl, by first | omega | assumption⟩ (by omega) (by omega) (by omega)

set_option maxRecDepth 100000 in
set_option maxHeartbeats 800000 in
theorem c_X6_needReading {l : Launch} {d : Nat} {h : Hp} (hlt : l.stackTraces = false) {k b : Int} (hk : inr k) (hb : hI h 0 4 = b) (hb0 : 0 ≤ b ∧ b ≤ 42) (hd : 7 ≤ d := by omega) : CX l d 1 6 yX6_needReading cX6_needReading 2 (Option.none : Option Jvm.ClassFile.FieldType) [.ref 0, iv k] h (pV fun h1 => h1 = h ∧ (0 ≤ k ∧ k < b)) (fun E h1 => h1 = h ∧ E = IOB ∧ ¬ (0 ≤ k ∧ k < b)) := by
  refine CX.ofV (L := [some (.ref 0), some (.int (Int32.ofInt k))]) RX6 hlt (by decide +kernel) rfl (Nat.le_of_ble_eq_true rfl) rfl (fun X hX G Y E => ?_)
  subst hX
  refine V_iload1 G dX6_needReading_0 ?_
  refine V_iflt G dX6_needReading_1 (tgt := 12) (by decide) (by first | exact r _ _ | assumption | exact ⟨by omega, by omega⟩) (fun c_1 => ?_) (fun c_1 => ?_)
  ·
    exact V_throww G Y th_IOB dX6_needReading_12 dX6_needReading_15 dX6_needReading_16 dX6_needReading_19 dX6_needReading_22 (text := "no such reading") (by decide) ⟨rfl, rfl, by first | omega | assumption⟩ (by omega) (by omega) (by omega)
  ·
    refine V_iload1 G dX6_needReading_4 ?_
    refine V_aload0 G dX6_needReading_5 ?_
    refine V_getIe (jz := 4) G fl_X6_34 dX6_needReading_6 (by first | decide | assumption) (by first | rfl | assumption) rfl rfl (by first | (simp only [hI_sI, hI_sL, hL_sI, hL_sL, false_and, true_and, and_false, and_true, and_self, if_false, if_true]; first | done | rfl) | rfl) ?_
    rw [hb]
    refine V_icmplt G dX6_needReading_9 (tgt := 23) (by decide) (by first | exact r _ _ | assumption | exact ⟨by omega, by omega⟩) (by first | exact r _ _ | assumption | exact ⟨by omega, by omega⟩) (fun c_9 => ?_) (fun c_9 => ?_)
    ·
      exact V_retv E dX6_needReading_23 rfl ⟨rfl, ⟨rfl, by first | omega | assumption⟩⟩
    ·
      exact V_throww G Y th_IOB dX6_needReading_12 dX6_needReading_15 dX6_needReading_16 dX6_needReading_19 dX6_needReading_22 (text := "no such reading") (by decide) ⟨rfl, rfl, by first | omega | assumption⟩ (by omega) (by omega) (by omega)

set_option maxRecDepth 100000 in
set_option maxHeartbeats 800000 in
theorem c_X6_needWord {l : Launch} {d : Nat} {h : Hp} (hlt : l.stackTraces = false) {w n : Int} (hw : inr w) (hn : hI h 1 2 = n) (hn0 : 0 ≤ n ∧ n ≤ 12) (hd : 7 ≤ d := by omega) : CX l d 1 6 yX6_needWord cX6_needWord 2 (Option.none : Option Jvm.ClassFile.FieldType) [.ref 0, iv w] h (pV fun h1 => h1 = h ∧ (0 ≤ w ∧ w < n)) (fun E h1 => h1 = h ∧ E = IOB ∧ ¬ (0 ≤ w ∧ w < n)) := by
  refine CX.ofV (L := [some (.ref 0), some (.int (Int32.ofInt w))]) RX6 hlt (by decide +kernel) rfl (Nat.le_of_ble_eq_true rfl) rfl (fun X hX G Y E => ?_)
  subst hX
  refine V_aload0 G dX6_needWord_0 ?_
  refine V_getR G fl_X6_12 dX6_needWord_1 (by first | decide | assumption) (by first | rfl | assumption) rfl (by first | rfl | assumption) ?_
  refine V_iload1 G dX6_needWord_4 ?_
  refine V_cV1i (d1 := 1) G m_X6_248 dX6_needWord_5 (by first | decide | assumption) (by first | rfl | assumption) (c_X4_has isSt_all.1 hn hn0 (w := w) (by assumption)) (by omega) (by omega) (by omega) (Nat.le_of_ble_eq_true rfl) (fun x_5 h_5 hp_5 => ?_)
  rw [hp_5.1, hp_5.2]
  refine V_ifneB G dX6_needWord_8 (tgt := 21) (by decide)  (fun c_8 => ?_) (fun c_8 => ?_)
  ·
    exact V_retv E dX6_needWord_21 rfl ⟨rfl, ⟨rfl, by first | omega | assumption⟩⟩
  ·
    exact V_throw G Y th_IOB dX6_needWord_11 dX6_needWord_14 dX6_needWord_15 dX6_needWord_17 dX6_needWord_20 (text := "no such word") (by decide) ⟨rfl, rfl, by first | omega | assumption⟩ (by omega) (by omega) (by omega)

set_option maxRecDepth 100000 in
set_option maxHeartbeats 800000 in
theorem c_X6_needHead {l : Launch} {d : Nat} {h : Hp} (hlt : l.stackTraces = false) {w z n : Int} (hw : inr w) (hz : inr z) (hn : hI h 1 2 = n) (hn0 : 0 ≤ n ∧ n ≤ 12) (hd : 7 ≤ d := by omega) : CX l d 1 6 yX6_needHead cX6_needHead 3 (Option.none : Option Jvm.ClassFile.FieldType) [.ref 0, iv w, iv z] h (pV fun h1 => h1 = h ∧ (-1 ≤ z ∧ z < n ∧ z ≠ w)) (fun E h1 => h1 = h ∧ E = IOB ∧ ¬ (-1 ≤ z ∧ z < n ∧ z ≠ w)) := by
  refine CX.ofV (L := [some (.ref 0), some (.int (Int32.ofInt w)), some (.int (Int32.ofInt z))]) RX6 hlt (by decide +kernel) rfl (Nat.le_of_ble_eq_true rfl) rfl (fun X hX G Y E => ?_)
  subst hX
  refine V_iload2 G dX6_needHead_0 ?_
  refine V_iload1 G dX6_needHead_1 ?_
  refine V_icmpeq G dX6_needHead_2 (tgt := 21) (by decide) (by first | exact r _ _ | assumption | exact ⟨by omega, by omega⟩) (by first | exact r _ _ | assumption | exact ⟨by omega, by omega⟩) (fun c_2 => ?_) (fun c_2 => ?_)
  ·
    exact V_throw G Y th_IOB dX6_needHead_21 dX6_needHead_24 dX6_needHead_25 dX6_needHead_27 dX6_needHead_30 (text := "no such head") (by decide) ⟨rfl, rfl, by first | omega | assumption⟩ (by omega) (by omega) (by omega)
  ·
    refine V_iload2 G dX6_needHead_5 ?_
    refine V_iconst G dX6_needHead_6 ?_
    refine V_icmpeq G dX6_needHead_7 (tgt := 31) (by decide) (by first | exact r _ _ | assumption | exact ⟨by omega, by omega⟩) (by first | exact r _ _ | assumption | exact ⟨by omega, by omega⟩) (fun c_7 => ?_) (fun c_7 => ?_)
    ·
      exact V_retv E dX6_needHead_31 rfl ⟨rfl, ⟨rfl, by first | omega | assumption⟩⟩
    ·
      refine V_aload0 G dX6_needHead_10 ?_
      refine V_getR G fl_X6_12 dX6_needHead_11 (by first | decide | assumption) (by first | rfl | assumption) rfl (by first | rfl | assumption) ?_
      refine V_iload2 G dX6_needHead_14 ?_
      refine V_cV1i (d1 := 1) G m_X6_248 dX6_needHead_15 (by first | decide | assumption) (by first | rfl | assumption) (c_X4_has isSt_all.1 hn hn0 (w := z) (by assumption)) (by omega) (by omega) (by omega) (Nat.le_of_ble_eq_true rfl) (fun x_15 h_15 hp_15 => ?_)
      rw [hp_15.1, hp_15.2]
      refine V_ifneB G dX6_needHead_18 (tgt := 31) (by decide)  (fun c_18 => ?_) (fun c_18 => ?_)
      ·
        exact V_retv E dX6_needHead_31 rfl ⟨rfl, ⟨rfl, by first | omega | assumption⟩⟩
      ·
        exact V_throw G Y th_IOB dX6_needHead_21 dX6_needHead_24 dX6_needHead_25 dX6_needHead_27 dX6_needHead_30 (text := "no such head") (by decide) ⟨rfl, rfl, by first | omega | assumption⟩ (by omega) (by omega) (by omega)

end C16
