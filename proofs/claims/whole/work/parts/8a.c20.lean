section C20
set_option maxRecDepth 100000 in
set_option maxHeartbeats 1600000 in
theorem c_X6_wordOf {l : Launch} {d : Nat} {h : Hp} (hlt : l.stackTraces = false) (r : Rg h) {g : Sg} (R : RepC g h) (I : InvS g) {w q : Int} (hw : inr w) (hq : inr q) (hd : 40 ≤ d := by omega) : CX l d 2 12 yX6_wordOf cX6_wordOf 3 (Option.some Jvm.ClassFile.FieldType.int) [.ref 0, iv w, iv q] h (pI (opP (opWord g w q) h)) (opX (opWord g w q) IOB IAE h) := by
  refine CX.ofV (L := [some (.ref 0), some (.int (Int32.ofInt w)), some (.int (Int32.ofInt q))]) RX6 hlt (by decide +kernel) rfl (Nat.le_of_ble_eq_true rfl) rfl (fun X hX G Y E => ?_)
  subst hX
  obtain ⟨S, RD, PT, LF, DR⟩ := R.1
  obtain ⟨P, W⟩ := R.2.1
  have i1 := I.1
  have hn0 := i1.1
  have hn := S.1
  refine V_aload0 G dX6_wordOf_0 ?_
  refine V_iload1 G dX6_wordOf_1 ?_
  refine V_xV1v (d1 := 13) (kc1 := 1) (ks1 := 6) G Y m_X6_102 dX6_wordOf_2 (by first | decide | assumption) (by first | rfl | assumption) (c_X6_needWord hlt hw hn hn0) (fun E h1 q => ⟨q.1, Or.inl ⟨by unfold opWord; rw [if_pos q.2.2], q.2.1⟩⟩) (by omega) (by omega) (by omega) (Nat.le_of_ble_eq_true rfl) (fun h_2 hp_2 => ?_)
  obtain ⟨e_2, b_2⟩ := hp_2
  rw [e_2]
  refine V_aload0 G dX6_wordOf_5 ?_
  refine V_iload2 G dX6_wordOf_6 ?_
  refine V_bipush G dX6_wordOf_7 (by decide) ?_
  refine V_xV2v (d1 := 13) (kc1 := 1) (ks1 := 6) G Y m_X6_197 dX6_wordOf_9 (by first | decide | assumption) (by first | rfl | assumption) (c_X6_needAsked hlt hq (m := 7) ⟨by decide, by decide⟩) (fun E h1 q => ⟨q.1, Or.inr ⟨by unfold opWord; rw [if_neg (fun z => z b_2), if_pos q.2.2], q.2.1⟩⟩) (by omega) (by omega) (by omega) (Nat.le_of_ble_eq_true rfl) (fun h_9 hp_9 => ?_)
  obtain ⟨e_9, b_9⟩ := hp_9
  rw [e_9]
  refine V_aload0 G dX6_wordOf_12 ?_
  refine V_iload1 G dX6_wordOf_13 ?_
  refine V_iload2 G dX6_wordOf_14 ?_
  refine V_cV2i (d1 := 4) G m_X6_200 dX6_wordOf_15 (by first | decide | assumption) (by first | rfl | assumption) (c_X6_wordProperty i1 R.1 (w := w) (q := q) b_2 b_9) (by omega) (by omega) (by omega) (Nat.le_of_ble_eq_true rfl) (fun x_15 h_15 hp_15 => ?_)
  rw [hp_15.1, hp_15.2]
  exact V_reti E dX6_wordOf_18 rfl rfl ⟨_, rfl, ⟨by unfold opWord; rw [if_neg (fun z => z b_2), if_neg (fun z => z b_9)], by unfold opWord; rw [if_neg (fun z => z b_2), if_neg (fun z => z b_9)], by unfold opWord; rw [if_neg (fun z => z b_2), if_neg (fun z => z b_9)]; exact R, r, eqC.rf⟩⟩

set_option maxRecDepth 100000 in
set_option maxHeartbeats 1600000 in
theorem c_X6_readingOf {l : Launch} {d : Nat} {h : Hp} (hlt : l.stackTraces = false) (r : Rg h) {g : Sg} (R : RepC g h) (I : InvS g) {p q : Int} (hp : inr p) (hq : inr q) (hd : 40 ≤ d := by omega) : CX l d 2 12 yX6_readingOf cX6_readingOf 3 (Option.some Jvm.ClassFile.FieldType.int) [.ref 0, iv p, iv q] h (pI (opP (opRead g p q) h)) (opX (opRead g p q) IOB IAE h) := by
  refine CX.ofV (L := [some (.ref 0), some (.int (Int32.ofInt p)), some (.int (Int32.ofInt q))]) RX6 hlt (by decide +kernel) rfl (Nat.le_of_ble_eq_true rfl) rfl (fun X hX G Y E => ?_)
  subst hX
  obtain ⟨S, RD, PT, LF, DR⟩ := R.1
  obtain ⟨P, W⟩ := R.2.1
  have i1 := I.1
  have hn0 := i1.1
  have hn := S.1
  have ll := lfS_len i1
  refine V_aload0 G dX6_readingOf_0 ?_
  refine V_iload1 G dX6_readingOf_1 ?_
  refine V_xV1v (d1 := 13) (kc1 := 1) (ks1 := 6) G Y m_X6_127 dX6_readingOf_2 (by first | decide | assumption) (by first | rfl | assumption) (c_X6_needReading hlt hp LF.1 ⟨by omega, by omega⟩) (fun E h1 q => ⟨q.1, Or.inl ⟨by unfold opRead; rw [if_pos q.2.2], q.2.1⟩⟩) (by omega) (by omega) (by omega) (Nat.le_of_ble_eq_true rfl) (fun h_2 hp_2 => ?_)
  obtain ⟨e_2, b_2⟩ := hp_2
  rw [e_2]
  refine V_aload0 G dX6_readingOf_5 ?_
  refine V_iload2 G dX6_readingOf_6 ?_
  refine V_iconst G dX6_readingOf_7 ?_
  refine V_xV2v (d1 := 13) (kc1 := 1) (ks1 := 6) G Y m_X6_197 dX6_readingOf_8 (by first | decide | assumption) (by first | rfl | assumption) (c_X6_needAsked hlt hq (m := 5) ⟨by decide, by decide⟩) (fun E h1 q => ⟨q.1, Or.inr ⟨by unfold opRead; rw [if_neg (fun z => z b_2), if_pos q.2.2], q.2.1⟩⟩) (by omega) (by omega) (by omega) (Nat.le_of_ble_eq_true rfl) (fun h_8 hp_8 => ?_)
  obtain ⟨e_8, b_8⟩ := hp_8
  rw [e_8]
  refine V_aload0 G dX6_readingOf_11 ?_
  refine V_iload1 G dX6_readingOf_12 ?_
  refine V_iload2 G dX6_readingOf_13 ?_
  refine V_cV2i (d1 := 22) G m_X6_203 dX6_readingOf_14 (by first | decide | assumption) (by first | rfl | assumption) (c_X6_readingProperty r i1 R.1 (p := p) (q := q) b_2 b_8) (by omega) (by omega) (by omega) (Nat.le_of_ble_eq_true rfl) (fun x_14 h_14 hp_14 => ?_)
  obtain ⟨x0, x1, x2⟩ := hp_14
  have fs := rep_oth R x1
  exact V_reti E dX6_readingOf_17 rfl rfl ⟨_, rfl, ⟨by unfold opRead; rw [if_neg (fun z => z b_2), if_neg (fun z => z b_8)], by unfold opRead; rw [if_neg (fun z => z b_2), if_neg (fun z => z b_8)]; exact x0, by unfold opRead; rw [if_neg (fun z => z b_2), if_neg (fun z => z b_8)]; exact fs.1, x2, fs.2⟩⟩

set_option maxRecDepth 100000 in
set_option maxHeartbeats 1600000 in
theorem c_X6_count {l : Launch} {d : Nat} {h : Hp} (hlt : l.stackTraces = false) (r : Rg h) {g : Sg} (R : RepC g h) (I : InvS g) {q : Int} (hq : inr q) (hd : 40 ≤ d := by omega) : CX l d 1 6 yX6_count cX6_count 2 (Option.some Jvm.ClassFile.FieldType.int) [.ref 0, iv q] h (pI (opP (opCount g q) h)) (opX (opCount g q) IAE ISE h) := by
  refine CX.ofV (L := [some (.ref 0), some (.int (Int32.ofInt q))]) RX6 hlt (by decide +kernel) rfl (Nat.le_of_ble_eq_true rfl) rfl (fun X hX G Y E => ?_)
  subst hX
  obtain ⟨S, RD, PT, LF, DR⟩ := R.1
  obtain ⟨P, W⟩ := R.2.1
  have i1 := I.1
  have hn0 := i1.1
  have hn := S.1
  refine V_aload0 G dX6_count_0 ?_
  refine V_iload1 G dX6_count_1 ?_
  refine V_bipush G dX6_count_2 (by decide) ?_
  refine V_xV2v (d1 := 13) (kc1 := 1) (ks1 := 6) G Y m_X6_197 dX6_count_4 (by first | decide | assumption) (by first | rfl | assumption) (c_X6_needAsked hlt hq (m := 8) ⟨by decide, by decide⟩) (fun E h1 q => ⟨q.1, Or.inl ⟨by unfold opCount; rw [if_pos q.2.2], q.2.1⟩⟩) (by omega) (by omega) (by omega) (Nat.le_of_ble_eq_true rfl) (fun h_4 hp_4 => ?_)
  obtain ⟨e_4, b_4⟩ := hp_4
  rw [e_4]
  refine V_aload0 G dX6_count_7 ?_
  refine V_iload1 G dX6_count_8 ?_
  refine V_cV1i (d1 := 5) G m_X6_206 dX6_count_9 (by first | decide | assumption) (by first | rfl | assumption) (c_X6_number r i1 R.1 W.2.2.1 (q := q) b_4) (by omega) (by omega) (by omega) (Nat.le_of_ble_eq_true rfl) (fun x_9 h_9 hp_9 => ?_)
  rw [hp_9.1, hp_9.2]
  exact V_reti E dX6_count_12 rfl rfl ⟨_, rfl, ⟨by unfold opCount; rw [if_neg (fun z => z b_4)], by unfold opCount; rw [if_neg (fun z => z b_4)], by unfold opCount; rw [if_neg (fun z => z b_4)]; exact R, r, eqC.rf⟩⟩

set_option maxRecDepth 100000 in
set_option maxHeartbeats 1600000 in
theorem c_X6_part {l : Launch} {d : Nat} {h : Hp} (hlt : l.stackTraces = false) (r : Rg h) {g : Sg} (R : RepC g h) (I : InvS g) {i j q : Int} (hi : inr i) (hj : inr j) (hq : inr q) (hd : 40 ≤ d := by omega) : CX l d 1 6 yX6_part cX6_part 4 (Option.some Jvm.ClassFile.FieldType.int) [.ref 0, iv i, iv j, iv q] h (pI (opP (opPart g i j q) h)) (opX (opPart g i j q) IOB IAE h) := by
  refine CX.ofV (L := [some (.ref 0), some (.int (Int32.ofInt i)), some (.int (Int32.ofInt j)), some (.int (Int32.ofInt q))]) RX6 hlt (by decide +kernel) rfl (Nat.le_of_ble_eq_true rfl) rfl (fun X hX G Y E => ?_)
  subst hX
  obtain ⟨S, RD, PT, LF, DR⟩ := R.1
  obtain ⟨P, W⟩ := R.2.1
  have i1 := I.1
  have hn0 := i1.1
  have hn := S.1
  refine V_iload1 G dX6_part_0 ?_
  refine V_iflt G dX6_part_1 (tgt := 20) (by decide) (by first | exact r _ _ | assumption | exact ⟨by omega, by omega⟩) (fun c_1 => ?_) (fun c_1 => ?_)
  ·
    exact V_throw G Y th_IOB dX6_part_20 dX6_part_23 dX6_part_24 dX6_part_26 dX6_part_29 (text := "no such part") (by decide) ⟨rfl, Or.inl ⟨by unfold opPart; rw [if_pos (by omega)], rfl⟩⟩ (by omega) (by omega) (by omega)
  ·
    refine V_iload2 G dX6_part_4 ?_
    refine V_iload1 G dX6_part_5 ?_
    refine V_icmple G dX6_part_6 (tgt := 20) (by decide) (by first | exact r _ _ | assumption | exact ⟨by omega, by omega⟩) (by first | exact r _ _ | assumption | exact ⟨by omega, by omega⟩) (fun c_6 => ?_) (fun c_6 => ?_)
    ·
      exact V_throw G Y th_IOB dX6_part_20 dX6_part_23 dX6_part_24 dX6_part_26 dX6_part_29 (text := "no such part") (by decide) ⟨rfl, Or.inl ⟨by unfold opPart; rw [if_pos (by omega)], rfl⟩⟩ (by omega) (by omega) (by omega)
    ·
      refine V_iload2 G dX6_part_9 ?_
      refine V_aload0 G dX6_part_10 ?_
      refine V_getR G fl_X6_12 dX6_part_11 (by first | decide | assumption) (by first | rfl | assumption) rfl (by first | rfl | assumption) ?_
      refine V_cV0i (d1 := 1) G m_X6_82 dX6_part_14 (by first | decide | assumption) (by first | rfl | assumption) (c_X4_size isSt_all.1) (by omega) (by omega) (by omega) (Nat.le_of_ble_eq_true rfl) (fun x_14 h_14 hp_14 => ?_)
      rw [show x_14 = nS g.1 from hp_14.1.trans hn, hp_14.2]
      refine V_icmple G dX6_part_17 (tgt := 30) (by decide) (by first | exact r _ _ | assumption | exact ⟨by omega, by omega⟩) (by first | exact r _ _ | assumption | exact ⟨by omega, by omega⟩) (fun c_17 => ?_) (fun c_17 => ?_)
      ·
        refine V_aload0 G dX6_part_30 ?_
        refine V_iload3 G dX6_part_31 ?_
        refine V_iconst G dX6_part_32 ?_
        refine V_xV2v (d1 := 13) (kc1 := 1) (ks1 := 6) G Y m_X6_197 dX6_part_33 (by first | decide | assumption) (by first | rfl | assumption) (c_X6_needAsked hlt hq (m := 4) ⟨by decide, by decide⟩) (fun E h1 q => ⟨q.1, Or.inr ⟨by unfold opPart; rw [if_neg (show ¬ ¬ (0 ≤ i ∧ i < j ∧ j ≤ nS g.1) by omega), if_pos q.2.2], q.2.1⟩⟩) (by omega) (by omega) (by omega) (Nat.le_of_ble_eq_true rfl) (fun h_33 hp_33 => ?_)
        obtain ⟨e_33, b_33⟩ := hp_33
        rw [e_33]
        refine V_aload0 G dX6_part_36 ?_
        refine V_getR G fl_X6_26 dX6_part_37 (by first | decide | assumption) (by first | rfl | assumption) rfl (by first | rfl | assumption) ?_
        refine V_iload1 G dX6_part_40 ?_
        refine V_iload2 G dX6_part_41 ?_
        refine V_iload3 G dX6_part_42 ?_
        refine V_cV3i (d1 := 2) G m_X6_214 dX6_part_43 (by first | decide | assumption) (by first | rfl | assumption) (c_X2_ways r hn0 PT.2 (i := i) (j := j) (q := q) (by omega) (by omega) (by omega) b_33 (Or.inl (by omega))) (by omega) (by omega) (by omega) (Nat.le_of_ble_eq_true rfl) (fun x_43 h_43 hp_43 => ?_)
        rw [hp_43.1, hp_43.2]
        exact V_reti E dX6_part_46 rfl rfl ⟨_, rfl, ⟨by unfold opPart; rw [if_neg (show ¬ ¬ (0 ≤ i ∧ i < j ∧ j ≤ nS g.1) by omega), if_neg (fun z => z b_33)], by unfold opPart; rw [if_neg (show ¬ ¬ (0 ≤ i ∧ i < j ∧ j ≤ nS g.1) by omega), if_neg (fun z => z b_33)]; rfl, by unfold opPart; rw [if_neg (show ¬ ¬ (0 ≤ i ∧ i < j ∧ j ≤ nS g.1) by omega), if_neg (fun z => z b_33)]; exact R, r, eqC.rf⟩⟩
      ·
        exact V_throw G Y th_IOB dX6_part_20 dX6_part_23 dX6_part_24 dX6_part_26 dX6_part_29 (text := "no such part") (by decide) ⟨rfl, Or.inl ⟨by unfold opPart; rw [if_pos (by omega)], rfl⟩⟩ (by omega) (by omega) (by omega)

set_option maxRecDepth 100000 in
set_option maxHeartbeats 1600000 in
theorem c_X6_ifFixed {l : Launch} {d : Nat} {h : Hp} (hlt : l.stackTraces = false) (r : Rg h) {g : Sg} (R : RepC g h) (I : InvS g) {w z : Int} (hw : inr w) (hz : inr z) (hd : 40 ≤ d := by omega) : CX l d 2 12 yX6_ifFixed cX6_ifFixed 3 (Option.some Jvm.ClassFile.FieldType.int) [.ref 0, iv w, iv z] h (pI (opP (opIf g w z) h)) (opX (opIf g w z) IOB ISE h) := by
  refine CX.ofV (L := [some (.ref 0), some (.int (Int32.ofInt w)), some (.int (Int32.ofInt z))]) RX6 hlt (by decide +kernel) rfl (Nat.le_of_ble_eq_true rfl) rfl (fun X hX G Y E => ?_)
  subst hX
  obtain ⟨S, RD, PT, LF, DR⟩ := R.1
  obtain ⟨P, W⟩ := R.2.1
  have i1 := I.1
  have hn0 := i1.1
  have hn := S.1
  refine V_aload0 G dX6_ifFixed_0 ?_
  refine V_iload1 G dX6_ifFixed_1 ?_
  refine V_xV1v (d1 := 13) (kc1 := 1) (ks1 := 6) G Y m_X6_102 dX6_ifFixed_2 (by first | decide | assumption) (by first | rfl | assumption) (c_X6_needWord hlt hw hn hn0) (fun E h1 q => ⟨q.1, Or.inl ⟨by unfold opIf; rw [if_pos (Or.inl q.2.2)], q.2.1⟩⟩) (by omega) (by omega) (by omega) (Nat.le_of_ble_eq_true rfl) (fun h_2 hp_2 => ?_)
  obtain ⟨e_2, b_2⟩ := hp_2
  rw [e_2]
  refine V_aload0 G dX6_ifFixed_5 ?_
  refine V_iload1 G dX6_ifFixed_6 ?_
  refine V_iload2 G dX6_ifFixed_7 ?_
  refine V_xV2v (d1 := 13) (kc1 := 1) (ks1 := 6) G Y m_X6_112 dX6_ifFixed_8 (by first | decide | assumption) (by first | rfl | assumption) (c_X6_needHead hlt hw hz hn hn0) (fun E h1 q => ⟨q.1, Or.inl ⟨by unfold opIf; rw [if_pos (Or.inr q.2.2)], q.2.1⟩⟩) (by omega) (by omega) (by omega) (Nat.le_of_ble_eq_true rfl) (fun h_8 hp_8 => ?_)
  obtain ⟨e_8, b_8⟩ := hp_8
  rw [e_8]
  refine V_aload0 G dX6_ifFixed_11 ?_
  refine V_iload1 G dX6_ifFixed_12 ?_
  refine V_iload2 G dX6_ifFixed_13 ?_
  refine V_cV2i (d1 := 4) G m_X6_115 dX6_ifFixed_14 (by first | decide | assumption) (by first | rfl | assumption) (c_X6_leftIf i1 S RD (w := w) (hd1 := z) b_2 hz) (by omega) (by omega) (by omega) (Nat.le_of_ble_eq_true rfl) (fun x_14 h_14 hp_14 => ?_)
  rw [hp_14.1, hp_14.2]
  exact V_reti E dX6_ifFixed_17 rfl rfl ⟨_, rfl, ⟨by unfold opIf; rw [if_neg (fun q => q.elim (fun z => z b_2) (fun z => z b_8))], by unfold opIf; rw [if_neg (fun q => q.elim (fun z => z b_2) (fun z => z b_8))], by unfold opIf; rw [if_neg (fun q => q.elim (fun z => z b_2) (fun z => z b_8))]; exact R, r, eqC.rf⟩⟩

set_option maxRecDepth 100000 in
set_option maxHeartbeats 1600000 in
theorem c_X6_question {l : Launch} {d : Nat} {h : Hp} (r : Rg h) {g : Sg} (R : RepC g h) (I : InvS g) (hd : 40 ≤ d := by omega) : CP l d 0 0 yX6_question cX6_question 1 (Option.some Jvm.ClassFile.FieldType.int) [.ref 0] h (pI (opP (opAsk g) h)) := by
  refine CP.ofV (L := [some (.ref 0)]) RX6 (by decide +kernel) rfl (Nat.le_of_ble_eq_true rfl) rfl (fun X hX G E => ?_)
  subst hX
  refine V_aload0 G dX6_question_0 ?_
  refine V_cV0i (d1 := 6) G m_X6_218 dX6_question_1 (by first | decide | assumption) (by first | rfl | assumption) (c_X6_bestQuestion I.1 R.1) (by omega) (by omega) (by omega) (Nat.le_of_ble_eq_true rfl) (fun x_1 h_1 hp_1 => ?_)
  rw [hp_1.1, hp_1.2]
  exact V_reti E dX6_question_4 rfl rfl ⟨_, rfl, ⟨rfl, rfl, R, r, eqC.rf⟩⟩

theorem rep_nx {g : Sg} {h h1 : Hp} (R : RepC g h) (e : eqw SK LK h h1) : RepC g h1 ∧ eqC h h1 := by
  obtain ⟨P, W⟩ := R.2.1
  exact rep_done (c := g.1) (sv := g.2.1) R (e.z (fun a j q => by simp [SA] at q; simp [SK]; omega) (fun a q => by simp [LA] at q; simp [LK]; omega)) (R.1.eq (fun z j q => e.1 z j (by simp [SK]; omega)) (fun j => e.2.1 5 j rfl)) ⟨P, W.eq (fun z j q => e.1 z j (by simp [SV] at q; simp [SK]; omega)) (fun j => by rw [e.2.2])⟩

set_option maxRecDepth 100000 in
set_option maxHeartbeats 1600000 in
theorem c_X6_next {l : Launch} {d : Nat} {h : Hp} (r : Rg h) {g : Sg} (R : RepC g h) (I : InvS g) (hd : 40 ≤ d := by omega) : CP l d 0 0 yX6_next cX6_next 1 (Option.some Jvm.ClassFile.FieldType.int) [.ref 0] h (pI (opP (opNext g) h)) := by
  refine CP.ofV (L := [some (.ref 0)]) RX6 (by decide +kernel) rfl (Nat.le_of_ble_eq_true rfl) rfl (fun X hX G E => ?_)
  subst hX
  refine V_aload0 G dX6_next_0 ?_
  refine V_cV0i (d1 := 22) G m_X6_221 dX6_next_1 (by first | decide | assumption) (by first | rfl | assumption) (c_X6_kindsToAdd r I.1 R.1.1) (by omega) (by omega) (by omega) (Nat.le_of_ble_eq_true rfl) (fun x_1 h_1 hp_1 => ?_)
  obtain ⟨x0, x1, x2⟩ := hp_1
  have fs := rep_nx R x1
  exact V_reti E dX6_next_4 rfl rfl ⟨_, rfl, ⟨rfl, x0, fs.1, x2, fs.2⟩⟩

set_option maxRecDepth 100000 in
set_option maxHeartbeats 1600000 in
theorem c_X6_sureShare {l : Launch} {d : Nat} {h : Hp} (r : Rg h) {g : Sg} (R : RepC g h) (I : InvS g) (hd : 40 ≤ d := by omega) : CP l d 0 0 yX6_sureShare cX6_sureShare 1 (Option.some Jvm.ClassFile.FieldType.double) [.ref 0] h (pD fun x h1 => x = shS g.1 ∧ h1 = h) := by
  refine CP.ofV (L := [some (.ref 0)]) RX6 (by decide +kernel) rfl (Nat.le_of_ble_eq_true rfl) rfl (fun X hX G E => ?_)
  subst hX
  refine V_aload0 G dX6_sureShare_0 ?_
  refine V_cV0d (d1 := 4) G m_X6_224 dX6_sureShare_1 (by first | decide | assumption) (by first | rfl | assumption) (c_X6_share I.1 R.1.1 R.1.2.1 R.1.2.2.2.1) (by omega) (by omega) (by omega) (Nat.le_of_ble_eq_true rfl) (fun x_1 h_1 hp_1 => ?_)
  rw [hp_1.1, hp_1.2]
  exact V_retd E dX6_sureShare_4 rfl ⟨_, rfl, ⟨rfl, rfl⟩⟩


theorem rep_gen {g : Sg} {h h1 : Hp} {c : Cs} {sv : List Cs} {bf : List Int} (R : RepC g h) (e : ∀ a j, SA a j = false → ¬ (a = 0 ∧ j = 14) → hI h1 a j = hI h a j) (eL : ∀ a j, LA a = false → hL h1 a j = hL h a j) (eR : ∀ a j, a ≠ 50 → hR h1 a j = hR h a j) (B : BodyC h1 c) (S : ∃ P, SvC h1 P sv) (F : BfC h1 bf) : RepC (c, sv, g.2.2.1, g.2.2.2.1, bf) h1 ∧ eqC h h1 :=
  ⟨⟨B, S, R.2.2.1.eq (fun z j q => e z j (SA_0 (by omega)) (by omega)) (fun j => eR 71 j (by omega)), F⟩, fun a j q => e a j (SA_0 (by omega)) (by omega), fun a j q => eL a j (LA_0 (by omega))⟩

set_option maxRecDepth 100000 in
set_option maxHeartbeats 1600000 in
theorem c_X6_load {l : Launch} {d : Nat} {h : Hp} (hlt : l.stackTraces = false) (r : Rg h) {g : Sg} (R : RepC g h) (I : InvS g) (hd : 40 ≤ d := by omega) : CX l d 1 6 yX6_load cX6_load 2 (Option.some Jvm.ClassFile.FieldType.int) [.ref 0] h (pI (opP (opLoad g) h)) (opX (opLoad g) IAE ISE h) := by
  refine CX.ofV (L := [some (.ref 0), none]) RX6 hlt (by decide +kernel) rfl (Nat.le_of_ble_eq_true rfl) rfl (fun X hX G Y E => ?_)
  subst hX
  obtain ⟨S, RD, PT, LF, DR⟩ := R.1
  obtain ⟨P, W⟩ := R.2.1
  have i1 := I.1
  have hn0 := i1.1
  have hn := S.1
  have B := R.2.2.2
  have B0 := B.1
  have b20 := I.2.2.2.2.2.1
  have er := erF_r (bfA g.2.2.2.2) g.2.2.2.2.length 12 0 (by omega) (by omega) (by omega)
  have ee : erS g.2.2.2.2 = erF (bfA g.2.2.2.2) g.2.2.2.2.length 12 0 := rfl
  have lp : ∀ (m : Nat) (k : Int) (hs gg : Hp), k + m = g.2.2.2.2.length → 0 ≤ k → (g.2.2.2.2.length : Int) ≤ 12 → erS g.2.2.2.2 = g.2.2.2.2.length → g.2.2.2.2.length ≠ 0 → eqz SV noL h hs → (∃ P1, SvC hs P1 (savL g.2.1 g.1)) → eqx S13 hs gg → Rg gg → hI gg 1 2 = k → (∀ w, 0 ≤ w → w < k → hI gg 2 w = knF (bfA g.2.2.2.2 w)) → V X 0 0 41 [some (.ref 0), some (iv k)] [] gg := by
    intro m
    induction m with
    | zero =>
      intro k hs gg hm hk h12 her hne a1 a3 b1 rg hz hw
      have e0 : k = g.2.2.2.2.length := by omega
      have gb : hI gg 0 14 = (g.2.2.2.2.length : Int) := (b1.1 0 14 (by decide)).trans ((a1.1 0 14 (by decide)).trans B0)
      have b2 : eqx S13 hs gg := b1
      have okl := okS_lod (c := g.1) (bf := g.2.2.2.2) (by omega) (fun j j0 j1 => erF_all _ _ 12 0 (by omega) (ee.symm.trans her) j j0 j1)
      have nl : nS (loadC g.1 g.2.2.2.2) = g.2.2.2.2.length := by unfold nS loadC; rw [if_pos rfl]
      obtain ⟨P1, a3⟩ := a3
      refine V_iload1 G dX6_load_41 ?_
      refine V_aload0 G dX6_load_42 ?_
      refine V_getIe (jz := 14) G fl_X6_76 dX6_load_43 (by first | decide | assumption) (by first | rfl | assumption) rfl rfl gb ?_
      refine V_icmpge G dX6_load_46 (tgt := 70) (by decide) (by first | exact r _ _ | assumption | exact ⟨by omega, by omega⟩) (by first | exact r _ _ | assumption | exact ⟨by omega, by omega⟩) (fun c_46 => ?_) (fun c_46 => ?_)
      ·
        refine V_aload0 G dX6_load_70 ?_
        refine V_iconst G dX6_load_71 ?_
        refine V_putI (jz := 14) G fw_X6_76 dX6_load_72 (by first | decide | assumption) (by first | rfl | assumption) rfl rfl ?_
        refine V_aload0 G dX6_load_75 ?_
        refine V_cV0i (d1 := 24) G m_X6_99 dX6_load_76 (by first | decide | assumption) (by first | rfl | assumption) (c_X6_beginSentence (c := loadC g.1 g.2.2.2.2) (rg.sI ⟨by omega, by omega⟩) okl (by
              rw [hI_sI, if_neg (by omega), nl, hz, e0]) (fun w w0 w1 => by
              rw [nl] at w1
              rw [hI_sI, if_neg (by omega), hw w w0 (by omega)]
              unfold kdS loadC
              rw [if_neg (by omega), if_pos (by omega), if_pos (by omega), show 2 + w - 2 = w by omega]) ((zrk PT a1 b2).eq (fun z j q => by rw [hI_sI, if_neg (by omega)]))) (by omega) (by omega) (by omega) (Nat.le_of_ble_eq_true rfl) (fun x_76 h_76 hp_76 => ?_)
        obtain ⟨x0, x2, x3, x4⟩ := hp_76
        have W3 : SvC h_76 P1 (savL g.2.1 g.1) := a3.eq (fun z j q => (x2.1 z j (SV_SB1 q)).trans (by rw [hI_sI, if_neg (by simp [SV] at q; omega)]; exact b1.1 z j (SV_S13 q))) (fun j => by rw [x2.2.2]; show hR gg 50 j = _; rw [b1.2.2])
        have fs := rep_gen (bf := []) R (fun a j q1 q2 => (x2.1 a j (SB1_SA q1)).trans (by rw [hI_sI, if_neg q2]; exact (b1.1 a j (S13_SA q1)).trans (a1.1 a j (SV_SA q1)))) (fun a j q => (x2.2.1 a j (L5_LA q)).trans (by show hL gg a j = _; rw [b1.2.1]; exact a1.2.1 a j rfl)) (fun a j q => by rw [x2.2.2]; show hR gg a j = _; rw [b1.2.2]; exact a1.2.2 a j q) x4 ⟨P1, W3⟩ ⟨(x2.1 0 14 (by decide)).trans (by rw [hI_sI, if_pos ⟨rfl, rfl⟩]; rfl), fun i z hz => by simp at hz⟩
        exact V_reti E dX6_load_79 rfl rfl ⟨_, rfl, ⟨by unfold opLoad; rw [if_neg (show ¬ (g.2.2.2.2.length = 0 ∨ erS g.2.2.2.2 < g.2.2.2.2.length) by omega)], by unfold opLoad; rw [if_neg (show ¬ (g.2.2.2.2.length = 0 ∨ erS g.2.2.2.2 < g.2.2.2.2.length) by omega)]; exact x0, by unfold opLoad; rw [if_neg (show ¬ (g.2.2.2.2.length = 0 ∨ erS g.2.2.2.2 < g.2.2.2.2.length) by omega)]; exact fs.1, x3, fs.2⟩⟩
      · omega
    | succ m ih =>
      intro k hs gg hm hk h12 her hne a1 a3 b1 rg hz hw
      have gb : hI gg 0 14 = (g.2.2.2.2.length : Int) := (b1.1 0 14 (by decide)).trans ((a1.1 0 14 (by decide)).trans B0)
      have gc : hI gg 76 k = bfA g.2.2.2.2 k := (b1.1 76 k (by rfl)).trans ((a1.1 76 k (by rfl)).trans (B.at hk (by omega)))
      have gi : inr (bfA g.2.2.2.2 k) := by rw [← gc]; exact rg _ _
      have kr := @knF_rr (bfA g.2.2.2.2 k)
      refine V_iload1 G dX6_load_41 ?_
      refine V_aload0 G dX6_load_42 ?_
      refine V_getIe (jz := 14) G fl_X6_76 dX6_load_43 (by first | decide | assumption) (by first | rfl | assumption) rfl rfl gb ?_
      refine V_icmpge G dX6_load_46 (tgt := 70) (by decide) (by first | exact r _ _ | assumption | exact ⟨by omega, by omega⟩) (by first | exact r _ _ | assumption | exact ⟨by omega, by omega⟩) (fun c_46 => ?_) (fun c_46 => ?_)
      · omega
      ·
        refine V_aload0 G dX6_load_49 ?_
        refine V_getR G fl_X6_12 dX6_load_50 (by first | decide | assumption) (by first | rfl | assumption) rfl (by first | rfl | assumption) ?_
        refine V_aload0 G dX6_load_53 ?_
        refine V_iload1 G dX6_load_54 ?_
        refine V_cV1i (d1 := 1) G m_X6_162 dX6_load_55 (by first | decide | assumption) (by first | rfl | assumption) (c_X6_codeAt (w := k) (by omega)) (by omega) (by omega) (by omega) (Nat.le_of_ble_eq_true rfl) (fun x_55 h_55 hp_55 => ?_)
        rw [hp_55.1, hp_55.2, gc]
        refine V_cS1i (d1 := 6) G m_X6_166 dX6_load_58 (c_X6_kindOfLetter gi) (by omega) (by omega) (by omega) (Nat.le_of_ble_eq_true rfl) (fun x_58 h_58 hp_58 => ?_)
        rw [hp_58.1, hp_58.2]
        refine V_cV1v (d1 := 1) G m_X6_96 dX6_load_61 (by first | decide | assumption) (by first | rfl | assumption) (c_X4_pushWord isSt_all.1 (n := k) hz (by omega) (v := knF (bfA g.2.2.2.2 k)) (by omega)) (by omega) (by omega) (by omega) (Nat.le_of_ble_eq_true rfl) (fun h_61 hp_61 => ?_)
        subst hp_61
        refine V_iinc1 G dX6_load_64 rfl ?_
        refine V_goto G dX6_load_67 (tgt := 41) (by decide) ?_
        exact ih (k + 1) hs _ (by omega) (by omega) h12 her hne a1 a3 ((b1.st (by rfl)).st (by rfl)) ((rg.sI ⟨by omega, by omega⟩).sI ⟨by omega, by omega⟩) (by rw [hI_sI, if_pos ⟨rfl, rfl⟩]) (fun w w0 w1 => by
          rw [hI_sI, if_neg (by omega), hI_sI]
          by_cases e : w = k
          · rw [if_pos ⟨rfl, e⟩, e]
          · rw [if_neg (fun q => e q.2)]
            exact hw w w0 (by omega))
  refine V_aload0 G dX6_load_0 ?_
  refine V_getIe (jz := 14) G fl_X6_76 dX6_load_1 (by first | decide | assumption) (by first | rfl | assumption) rfl rfl B0 ?_
  refine V_ifeq G dX6_load_4 (tgt := 18) (by decide) (by first | exact r _ _ | assumption | exact ⟨by omega, by omega⟩) (fun c_4 => ?_) (fun c_4 => ?_)
  ·
    exact V_throw G Y th_IAE dX6_load_18 dX6_load_21 dX6_load_22 dX6_load_24 dX6_load_27 (text := "the buffer tells no sentence") (by decide) ⟨rfl, Or.inl ⟨by unfold opLoad; rw [if_pos (by omega)], rfl⟩⟩ (by omega) (by omega) (by omega)
  ·
    refine V_aload0 G dX6_load_7 ?_
    refine V_cV0i (d1 := 8) G m_X6_154 dX6_load_8 (by first | decide | assumption) (by first | rfl | assumption) (c_X6_errorIndex r B b20) (by omega) (by omega) (by omega) (Nat.le_of_ble_eq_true rfl) (fun x_8 h_8 hp_8 => ?_)
    rw [hp_8.1, hp_8.2]
    refine V_aload0 G dX6_load_11 ?_
    refine V_getIe (jz := 14) G fl_X6_76 dX6_load_12 (by first | decide | assumption) (by first | rfl | assumption) rfl rfl B0 ?_
    refine V_icmpge G dX6_load_15 (tgt := 28) (by decide) (by first | exact r _ _ | assumption | exact ⟨by omega, by omega⟩) (by first | exact r _ _ | assumption | exact ⟨by omega, by omega⟩) (fun c_15 => ?_) (fun c_15 => ?_)
    ·
      refine V_aload0 G dX6_load_28 ?_
      refine V_cV0v (d1 := 20) G m_X6_93 dX6_load_29 (by first | decide | assumption) (by first | rfl | assumption) (c_X6_saveState r W S hn0) (by omega) (by omega) (by omega) (Nat.le_of_ble_eq_true rfl) (fun h_29 hp_29 => ?_)
      obtain ⟨a1, a2, P1, a3⟩ := hp_29
      have s1 := stkC S a1
      refine V_aload0 G dX6_load_32 ?_
      refine V_getR G fl_X6_12 dX6_load_33 (by first | decide | assumption) (by first | rfl | assumption) rfl (by first | rfl | assumption) ?_
      refine V_cV0v (d1 := 1) G m_X6_159 dX6_load_36 (by first | decide | assumption) (by first | rfl | assumption) (c_X4_clearWords isSt_all.1) (by omega) (by omega) (by omega) (Nat.le_of_ble_eq_true rfl) (fun h_36 hp_36 => ?_)
      subst hp_36
      refine V_iconst G dX6_load_39 ?_
      refine V_istore1 G dX6_load_40 rfl ?_
      exact lp g.2.2.2.2.length 0 h_29 _ (by omega) (by omega) (by omega) (by omega) (by omega) a1 ⟨P1, a3⟩ (eqx.rf.st (by rfl)) (a2.sI ⟨by omega, by omega⟩) (by rw [hI_sI, if_pos ⟨rfl, rfl⟩]) (fun w w0 w1 => by omega)
    ·
      exact V_throw G Y th_IAE dX6_load_18 dX6_load_21 dX6_load_22 dX6_load_24 dX6_load_27 (text := "the buffer tells no sentence") (by decide) ⟨rfl, Or.inl ⟨by unfold opLoad; rw [if_pos (by omega)], rfl⟩⟩ (by omega) (by omega) (by omega)


theorem wr_len {c : Cs} : (wrS c).length = (nS c).toNat := by simp [wrS]
theorem wr_at {c : Cs} {i : Nat} {z : Int} (h : (wrS c)[i]? = some z) : (i : Int) < nS c ∧ z = letF (kdS c i) := by
  have il := (List.getElem?_eq_some_iff.mp h).1
  rw [wr_len] at il
  unfold wrS at h
  rw [List.getElem?_map, List.getElem?_range il] at h
  exact ⟨by omega, (Option.some.inj h).symm⟩

set_option maxRecDepth 100000 in
set_option maxHeartbeats 1600000 in
theorem c_X6_write {l : Launch} {d : Nat} {h : Hp} (hlt : l.stackTraces = false) (r : Rg h) {g : Sg} (R : RepC g h) (I : InvS g) (hd : 40 ≤ d := by omega) : CX l d 1 6 yX6_write cX6_write 2 (Option.some Jvm.ClassFile.FieldType.int) [.ref 0] h (pI (opP (opWrite g) h)) (opX (opWrite g) ISE ISE h) := by
  refine CX.ofV (L := [some (.ref 0), none]) RX6 hlt (by decide +kernel) rfl (Nat.le_of_ble_eq_true rfl) rfl (fun X hX G Y E => ?_)
  subst hX
  obtain ⟨S, RD, PT, LF, DR⟩ := R.1
  obtain ⟨P, W⟩ := R.2.1
  have i1 := I.1
  have hn0 := i1.1
  have hn := S.1
  have ll := lfS_len i1
  have lp : ∀ (m : Nat) (k : Int) (gg : Hp), k + m = nS g.1 → 0 ≤ k → lfS g.1 ≠ [] → (∀ a j, a ≠ 76 → ¬ (a = 0 ∧ j = 14) → hI gg a j = hI h a j) → hL gg = hL h → hR gg = hR h → Rg gg → hI gg 0 14 = k → (∀ w, 0 ≤ w → w < k → hI gg 76 w = letF (kdS g.1 w)) → V X 0 0 24 [some (.ref 0), some (iv k)] [] gg := by
    intro m
    induction m with
    | zero =>
      intro k gg hm hk hne e eL eR rg hz hw
      have e0 : k = nS g.1 := by omega
      have ne0 : (lfS g.1).length ≠ 0 := fun q => hne (List.length_eq_zero_iff.mp q)
      have fs := rep_bf (bf := wrS g.1) R e eL eR ⟨by rw [hz, wr_len]; omega, fun i z hi => by
        obtain ⟨q1, q2⟩ := wr_at hi
        rw [q2]
        exact hw i (by omega) (by omega)⟩
      refine V_iload1 G dX6_write_24 ?_
      refine V_aload0 G dX6_write_25 ?_
      refine V_getR G fl_X6_12 dX6_write_26 (by first | decide | assumption) (by first | rfl | assumption) rfl (by first | rfl | assumption) ?_
      refine V_cV0i (d1 := 1) G m_X6_82 dX6_write_29 (by first | decide | assumption) (by first | rfl | assumption) (c_X4_size isSt_all.1) (by omega) (by omega) (by omega) (Nat.le_of_ble_eq_true rfl) (fun x_29 h_29 hp_29 => ?_)
      rw [show x_29 = nS g.1 from hp_29.1.trans ((e 1 2 (by omega) (by omega)).trans hn), hp_29.2]
      refine V_icmpge G dX6_write_32 (tgt := 63) (by decide) (by first | exact r _ _ | assumption | exact ⟨by omega, by omega⟩) (by first | exact r _ _ | assumption | exact ⟨by omega, by omega⟩) (fun c_32 => ?_) (fun c_32 => ?_)
      ·
        refine V_aload0 G dX6_write_63 ?_
        refine V_getIe (jz := 14) G fl_X6_76 dX6_write_64 (by first | decide | assumption) (by first | rfl | assumption) rfl rfl hz ?_
        exact V_reti E dX6_write_67 rfl rfl ⟨_, rfl, ⟨by unfold opWrite; rw [if_neg ne0], by unfold opWrite; rw [if_neg ne0]; exact e0, by unfold opWrite; rw [if_neg ne0]; exact fs.1, rg, fs.2⟩⟩
      · omega
    | succ m ih =>
      intro k gg hm hk hne e eL eR rg hz hw
      have gk : hI gg 2 k = kdS g.1 k := (e 2 k (by omega) (by omega)).trans (S.2.2.1 k hk (by omega))
      have kr := i1.2.1 k hk (by omega)
      have lr := letF_r (kdS g.1 k)
      refine V_iload1 G dX6_write_24 ?_
      refine V_aload0 G dX6_write_25 ?_
      refine V_getR G fl_X6_12 dX6_write_26 (by first | decide | assumption) (by first | rfl | assumption) rfl (by first | rfl | assumption) ?_
      refine V_cV0i (d1 := 1) G m_X6_82 dX6_write_29 (by first | decide | assumption) (by first | rfl | assumption) (c_X4_size isSt_all.1) (by omega) (by omega) (by omega) (Nat.le_of_ble_eq_true rfl) (fun x_29 h_29 hp_29 => ?_)
      rw [show x_29 = nS g.1 from hp_29.1.trans ((e 1 2 (by omega) (by omega)).trans hn), hp_29.2]
      refine V_icmpge G dX6_write_32 (tgt := 63) (by decide) (by first | exact r _ _ | assumption | exact ⟨by omega, by omega⟩) (by first | exact r _ _ | assumption | exact ⟨by omega, by omega⟩) (fun c_32 => ?_) (fun c_32 => ?_)
      · omega
      ·
        refine V_aload0 G dX6_write_35 ?_
        refine V_aload0 G dX6_write_36 ?_
        refine V_getR G fl_X6_12 dX6_write_37 (by first | decide | assumption) (by first | rfl | assumption) rfl (by first | rfl | assumption) ?_
        refine V_aload0 G dX6_write_40 ?_
        refine V_getR G fl_X6_41 dX6_write_41 (by first | decide | assumption) (by first | rfl | assumption) rfl (by first | rfl | assumption) ?_
        refine V_iload1 G dX6_write_44 ?_
        refine V_cV1i (d1 := 1) G m_X6_171 dX6_write_45 (by first | decide | assumption) (by first | rfl | assumption) (c_X0_wordAtTurn isDr_all.1 hn0 ((DR hne).eq (fun z j q => e z j (by omega) (by omega))) (w := k) (by omega)) (by omega) (by omega) (by omega) (Nat.le_of_ble_eq_true rfl) (fun x_45 h_45 hp_45 => ?_)
        rw [hp_45.1, hp_45.2]
        refine V_cV1i (d1 := 2) G m_X6_174 dX6_write_48 (by first | decide | assumption) (by first | rfl | assumption) (c_X4_kindAt isSt_all.1 ((e 1 2 (by omega) (by omega)).trans hn) hn0 (w := k) ⟨by omega, by omega⟩) (by omega) (by omega) (by omega) (Nat.le_of_ble_eq_true rfl) (fun x_48 h_48 hp_48 => ?_)
        rw [hp_48.2, show x_48 = kdS g.1 k by rw [hp_48.1]; unfold kdC; rw [if_pos (by omega)]; exact gk]
        refine V_cS1i (d1 := 6) G m_X6_177 dX6_write_51 (c_X6_letterOfKind kr) (by omega) (by omega) (by omega) (Nat.le_of_ble_eq_true rfl) (fun x_51 h_51 hp_51 => ?_)
        rw [hp_51.1, hp_51.2]
        refine V_cV1v (d1 := 1) G m_X6_151 dX6_write_54 (by first | decide | assumption) (by first | rfl | assumption) (c_X6_pushCode hz (z := letF (kdS g.1 k)) (by omega)) (by omega) (by omega) (by omega) (Nat.le_of_ble_eq_true rfl) (fun h_54 hp_54 => ?_)
        subst hp_54
        refine V_iinc1 G dX6_write_57 rfl ?_
        refine V_goto G dX6_write_60 (tgt := 24) (by decide) ?_
        exact ih (k + 1) _ (by omega) (by omega) hne (fun a j q1 q2 => by rw [hI_sI, if_neg q2, hI_sI, if_neg (fun q => q1 q.1)]; exact e a j q1 q2) eL eR ((rg.sI ⟨by omega, by omega⟩).sI ⟨by omega, by omega⟩) (by rw [hI_sI, if_pos ⟨rfl, rfl⟩]) (fun w w0 w1 => by
          rw [hI_sI, if_neg (by omega), hI_sI]
          by_cases q : w = k
          · rw [if_pos ⟨rfl, q⟩, q]
          · rw [if_neg (fun z => q z.2)]
            exact hw w w0 (by omega))
  refine V_aload0 G dX6_write_0 ?_
  refine V_getIe (jz := 4) G fl_X6_34 dX6_write_1 (by first | decide | assumption) (by first | rfl | assumption) rfl rfl LF.1 ?_
  refine V_ifne G dX6_write_4 (tgt := 17) (by decide) (by first | exact r _ _ | assumption | exact ⟨by omega, by omega⟩) (fun c_4 => ?_) (fun c_4 => ?_)
  ·
    refine V_aload0 G dX6_write_17 ?_
    refine V_iconst G dX6_write_18 ?_
    refine V_putI (jz := 14) G fw_X6_76 dX6_write_19 (by first | decide | assumption) (by first | rfl | assumption) rfl rfl ?_
    refine V_iconst G dX6_write_22 ?_
    refine V_istore1 G dX6_write_23 rfl ?_
    exact lp (nS g.1).toNat 0 _ (by omega) (by omega) (fun q => by rw [q] at c_4; simp at c_4) (fun a j q1 q2 => by rw [hI_sI, if_neg q2]) rfl rfl (r.sI ⟨by omega, by omega⟩) (by rw [hI_sI, if_pos ⟨rfl, rfl⟩]) (fun w w0 w1 => by omega)
  ·
    exact V_throw G Y th_ISE dX6_write_7 dX6_write_10 dX6_write_11 dX6_write_13 dX6_write_16 (text := "no reading to write") (by decide) ⟨rfl, Or.inl ⟨by unfold opWrite; rw [if_pos (by omega)], rfl⟩⟩ (by omega) (by omega) (by omega)

end C20
