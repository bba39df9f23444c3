section C20
set_option maxRecDepth 100000 in
set_option maxHeartbeats 1600000 in
theorem c_X6_wordOf {l : Launch} {d : Nat} {h : Hp} (hlt : l.stackTraces = false) (r : Rg h) {g : Sg} (R : RepC g h) (I : InvS g) {w q : Int} (hw : inr w) (hq : inr q) (hd : 40 ≤ d := by omega) : CX l d 2 12 yX6_wordOf cX6_wordOf 3 (Option.some Jvm.ClassFile.FieldType.int) [.ref 0, iv w, iv q] h (pI (opP (opWord g w q) h)) (opX (opWord g w q) IOB IAE h) := by
  refine CX.ofV (L := [some (.ref 0), some (.int (Int32.ofInt w)), some (.int (Int32.ofInt q))]) RX6 hlt (by decide +kernel) rfl (Nat.le_of_ble_eq_true rfl) rfl (fun X hX G Y E => ?_)
  subst hX
  obtain ⟨S, RD, PT, LF, DR⟩ := R.1
  obtain ⟨P, W⟩ := R.2.1
  have i1 := I.1
  have hn0 := i1.1
  have hn := S.1
  refine V_aload0 G dX6_wordOf_0 ?_
  refine V_iload1 G dX6_wordOf_1 ?_
  refine V_xV1v (d1 := 13) (kc1 := 1) (ks1 := 6) G Y m_X6_102 dX6_wordOf_2 (by first | decide | assumption) (by first | rfl | assumption) (c_X6_needWord hlt hw hn hn0) (fun E h1 q => ⟨q.1, Or.inl ⟨by unfold opWord; rw [if_pos q.2.2], q.2.1⟩⟩) (by omega) (by omega) (by omega) (Nat.le_of_ble_eq_true rfl) (fun h_2 hp_2 => ?_)
  obtain ⟨e_2, b_2⟩ := hp_2
  rw [e_2]
  refine V_aload0 G dX6_wordOf_5 ?_
  refine V_iload2 G dX6_wordOf_6 ?_
  refine V_bipush G dX6_wordOf_7 (by decide) ?_
  refine V_xV2v (d1 := 13) (kc1 := 1) (ks1 := 6) G Y m_X6_197 dX6_wordOf_9 (by first | decide | assumption) (by first | rfl | assumption) (c_X6_needAsked hlt hq (m := 7) ⟨by decide, by decide⟩) (fun E h1 q => ⟨q.1, Or.inr ⟨by unfold opWord; rw [if_neg (fun z => z b_2), if_pos q.2.2], q.2.1⟩⟩) (by omega) (by omega) (by omega) (Nat.le_of_ble_eq_true rfl) (fun h_9 hp_9 => ?_)
  obtain ⟨e_9, b_9⟩ := hp_9
  rw [e_9]
  refine V_aload0 G dX6_wordOf_12 ?_
  refine V_iload1 G dX6_wordOf_13 ?_
  refine V_iload2 G dX6_wordOf_14 ?_
  refine V_cV2i (d1 := 4) G m_X6_200 dX6_wordOf_15 (by first | decide | assumption) (by first | rfl | assumption) (c_X6_wordProperty i1 R.1 (w := w) (q := q) b_2 b_9) (by omega) (by omega) (by omega) (Nat.le_of_ble_eq_true rfl) (fun x_15 h_15 hp_15 => ?_)
  rw [hp_15.1, hp_15.2]
  exact V_reti E dX6_wordOf_18 rfl rfl ⟨_, rfl, ⟨by unfold opWord; rw [if_neg (fun z => z b_2), if_neg (fun z => z b_9)], by unfold opWord; rw [if_neg (fun z => z b_2), if_neg (fun z => z b_9)], by unfold opWord; rw [if_neg (fun z => z b_2), if_neg (fun z => z b_9)]; exact R, r, eqC.rf⟩⟩

set_option maxRecDepth 100000 in
set_option maxHeartbeats 1600000 in
theorem c_X6_readingOf {l : Launch} {d : Nat} {h : Hp} (hlt : l.stackTraces = false) (r : Rg h) {g : Sg} (R : RepC g h) (I : InvS g) {p q : Int} (hp : inr p) (hq : inr q) (hd : 40 ≤ d := by omega) : CX l d 2 12 yX6_readingOf cX6_readingOf 3 (Option.some Jvm.ClassFile.FieldType.int) [.ref 0, iv p, iv q] h (pI (opP (opRead g p q) h)) (opX (opRead g p q) IOB IAE h) := by
  refine CX.ofV (L := [some (.ref 0), some (.int (Int32.ofInt p)), some (.int (Int32.ofInt q))]) RX6 hlt (by decide +kernel) rfl (Nat.le_of_ble_eq_true rfl) rfl (fun X hX G Y E => ?_)
  subst hX
  obtain ⟨S, RD, PT, LF, DR⟩ := R.1
  obtain ⟨P, W⟩ := R.2.1
  have i1 := I.1
  have hn0 := i1.1
  have hn := S.1
  have ll := lfS_len i1
  refine V_aload0 G dX6_readingOf_0 ?_
  refine V_iload1 G dX6_readingOf_1 ?_
  refine V_xV1v (d1 := 13) (kc1 := 1) (ks1 := 6) G Y m_X6_127 dX6_readingOf_2 (by first | decide | assumption) (by first | rfl | assumption) (c_X6_needReading hlt hp LF.1 ⟨by omega, by omega⟩) (fun E h1 q => ⟨q.1, Or.inl ⟨by unfold opRead; rw [if_pos q.2.2], q.2.1⟩⟩) (by omega) (by omega) (by omega) (Nat.le_of_ble_eq_true rfl) (fun h_2 hp_2 => ?_)
  obtain ⟨e_2, b_2⟩ := hp_2
  rw [e_2]
  refine V_aload0 G dX6_readingOf_5 ?_
  refine V_iload2 G dX6_readingOf_6 ?_
  refine V_iconst G dX6_readingOf_7 ?_
  refine V_xV2v (d1 := 13) (kc1 := 1) (ks1 := 6) G Y m_X6_197 dX6_readingOf_8 (by first | decide | assumption) (by first | rfl | assumption) (c_X6_needAsked hlt hq (m := 5) ⟨by decide, by decide⟩) (fun E h1 q => ⟨q.1, Or.inr ⟨by unfold opRead; rw [if_neg (fun z => z b_2), if_pos q.2.2], q.2.1⟩⟩) (by omega) (by omega) (by omega) (Nat.le_of_ble_eq_true rfl) (fun h_8 hp_8 => ?_)
  obtain ⟨e_8, b_8⟩ := hp_8
  rw [e_8]
  refine V_aload0 G dX6_readingOf_11 ?_
  refine V_iload1 G dX6_readingOf_12 ?_
  refine V_iload2 G dX6_readingOf_13 ?_
  refine V_cV2i (d1 := 22) G m_X6_203 dX6_readingOf_14 (by first | decide | assumption) (by first | rfl | assumption) (c_X6_readingProperty r i1 R.1 (p := p) (q := q) b_2 b_8) (by omega) (by omega) (by omega) (Nat.le_of_ble_eq_true rfl) (fun x_14 h_14 hp_14 => ?_)
  obtain ⟨x0, x1, x2⟩ := hp_14
  have fs := rep_oth R x1
  exact V_reti E dX6_readingOf_17 rfl rfl ⟨_, rfl, ⟨by unfold opRead; rw [if_neg (fun z => z b_2), if_neg (fun z => z b_8)], by unfold opRead; rw [if_neg (fun z => z b_2), if_neg (fun z => z b_8)]; exact x0, by unfold opRead; rw [if_neg (fun z => z b_2), if_neg (fun z => z b_8)]; exact fs.1, x2, fs.2⟩⟩

set_option maxRecDepth 100000 in
set_option maxHeartbeats 1600000 in
theorem c_X6_count {l : Launch} {d : Nat} {h : Hp} (hlt : l.stackTraces = false) (r : Rg h) {g : Sg} (R : RepC g h) (I : InvS g) {q : Int} (hq : inr q) (hd : 40 ≤ d := by omega) : CX l d 1 6 yX6_count cX6_count 2 (Option.some Jvm.ClassFile.FieldType.int) [.ref 0, iv q] h (pI (opP (opCount g q) h)) (opX (opCount g q) IAE ISE h) := by
  refine CX.ofV (L := [some (.ref 0), some (.int (Int32.ofInt q))]) RX6 hlt (by decide +kernel) rfl (Nat.le_of_ble_eq_true rfl) rfl (fun X hX G Y E => ?_)
  subst hX
  obtain ⟨S, RD, PT, LF, DR⟩ := R.1
  obtain ⟨P, W⟩ := R.2.1
  have i1 := I.1
  have hn0 := i1.1
  have hn := S.1
  refine V_aload0 G dX6_count_0 ?_
  refine V_iload1 G dX6_count_1 ?_
  refine V_bipush G dX6_count_2 (by decide) ?_
  refine V_xV2v (d1 := 13) (kc1 := 1) (ks1 := 6) G Y m_X6_197 dX6_count_4 (by first | decide | assumption) (by first | rfl | assumption) (c_X6_needAsked hlt hq (m := 8) ⟨by decide, by decide⟩) (fun E h1 q => ⟨q.1, Or.inl ⟨by unfold opCount; rw [if_pos q.2.2], q.2.1⟩⟩) (by omega) (by omega) (by omega) (Nat.le_of_ble_eq_true rfl) (fun h_4 hp_4 => ?_)
  obtain ⟨e_4, b_4⟩ := hp_4
  rw [e_4]
  refine V_aload0 G dX6_count_7 ?_
  refine V_iload1 G dX6_count_8 ?_
  refine V_cV1i (d1 := 5) G m_X6_206 dX6_count_9 (by first | decide | assumption) (by first | rfl | assumption) (c_X6_number r i1 R.1 W.2.2.1 (q := q) b_4) (by omega) (by omega) (by omega) (Nat.le_of_ble_eq_true rfl) (fun x_9 h_9 hp_9 => ?_)
  rw [hp_9.1, hp_9.2]
  exact V_reti E dX6_count_12 rfl rfl ⟨_, rfl, ⟨by unfold opCount; rw [if_neg (fun z => z b_4)], by unfold opCount; rw [if_neg (fun z => z b_4)], by unfold opCount; rw [if_neg (fun z => z b_4)]; exact R, r, eqC.rf⟩⟩

set_option maxRecDepth 100000 in
set_option maxHeartbeats 1600000 in
theorem c_X6_ifFixed {l : Launch} {d : Nat} {h : Hp} (hlt : l.stackTraces = false) (r : Rg h) {g : Sg} (R : RepC g h) (I : InvS g) {w z : Int} (hw : inr w) (hz : inr z) (hd : 40 ≤ d := by omega) : CX l d 2 12 yX6_ifFixed cX6_ifFixed 3 (Option.some Jvm.ClassFile.FieldType.int) [.ref 0, iv w, iv z] h (pI (opP (opIf g w z) h)) (opX (opIf g w z) IOB ISE h) := by
  refine CX.ofV (L := [some (.ref 0), some (.int (Int32.ofInt w)), some (.int (Int32.ofInt z))]) RX6 hlt (by decide +kernel) rfl (Nat.le_of_ble_eq_true rfl) rfl (fun X hX G Y E => ?_)
  subst hX
  obtain ⟨S, RD, PT, LF, DR⟩ := R.1
  obtain ⟨P, W⟩ := R.2.1
  have i1 := I.1
  have hn0 := i1.1
  have hn := S.1
  refine V_aload0 G dX6_ifFixed_0 ?_
  refine V_iload1 G dX6_ifFixed_1 ?_
  refine V_xV1v (d1 := 13) (kc1 := 1) (ks1 := 6) G Y m_X6_102 dX6_ifFixed_2 (by first | decide | assumption) (by first | rfl | assumption) (c_X6_needWord hlt hw hn hn0) (fun E h1 q => ⟨q.1, Or.inl ⟨by unfold opIf; rw [if_pos (Or.inl q.2.2)], q.2.1⟩⟩) (by omega) (by omega) (by omega) (Nat.le_of_ble_eq_true rfl) (fun h_2 hp_2 => ?_)
  obtain ⟨e_2, b_2⟩ := hp_2
  rw [e_2]
  refine V_aload0 G dX6_ifFixed_5 ?_
  refine V_iload1 G dX6_ifFixed_6 ?_
  refine V_iload2 G dX6_ifFixed_7 ?_
  refine V_xV2v (d1 := 13) (kc1 := 1) (ks1 := 6) G Y m_X6_112 dX6_ifFixed_8 (by first | decide | assumption) (by first | rfl | assumption) (c_X6_needHead hlt hw hz hn hn0) (fun E h1 q => ⟨q.1, Or.inl ⟨by unfold opIf; rw [if_pos (Or.inr q.2.2)], q.2.1⟩⟩) (by omega) (by omega) (by omega) (Nat.le_of_ble_eq_true rfl) (fun h_8 hp_8 => ?_)
  obtain ⟨e_8, b_8⟩ := hp_8
  rw [e_8]
  refine V_aload0 G dX6_ifFixed_11 ?_
  refine V_iload1 G dX6_ifFixed_12 ?_
  refine V_iload2 G dX6_ifFixed_13 ?_
  refine V_cV2i (d1 := 4) G m_X6_115 dX6_ifFixed_14 (by first | decide | assumption) (by first | rfl | assumption) (c_X6_leftIf i1 S RD (w := w) (hd1 := z) b_2 hz) (by omega) (by omega) (by omega) (Nat.le_of_ble_eq_true rfl) (fun x_14 h_14 hp_14 => ?_)
  rw [hp_14.1, hp_14.2]
  exact V_reti E dX6_ifFixed_17 rfl rfl ⟨_, rfl, ⟨by unfold opIf; rw [if_neg (fun q => q.elim (fun z => z b_2) (fun z => z b_8))], by unfold opIf; rw [if_neg (fun q => q.elim (fun z => z b_2) (fun z => z b_8))], by unfold opIf; rw [if_neg (fun q => q.elim (fun z => z b_2) (fun z => z b_8))]; exact R, r, eqC.rf⟩⟩

set_option maxRecDepth 100000 in
set_option maxHeartbeats 1600000 in
theorem c_X6_question {l : Launch} {d : Nat} {h : Hp} (r : Rg h) {g : Sg} (R : RepC g h) (I : InvS g) (hd : 40 ≤ d := by omega) : CP l d 0 0 yX6_question cX6_question 1 (Option.some Jvm.ClassFile.FieldType.int) [.ref 0] h (pI (opP (opAsk g) h)) := by
  refine CP.ofV (L := [some (.ref 0)]) RX6 (by decide +kernel) rfl (Nat.le_of_ble_eq_true rfl) rfl (fun X hX G E => ?_)
  subst hX
  refine V_aload0 G dX6_question_0 ?_
  refine V_cV0i (d1 := 6) G m_X6_218 dX6_question_1 (by first | decide | assumption) (by first | rfl | assumption) (c_X6_bestQuestion I.1 R.1) (by omega) (by omega) (by omega) (Nat.le_of_ble_eq_true rfl) (fun x_1 h_1 hp_1 => ?_)
  rw [hp_1.1, hp_1.2]
  exact V_reti E dX6_question_4 rfl rfl ⟨_, rfl, ⟨rfl, rfl, R, r, eqC.rf⟩⟩

theorem rep_nx {g : Sg} {h h1 : Hp} (R : RepC g h) (e : eqw SK LK h h1) : RepC g h1 ∧ eqC h h1 := by
  obtain ⟨P, W⟩ := R.2.1
  exact rep_done (c := g.1) (sv := g.2.1) R (e.z (fun a j q => by simp [SA] at q; simp [SK]; omega) (fun a q => by simp [LA] at q; simp [LK]; omega)) (R.1.eq (fun z j q => e.1 z j (by simp [SK]; omega)) (fun j => e.2.1 5 j rfl)) ⟨P, W.eq (fun z j q => e.1 z j (by simp [SV] at q; simp [SK]; omega)) (fun j => by rw [e.2.2])⟩

set_option maxRecDepth 100000 in
set_option maxHeartbeats 1600000 in
theorem c_X6_next {l : Launch} {d : Nat} {h : Hp} (r : Rg h) {g : Sg} (R : RepC g h) (I : InvS g) (hd : 40 ≤ d := by omega) : CP l d 0 0 yX6_next cX6_next 1 (Option.some Jvm.ClassFile.FieldType.int) [.ref 0] h (pI (opP (opNext g) h)) := by
  refine CP.ofV (L := [some (.ref 0)]) RX6 (by decide +kernel) rfl (Nat.le_of_ble_eq_true rfl) rfl (fun X hX G E => ?_)
  subst hX
  refine V_aload0 G dX6_next_0 ?_
  refine V_cV0i (d1 := 22) G m_X6_221 dX6_next_1 (by first | decide | assumption) (by first | rfl | assumption) (c_X6_kindsToAdd r I.1 R.1.1) (by omega) (by omega) (by omega) (Nat.le_of_ble_eq_true rfl) (fun x_1 h_1 hp_1 => ?_)
  obtain ⟨x0, x1, x2⟩ := hp_1
  have fs := rep_nx R x1
  exact V_reti E dX6_next_4 rfl rfl ⟨_, rfl, ⟨rfl, x0, fs.1, x2, fs.2⟩⟩

set_option maxRecDepth 100000 in
set_option maxHeartbeats 1600000 in
theorem c_X6_sureShare {l : Launch} {d : Nat} {h : Hp} (r : Rg h) {g : Sg} (R : RepC g h) (I : InvS g) (hd : 40 ≤ d := by omega) : CP l d 0 0 yX6_sureShare cX6_sureShare 1 (Option.some Jvm.ClassFile.FieldType.double) [.ref 0] h (pD fun x h1 => x = shS g.1 ∧ h1 = h) := by
  refine CP.ofV (L := [some (.ref 0)]) RX6 (by decide +kernel) rfl (Nat.le_of_ble_eq_true rfl) rfl (fun X hX G E => ?_)
  subst hX
  refine V_aload0 G dX6_sureShare_0 ?_
  refine V_cV0d (d1 := 4) G m_X6_224 dX6_sureShare_1 (by first | decide | assumption) (by first | rfl | assumption) (c_X6_share I.1 R.1.1 R.1.2.1 R.1.2.2.2.1) (by omega) (by omega) (by omega) (Nat.le_of_ble_eq_true rfl) (fun x_1 h_1 hp_1 => ?_)
  rw [hp_1.1, hp_1.2]
  exact V_retd E dX6_sureShare_4 rfl ⟨_, rfl, ⟨rfl, rfl⟩⟩


theorem rep_gen {g : Sg} {h h1 : Hp} {c : Cs} {sv : List Cs} {bf : List Int} (R : RepC g h) (e : ∀ a j, SA a j = false → ¬ (a = 0 ∧ j = 14) → hI h1 a j = hI h a j) (eL : ∀ a j, LA a = false → hL h1 a j = hL h a j) (eR : ∀ a j, a ≠ 50 → hR h1 a j = hR h a j) (B : BodyC h1 c) (S : ∃ P, SvC h1 P sv) (F : BfC h1 bf) : RepC (c, sv, g.2.2.1, g.2.2.2.1, bf) h1 ∧ eqC h h1 :=
  ⟨⟨B, S, R.2.2.1.eq (fun z j q => e z j (SA_0 (by omega)) (by omega)) (fun j => eR 71 j (by omega)), F⟩, fun a j q => e a j (SA_0 (by omega)) (by omega), fun a j q => eL a j (LA_0 (by omega))⟩

theorem wr_len {c : Cs} : (wrS c).length = (nS c).toNat := by simp [wrS]
theorem wr_at {c : Cs} {i : Nat} {z : Int} (h : (wrS c)[i]? = some z) : (i : Int) < nS c ∧ z = letF (kdS c i) := by
  have il := (List.getElem?_eq_some_iff.mp h).1
  rw [wr_len] at il
  unfold wrS at h
  rw [List.getElem?_map, List.getElem?_range il] at h
  exact ⟨by omega, (Option.some.inj h).symm⟩

end C20
