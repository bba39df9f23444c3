section C10

theorem RdC.eq {h h1 : Hp} {q : Nat} {c : Cs} (a : RdC h q c) (e1 : hI h1 q 1 = hI h q 1) (e2 : ∀ j, hL h1 (q + 1) j = hL h (q + 1) j) : RdC h1 q c := ⟨e1.trans a.1, fun i f hi w w0 w1 => by rw [e2]; exact a.2 i f hi w w0 w1⟩
theorem LfC.eq {h h1 : Hp} {c : Cs} (a : LfC h c) (e1 : hI h1 0 4 = hI h 0 4) (e2 : ∀ j, hI h1 23 j = hI h 23 j) : LfC h1 c := ⟨e1.trans a.1, fun i z hi => by rw [e2]; exact a.2 i z hi⟩
/-- the drawing, where there is one -/
def DrwC (h : Hp) (c : Cs) : Prop := lfS c ≠ [] → DrC h 24 (nS c) (kdS c) (rowA (AS c) (drS c))
theorem DrC.eq {h h1 : Hp} {q : Nat} {n : Int} {kd f : Int → Int} (a : DrC h q n kd f) (e : ∀ z j, z = q ∧ j = 6 ∨ (q + 1 ≤ z ∧ z ≤ q + 6) → hI h1 z j = hI h z j) : DrC h1 q n kd f := ⟨(e q 6 (by omega)).trans a.1, fun w w0 w1 => by
  rw [e (q + 1) w (by omega), e (q + 2) w (by omega), e (q + 3) w (by omega), e (q + 4) w (by omega), e (q + 5) w (by omega), e (q + 6) w (by omega)]
  exact a.2 w w0 w1⟩
def PtC (h : Hp) (c : Cs) : Prop := zrC h ∧ spC h (kdS c) (nS c) (fun _ _ _ => True)
theorem plC_r : ∀ t, t ≤ 6 → 9 ≤ plC t ∧ plC t ≤ 22 := by decide
theorem zrC.eq {h h1 : Hp} (a : zrC h) (e : ∀ z j, 9 ≤ z ∧ z ≤ 22 → hI h1 z j = hI h z j) : zrC h1 := fun t ht x x0 x1 => (e _ _ (plC_r t ht)).trans (a t ht x x0 x1)
theorem PtC.eq {h h1 : Hp} {c : Cs} (a : PtC h c) (e : ∀ z j, 9 ≤ z ∧ z ≤ 22 → hI h1 z j = hI h z j) : PtC h1 c := ⟨a.1.eq e, fun t ht x y q1 q2 q3 q4 q5 => (e _ _ (plC_r t ht)).trans (a.2 t ht x y q1 q2 q3 q4 q5)⟩
/-- the sentence with all that is told of it -/
def BodyC (h : Hp) (c : Cs) : Prop := StC h 1 c ∧ RdC h 4 c ∧ PtC h c ∧ LfC h c ∧ DrwC h c
theorem BodyC.eq {h h1 : Hp} {c : Cs} (a : BodyC h c) (e : ∀ z j, (1 ≤ z ∧ z ≤ 30) ∨ (z = 0 ∧ j = 4) → hI h1 z j = hI h z j) (e2 : ∀ j, hL h1 5 j = hL h 5 j) : BodyC h1 c := ⟨a.1.eq (fun z j q => e z j (by omega)), a.2.1.eq (e 4 1 (by omega)) e2, a.2.2.1.eq (fun z j q => e z j (by omega)), a.2.2.2.1.eq (e 0 4 (by omega)) (fun j => e 23 j (by omega)), fun ne => (a.2.2.2.2 ne).eq (fun z j q => e z j (by omega))⟩
def SLf (q : Nat) (j : Int) : Bool := q == 23 || (q == 0 && j == 4)
def SBd (q : Nat) (j : Int) : Bool := decide (4 ≤ q ∧ q ≤ 30) || (q == 0 && j == 4)
def SB1 (q : Nat) (j : Int) : Bool := decide (1 ≤ q ∧ q ≤ 30) || (q == 0 && j == 4)
def L5 (q : Nat) : Bool := q == 5
theorem eqw.mono {S S' : Nat → Int → Bool} {L : Nat → Bool} {h h1 : Hp} (a : eqw S L h h1) (b : ∀ q j, S' q j = false → S q j = false) : eqw S' L h h1 := ⟨fun q j e => a.1 q j (b q j e), a.2.1, a.2.2⟩
theorem list_snoc_at {l : List Int} {x z : Int} {i : Nat} (h : (l ++ [x])[i]? = some z) : (i < l.length ∧ l[i]? = some z) ∨ (i = l.length ∧ z = x) := by
  by_cases c : i < l.length
  · rw [List.getElem?_append_left c] at h; exact Or.inl ⟨c, h⟩
  · rw [List.getElem?_append_right (by omega)] at h
    have := single h
    exact Or.inr ⟨by omega, this.2⟩
theorem cd_rd {h : Hp} {q : Nat} {c : Cs} (I : okS c) {h0 : Int → Int} (C : CdC h q (nS c) (rdsH (kAt (kdS c) (nS c)) (nS c) h0)) : RdC h q c := by
  obtain ⟨k1, k2, k3, k4, k5⟩ := rdsH_ok I.1 I.2.1 h0
  refine ⟨C.1.trans (by unfold AS; rw [k1]), fun i f hi w w0 w1 => ?_⟩
  have hl : i < (rdsH (kAt (kdS c) (nS c)) (nS c) h0).length := by
    rw [k1]
    exact (List.getElem?_eq_some_iff.mp hi).1
  have hf := C.2 i _ (List.getElem?_eq_getElem hl)
  have same := k2 i _ f (List.getElem?_eq_getElem hl) hi
  have ok := (k5 f (List.mem_of_getElem? hi)).1
  have hn := I.1
  rw [hf, hdI_cdF hn (fun w w0 w1 => by rw [same w w0 w1]; have := ok w w0 w1; omega) ⟨w0, w1⟩]
  exact same w w0 w1

set_option maxRecDepth 100000 in
set_option maxHeartbeats 800000 in
theorem c_X6_tellLeft {l : Launch} {d : Nat} {h : Hp} (r : Rg h) {c : Cs} (I : okS c) (S : StC h 1 c) (R : RdC h 4 c) (hd : 4 ≤ d := by omega) : CP l d 0 0 yX6_tellLeft cX6_tellLeft 2 (Option.none : Option Jvm.ClassFile.FieldType) [.ref 0] h (pV fun h1 => eqx SLf h h1 ∧ Rg h1 ∧ LfC h1 c) := by
  refine CP.ofV (L := [some (.ref 0), none]) RX6 (by decide +kernel) rfl (Nat.le_of_ble_eq_true rfl) rfl (fun X hX G E => ?_)
  subst hX
  have h42 := rds_len I
  have hn0 := I.1
  have lp : ∀ (m : Nat) (k : Int) (g : Hp) (l0 : List Int), k + m = ((AS c).length : Int) → 0 ≤ k → Rg g → eqx SLf h g → hI g 0 4 = l0.length → (∀ (i : Nat) (z : Int), l0[i]? = some z → hI g 23 i = z) → (l0.length : Int) ≤ k → l0 ++ lfF (fun k => fitsP (nS c) (-1) (fxS c) (rowA (AS c) k)) m k = lfS c → V X 0 0 7 [some (.ref 0), some (.int (Int32.ofInt k))] [] g := by
    intro m
    induction m with
    | zero =>
      intro k g l0 hm_ hk0 r1 eg h04 h23 hle hcat
      have Sg : StC g 1 c := S.eq (fun z j q => eg.1 z j (by simp [SLf]; omega))
      have Rg9 : RdC g 4 c := R.eq (eg.1 4 1 rfl) (fun j => by rw [eg.2.1])
      refine V_iload1 G dX6_tellLeft_7 ?_
      refine V_aload0 G dX6_tellLeft_8 ?_
      refine V_getR G fl_X6_19 dX6_tellLeft_9 (by first | decide | assumption) (by first | rfl | assumption) rfl (by first | rfl | assumption) ?_
      refine V_cV0i (d1 := 1) G m_X6_268 dX6_tellLeft_12 (by first | decide | assumption) (by first | rfl | assumption) (c_X3_total isRd_all.1) (by omega) (by omega) (by omega) (Nat.le_of_ble_eq_true rfl) (fun x_12 h_12 hp_12 => ?_)
      rw [show x_12 = ((AS c).length : Int) from hp_12.1.trans Rg9.1, hp_12.2]
      refine V_icmpge G dX6_tellLeft_15 (tgt := 72) (by decide) (by first | exact r _ _ | assumption | exact ⟨by omega, by omega⟩) (by first | exact r _ _ | assumption | exact ⟨by omega, by omega⟩) (fun c_15 => ?_) (fun c_15 => ?_)
      ·
        exact V_retv E dX6_tellLeft_72 rfl ⟨rfl, ⟨eg, r1, by
            have e : l0 = lfS c := by rw [← hcat]; simp [lfF]
            rw [← e]; exact h04, fun i z hi => h23 i z (by
            have e : l0 = lfS c := by rw [← hcat]; simp [lfF]
            rw [e]; exact hi)⟩⟩
      · omega
    | succ m ih =>
      intro k g l0 hm_ hk0 r1 eg h04 h23 hle hcat
      have Sg : StC g 1 c := S.eq (fun z j q => eg.1 z j (by simp [SLf]; omega))
      have Rg9 : RdC g 4 c := R.eq (eg.1 4 1 rfl) (fun j => by rw [eg.2.1])
      refine V_iload1 G dX6_tellLeft_7 ?_
      refine V_aload0 G dX6_tellLeft_8 ?_
      refine V_getR G fl_X6_19 dX6_tellLeft_9 (by first | decide | assumption) (by first | rfl | assumption) rfl (by first | rfl | assumption) ?_
      refine V_cV0i (d1 := 1) G m_X6_268 dX6_tellLeft_12 (by first | decide | assumption) (by first | rfl | assumption) (c_X3_total isRd_all.1) (by omega) (by omega) (by omega) (Nat.le_of_ble_eq_true rfl) (fun x_12 h_12 hp_12 => ?_)
      rw [show x_12 = ((AS c).length : Int) from hp_12.1.trans Rg9.1, hp_12.2]
      refine V_icmpge G dX6_tellLeft_15 (tgt := 72) (by decide) (by first | exact r _ _ | assumption | exact ⟨by omega, by omega⟩) (by first | exact r _ _ | assumption | exact ⟨by omega, by omega⟩) (fun c_15 => ?_) (fun c_15 => ?_)
      · omega
      ·
        refine V_aload0 G dX6_tellLeft_18 ?_
        refine V_getIe (jz := 4) G fl_X6_34 dX6_tellLeft_19 (by first | decide | assumption) (by first | rfl | assumption) rfl rfl (by first | (simp only [hI_sI, hI_sL, hL_sI, hL_sL, false_and, true_and, and_false, and_true, and_self, if_false, if_true, h04]; first | done | rfl) | rfl) ?_
        refine V_aload0 G dX6_tellLeft_22 ?_
        refine V_getR G fl_X6_30 dX6_tellLeft_23 (by first | decide | assumption) (by first | rfl | assumption) rfl (by first | rfl | assumption) ?_
        refine V_alenZ G dX6_tellLeft_26 (by first | decide | assumption) (by first | rfl | assumption) (by decide) ?_
        refine V_icmpge G dX6_tellLeft_27 (tgt := 66) (by decide) (by first | exact r _ _ | assumption | exact ⟨by omega, by omega⟩) (by first | exact r _ _ | assumption | exact ⟨by omega, by omega⟩) (fun c_27 => ?_) (fun c_27 => ?_)
        · omega
        ·
          refine V_aload0 G dX6_tellLeft_30 ?_
          refine V_aload0 G dX6_tellLeft_31 ?_
          refine V_getR G fl_X6_19 dX6_tellLeft_32 (by first | decide | assumption) (by first | rfl | assumption) rfl (by first | rfl | assumption) ?_
          refine V_iload1 G dX6_tellLeft_35 ?_
          refine V_cV1l (d1 := 1) G m_X6_279 dX6_tellLeft_36 (by first | decide | assumption) (by first | rfl | assumption) (c_X3_codeAt isRd_all.1 (k := k) (by omega)) (by omega) (by omega) (by omega) (Nat.le_of_ble_eq_true rfl) (fun x_36 h_36 hp_36 => ?_)
          rw [hp_36.1, hp_36.2]
          refine V_iconst G dX6_tellLeft_39 ?_
          have q1 := row_ok I hk0 (show k < (AS c).length by omega)
          have q3 := whI_01 (fitsP (nS c) (-1) (fxS c) (rowA (AS c) k))
          refine V_cV2i (d1 := 3) G m_X6_282 dX6_tellLeft_40 (by first | decide | assumption) (by first | rfl | assumption) (c_X6_fits I Sg (b := -1) ⟨by decide, by decide⟩ q1.1 (fun z z0 z1 => Rg9.at' hk0 (by omega) z0 z1)) (by omega) (by omega) (by omega) (Nat.le_of_ble_eq_true rfl) (fun x_40 h_40 hp_40 => ?_)
          rw [hp_40.1, hp_40.2]
          refine V_ifeq G dX6_tellLeft_43 (tgt := 66) (by decide) ⟨by omega, by omega⟩ (fun c_43 => ?_) (fun c_43 => ?_)
          ·
            refine V_iinc1 G dX6_tellLeft_66 rfl ?_
            refine V_goto G dX6_tellLeft_69 (tgt := 7) (by decide) ?_
            first
            | (exact ih (k + 1) _ (l0 ++ [k]) (by omega) (by omega) ((r1.sI ⟨by omega, by omega⟩).sI ⟨by omega, by omega⟩) ((eg.st rfl).st rfl) (by rw [hI_sI, if_pos ⟨rfl, rfl⟩]; simp) (fun i z hi => by
                rw [hI_sI, if_neg (by omega), hI_sI]
                rcases list_snoc_at hi with ⟨q1, q2⟩ | ⟨q1, q2⟩
                · rw [if_neg (by omega)]; exact h23 i z q2
                · rw [if_pos ⟨rfl, by omega⟩, q2]) (by simp; omega) (by
                rw [← hcat, lfF, if_pos (by omega)]; simp))
            | (exact ih (k + 1) _ l0 (by omega) (by omega) r1 eg h04 h23 (by omega) (by
                rw [← hcat, lfF, if_neg (by omega)]; simp))
          ·
            refine V_aload0 G dX6_tellLeft_46 ?_
            refine V_getR G fl_X6_30 dX6_tellLeft_47 (by first | decide | assumption) (by first | rfl | assumption) rfl (by first | rfl | assumption) ?_
            refine V_aload0 G dX6_tellLeft_50 ?_
            refine V_getIe (jz := 4) G fl_X6_34 dX6_tellLeft_51 (by first | decide | assumption) (by first | rfl | assumption) rfl rfl (by first | (simp only [hI_sI, hI_sL, hL_sI, hL_sL, false_and, true_and, and_false, and_true, and_self, if_false, if_true, h04]; first | done | rfl) | rfl) ?_
            refine V_iload1 G dX6_tellLeft_54 ?_
            refine V_iast G dX6_tellLeft_55 (by first | decide | assumption) (by first | rfl | assumption) (by decide) ⟨by omega, by omega⟩ ?_
            refine V_aload0 G dX6_tellLeft_56 ?_
            refine V_dup G dX6_tellLeft_57 rfl ?_
            refine V_getIe (jz := 4) G fl_X6_34 dX6_tellLeft_58 (by first | decide | assumption) (by first | rfl | assumption) rfl rfl (by first | (simp only [hI_sI, hI_sL, hL_sI, hL_sL, false_and, true_and, and_false, and_true, and_self, if_false, if_true, h04]; first | done | rfl) | rfl) ?_
            refine V_iconst G dX6_tellLeft_61 ?_
            refine V_iadd G dX6_tellLeft_62 ?_
            refine V_putI (jz := 4) G fw_X6_34 dX6_tellLeft_63 (by first | decide | assumption) (by first | rfl | assumption) rfl rfl ?_
            refine V_iinc1 G dX6_tellLeft_66 rfl ?_
            refine V_goto G dX6_tellLeft_69 (tgt := 7) (by decide) ?_
            first
            | (exact ih (k + 1) _ (l0 ++ [k]) (by omega) (by omega) ((r1.sI ⟨by omega, by omega⟩).sI ⟨by omega, by omega⟩) ((eg.st rfl).st rfl) (by rw [hI_sI, if_pos ⟨rfl, rfl⟩]; simp) (fun i z hi => by
                rw [hI_sI, if_neg (by omega), hI_sI]
                rcases list_snoc_at hi with ⟨q1, q2⟩ | ⟨q1, q2⟩
                · rw [if_neg (by omega)]; exact h23 i z q2
                · rw [if_pos ⟨rfl, by omega⟩, q2]) (by simp; omega) (by
                rw [← hcat, lfF, if_pos (by omega)]; simp))
            | (exact ih (k + 1) _ l0 (by omega) (by omega) r1 eg h04 h23 (by omega) (by
                rw [← hcat, lfF, if_neg (by omega)]; simp))
  refine V_aload0 G dX6_tellLeft_0 ?_
  refine V_iconst G dX6_tellLeft_1 ?_
  refine V_putI (jz := 4) G fw_X6_34 dX6_tellLeft_2 (by first | decide | assumption) (by first | rfl | assumption) rfl rfl ?_
  refine V_iconst G dX6_tellLeft_5 ?_
  refine V_istore1 G dX6_tellLeft_6 rfl ?_
  exact lp (AS c).length 0 _ [] (by omega) (by omega) (r.sI ⟨by decide, by decide⟩) (eqx.rf.st rfl) (by rw [hI_sI, if_pos ⟨rfl, rfl⟩]; rfl) (fun i z hi => by simp at hi) (by simp) rfl

set_option maxRecDepth 100000 in
set_option maxHeartbeats 800000 in
theorem c_X6_drawAgain {l : Launch} {d : Nat} {h : Hp} (r : Rg h) {c : Cs} (I : okS c) (S : StC h 1 c) (R : RdC h 4 c) (L : LfC h c) (hd : 22 ≤ d := by omega) : CP l d 0 0 yX6_drawAgain cX6_drawAgain 1 (Option.none : Option Jvm.ClassFile.FieldType) [.ref 0] h (pV fun h1 => eqx (S7 24) h h1 ∧ Rg h1 ∧ DrwC h1 c) := by
  refine CP.ofV (L := [some (.ref 0)]) RX6 (by decide +kernel) rfl (Nat.le_of_ble_eq_true rfl) rfl (fun X hX G E => ?_)
  subst hX
  have S0 := S
  obtain ⟨hn, hdr, hkd, hfx⟩ := S
  have hn0 := I.1
  have hfr := I.2.2.1
  have l42 := lfS_len I
  have hd1 := I.2.2.2.1
  refine V_aload0 G dX6_drawAgain_0 ?_
  refine V_getR G fl_X6_12 dX6_drawAgain_1 (by first | decide | assumption) (by first | rfl | assumption) rfl (by first | rfl | assumption) ?_
  refine V_cV0i (d1 := 1) G m_X6_286 dX6_drawAgain_4 (by first | decide | assumption) (by first | rfl | assumption) (c_X4_drawn isSt_all.1) (by omega) (by omega) (by omega) (Nat.le_of_ble_eq_true rfl) (fun x_4 h_4 hp_4 => ?_)
  rw [show x_4 = c 1 from hp_4.1.trans hdr, hp_4.2]
  refine V_aload0 G dX6_drawAgain_7 ?_
  refine V_getIe (jz := 4) G fl_X6_34 dX6_drawAgain_8 (by first | decide | assumption) (by first | rfl | assumption) rfl rfl L.1 ?_
  refine V_icmpge G dX6_drawAgain_11 (tgt := 36) (by decide) (show inr (c 1) by rw [← hdr]; exact r 1 3) ⟨by omega, by omega⟩ (fun c_11 => ?_) (fun c_11 => ?_)
  ·
    exact V_retv E dX6_drawAgain_36 rfl ⟨rfl, by first | exact ⟨v2, v1, fun _ => v3⟩ | exact ⟨eqx.rf, r, fun ne => by have := List.length_pos_iff.mpr ne; omega⟩⟩
  ·
    refine V_aload0 G dX6_drawAgain_14 ?_
    refine V_getR G fl_X6_41 dX6_drawAgain_15 (by first | decide | assumption) (by first | rfl | assumption) rfl (by first | rfl | assumption) ?_
    refine V_aload0 G dX6_drawAgain_18 ?_
    refine V_getR G fl_X6_12 dX6_drawAgain_19 (by first | decide | assumption) (by first | rfl | assumption) rfl (by first | rfl | assumption) ?_
    refine V_aload0 G dX6_drawAgain_22 ?_
    refine V_aload0 G dX6_drawAgain_23 ?_
    refine V_getR G fl_X6_12 dX6_drawAgain_24 (by first | decide | assumption) (by first | rfl | assumption) rfl (by first | rfl | assumption) ?_
    refine V_cV0i (d1 := 1) G m_X6_286 dX6_drawAgain_27 (by first | decide | assumption) (by first | rfl | assumption) (c_X4_drawn isSt_all.1) (by omega) (by omega) (by omega) (Nat.le_of_ble_eq_true rfl) (fun x_27 h_27 hp_27 => ?_)
    rw [show x_27 = c 1 from hp_27.1.trans hdr, hp_27.2]
    have lr := lfA_r (c := c) (k := c 1) hd1.1 (by omega)
    have rr := row_ok I lr.1 lr.2
    refine V_cV1l (d1 := 2) G m_X6_288 dX6_drawAgain_30 (by first | decide | assumption) (by first | rfl | assumption) (c_X6_leftCode I L (k := c 1) ⟨hd1.1, by omega⟩) (by omega) (by omega) (by omega) (Nat.le_of_ble_eq_true rfl) (fun x_30 h_30 hp_30 => ?_)
    rw [hp_30.1, hp_30.2]
    refine V_cV2v (d1 := 21) G m_X6_291 dX6_drawAgain_33 (by first | decide | assumption) (by first | rfl | assumption) (c_X0_trace r isDr24 isSt_all.1 (by omega) (n := nS c) (kd := kdS c) (f := rowA (AS c) (drS c)) hn hn0 hkd I.2.1 (fun w w0 w1 => R.at' lr.1 lr.2 w0 w1) rr.1 rr.2.2.2 rr.2.2.1) (by omega) (by omega) (by omega) (Nat.le_of_ble_eq_true rfl) (fun h_33 hp_33 => ?_)
    obtain ⟨v1, v2, v3⟩ := hp_33
    exact V_retv E dX6_drawAgain_36 rfl ⟨rfl, by first | exact ⟨v2, v1, fun _ => v3⟩ | exact ⟨eqx.rf, r, fun ne => by have := List.length_pos_iff.mpr ne; omega⟩⟩

set_option maxRecDepth 100000 in
set_option maxHeartbeats 800000 in
theorem c_X6_tellReadings {l : Launch} {d : Nat} {h : Hp} (r : Rg h) {c : Cs} (I : okS c) (S : StC h 1 c) (z0 : zrC h) (hd : 23 ≤ d := by omega) : CP l d 0 0 yX6_tellReadings cX6_tellReadings 1 (Option.none : Option Jvm.ClassFile.FieldType) [.ref 0] h (pV fun h1 => eqw SBd L5 h h1 ∧ Rg h1 ∧ BodyC h1 c) := by
  refine CP.ofV (L := [some (.ref 0)]) RX6 (by decide +kernel) rfl (Nat.le_of_ble_eq_true rfl) rfl (fun X hX G E => ?_)
  subst hX
  have S0 := S
  obtain ⟨hn, hdr, hkd, hfx⟩ := S
  have hn0 := I.1
  have hfr := I.2.2.1
  have k42 := (rdsH_ok I.1 I.2.1 (fun j => hI h (4 + 3) j)).1
  have h42 := rds_len I
  unfold AS at h42
  refine V_aload0 G dX6_tellReadings_0 ?_
  refine V_getR G fl_X6_19 dX6_tellReadings_1 (by first | decide | assumption) (by first | rfl | assumption) rfl (by first | rfl | assumption) ?_
  refine V_aload0 G dX6_tellReadings_4 ?_
  refine V_getR G fl_X6_12 dX6_tellReadings_5 (by first | decide | assumption) (by first | rfl | assumption) rfl (by first | rfl | assumption) ?_
  refine V_cV1v (d1 := 21) G m_X6_274 dX6_tellReadings_8 (by first | decide | assumption) (by first | rfl | assumption) (c_X3_tell r isRd_all.1 isSt_all.1 (by omega) hn hn0 hkd I.2.1 (by rw [k42]; exact h42)) (by omega) (by omega) (by omega) (Nat.le_of_ble_eq_true rfl) (fun h_8 hp_8 => ?_)
  obtain ⟨a1, a2, a3⟩ := hp_8
  have aw : eqw SBd L5 h h_8 := ⟨fun q j e => a1.1 q j (by simp [SBd] at e; simp [SR]; omega), fun q j e => a1.2.1 q j (by simp [L5] at e; simp [LR]; omega), a1.2.2⟩
  have S8 : StC h_8 1 c := S0.eq (fun z j q => aw.1 z j (by simp [SBd]; omega))
  have z8 : zrC h_8 := z0.eq (fun z j q => a1.1 z j (by simp [SR]; omega))
  have R8 : RdC h_8 4 c := cd_rd I a3
  refine V_aload0 G dX6_tellReadings_11 ?_
  refine V_getR G fl_X6_26 dX6_tellReadings_12 (by first | decide | assumption) (by first | rfl | assumption) rfl (by first | rfl | assumption) ?_
  refine V_aload0 G dX6_tellReadings_15 ?_
  refine V_getR G fl_X6_12 dX6_tellReadings_16 (by first | decide | assumption) (by first | rfl | assumption) rfl (by first | rfl | assumption) ?_
  refine V_cV1v (d1 := 4) G m_X6_278 dX6_tellReadings_19 (by first | decide | assumption) (by first | rfl | assumption) (c_X2_tell a2 (kd := kdS c) (n := nS c) hn0 S8.1 (fun w w0 w1 => ⟨S8.2.2.1 w w0 w1, I.2.1 w w0 w1⟩) z8) (by omega) (by omega) (by omega) (Nat.le_of_ble_eq_true rfl) (fun h_19 hp_19 => ?_)
  obtain ⟨b1, b2, b3, b4⟩ := hp_19
  have bw : eqw SBd L5 h h_19 := aw.tr (b1.w (fun q j e => by simp [SBd] at e; simp [SPC]; omega))
  have S19 : StC h_19 1 c := S8.eq (fun z j q => b1.1 z j (by simp [SPC]; omega))
  have R19 : RdC h_19 4 c := R8.eq (b1.1 4 1 rfl) (fun j => by rw [b1.2.1])
  refine V_aload0 G dX6_tellReadings_22 ?_
  refine V_cV0v (d1 := 4) G m_X6_271 dX6_tellReadings_23 (by first | decide | assumption) (by first | rfl | assumption) (c_X6_tellLeft b2 I S19 R19) (by omega) (by omega) (by omega) (Nat.le_of_ble_eq_true rfl) (fun h_23 hp_23 => ?_)
  obtain ⟨e1, e2, e3⟩ := hp_23
  have ew : eqw SBd L5 h h_23 := bw.tr (e1.w (fun q j e => by simp [SBd] at e; simp [SLf]; omega))
  have S23 : StC h_23 1 c := S19.eq (fun z j q => e1.1 z j (by simp [SLf]; omega))
  have R23 : RdC h_23 4 c := R19.eq (e1.1 4 1 rfl) (fun j => by rw [e1.2.1])
  have P23 : PtC h_23 c := PtC.eq ⟨b3, b4⟩ (fun z j q => e1.1 z j (by simp [SLf]; omega))
  refine V_aload0 G dX6_tellReadings_26 ?_
  refine V_cV0v (d1 := 22) G m_X6_133 dX6_tellReadings_27 (by first | decide | assumption) (by first | rfl | assumption) (c_X6_drawAgain e2 I S23 R23 e3) (by omega) (by omega) (by omega) (Nat.le_of_ble_eq_true rfl) (fun h_27 hp_27 => ?_)
  obtain ⟨f1, f2, f3⟩ := hp_27
  exact V_retv E dX6_tellReadings_30 rfl ⟨rfl, ⟨ew.tr (f1.w (fun q j e => by simp [SBd] at e; simp [S7]; omega)), f2, S23.eq (fun z j q => f1.1 z j (by simp [S7]; omega)), R23.eq (f1.1 4 1 rfl) (fun j => by rw [f1.2.1]), P23.eq (fun z j q => f1.1 z j (by simp [S7]; omega)), e3.eq (f1.1 0 4 rfl) (fun j => f1.1 23 j rfl), f3⟩⟩

set_option maxRecDepth 100000 in
set_option maxHeartbeats 800000 in
theorem c_X6_beginSentence {l : Launch} {d : Nat} {h : Hp} (r : Rg h) {c : Cs} (I : okS (begS c)) (hn : hI h 1 2 = nS c) (hkd : ∀ w, 0 ≤ w → w < nS c → hI h 2 w = kdS c w) (z0 : zrC h) (hd : 24 ≤ d := by omega) : CP l d 0 0 yX6_beginSentence cX6_beginSentence 1 (Option.some Jvm.ClassFile.FieldType.int) [.ref 0] h (pI fun x h1 => x = (AS (begS c)).length ∧ eqw SB1 L5 h h1 ∧ Rg h1 ∧ BodyC h1 (begS c)) := by
  refine CP.ofV (L := [some (.ref 0)]) RX6 (by decide +kernel) rfl (Nat.le_of_ble_eq_true rfl) rfl (fun X hX G E => ?_)
  subst hX
  have hn0 := I.1
  refine V_aload0 G dX6_beginSentence_0 ?_
  refine V_getR G fl_X6_12 dX6_beginSentence_1 (by first | decide | assumption) (by first | rfl | assumption) rfl (by first | rfl | assumption) ?_
  refine V_cV0v (d1 := 2) G m_X6_265 dX6_beginSentence_4 (by first | decide | assumption) (by first | rfl | assumption) (c_X4_loosenAll r isSt_all.1) (by omega) (by omega) (by omega) (Nat.le_of_ble_eq_true rfl) (fun h_4 hp_4 => ?_)
  obtain ⟨a1, a2, a3⟩ := hp_4
  refine V_aload0 G dX6_beginSentence_7 ?_
  refine V_getR G fl_X6_12 dX6_beginSentence_8 (by first | decide | assumption) (by first | rfl | assumption) rfl (by first | rfl | assumption) ?_
  refine V_iconst G dX6_beginSentence_11 ?_
  refine V_cV1v (d1 := 1) G m_X6_130 dX6_beginSentence_12 (by first | decide | assumption) (by first | rfl | assumption) (c_X4_setDrawn isSt_all.1 (v := 0)) (by omega) (by omega) (by omega) (Nat.le_of_ble_eq_true rfl) (fun h_12 hp_12 => ?_)
  subst hp_12
  have aw : eqw SB1 L5 h (sI h_4 1 3 0) := (a1.w (fun q j e => by simp [SB1] at e; simp; omega)).st rfl
  have S12 : StC (sI h_4 1 3 0) 1 (begS c) := ⟨by rw [hI_sI, if_neg (by omega)]; exact (a1.1 1 2 rfl).trans hn, by rw [hI_sI, if_pos ⟨rfl, rfl⟩]; rfl, fun w w0 w1 => by
    rw [hI_sI, if_neg (by omega)]
    have e : kdS (begS c) w = kdS c w := by unfold kdS begS; rw [if_neg (by have : nS (begS c) = nS c := rfl; omega)]
    rw [e]
    exact (a1.1 2 w rfl).trans (hkd w w0 w1), fun w w0 w1 => by
    rw [hI_sI, if_neg (by omega)]
    have e : fxS (begS c) w = 0 := by unfold fxS begS; rw [if_pos (by omega)]
    rw [e]
    exact a3 w w0 w1⟩
  have z12 : zrC (sI h_4 1 3 0) := z0.eq (fun z j q => by rw [hI_sI, if_neg (by omega)]; exact a1.1 z j (by simp; omega))
  refine V_aload0 G dX6_beginSentence_15 ?_
  refine V_cV0v (d1 := 23) G m_X6_192 dX6_beginSentence_16 (by first | decide | assumption) (by first | rfl | assumption) (c_X6_tellReadings (a2.sI ⟨by decide, by decide⟩) I S12 z12) (by omega) (by omega) (by omega) (Nat.le_of_ble_eq_true rfl) (fun h_16 hp_16 => ?_)
  obtain ⟨b1, b2, b3⟩ := hp_16
  refine V_aload0 G dX6_beginSentence_19 ?_
  refine V_getR G fl_X6_19 dX6_beginSentence_20 (by first | decide | assumption) (by first | rfl | assumption) rfl (by first | rfl | assumption) ?_
  refine V_cV0i (d1 := 1) G m_X6_268 dX6_beginSentence_23 (by first | decide | assumption) (by first | rfl | assumption) (c_X3_total isRd_all.1) (by omega) (by omega) (by omega) (Nat.le_of_ble_eq_true rfl) (fun x_23 h_23 hp_23 => ?_)
  rw [hp_23.1, hp_23.2]
  exact V_reti E dX6_beginSentence_26 rfl rfl ⟨_, rfl, ⟨b3.2.1.1, aw.tr (b1.mono (fun q j e => by simp [SB1] at e; simp [SBd]; omega)), b2, b3⟩⟩

set_option maxRecDepth 100000 in
set_option maxHeartbeats 800000 in
theorem c_X6_beginHeads {l : Launch} {d : Nat} {h : Hp} (r : Rg h) {c : Cs} (I : okS c) (hc : c 1 = 0) (hn : hI h 1 2 = nS c) (hkd : ∀ w, 0 ≤ w → w < nS c → hI h 2 w = kdS c w) (hfx : ∀ w, 0 ≤ w → w < 12 → hI h 3 w = fxS c w - 2) (R : RdC h 4 c) (P : PtC h c) (hd : 23 ≤ d := by omega) : CP l d 0 0 yX6_beginHeads cX6_beginHeads 1 (Option.some Jvm.ClassFile.FieldType.int) [.ref 0] h (pI fun x h1 => x = (lfS c).length ∧ eqw SB1 L5 h h1 ∧ Rg h1 ∧ BodyC h1 c) := by
  refine CP.ofV (L := [some (.ref 0)]) RX6 (by decide +kernel) rfl (Nat.le_of_ble_eq_true rfl) rfl (fun X hX G E => ?_)
  subst hX
  refine V_aload0 G dX6_beginHeads_0 ?_
  refine V_getR G fl_X6_12 dX6_beginHeads_1 (by first | decide | assumption) (by first | rfl | assumption) rfl (by first | rfl | assumption) ?_
  refine V_iconst G dX6_beginHeads_4 ?_
  refine V_cV1v (d1 := 1) G m_X6_130 dX6_beginHeads_5 (by first | decide | assumption) (by first | rfl | assumption) (c_X4_setDrawn isSt_all.1 (v := 0)) (by omega) (by omega) (by omega) (Nat.le_of_ble_eq_true rfl) (fun h_5 hp_5 => ?_)
  subst hp_5
  have S5 : StC (sI h 1 3 0) 1 c := ⟨by rw [hI_sI, if_neg (by omega)]; exact hn, by rw [hI_sI, if_pos ⟨rfl, rfl⟩, hc], fun w w0 w1 => by rw [hI_sI, if_neg (by omega)]; exact hkd w w0 w1, fun w w0 w1 => by rw [hI_sI, if_neg (by omega)]; exact hfx w w0 w1⟩
  have R5 : RdC (sI h 1 3 0) 4 c := R.eq (by rw [hI_sI, if_neg (by omega)]) (fun j => by rw [hL_sI])
  have P5 : PtC (sI h 1 3 0) c := P.eq (fun z j q => by rw [hI_sI, if_neg (by omega)])
  refine V_aload0 G dX6_beginHeads_8 ?_
  refine V_cV0v (d1 := 4) G m_X6_271 dX6_beginHeads_9 (by first | decide | assumption) (by first | rfl | assumption) (c_X6_tellLeft (r.sI ⟨by decide, by decide⟩) I S5 R5) (by omega) (by omega) (by omega) (Nat.le_of_ble_eq_true rfl) (fun h_9 hp_9 => ?_)
  obtain ⟨e1, e2, e3⟩ := hp_9
  have S9 : StC h_9 1 c := S5.eq (fun z j q => e1.1 z j (by simp [SLf]; omega))
  have R9 : RdC h_9 4 c := R5.eq (e1.1 4 1 rfl) (fun j => by rw [e1.2.1])
  have P9 : PtC h_9 c := P5.eq (fun z j q => e1.1 z j (by simp [SLf]; omega))
  have ew : eqw SB1 L5 h h_9 := (eqw.rf.st rfl).tr (e1.w (fun q j e => by simp [SB1] at e; simp [SLf]; omega))
  refine V_aload0 G dX6_beginHeads_12 ?_
  refine V_cV0v (d1 := 22) G m_X6_133 dX6_beginHeads_13 (by first | decide | assumption) (by first | rfl | assumption) (c_X6_drawAgain e2 I S9 R9 e3) (by omega) (by omega) (by omega) (Nat.le_of_ble_eq_true rfl) (fun h_13 hp_13 => ?_)
  obtain ⟨f1, f2, f3⟩ := hp_13
  have e13 : hI h_13 0 4 = (lfS c).length := (f1.1 0 4 rfl).trans e3.1
  refine V_aload0 G dX6_beginHeads_16 ?_
  refine V_getIe (jz := 4) G fl_X6_34 dX6_beginHeads_17 (by first | decide | assumption) (by first | rfl | assumption) rfl rfl e13 ?_
  exact V_reti E dX6_beginHeads_20 rfl rfl ⟨_, rfl, ⟨rfl, ew.tr (f1.w (fun q j e => by simp [SB1] at e; simp [S7]; omega)), f2, S9.eq (fun z j q => f1.1 z j (by simp [S7]; omega)), R9.eq (f1.1 4 1 rfl) (fun j => by rw [f1.2.1]), P9.eq (fun z j q => f1.1 z j (by simp [S7]; omega)), e3.eq (f1.1 0 4 rfl) (fun j => f1.1 23 j rfl), f3⟩⟩

end C10
