section C13

/-- a list's object and array -/
def isLs (q e : Nat) : Prop := q < NN ∧ e < NN ∧ SH q = .inl 0 ∧ RF q 1 = some e ∧ SH e = .inr (3, 10) ∧ q ≠ e
theorem isLs_all : isLs 46 50 ∧ isLs 67 71 := by
  unfold isLs
  repeat' apply And.intro
  all_goals first | rfl | decide
/-- a list holds the states at these places -/
def LsC (h : Hp) (q e : Nat) (P : List Nat) : Prop := hI h q 2 = P.length ∧ (∀ (i : Nat) (x : Nat), P[i]? = some x → hR h e (i : Int) = some x) ∧ (∀ x ∈ P, x < NN ∧ SH x = .inl 5) ∧ P.length < 10
def eqL (q e : Nat) (h h1 : Hp) : Prop := (∀ a j, ¬ (a = q ∧ (j = 0 ∨ j = 2)) → hI h1 a j = hI h a j) ∧ hL h1 = hL h ∧ ∀ a j, a ≠ e → hR h1 a j = hR h a j
theorem eqL.tr {q e : Nat} {h h1 h2 : Hp} (a : eqL q e h h1) (b : eqL q e h1 h2) : eqL q e h h2 := ⟨fun x j z => (b.1 x j z).trans (a.1 x j z), b.2.1.trans a.2.1, fun x j z => (b.2.2 x j z).trans (a.2.2 x j z)⟩
theorem Rg.sR {h : Hp} {q : Nat} {j : Int} {v : Option Nat} (r : Rg h) : Rg (sR h q j v) := r
theorem Rg.cpR {h : Hp} {a b : Nat} {x y z : Int} (r : Rg h) : Rg (cpR h a b x y z) := r
theorem i32_inr (w : Int32) : inr w.toInt := ⟨by have := Int32.le_toInt w; omega, by have := Int32.toInt_lt w; omega⟩

set_option maxRecDepth 100000 in
set_option maxHeartbeats 800000 in
theorem c_J3_checkIndex_8e157 {l : Launch} {d : Nat} {h : Hp} {i n : Int} (hi : 0 ≤ i ∧ i < n) (hn : n ≤ 5000) (hd : 13 ≤ d := by omega) : CP l d 0 0 yJ3_checkIndex_8e157 cJ3_checkIndex_8e157 3 (Option.some Jvm.ClassFile.FieldType.int) [iv i, iv n, .null] h (pI fun x h1 => x = i ∧ h1 = h) := by
  refine CP.ofV (L := [some (.int (Int32.ofInt i)), some (.int (Int32.ofInt n)), some (.null)]) RJ3 (by decide +kernel) rfl (Nat.le_of_ble_eq_true rfl) rfl (fun X hX G E => ?_)
  subst hX
  refine V_iload0 G dJ3_checkIndex_8e157_0 ?_
  refine V_iflt G dJ3_checkIndex_8e157_1 (tgt := 9) (by decide) (by first | exact r _ _ | assumption | exact ⟨by omega, by omega⟩) (fun c_1 => ?_) (fun c_1 => ?_)
  · omega
  ·
    refine V_iload0 G dJ3_checkIndex_8e157_4 ?_
    refine V_iload1 G dJ3_checkIndex_8e157_5 ?_
    refine V_icmplt G dJ3_checkIndex_8e157_6 (tgt := 16) (by decide) (by first | exact r _ _ | assumption | exact ⟨by omega, by omega⟩) (by first | exact r _ _ | assumption | exact ⟨by omega, by omega⟩) (fun c_6 => ?_) (fun c_6 => ?_)
    ·
      refine V_iload0 G dJ3_checkIndex_8e157_16 ?_
      exact V_reti E dJ3_checkIndex_8e157_17 rfl rfl ⟨_, rfl, ⟨rfl, rfl⟩⟩
    · omega

set_option maxRecDepth 100000 in
set_option maxHeartbeats 800000 in
theorem c_J15_checkIndex_7cf53 {l : Launch} {d : Nat} {h : Hp} {i n : Int} (hi : 0 ≤ i ∧ i < n) (hn : n ≤ 5000) (hd : 14 ≤ d := by omega) : CP l d 0 0 yJ15_checkIndex_7cf53 cJ15_checkIndex_7cf53 2 (Option.some Jvm.ClassFile.FieldType.int) [iv i, iv n] h (pI fun x h1 => x = i ∧ h1 = h) := by
  refine CP.ofV (L := [some (.int (Int32.ofInt i)), some (.int (Int32.ofInt n))]) RJ15 (by decide +kernel) rfl (Nat.le_of_ble_eq_true rfl) rfl (fun X hX G E => ?_)
  subst hX
  refine V_iload0 G dJ15_checkIndex_7cf53_0 ?_
  refine V_iload1 G dJ15_checkIndex_7cf53_1 ?_
  refine V_null G dJ15_checkIndex_7cf53_2 ?_
  refine V_cS3i (d1 := 13) G m_J15_105 dJ15_checkIndex_7cf53_3 (c_J3_checkIndex_8e157 hi hn) (by omega) (by omega) (by omega) (Nat.le_of_ble_eq_true rfl) (fun x_3 h_3 hp_3 => ?_)
  rw [hp_3.1, hp_3.2]
  exact V_reti E dJ15_checkIndex_7cf53_6 rfl rfl ⟨_, rfl, ⟨rfl, rfl⟩⟩

set_option maxRecDepth 100000 in
set_option maxHeartbeats 800000 in
theorem c_Jx4a65c_size_8abf5 {l : Launch} {d : Nat} {h : Hp} {q e : Nat} (hq : isLs q e) (hd : 1 ≤ d := by omega) : CP l d 0 0 yJx4a65c_size_8abf5 cJx4a65c_size_8abf5 1 (Option.some Jvm.ClassFile.FieldType.int) [.ref q] h (pI fun x h1 => x = hI h q 2 ∧ h1 = h) := by
  refine CP.ofV (L := [some (.ref q)]) RJx4a65c (by decide +kernel) rfl (Nat.le_of_ble_eq_true rfl) rfl (fun X hX G E => ?_)
  subst hX
  obtain ⟨q0, q1, q2, q3, q4, q5⟩ := hq
  refine V_aload0 G dJx4a65c_size_8abf5_0 ?_
  refine V_getIe (jz := 2) G fl_Jx4a65c_48 dJx4a65c_size_8abf5_1 (by first | decide | assumption) (by first | rfl | assumption) rfl rfl (by first | (simp only [hI_sI, hI_sL, hL_sI, hL_sL, false_and, true_and, and_false, and_true, and_self, if_false, if_true]; first | done | rfl) | rfl) ?_
  exact V_reti E dJx4a65c_size_8abf5_4 rfl rfl ⟨_, rfl, ⟨rfl, rfl⟩⟩

set_option maxRecDepth 100000 in
set_option maxHeartbeats 800000 in
theorem c_Jx4a65c_elementData_915e3 {l : Launch} {d : Nat} {h : Hp} {q e : Nat} (hq : isLs q e) {P : List Nat} (L : LsC h q e P) {i : Nat} {x : Nat} (hx : P[i]? = some x) (hd : 1 ≤ d := by omega) : CP l d 0 0 yJx4a65c_elementData_915e3 cJx4a65c_elementData_915e3 2 (Option.some (Jvm.ClassFile.FieldType.object "java/lang/Object")) [.ref q, iv i] h (pA fun y h1 => y = x ∧ h1 = h) := by
  refine CP.ofV (L := [some (.ref q), some (.int (Int32.ofInt i))]) RJx4a65c (by decide +kernel) rfl (Nat.le_of_ble_eq_true rfl) rfl (fun X hX G E => ?_)
  subst hX
  obtain ⟨q0, q1, q2, q3, q4, q5⟩ := hq
  have il := (List.getElem?_eq_some_iff.mp hx).1
  have i9 := L.2.2.2
  have er := L.2.1 i x hx
  refine V_aload0 G dJx4a65c_elementData_915e3_0 ?_
  refine V_getR G fl_Jx4a65c_9 dJx4a65c_elementData_915e3_1 (by first | decide | assumption) (by first | rfl | assumption) rfl (by first | rfl | assumption) ?_
  refine V_iload1 G dJx4a65c_elementData_915e3_4 ?_
  refine V_aald G dJx4a65c_elementData_915e3_5 (by first | decide | assumption) (by first | rfl | assumption) (by decide) ⟨by omega, by omega⟩ er ?_
  exact V_reta E dJx4a65c_elementData_915e3_6 rfl ⟨_, rfl, ⟨rfl, rfl⟩⟩

set_option maxRecDepth 100000 in
set_option maxHeartbeats 800000 in
theorem c_Jx4a65c_get_915e3 {l : Launch} {d : Nat} {h : Hp} {q e : Nat} (hq : isLs q e) {P : List Nat} (L : LsC h q e P) {i : Nat} {x : Nat} (hx : P[i]? = some x) (hd : 15 ≤ d := by omega) : CP l d 0 0 yJx4a65c_get_915e3 cJx4a65c_get_915e3 2 (Option.some (Jvm.ClassFile.FieldType.object "java/lang/Object")) [.ref q, iv i] h (pA fun y h1 => y = x ∧ h1 = h) := by
  refine CP.ofV (L := [some (.ref q), some (.int (Int32.ofInt i))]) RJx4a65c (by decide +kernel) rfl (Nat.le_of_ble_eq_true rfl) rfl (fun X hX G E => ?_)
  subst hX
  have hq2 := hq
  obtain ⟨q0, q1, q2, q3, q4, q5⟩ := hq
  have il := (List.getElem?_eq_some_iff.mp hx).1
  have i9 := L.2.2.2
  have e2 := L.1
  refine V_iload1 G dJx4a65c_get_915e3_0 ?_
  refine V_aload0 G dJx4a65c_get_915e3_1 ?_
  refine V_getIe (jz := 2) G fl_Jx4a65c_48 dJx4a65c_get_915e3_2 (by first | decide | assumption) (by first | rfl | assumption) rfl rfl (by first | (simp only [hI_sI, hI_sL, hL_sI, hL_sL, false_and, true_and, and_false, and_true, and_self, if_false, if_true]; first | done | rfl) | rfl) ?_
  refine V_cS2i (d1 := 14) G m_Jx4a65c_118 dJx4a65c_get_915e3_5 (c_J15_checkIndex_7cf53 (i := i) (n := hI h q 2) ⟨by omega, by omega⟩ (by omega)) (by omega) (by omega) (by omega) (Nat.le_of_ble_eq_true rfl) (fun x_5 h_5 hp_5 => ?_)
  rw [hp_5.1, hp_5.2]
  refine V_pop G dJx4a65c_get_915e3_8 rfl ?_
  refine V_aload0 G dJx4a65c_get_915e3_9 ?_
  refine V_iload1 G dJx4a65c_get_915e3_10 ?_
  refine V_cV1a (d1 := 1) G m_Jx4a65c_123 dJx4a65c_get_915e3_11 (by first | decide | assumption) (by first | rfl | assumption) (c_Jx4a65c_elementData_915e3 hq2 L hx) (by omega) (by omega) (by omega) (Nat.le_of_ble_eq_true rfl) (fun x_11 h_11 hp_11 => ?_)
  obtain ⟨b1, b2⟩ := hp_11
  rw [b1, b2]
  exact V_reta E dJx4a65c_get_915e3_14 rfl ⟨_, rfl, ⟨rfl, rfl⟩⟩

set_option maxRecDepth 100000 in
set_option maxHeartbeats 800000 in
theorem c_Jx4a65c_fastRemove_b59b0 {l : Launch} {d : Nat} {h : Hp} {q e : Nat} (hq : isLs q e) (r : Rg h) {P : List Nat} {x : Nat} (L : LsC h q e (x :: P)) (hd : 13 ≤ d := by omega) : CP l d 0 0 yJx4a65c_fastRemove_b59b0 cJx4a65c_fastRemove_b59b0 4 (Option.none : Option Jvm.ClassFile.FieldType) [.ref q, .ref e, iv 0] h (pV fun h1 => eqL q e h h1 ∧ Rg h1 ∧ LsC h1 q e P) := by
  refine CP.ofV (L := [some (.ref q), some (.ref e), some (.int (Int32.ofInt 0)), none]) RJx4a65c (by decide +kernel) rfl (Nat.le_of_ble_eq_true rfl) rfl (fun X hX G E => ?_)
  subst hX
  obtain ⟨q0, q1, q2, q3, q4, q5⟩ := hq
  obtain ⟨l1, l2, l3, l4⟩ := L
  have l5 : hI h q 2 = (P.length : Int) + 1 := by rw [l1]; simp
  have l6 : P.length < 9 := by simp at l4; omega
  have l7 : hI (sI h q 0 (Int32.ofInt (hI h q 0 + 1)).toInt) q 2 - 1 = (P.length : Int) := by rw [hI_sI, if_neg (by omega), l5]; omega
  refine V_aload0 G dJx4a65c_fastRemove_b59b0_0 ?_
  refine V_dup G dJx4a65c_fastRemove_b59b0_1 rfl ?_
  refine V_getIe (jz := 0) G fl_Jx4a65c_63 dJx4a65c_fastRemove_b59b0_2 (by first | decide | assumption) (by first | rfl | assumption) rfl rfl (by first | (simp only [hI_sI, hI_sL, hL_sI, hL_sL, false_and, true_and, and_false, and_true, and_self, if_false, if_true]; first | done | rfl) | rfl) ?_
  refine V_iconst G dJx4a65c_fastRemove_b59b0_5 ?_
  refine V_iadd G dJx4a65c_fastRemove_b59b0_6 ?_
  refine V_ibit G rfl ?_
  refine V_putI (jz := 0) G fw_Jx4a65c_63 dJx4a65c_fastRemove_b59b0_7 (by first | decide | assumption) (by first | rfl | assumption) rfl rfl ?_
  refine V_aload0 G dJx4a65c_fastRemove_b59b0_10 ?_
  refine V_getIe (jz := 2) G fl_Jx4a65c_48 dJx4a65c_fastRemove_b59b0_11 (by first | decide | assumption) (by first | rfl | assumption) rfl rfl rfl ?_
  refine V_iconst G dJx4a65c_fastRemove_b59b0_14 ?_
  refine V_isub G dJx4a65c_fastRemove_b59b0_15 ?_
  rw [l7]
  refine V_dup G dJx4a65c_fastRemove_b59b0_16 rfl ?_
  refine V_istore3 G dJx4a65c_fastRemove_b59b0_17 rfl ?_
  refine V_iload2 G dJx4a65c_fastRemove_b59b0_18 ?_
  refine V_icmple G dJx4a65c_fastRemove_b59b0_19 (tgt := 34) (by decide) (by first | exact r _ _ | assumption | exact ⟨by omega, by omega⟩) (by first | exact r _ _ | assumption | exact ⟨by omega, by omega⟩) (fun c_19 => ?_) (fun c_19 => ?_)
  ·
    refine V_aload1 G dJx4a65c_fastRemove_b59b0_34 ?_
    refine V_aload0 G dJx4a65c_fastRemove_b59b0_35 ?_
    refine V_iload3 G dJx4a65c_fastRemove_b59b0_36 ?_
    refine V_dupx1 G dJx4a65c_fastRemove_b59b0_37 rfl rfl ?_
    refine V_putI (jz := 2) G fw_Jx4a65c_48 dJx4a65c_fastRemove_b59b0_38 (by first | decide | assumption) (by first | rfl | assumption) rfl rfl ?_
    refine V_null G dJx4a65c_fastRemove_b59b0_41 ?_
    refine V_aastN G dJx4a65c_fastRemove_b59b0_42 (by first | decide | assumption) (by first | rfl | assumption) (by decide) ⟨by omega, by omega⟩ ?_
    exact V_retv E dJx4a65c_fastRemove_b59b0_43 rfl ⟨rfl, by
      refine ⟨⟨fun a j z => ?_, rfl, fun a j z => ?_⟩, ?_, ?_, ?_, ?_, by omega⟩
      · first
        | (simp only [hI_sR, hI_cpR, hI_sI]
           rw [if_neg (fun y => z ⟨y.1, Or.inr y.2⟩), if_neg (fun y => z ⟨y.1, Or.inl y.2⟩)])
      · first
        | (rw [hR_sR, if_neg (fun y => z y.1)]; show hR (cpR _ _ _ _ _ _) a j = _; rw [hR_cpR, if_neg (fun y => z y.1)]; rfl)
        | (rw [hR_sR, if_neg (fun y => z y.1)]; rfl)
      · first
        | exact (((r.sI (i32_inr _)).cpR).sI ⟨by omega, by omega⟩).sR
        | exact ((r.sI (i32_inr _)).sI ⟨by omega, by omega⟩).sR
      · rw [hI_sR, hI_sI, if_pos ⟨rfl, rfl⟩]
      · intro i y hy
        have il := (List.getElem?_eq_some_iff.mp hy).1
        have t2 := l2 (i + 1) y (by simpa using hy)
        rw [hR_sR, if_neg (by omega)]
        first
        | (show hR (cpR _ _ _ _ _ _) e i = _
           rw [hR_cpR, if_pos (by omega), hR_sI, show (0 : Int) + 1 + ((i : Int) - 0) = ((i + 1 : Nat) : Int) by omega]
           exact t2)
        | (exfalso; omega)
      · exact fun y hy => l3 y (List.mem_cons_of_mem _ hy)⟩
  ·
    refine V_aload1 G dJx4a65c_fastRemove_b59b0_22 ?_
    refine V_iload2 G dJx4a65c_fastRemove_b59b0_23 ?_
    refine V_iconst G dJx4a65c_fastRemove_b59b0_24 ?_
    refine V_iadd G dJx4a65c_fastRemove_b59b0_25 ?_
    refine V_aload1 G dJx4a65c_fastRemove_b59b0_26 ?_
    refine V_iload2 G dJx4a65c_fastRemove_b59b0_27 ?_
    refine V_iload3 G dJx4a65c_fastRemove_b59b0_28 ?_
    refine V_iload2 G dJx4a65c_fastRemove_b59b0_29 ?_
    refine V_isub G dJx4a65c_fastRemove_b59b0_30 ?_
    refine V_copyR G ac_JL dJx4a65c_fastRemove_b59b0_31 q1 q1 q4 q4 (by decide) (by decide) (by omega) (by omega) (by omega) (by omega) (by omega) ?_ (Nat.le_of_ble_eq_true rfl) (by omega) ?_
    · intro j j1 j2 y hy
      rw [hR_sI] at hy
      obtain ⟨z, hz⟩ : ∃ z, (x :: P)[j.toNat]? = some z := ⟨_, List.getElem?_eq_getElem (by simp; omega)⟩
      have := l2 _ _ hz
      rw [show ((j.toNat : Nat) : Int) = j by omega, hy] at this
      cases this
      exact l3 _ (List.mem_of_getElem? hz)
    refine V_aload1 G dJx4a65c_fastRemove_b59b0_34 ?_
    refine V_aload0 G dJx4a65c_fastRemove_b59b0_35 ?_
    refine V_iload3 G dJx4a65c_fastRemove_b59b0_36 ?_
    refine V_dupx1 G dJx4a65c_fastRemove_b59b0_37 rfl rfl ?_
    refine V_putI (jz := 2) G fw_Jx4a65c_48 dJx4a65c_fastRemove_b59b0_38 (by first | decide | assumption) (by first | rfl | assumption) rfl rfl ?_
    refine V_null G dJx4a65c_fastRemove_b59b0_41 ?_
    refine V_aastN G dJx4a65c_fastRemove_b59b0_42 (by first | decide | assumption) (by first | rfl | assumption) (by decide) ⟨by omega, by omega⟩ ?_
    exact V_retv E dJx4a65c_fastRemove_b59b0_43 rfl ⟨rfl, by
      refine ⟨⟨fun a j z => ?_, rfl, fun a j z => ?_⟩, ?_, ?_, ?_, ?_, by omega⟩
      · first
        | (simp only [hI_sR, hI_cpR, hI_sI]
           rw [if_neg (fun y => z ⟨y.1, Or.inr y.2⟩), if_neg (fun y => z ⟨y.1, Or.inl y.2⟩)])
      · first
        | (rw [hR_sR, if_neg (fun y => z y.1)]; show hR (cpR _ _ _ _ _ _) a j = _; rw [hR_cpR, if_neg (fun y => z y.1)]; rfl)
        | (rw [hR_sR, if_neg (fun y => z y.1)]; rfl)
      · first
        | exact (((r.sI (i32_inr _)).cpR).sI ⟨by omega, by omega⟩).sR
        | exact ((r.sI (i32_inr _)).sI ⟨by omega, by omega⟩).sR
      · rw [hI_sR, hI_sI, if_pos ⟨rfl, rfl⟩]
      · intro i y hy
        have il := (List.getElem?_eq_some_iff.mp hy).1
        have t2 := l2 (i + 1) y (by simpa using hy)
        rw [hR_sR, if_neg (by omega)]
        first
        | (show hR (cpR _ _ _ _ _ _) e i = _
           rw [hR_cpR, if_pos (by omega), hR_sI, show (0 : Int) + 1 + ((i : Int) - 0) = ((i + 1 : Nat) : Int) by omega]
           exact t2)
        | (exfalso; omega)
      · exact fun y hy => l3 y (List.mem_cons_of_mem _ hy)⟩

set_option maxRecDepth 100000 in
set_option maxHeartbeats 800000 in
theorem c_Jx4a65c_remove_915e3 {l : Launch} {d : Nat} {h : Hp} {q e : Nat} (hq : isLs q e) (r : Rg h) {P : List Nat} {x : Nat} (L : LsC h q e (x :: P)) (hd : 15 ≤ d := by omega) : CP l d 0 0 yJx4a65c_remove_915e3 cJx4a65c_remove_915e3 4 (Option.some (Jvm.ClassFile.FieldType.object "java/lang/Object")) [.ref q, iv 0] h (pA fun y h1 => y = x ∧ eqL q e h h1 ∧ Rg h1 ∧ LsC h1 q e P) := by
  refine CP.ofV (L := [some (.ref q), some (.int (Int32.ofInt 0)), none, none]) RJx4a65c (by decide +kernel) rfl (Nat.le_of_ble_eq_true rfl) rfl (fun X hX G E => ?_)
  subst hX
  have hq2 := hq
  obtain ⟨q0, q1, q2, q3, q4, q5⟩ := hq
  have l5 : hI h q 2 = (P.length : Int) + 1 := by rw [L.1]; simp
  have l6 : P.length < 9 := by have := L.2.2.2; simp at this; omega
  have er := L.2.1 0 x rfl
  refine V_iload1 G dJx4a65c_remove_915e3_0 ?_
  refine V_aload0 G dJx4a65c_remove_915e3_1 ?_
  refine V_getIe (jz := 2) G fl_Jx4a65c_48 dJx4a65c_remove_915e3_2 (by first | decide | assumption) (by first | rfl | assumption) rfl rfl (by first | (simp only [hI_sI, hI_sL, hL_sI, hL_sL, false_and, true_and, and_false, and_true, and_self, if_false, if_true]; first | done | rfl) | rfl) ?_
  refine V_cS2i (d1 := 14) G m_Jx4a65c_118 dJx4a65c_remove_915e3_5 (c_J15_checkIndex_7cf53 (i := 0) (n := hI h q 2) ⟨by omega, by omega⟩ (by omega)) (by omega) (by omega) (by omega) (Nat.le_of_ble_eq_true rfl) (fun x_5 h_5 hp_5 => ?_)
  rw [hp_5.1, hp_5.2]
  refine V_pop G dJx4a65c_remove_915e3_8 rfl ?_
  refine V_aload0 G dJx4a65c_remove_915e3_9 ?_
  refine V_getR G fl_Jx4a65c_9 dJx4a65c_remove_915e3_10 (by first | decide | assumption) (by first | rfl | assumption) rfl (by first | rfl | assumption) ?_
  refine V_astore2 G dJx4a65c_remove_915e3_13 rfl ?_
  refine V_aload2 G dJx4a65c_remove_915e3_14 ?_
  refine V_iload1 G dJx4a65c_remove_915e3_15 ?_
  refine V_aald G dJx4a65c_remove_915e3_16 (by first | decide | assumption) (by first | rfl | assumption) (by decide) ⟨by omega, by omega⟩ er ?_
  refine V_astore3 G dJx4a65c_remove_915e3_17 rfl ?_
  refine V_aload0 G dJx4a65c_remove_915e3_18 ?_
  refine V_aload2 G dJx4a65c_remove_915e3_19 ?_
  refine V_iload1 G dJx4a65c_remove_915e3_20 ?_
  refine V_cV2v (d1 := 13) G m_Jx4a65c_144 dJx4a65c_remove_915e3_21 (by first | decide | assumption) (by first | rfl | assumption) (c_Jx4a65c_fastRemove_b59b0 hq2 r L) (by omega) (by omega) (by omega) (Nat.le_of_ble_eq_true rfl) (fun h_21 hp_21 => ?_)
  refine V_aload3 G dJx4a65c_remove_915e3_24 ?_
  exact V_reta E dJx4a65c_remove_915e3_25 rfl ⟨_, rfl, ⟨rfl, hp_21⟩⟩

set_option maxRecDepth 100000 in
set_option maxHeartbeats 800000 in
theorem c_Jx4a65c_add_72be8 {l : Launch} {d : Nat} {h : Hp} {q e : Nat} (hq : isLs q e) (r : Rg h) {P : List Nat} {x : Nat} (hx : x < NN) (hx2 : SH x = .inl 5) (L : LsC h q e P) (h9 : P.length < 9) (hd : 17 ≤ d := by omega) : CP l d 0 0 yJx4a65c_add_72be8 cJx4a65c_add_72be8 4 (Option.none : Option Jvm.ClassFile.FieldType) [.ref q, .ref x, .ref e, iv P.length] h (pV fun h1 => eqL q e h h1 ∧ Rg h1 ∧ LsC h1 q e (P ++ [x])) := by
  refine CP.ofV (L := [some (.ref q), some (.ref x), some (.ref e), some (.int (Int32.ofInt P.length))]) RJx4a65c (by decide +kernel) rfl (Nat.le_of_ble_eq_true rfl) rfl (fun X hX G E => ?_)
  subst hX
  obtain ⟨q0, q1, q2, q3, q4, q5⟩ := hq
  obtain ⟨l1, l2, l3, l4⟩ := L
  refine V_iload3 G dJx4a65c_add_72be8_0 ?_
  refine V_aload2 G dJx4a65c_add_72be8_1 ?_
  refine V_alenZ G dJx4a65c_add_72be8_2 (by first | decide | assumption) (by first | rfl | assumption) (by decide) ?_
  refine V_icmpne G dJx4a65c_add_72be8_3 (tgt := 11) (by decide) (by first | exact r _ _ | assumption | exact ⟨by omega, by omega⟩) (by first | exact r _ _ | assumption | exact ⟨by omega, by omega⟩) (fun c_3 => ?_) (fun c_3 => ?_)
  ·
    refine V_aload2 G dJx4a65c_add_72be8_11 ?_
    refine V_iload3 G dJx4a65c_add_72be8_12 ?_
    refine V_aload1 G dJx4a65c_add_72be8_13 ?_
    refine V_aast G dJx4a65c_add_72be8_14 (by first | decide | assumption) (by first | rfl | assumption) (by decide) ⟨by omega, by omega⟩ (by first | decide | assumption) (by first | rfl | assumption) ?_
    refine V_aload0 G dJx4a65c_add_72be8_15 ?_
    refine V_iload3 G dJx4a65c_add_72be8_16 ?_
    refine V_iconst G dJx4a65c_add_72be8_17 ?_
    refine V_iadd G dJx4a65c_add_72be8_18 ?_
    refine V_putI (jz := 2) G fw_Jx4a65c_48 dJx4a65c_add_72be8_19 (by first | decide | assumption) (by first | rfl | assumption) rfl rfl ?_
    exact V_retv E dJx4a65c_add_72be8_22 rfl ⟨rfl, by
      refine ⟨⟨fun a j z => ?_, rfl, fun a j z => ?_⟩, ?_, ?_, ?_, ?_, by simp; omega⟩
      · rw [hI_sI, if_neg (fun y => z ⟨y.1, Or.inr y.2⟩)]; rfl
      · rw [hR_sI, hR_sR, if_neg (fun y => z y.1)]
      · exact (r.sR).sI ⟨by omega, by omega⟩
      · rw [hI_sI, if_pos ⟨rfl, rfl⟩]; simp
      · intro i y hy
        rw [hR_sI, hR_sR]
        by_cases c : i = P.length
        · subst c
          rw [if_pos ⟨rfl, rfl⟩]
          simpa using hy
        · have il := (List.getElem?_eq_some_iff.mp hy).1
          simp at il
          rw [if_neg (by omega)]
          rw [List.getElem?_append_left (by omega)] at hy
          exact l2 i y hy
      · intro y hy
        rcases List.mem_append.mp hy with hy | hy
        · exact l3 y hy
        · rw [List.mem_singleton.mp hy]; exact ⟨hx, hx2⟩⟩
  · omega

set_option maxRecDepth 100000 in
set_option maxHeartbeats 800000 in
theorem c_Jx4a65c_add_9ea2d {l : Launch} {d : Nat} {h : Hp} {q e : Nat} (hq : isLs q e) (r : Rg h) {P : List Nat} {x : Nat} (hx : x < NN) (hx2 : SH x = .inl 5) (L : LsC h q e P) (h9 : P.length < 9) (hd : 18 ≤ d := by omega) : CP l d 0 0 yJx4a65c_add_9ea2d cJx4a65c_add_9ea2d 2 (Option.some Jvm.ClassFile.FieldType.boolean) [.ref q, .ref x] h (pI fun _ h1 => eqL q e h h1 ∧ Rg h1 ∧ LsC h1 q e (P ++ [x])) := by
  refine CP.ofV (L := [some (.ref q), some (.ref x)]) RJx4a65c (by decide +kernel) rfl (Nat.le_of_ble_eq_true rfl) rfl (fun X hX G E => ?_)
  subst hX
  have hq2 := hq
  obtain ⟨q0, q1, q2, q3, q4, q5⟩ := hq
  have L2 : LsC (sI h q 0 (Int32.ofInt (hI h q 0 + 1)).toInt) q e P := ⟨by rw [hI_sI, if_neg (by omega)]; exact L.1, L.2⟩
  have l7 : hI (sI h q 0 (Int32.ofInt (hI h q 0 + 1)).toInt) q 2 = (P.length : Int) := L2.1
  refine V_aload0 G dJx4a65c_add_9ea2d_0 ?_
  refine V_dup G dJx4a65c_add_9ea2d_1 rfl ?_
  refine V_getIe (jz := 0) G fl_Jx4a65c_63 dJx4a65c_add_9ea2d_2 (by first | decide | assumption) (by first | rfl | assumption) rfl rfl (by first | (simp only [hI_sI, hI_sL, hL_sI, hL_sL, false_and, true_and, and_false, and_true, and_self, if_false, if_true]; first | done | rfl) | rfl) ?_
  refine V_iconst G dJx4a65c_add_9ea2d_5 ?_
  refine V_iadd G dJx4a65c_add_9ea2d_6 ?_
  refine V_ibit G rfl ?_
  refine V_putI (jz := 0) G fw_Jx4a65c_63 dJx4a65c_add_9ea2d_7 (by first | decide | assumption) (by first | rfl | assumption) rfl rfl ?_
  refine V_aload0 G dJx4a65c_add_9ea2d_10 ?_
  refine V_aload1 G dJx4a65c_add_9ea2d_11 ?_
  refine V_aload0 G dJx4a65c_add_9ea2d_12 ?_
  refine V_getR G fl_Jx4a65c_9 dJx4a65c_add_9ea2d_13 (by first | decide | assumption) (by first | rfl | assumption) rfl (by first | rfl | assumption) ?_
  refine V_aload0 G dJx4a65c_add_9ea2d_16 ?_
  refine V_getIe (jz := 2) G fl_Jx4a65c_48 dJx4a65c_add_9ea2d_17 (by first | decide | assumption) (by first | rfl | assumption) rfl rfl rfl ?_
  rw [l7]
  refine V_cV3v (d1 := 17) G m_Jx4a65c_131 dJx4a65c_add_9ea2d_20 (by first | decide | assumption) (by first | rfl | assumption) (c_Jx4a65c_add_72be8 hq2 (r.sI (i32_inr _)) hx hx2 L2 h9) (by omega) (by omega) (by omega) (Nat.le_of_ble_eq_true rfl) (fun h_20 hp_20 => ?_)
  refine V_iconst G dJx4a65c_add_9ea2d_23 ?_
  exact V_reti E dJx4a65c_add_9ea2d_24 rfl rfl ⟨_, rfl, by
    obtain ⟨a1, a2, a3⟩ := hp_20
    refine ⟨eqL.tr (h1 := sI h q 0 (Int32.ofInt (hI h q 0 + 1)).toInt) ⟨fun a j z => ?_, rfl, fun a j z => rfl⟩ a1, a2, a3⟩
    rw [hI_sI, if_neg (fun y => z ⟨y.1, Or.inl y.2⟩)]⟩

end C13
