section C14

def isSs (q5 q e : Nat) : Prop := q5 < NN ∧ SH q5 = .inl 6 ∧ RF q5 0 = some q ∧ isLs q e
theorem isSs_all : isSs 45 46 50 ∧ isSs 66 67 71 := ⟨⟨by decide, rfl, rfl, isLs_all.1⟩, ⟨by decide, rfl, rfl, isLs_all.2⟩⟩
theorem isLs.a {q e : Nat} (h : isLs q e) : q < NN := h.1
theorem isLs.b {q e : Nat} (h : isLs q e) : SH q = .inl 0 := h.2.2.1

set_option maxRecDepth 100000 in
set_option maxHeartbeats 800000 in
theorem c_X5_put {l : Launch} {d : Nat} {h : Hp} {q5 q e : Nat} (hs : isSs q5 q e) (r : Rg h) {P : List Nat} (L : LsC h q e P) {i x s : Nat} (hx : P[i]? = some x) (ix : isSt x) (is : isSt s) (hne : s + 2 < x ∨ x + 2 < s) {c : Cs} (hc : StC h s c) (hn0 : 0 ≤ nS c ∧ nS c ≤ 12) (hd : 16 ≤ d := by omega) : CP l d 0 0 yX5_put cX5_put 3 (Option.none : Option Jvm.ClassFile.FieldType) [.ref q5, iv i, .ref s] h (pV fun h1 => eqx (Sst x) h h1 ∧ Rg h1 ∧ StC h1 x c) := by
  refine CP.ofV (L := [some (.ref q5), some (.int (Int32.ofInt i)), some (.ref s)]) RX5 (by decide +kernel) rfl (Nat.le_of_ble_eq_true rfl) rfl (fun X hX G E => ?_)
  subst hX
  obtain ⟨s0, s1, s2, hq⟩ := hs
  have hqa := hq.a
  have hqb := hq.b
  have il := (List.getElem?_eq_some_iff.mp hx).1
  have i9 := L.2.2.2
  have xa := ix.1
  have xb := ix.2.2.2.1
  refine V_iload1 G dX5_put_0 ?_
  refine V_iflt G dX5_put_1 (tgt := 30) (by decide) (by first | exact r _ _ | assumption | exact ⟨by omega, by omega⟩) (fun c_1 => ?_) (fun c_1 => ?_)
  · omega
  ·
    refine V_iload1 G dX5_put_4 ?_
    refine V_aload0 G dX5_put_5 ?_
    refine V_getR G fl_X5_10 dX5_put_6 (by first | decide | assumption) (by first | rfl | assumption) rfl (by first | rfl | assumption) ?_
    refine V_cV0i (d1 := 1) G m_X5_23 dX5_put_9 (by first | decide | assumption) (by first | rfl | assumption) (c_Jx4a65c_size_8abf5 hq) (by omega) (by omega) (by omega) (Nat.le_of_ble_eq_true rfl) (fun x_9 h_9 hp_9 => ?_)
    rw [show x_9 = _ from hp_9.1.trans L.1, hp_9.2]
    refine V_icmpge G dX5_put_12 (tgt := 30) (by decide) (by first | exact r _ _ | assumption | exact ⟨by omega, by omega⟩) (by first | exact r _ _ | assumption | exact ⟨by omega, by omega⟩) (fun c_12 => ?_) (fun c_12 => ?_)
    · omega
    ·
      refine V_aload0 G dX5_put_15 ?_
      refine V_getR G fl_X5_10 dX5_put_16 (by first | decide | assumption) (by first | rfl | assumption) rfl (by first | rfl | assumption) ?_
      refine V_iload1 G dX5_put_19 ?_
      refine V_cV1a (d1 := 15) G m_X5_27 dX5_put_20 (by first | decide | assumption) (by first | rfl | assumption) (c_Jx4a65c_get_915e3 hq L hx) (by omega) (by omega) (by omega) (Nat.le_of_ble_eq_true rfl) (fun x_20 h_20 hp_20 => ?_)
      obtain ⟨b1, b2⟩ := hp_20
      rw [b1, b2]
      refine V_castSt G cl_X5_16 dX5_put_23 (by first | decide | assumption) (by first | rfl | assumption) ?_
      refine V_aload2 G dX5_put_26 ?_
      refine V_cV1v (d1 := 13) G m_X5_31 dX5_put_27 (by first | decide | assumption) (by first | rfl | assumption) (c_X4_take r ix is hne hc hn0) (by omega) (by omega) (by omega) (Nat.le_of_ble_eq_true rfl) (fun h_27 hp_27 => ?_)
      first
      | exact V_retv E dX5_put_30 rfl ⟨rfl, hp_27⟩
      | (exfalso; omega)

set_option maxRecDepth 100000 in
set_option maxHeartbeats 800000 in
theorem c_X5_copyTo {l : Launch} {d : Nat} {h : Hp} {q5 q e : Nat} (hs : isSs q5 q e) (r : Rg h) {P : List Nat} (L : LsC h q e P) {i x s : Nat} (hx : P[i]? = some x) (ix : isSt x) (is : isSt s) (hne : x + 2 < s ∨ s + 2 < x) {c : Cs} (hc : StC h x c) (hn0 : 0 ≤ nS c ∧ nS c ≤ 12) (hd : 16 ≤ d := by omega) : CP l d 0 0 yX5_copyTo cX5_copyTo 3 (Option.none : Option Jvm.ClassFile.FieldType) [.ref q5, iv i, .ref s] h (pV fun h1 => eqx (Sst s) h h1 ∧ Rg h1 ∧ StC h1 s c) := by
  refine CP.ofV (L := [some (.ref q5), some (.int (Int32.ofInt i)), some (.ref s)]) RX5 (by decide +kernel) rfl (Nat.le_of_ble_eq_true rfl) rfl (fun X hX G E => ?_)
  subst hX
  obtain ⟨s0, s1, s2, hq⟩ := hs
  have hqa := hq.a
  have hqb := hq.b
  have il := (List.getElem?_eq_some_iff.mp hx).1
  have i9 := L.2.2.2
  have xa := ix.1
  have xb := ix.2.2.2.1
  have sa := is.1
  have sb := is.2.2.2.1
  refine V_iload1 G dX5_copyTo_0 ?_
  refine V_iflt G dX5_copyTo_1 (tgt := 30) (by decide) (by first | exact r _ _ | assumption | exact ⟨by omega, by omega⟩) (fun c_1 => ?_) (fun c_1 => ?_)
  · omega
  ·
    refine V_iload1 G dX5_copyTo_4 ?_
    refine V_aload0 G dX5_copyTo_5 ?_
    refine V_getR G fl_X5_10 dX5_copyTo_6 (by first | decide | assumption) (by first | rfl | assumption) rfl (by first | rfl | assumption) ?_
    refine V_cV0i (d1 := 1) G m_X5_23 dX5_copyTo_9 (by first | decide | assumption) (by first | rfl | assumption) (c_Jx4a65c_size_8abf5 hq) (by omega) (by omega) (by omega) (Nat.le_of_ble_eq_true rfl) (fun x_9 h_9 hp_9 => ?_)
    rw [show x_9 = _ from hp_9.1.trans L.1, hp_9.2]
    refine V_icmpge G dX5_copyTo_12 (tgt := 30) (by decide) (by first | exact r _ _ | assumption | exact ⟨by omega, by omega⟩) (by first | exact r _ _ | assumption | exact ⟨by omega, by omega⟩) (fun c_12 => ?_) (fun c_12 => ?_)
    · omega
    ·
      refine V_aload2 G dX5_copyTo_15 ?_
      refine V_aload0 G dX5_copyTo_16 ?_
      refine V_getR G fl_X5_10 dX5_copyTo_17 (by first | decide | assumption) (by first | rfl | assumption) rfl (by first | rfl | assumption) ?_
      refine V_iload1 G dX5_copyTo_20 ?_
      refine V_cV1a (d1 := 15) G m_X5_27 dX5_copyTo_21 (by first | decide | assumption) (by first | rfl | assumption) (c_Jx4a65c_get_915e3 hq L hx) (by omega) (by omega) (by omega) (Nat.le_of_ble_eq_true rfl) (fun x_21 h_21 hp_21 => ?_)
      obtain ⟨b1, b2⟩ := hp_21
      rw [b1, b2]
      refine V_castSt G cl_X5_16 dX5_copyTo_24 (by first | decide | assumption) (by first | rfl | assumption) ?_
      refine V_cV1v (d1 := 13) G m_X5_31 dX5_copyTo_27 (by first | decide | assumption) (by first | rfl | assumption) (c_X4_take r is ix hne hc hn0) (by omega) (by omega) (by omega) (Nat.le_of_ble_eq_true rfl) (fun h_27 hp_27 => ?_)
      first
      | exact V_retv E dX5_copyTo_30 rfl ⟨rfl, hp_27⟩
      | (exfalso; omega)

set_option maxRecDepth 100000 in
set_option maxHeartbeats 800000 in
theorem c_X5_turnFirst {l : Launch} {d : Nat} {h : Hp} {q5 q e : Nat} (hs : isSs q5 q e) (r : Rg h) {P : List Nat} {x : Nat} (L : LsC h q e (x :: P)) (hd : 19 ≤ d := by omega) : CP l d 0 0 yX5_turnFirst cX5_turnFirst 1 (Option.none : Option Jvm.ClassFile.FieldType) [.ref q5] h (pV fun h1 => eqL q e h h1 ∧ Rg h1 ∧ LsC h1 q e (P ++ [x])) := by
  refine CP.ofV (L := [some (.ref q5)]) RX5 (by decide +kernel) rfl (Nat.le_of_ble_eq_true rfl) rfl (fun X hX G E => ?_)
  subst hX
  obtain ⟨s0, s1, s2, hq⟩ := hs
  have hqa := hq.a
  have hqb := hq.b
  have i9 := L.2.2.2
  have i8 : P.length < 9 := by simp at i9; omega
  have e1 : hI h q 2 = (P.length : Int) + 1 := by rw [L.1]; simp
  have xa := (L.2.2.1 x (by simp)).1
  have xb := (L.2.2.1 x (by simp)).2
  refine V_aload0 G dX5_turnFirst_0 ?_
  refine V_getR G fl_X5_10 dX5_turnFirst_1 (by first | decide | assumption) (by first | rfl | assumption) rfl (by first | rfl | assumption) ?_
  refine V_cV0i (d1 := 1) G m_X5_23 dX5_turnFirst_4 (by first | decide | assumption) (by first | rfl | assumption) (c_Jx4a65c_size_8abf5 hq) (by omega) (by omega) (by omega) (Nat.le_of_ble_eq_true rfl) (fun x_4 h_4 hp_4 => ?_)
  rw [show x_4 = _ from hp_4.1.trans e1, hp_4.2]
  refine V_ifle G dX5_turnFirst_7 (tgt := 29) (by decide) (by first | exact r _ _ | assumption | exact ⟨by omega, by omega⟩) (fun c_7 => ?_) (fun c_7 => ?_)
  · omega
  ·
    refine V_aload0 G dX5_turnFirst_10 ?_
    refine V_getR G fl_X5_10 dX5_turnFirst_11 (by first | decide | assumption) (by first | rfl | assumption) rfl (by first | rfl | assumption) ?_
    refine V_aload0 G dX5_turnFirst_14 ?_
    refine V_getR G fl_X5_10 dX5_turnFirst_15 (by first | decide | assumption) (by first | rfl | assumption) rfl (by first | rfl | assumption) ?_
    refine V_iconst G dX5_turnFirst_18 ?_
    refine V_cV1a (d1 := 15) G m_X5_35 dX5_turnFirst_19 (by first | decide | assumption) (by first | rfl | assumption) (c_Jx4a65c_remove_915e3 hq r L) (by omega) (by omega) (by omega) (Nat.le_of_ble_eq_true rfl) (fun x_19 h_19 hp_19 => ?_)
    obtain ⟨b1, b2, b3, b4⟩ := hp_19
    rw [b1]
    refine V_castSt G cl_X5_16 dX5_turnFirst_22 (by first | decide | assumption) (by first | rfl | assumption) ?_
    refine V_cV1i (d1 := 18) G m_X5_19 dX5_turnFirst_25 (by first | decide | assumption) (by first | rfl | assumption) (c_Jx4a65c_add_9ea2d hq b3 xa xb b4 i8) (by omega) (by omega) (by omega) (Nat.le_of_ble_eq_true rfl) (fun x_25 h_25 hp_25 => ?_)
    obtain ⟨d1, d2, d3⟩ := hp_25
    refine V_pop G dX5_turnFirst_28 rfl ?_
    exact V_retv E dX5_turnFirst_29 rfl ⟨rfl, ⟨b2.tr d1, d2, d3⟩⟩


def sv6 : List Nat := [47, 51, 54, 57, 60, 63]
theorem sv6_st : ∀ x ∈ sv6, isSt x := by
  obtain ⟨-, -, a, b, c, d, e, f, -⟩ := isSt_all
  intro x hx
  simp only [sv6, List.mem_cons, List.mem_nil_iff, or_false] at hx
  rcases hx with rfl | rfl | rfl | rfl | rfl | rfl <;> assumption
theorem sv6_d : ∀ a ∈ sv6, ∀ b ∈ sv6, a ≠ b → a + 2 < b ∨ b + 2 < a := by decide
theorem sv6_r : ∀ a ∈ sv6, 47 ≤ a ∧ a + 2 ≤ 65 ∧ a ≠ 50 ∧ a + 1 ≠ 50 ∧ a + 2 ≠ 50 := by decide
/-- the ints, the longs, the references that stay -/
def eqz (S : Nat → Int → Bool) (L : Nat → Bool) (h h1 : Hp) : Prop := (∀ a j, S a j = false → hI h1 a j = hI h a j) ∧ (∀ a j, L a = false → hL h1 a j = hL h a j) ∧ ∀ a j, a ≠ 50 → hR h1 a j = hR h a j
theorem eqz.rf {S : Nat → Int → Bool} {L : Nat → Bool} {h : Hp} : eqz S L h h := ⟨fun _ _ _ => rfl, fun _ _ _ => rfl, fun _ _ _ => rfl⟩
theorem eqz.tr {S : Nat → Int → Bool} {L : Nat → Bool} {h h1 h2 : Hp} (a : eqz S L h h1) (b : eqz S L h1 h2) : eqz S L h h2 := ⟨fun q j e => (b.1 q j e).trans (a.1 q j e), fun q j e => (b.2.1 q j e).trans (a.2.1 q j e), fun q j e => (b.2.2 q j e).trans (a.2.2 q j e)⟩
theorem eqz.mono {S S' : Nat → Int → Bool} {L L' : Nat → Bool} {h h1 : Hp} (a : eqz S L h h1) (b : ∀ q j, S' q j = false → S q j = false) (b2 : ∀ q, L' q = false → L q = false) : eqz S' L' h h1 := ⟨fun q j e => a.1 q j (b q j e), fun q j e => a.2.1 q j (b2 q e), a.2.2⟩
theorem eqw.z {S S' : Nat → Int → Bool} {L L' : Nat → Bool} {h h1 : Hp} (a : eqw S L h h1) (b : ∀ q j, S' q j = false → S q j = false) (b2 : ∀ q, L' q = false → L q = false) : eqz S' L' h h1 := ⟨fun q j e => a.1 q j (b q j e), fun q j e => a.2.1 q j (b2 q e), fun q j _ => by rw [a.2.2]⟩
theorem eqx.z {S S' : Nat → Int → Bool} {L : Nat → Bool} {h h1 : Hp} (a : eqx S h h1) (b : ∀ q j, S' q j = false → S q j = false) : eqz S' L h h1 := ⟨fun q j e => a.1 q j (b q j e), fun q j _ => by rw [a.2.1], fun q j _ => by rw [a.2.2]⟩
theorem eqz.st {S : Nat → Int → Bool} {L : Nat → Bool} {h h1 : Hp} {q : Nat} {j v : Int} (a : eqz S L h h1) (b : S q j = true) : eqz S L h (sI h1 q j v) := ⟨fun q2 j2 e => by
  rw [hI_sI]
  split
  · next z => rw [z.1, z.2, b] at e; cases e
  · exact a.1 q2 j2 e, a.2.1, a.2.2⟩
def SV (a : Nat) (j : Int) : Bool := decide (46 ≤ a ∧ a ≤ 65) || (a == 0 && j == 10)
def noL (_ : Nat) : Bool := false
theorem eqL.z {h h1 : Hp} (a : eqL 46 50 h h1) : eqz SV noL h h1 := ⟨fun q j e => a.1 q j (fun z => by rw [z.1] at e; simp [SV] at e), fun q j _ => by rw [a.2.1], a.2.2⟩
/-- the saved states lie in the list in an order P of its places -/
def SvC (h : Hp) (P : List Nat) (sv : List Cs) : Prop := P.Perm sv6 ∧ LsC h 46 50 P ∧ hI h 0 10 = sv.length ∧ sv.length ≤ 6 ∧ ∀ (i : Nat) (c : Cs), sv[i]? = some c → ∃ p, P[i]? = some p ∧ StC h p c
theorem SvC.eq {h h1 : Hp} {P : List Nat} {sv : List Cs} (a : SvC h P sv) (e : ∀ z j, SV z j = true → hI h1 z j = hI h z j) (eR : ∀ j, hR h1 50 j = hR h 50 j) : SvC h1 P sv := by
  obtain ⟨a1, ⟨b1, b2, b3, b4⟩, a3, a4, a5⟩ := a
  refine ⟨a1, ⟨(e _ _ (by decide)).trans b1, fun i x hx => (eR _).trans (b2 i x hx), b3, b4⟩, (e _ _ (by decide)).trans a3, a4, fun i c hc => ?_⟩
  obtain ⟨p, p1, p2⟩ := a5 i c hc
  have := sv6_r p (a1.mem_iff.mp (List.mem_of_getElem? p1))
  exact ⟨p, p1, p2.eq (fun z j q => e z j (by simp [SV]; omega))⟩

set_option maxRecDepth 100000 in
set_option maxHeartbeats 800000 in
theorem c_X6_saveState {l : Launch} {d : Nat} {h : Hp} (r : Rg h) {P : List Nat} {sv : List Cs} (W : SvC h P sv) {c : Cs} (S : StC h 1 c) (hn0 : 0 ≤ nS c ∧ nS c ≤ 12) (hd : 20 ≤ d := by omega) : CP l d 0 0 yX6_saveState cX6_saveState 1 (Option.none : Option Jvm.ClassFile.FieldType) [.ref 0] h (pV fun h1 => eqz SV noL h h1 ∧ Rg h1 ∧ ∃ P1, SvC h1 P1 (savL sv c)) := by
  refine CP.ofV (L := [some (.ref 0)]) RX6 (by decide +kernel) rfl (Nat.le_of_ble_eq_true rfl) rfl (fun X hX G E => ?_)
  subst hX
  have tail : ∀ (g : Hp) (P2 : List Nat) (sv2 : List Cs), Rg g → SvC g P2 sv2 → sv2.length < 6 → sv2 ++ [c] = savL sv c → StC g 1 c → eqz SV noL h g → V X 0 0 26 [some (.ref 0)] [] g := by
    intro g P2 sv2 rg W2 l6 es S2 ez
    obtain ⟨w1, w2, w3, w4, w5⟩ := W2
    have lp : P2.length = 6 := w1.length_eq
    obtain ⟨x, hx⟩ : ∃ x, P2[sv2.length]? = some x := ⟨_, List.getElem?_eq_getElem (by omega)⟩
    have xm := w1.mem_iff.mp (List.mem_of_getElem? hx)
    have xr := sv6_r x xm
    refine V_aload0 G dX6_saveState_26 ?_
    refine V_getR G fl_X6_59 dX6_saveState_27 (by first | decide | assumption) (by first | rfl | assumption) rfl (by first | rfl | assumption) ?_
    refine V_aload0 G dX6_saveState_30 ?_
    refine V_getIe (jz := 10) G fl_X6_63 dX6_saveState_31 (by first | decide | assumption) (by first | rfl | assumption) rfl rfl (by first | (simp only [hI_sI, hI_sL, hL_sI, hL_sL, false_and, true_and, and_false, and_true, and_self, if_false, if_true, bc]; first | done | rfl) | rfl) ?_
    refine V_aload0 G dX6_saveState_34 ?_
    rw [w3]
    refine V_getR G fl_X6_12 dX6_saveState_35 (by first | decide | assumption) (by first | rfl | assumption) rfl (by first | rfl | assumption) ?_
    refine V_cV2v (d1 := 16) G m_X6_183 dX6_saveState_38 (by first | decide | assumption) (by first | rfl | assumption) (c_X5_put isSs_all.1 rg w2 hx (sv6_st x xm) isSt_all.1 (by omega) S2 hn0) (by omega) (by omega) (by omega) (Nat.le_of_ble_eq_true rfl) (fun h_38 hp_38 => ?_)
    obtain ⟨b1, b2, b3⟩ := hp_38
    have bc : hI h_38 0 10 = (sv2.length : Int) := (b1.1 0 10 (by simp [Sst]; omega)).trans w3
    refine V_aload0 G dX6_saveState_41 ?_
    refine V_dup G dX6_saveState_42 rfl ?_
    refine V_getIe (jz := 10) G fl_X6_63 dX6_saveState_43 (by first | decide | assumption) (by first | rfl | assumption) rfl rfl (by first | (simp only [hI_sI, hI_sL, hL_sI, hL_sL, false_and, true_and, and_false, and_true, and_self, if_false, if_true, bc]; first | done | rfl) | rfl) ?_
    refine V_iconst G dX6_saveState_46 ?_
    refine V_iadd G dX6_saveState_47 ?_
    refine V_putI (jz := 10) G fw_X6_63 dX6_saveState_48 (by first | decide | assumption) (by first | rfl | assumption) rfl rfl ?_
    exact V_retv E dX6_saveState_51 rfl ⟨rfl, by
      refine ⟨(ez.tr (b1.z (fun a j z => ?_))).st (by decide), b2.sI ⟨by omega, by omega⟩, P2, w1, ⟨?_, fun i y hy => ?_, w2.2.2.1, w2.2.2.2⟩, ?_, ?_, fun i d hd => ?_⟩
      · simp only [SV, Bool.or_eq_false_iff, decide_eq_false_iff_not] at z
        simp only [Sst, Bool.or_eq_false_iff, beq_eq_false_iff_ne]
        omega
      · rw [hI_sI, if_neg (by omega), b1.1 46 2 (by simp [Sst]; omega)]; exact w2.1
      · show hR h_38 50 i = _
        rw [b1.2.2]; exact w2.2.1 i y hy
      · rw [← es, hI_sI, if_pos ⟨rfl, rfl⟩]; simp
      · rw [← es]; simp; omega
      · rw [← es] at hd
        by_cases c1 : i = sv2.length
        · subst c1
          simp at hd
          subst hd
          exact ⟨x, hx, b3.eq (fun z j q => by rw [hI_sI, if_neg (by omega)])⟩
        · have il := (List.getElem?_eq_some_iff.mp hd).1
          simp at il
          rw [List.getElem?_append_left (by omega)] at hd
          obtain ⟨p, p1, p2⟩ := w5 i d hd
          have pm := w1.mem_iff.mp (List.mem_of_getElem? p1)
          have pr := sv6_r p pm
          have pne : p ≠ x := fun e => by
            subst e
            have nd : P2.Nodup := w1.nodup_iff.mpr (by decide)
            have i1 := (List.getElem?_eq_some_iff.mp p1).1
            exact c1 ((List.getElem?_inj i1 nd).mp (p1.trans hx.symm))
          have pd := sv6_d p pm x xm pne
          exact ⟨p, p1, p2.eq (fun z j q => by rw [hI_sI, if_neg (by omega)]; exact b1.1 z j (by simp [Sst]; omega))⟩⟩
  obtain ⟨w1, w2, w3, w4, w5⟩ := W
  have lp : P.length = 6 := w1.length_eq
  have sr : hI h 0 10 = (sv.length : Int) := w3
  refine V_aload0 G dX6_saveState_0 ?_
  refine V_getIe (jz := 10) G fl_X6_63 dX6_saveState_1 (by first | decide | assumption) (by first | rfl | assumption) rfl rfl (by first | (simp only [hI_sI, hI_sL, hL_sI, hL_sL, false_and, true_and, and_false, and_true, and_self, if_false, if_true, bc]; first | done | rfl) | rfl) ?_
  rw [sr]
  refine V_bipush G dX6_saveState_4 (by decide) ?_
  refine V_icmpne G dX6_saveState_6 (tgt := 26) (by decide) (by first | exact r _ _ | assumption | exact ⟨by omega, by omega⟩) (by first | exact r _ _ | assumption | exact ⟨by omega, by omega⟩) (fun c_6 => ?_) (fun c_6 => ?_)
  · exact tail h P sv r ⟨w1, w2, w3, w4, w5⟩ (by omega) (by unfold savL; rw [if_neg (by omega)]) S eqz.rf
  ·
    obtain ⟨x, P1, rfl⟩ : ∃ x P1, P = x :: P1 := by
      cases P with
      | nil => simp at lp
      | cons x P1 => exact ⟨x, P1, rfl⟩
    obtain ⟨c0, s1, rfl⟩ : ∃ c0 s1, sv = c0 :: s1 := by
      cases sv with
      | nil => simp at c_6
      | cons x P1 => exact ⟨x, P1, rfl⟩
    have sl : s1.length = 5 := by simp at c_6; omega
    refine V_aload0 G dX6_saveState_9 ?_
    refine V_getR G fl_X6_59 dX6_saveState_10 (by first | decide | assumption) (by first | rfl | assumption) rfl (by first | rfl | assumption) ?_
    refine V_cV0v (d1 := 19) G m_X6_262 dX6_saveState_13 (by first | decide | assumption) (by first | rfl | assumption) (c_X5_turnFirst isSs_all.1 r w2) (by omega) (by omega) (by omega) (Nat.le_of_ble_eq_true rfl) (fun h_13 hp_13 => ?_)
    obtain ⟨b1, b2, b3⟩ := hp_13
    have bc : hI h_13 0 10 = (6 : Int) := (b1.1 0 10 (by omega)).trans (sr.trans c_6)
    refine V_aload0 G dX6_saveState_16 ?_
    refine V_dup G dX6_saveState_17 rfl ?_
    refine V_getIe (jz := 10) G fl_X6_63 dX6_saveState_18 (by first | decide | assumption) (by first | rfl | assumption) rfl rfl (by first | (simp only [hI_sI, hI_sL, hL_sI, hL_sL, false_and, true_and, and_false, and_true, and_self, if_false, if_true, bc]; first | done | rfl) | rfl) ?_
    refine V_iconst G dX6_saveState_21 ?_
    refine V_isub G dX6_saveState_22 ?_
    refine V_putI (jz := 10) G fw_X6_63 dX6_saveState_23 (by first | decide | assumption) (by first | rfl | assumption) rfl rfl ?_
    refine tail _ (P1 ++ [x]) s1 (b2.sI ⟨by omega, by omega⟩) ⟨?_, ⟨?_, b3.2⟩, ?_, by omega, fun i d hd => ?_⟩ (by omega) (by unfold savL; rw [if_pos (by simp; omega)]; rfl) (S.eq (fun z j q => by rw [hI_sI, if_neg (by omega)]; exact b1.1 z j (by omega))) ((eqz.tr eqz.rf b1.z).st (by decide))
    · exact (List.perm_append_comm.trans (by exact w1) : (P1 ++ [x]).Perm sv6)
    · rw [hI_sI, if_neg (by omega)]; exact b3.1
    · rw [hI_sI, if_pos ⟨rfl, rfl⟩, sl]; rfl
    · obtain ⟨p, p1, p2⟩ := w5 (i + 1) d (by simpa using hd)
      have il := (List.getElem?_eq_some_iff.mp hd).1
      have pr := sv6_r p (w1.mem_iff.mp (List.mem_of_getElem? p1))
      refine ⟨p, ?_, p2.eq (fun z j q => ?_)⟩
      · rw [List.getElem?_append_left (by simp at lp; omega)]
        simpa using p1
      · rw [hI_sI, if_neg (by omega)]
        exact b1.1 z j (by omega)

end C14
