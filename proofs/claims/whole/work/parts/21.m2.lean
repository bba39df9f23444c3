
section M2
abbrev E3 : Type := Int × Int × Int
/-- the open parts, the top first, as they lie in the arrays open, word, more -/
def stk (h : Hp) : List E3 → Prop
  | [] => True
  | e :: L => hI h 83 L.length = e.1 ∧ hI h 84 L.length = e.2.1 ∧ hI h 85 L.length = e.2.2 ∧ stk h L
/-- alike but where S says -/
def eqx (S : Nat → Int → Bool) (h h' : Hp) : Prop := (∀ q j, S q j = false → hI h' q j = hI h q j) ∧ hL h' = hL h ∧ hR h' = hR h
theorem eqx.rf {S : Nat → Int → Bool} {h : Hp} : eqx S h h := ⟨fun _ _ _ => rfl, rfl, rfl⟩
theorem eqx.tr {S : Nat → Int → Bool} {h h1 h2 : Hp} (a : eqx S h h1) (b : eqx S h1 h2) : eqx S h h2 := ⟨fun q j e => (b.1 q j e).trans (a.1 q j e), b.2.1.trans a.2.1, b.2.2.trans a.2.2⟩
theorem eqx.st {S : Nat → Int → Bool} {h h1 : Hp} {q : Nat} {j v : Int} (a : eqx S h h1) (b : S q j = true) : eqx S h (sI h1 q j v) := ⟨fun q2 j2 e => by
  rw [hI_sI, if_neg (fun z => by rw [z.1, z.2, b] at e; cases e)]
  exact a.1 q2 j2 e, a.2.1, a.2.2⟩
theorem eqx.mono {S S' : Nat → Int → Bool} {h h1 : Hp} (a : eqx S h h1) (b : ∀ q j, S' q j = false → S q j = false) : eqx S' h h1 := ⟨fun q j e => a.1 q j (b q j e), a.2⟩
def Sp (q : Nat) (j : Int) : Bool := q == 83 || q == 84 || q == 85 || q == 87 || q == 88 || (q == 77 && j == 11)
def Sq (q : Nat) (j : Int) : Bool := q == 83 || q == 84 || q == 85 || q == 88 || (q == 77 && j == 11)
theorem Sq_Sp {h h1 : Hp} (e : eqx Sq h h1) : eqx Sp h h1 := e.mono (fun q j z => by simp [Sp] at z; simp [Sq, z]; exact z.2)
theorem stk_w {h : Hp} {q : Nat} {j v : Int} : ∀ {L : List E3}, (q < 83 ∨ 85 < q ∨ (L.length : Int) ≤ j) → stk h L → stk (sI h q j v) L
  | [], _, _ => trivial
  | e :: L, hq, s => by
    obtain ⟨s1, s2, s3, s4⟩ := s
    have hq2 : q < 83 ∨ 85 < q ∨ (L.length : Int) ≤ j := by simp at hq; omega
    have e1 : ∀ z : Nat, 83 ≤ z → z ≤ 85 → hI (sI h q j v) z L.length = hI h z L.length := fun z h1 h2 => by
      rw [hI_sI, if_neg (by simp at hq; omega)]
    exact ⟨(e1 83 (by omega) (by omega)).trans s1, (e1 84 (by omega) (by omega)).trans s2, (e1 85 (by omega) (by omega)).trans s3, stk_w hq2 s4⟩
def mOpens (h : Hp) (t a b c : Int) : Hp := sI (sI (sI (sI h 83 t a) 84 t b) 85 t c) 77 11 (t + 1)
theorem mOpens_stk {h : Hp} {L : List E3} {t a b c : Int} (ht : t = L.length) (s : stk h L) : stk (mOpens h t a b c) ((a, b, c) :: L) ∧ hI (mOpens h t a b c) 77 11 = ((a, b, c) :: L).length := by
  subst ht
  refine ⟨⟨?_, ?_, ?_, ?_⟩, ?_⟩
  · simp [mOpens, hI_sI]
  · simp [mOpens, hI_sI]
  · simp [mOpens, hI_sI]
  · exact stk_w (by omega) (stk_w (by omega) (stk_w (by omega) (stk_w (by omega) s)))
  · simp [mOpens, hI_sI]
theorem mOpens_ne {h : Hp} {t a b c : Int} {q : Nat} {j : Int} (h1 : q ≠ 83) (h2 : q ≠ 84) (h3 : q ≠ 85) (h4 : q ≠ 77) : hI (mOpens h t a b c) q j = hI h q j := by
  simp [mOpens, hI_sI, h1, h2, h3, h4]
theorem mOpens_eqx {S : Nat → Int → Bool} {h h1 : Hp} {t a b c : Int} (e : eqx S h h1) (h3 : S 83 t = true) (h4 : S 84 t = true) (h5 : S 85 t = true) (h7 : S 77 11 = true) : eqx S h (mOpens h1 t a b c) := (((e.st h3).st h4).st h5).st h7
theorem mOpens_Rg {h : Hp} {t a b c : Int} (r : Rg h) (ht : inr (t + 1)) (ha : inr a) (hb : inr b) (hc : inr c) : Rg (mOpens h t a b c) := (((r.sI ha).sI hb).sI hc).sI ht
def wants (a : Int) : Prop := a = 0 ∨ a = 2 ∨ a = 7 ∨ a = 6


set_option maxRecDepth 100000 in
set_option maxHeartbeats 4000000 in
theorem c_X7_opens {l : Launch} {d : Nat} {h : Hp} {a b c t : Int} (ht : 0 ≤ t ∧ t < 16) (hdep : hI h 77 11 = t) (hd : 1 ≤ d := by omega) : CP l d 0 0 yX7_opens cX7_opens 4 (Option.none : Option Jvm.ClassFile.FieldType) [.ref 77, iv a, iv b, iv c] h (pV fun h1 => h1 = mOpens h t a b c) := by
  refine CP.ofV (L := [some (.ref 77), some (.int (Int32.ofInt a)), some (.int (Int32.ofInt b)), some (.int (Int32.ofInt c))]) RX7 (by decide +kernel) rfl (Nat.le_of_ble_eq_true rfl) rfl (fun X hX G E => ?_)
  subst hX
  refine V_aload0 G dX7_opens_0 ?_
  refine V_getR G fl_X7_26 dX7_opens_1 (by first | decide | assumption) (by first | rfl | assumption) rfl (by first | rfl | assumption) ?_
  refine V_aload0 G dX7_opens_4 ?_
  refine V_getIe (jz := 11) G fl_X7_79 dX7_opens_5 (by first | decide | assumption) (by first | rfl | assumption) rfl rfl (by first | (simp only [hI_sI, hI_sL, hL_sI, hL_sL, false_and, true_and, and_false, and_true, and_self, if_false, if_true, hdep]; first | done | rfl) | rfl) ?_
  refine V_iload1 G dX7_opens_8 ?_
  refine V_iast G dX7_opens_9 (by first | decide | assumption) (by first | rfl | assumption) (by decide) ⟨by omega, by omega⟩ ?_
  refine V_aload0 G dX7_opens_10 ?_
  refine V_getR G fl_X7_29 dX7_opens_11 (by first | decide | assumption) (by first | rfl | assumption) rfl (by first | rfl | assumption) ?_
  refine V_aload0 G dX7_opens_14 ?_
  refine V_getIe (jz := 11) G fl_X7_79 dX7_opens_15 (by first | decide | assumption) (by first | rfl | assumption) rfl rfl (by first | (simp only [hI_sI, hI_sL, hL_sI, hL_sL, false_and, true_and, and_false, and_true, and_self, if_false, if_true, hdep]; first | done | rfl) | rfl) ?_
  refine V_iload2 G dX7_opens_18 ?_
  refine V_iast G dX7_opens_19 (by first | decide | assumption) (by first | rfl | assumption) (by decide) ⟨by omega, by omega⟩ ?_
  refine V_aload0 G dX7_opens_20 ?_
  refine V_getR G fl_X7_32 dX7_opens_21 (by first | decide | assumption) (by first | rfl | assumption) rfl (by first | rfl | assumption) ?_
  refine V_aload0 G dX7_opens_24 ?_
  refine V_getIe (jz := 11) G fl_X7_79 dX7_opens_25 (by first | decide | assumption) (by first | rfl | assumption) rfl rfl (by first | (simp only [hI_sI, hI_sL, hL_sI, hL_sL, false_and, true_and, and_false, and_true, and_self, if_false, if_true, hdep]; first | done | rfl) | rfl) ?_
  refine V_iload3 G dX7_opens_28 ?_
  refine V_iast G dX7_opens_29 (by first | decide | assumption) (by first | rfl | assumption) (by decide) ⟨by omega, by omega⟩ ?_
  refine V_aload0 G dX7_opens_30 ?_
  refine V_dup G dX7_opens_31 rfl ?_
  refine V_getIe (jz := 11) G fl_X7_79 dX7_opens_32 (by first | decide | assumption) (by first | rfl | assumption) rfl rfl (by first | (simp only [hI_sI, hI_sL, hL_sI, hL_sL, false_and, true_and, and_false, and_true, and_self, if_false, if_true, hdep]; first | done | rfl) | rfl) ?_
  refine V_iconst G dX7_opens_35 ?_
  refine V_iadd G dX7_opens_36 ?_
  refine V_putI (jz := 11) G fw_X7_79 dX7_opens_37 (by first | decide | assumption) (by first | rfl | assumption) rfl rfl ?_
  exact V_retv E dX7_opens_40 rfl ⟨rfl, rfl⟩

set_option maxRecDepth 100000 in
set_option maxHeartbeats 4000000 in
theorem c_X7_wantsName {l : Launch} {d : Nat} {h : Hp} (r : Rg h) {t : Int} (ht : 0 ≤ t ∧ t < 16) (hdep : hI h 77 11 = t + 1) (hd : 1 ≤ d := by omega) : CP l d 0 0 yX7_wantsName cX7_wantsName 2 (Option.some Jvm.ClassFile.FieldType.boolean) [.ref 77] h (pI fun x h1 => x = bI (hI h 83 t = 0 ∨ hI h 83 t = 2 ∨ hI h 83 t = 7 ∨ hI h 83 t = 6) ∧ h1 = h) := by
  refine CP.ofV (L := [some (.ref 77), none]) RX7 (by decide +kernel) rfl (Nat.le_of_ble_eq_true rfl) rfl (fun X hX G E => ?_)
  subst hX
  refine V_aload0 G dX7_wantsName_0 ?_
  refine V_getR G fl_X7_26 dX7_wantsName_1 (by first | decide | assumption) (by first | rfl | assumption) rfl (by first | rfl | assumption) ?_
  refine V_aload0 G dX7_wantsName_4 ?_
  refine V_getIe (jz := 11) G fl_X7_79 dX7_wantsName_5 (by first | decide | assumption) (by first | rfl | assumption) rfl rfl (by first | (simp only [hI_sI, hI_sL, hL_sI, hL_sL, false_and, true_and, and_false, and_true, and_self, if_false, if_true, hdep]; first | done | rfl) | rfl) ?_
  refine V_iconst G dX7_wantsName_8 ?_
  refine V_isub G dX7_wantsName_9 ?_
  rw [show t + 1 - 1 = t by omega]
  refine V_ialde G dX7_wantsName_10 (by first | decide | assumption) (by first | rfl | assumption) (by decide) ⟨by omega, by omega⟩ (by first | (simp only [hI_sI, hI_sL, hL_sI, hL_sL, false_and, true_and, and_false, and_true, and_self, if_false, if_true, hdep]; first | done | rfl) | rfl) ?_
  refine V_istore1 G dX7_wantsName_11 rfl ?_
  refine V_iload1 G dX7_wantsName_12 ?_
  refine V_ifeq G dX7_wantsName_13 (tgt := 33) (by decide) (by first | exact r _ _ | assumption | exact ⟨by omega, by omega⟩) (fun c_13 => ?_) (fun c_13 => ?_)
  ·
    refine V_iconst G dX7_wantsName_33 ?_
    refine V_goto G dX7_wantsName_34 (tgt := 38) (by decide) ?_
    exact V_reti E dX7_wantsName_38 rfl rfl ⟨_, rfl, ⟨by first | exact bI_t (by omega) | exact bI_f (by omega), rfl⟩⟩
  ·
    refine V_iload1 G dX7_wantsName_16 ?_
    refine V_iconst G dX7_wantsName_17 ?_
    refine V_icmpeq G dX7_wantsName_18 (tgt := 33) (by decide) (by first | exact r _ _ | assumption | exact ⟨by omega, by omega⟩) (by first | exact r _ _ | assumption | exact ⟨by omega, by omega⟩) (fun c_18 => ?_) (fun c_18 => ?_)
    ·
      refine V_iconst G dX7_wantsName_33 ?_
      refine V_goto G dX7_wantsName_34 (tgt := 38) (by decide) ?_
      exact V_reti E dX7_wantsName_38 rfl rfl ⟨_, rfl, ⟨by first | exact bI_t (by omega) | exact bI_f (by omega), rfl⟩⟩
    ·
      refine V_iload1 G dX7_wantsName_21 ?_
      refine V_bipush G dX7_wantsName_22 (by decide) ?_
      refine V_icmpeq G dX7_wantsName_24 (tgt := 33) (by decide) (by first | exact r _ _ | assumption | exact ⟨by omega, by omega⟩) (by first | exact r _ _ | assumption | exact ⟨by omega, by omega⟩) (fun c_24 => ?_) (fun c_24 => ?_)
      ·
        refine V_iconst G dX7_wantsName_33 ?_
        refine V_goto G dX7_wantsName_34 (tgt := 38) (by decide) ?_
        exact V_reti E dX7_wantsName_38 rfl rfl ⟨_, rfl, ⟨by first | exact bI_t (by omega) | exact bI_f (by omega), rfl⟩⟩
      ·
        refine V_iload1 G dX7_wantsName_27 ?_
        refine V_bipush G dX7_wantsName_28 (by decide) ?_
        refine V_icmpne G dX7_wantsName_30 (tgt := 37) (by decide) (by first | exact r _ _ | assumption | exact ⟨by omega, by omega⟩) (by first | exact r _ _ | assumption | exact ⟨by omega, by omega⟩) (fun c_30 => ?_) (fun c_30 => ?_)
        ·
          refine V_iconst G dX7_wantsName_37 ?_
          exact V_reti E dX7_wantsName_38 rfl rfl ⟨_, rfl, ⟨by first | exact bI_t (by omega) | exact bI_f (by omega), rfl⟩⟩
        ·
          refine V_iconst G dX7_wantsName_33 ?_
          refine V_goto G dX7_wantsName_34 (tgt := 38) (by decide) ?_
          exact V_reti E dX7_wantsName_38 rfl rfl ⟨_, rfl, ⟨by first | exact bI_t (by omega) | exact bI_f (by omega), rfl⟩⟩

set_option maxRecDepth 100000 in
set_option maxHeartbeats 4000000 in
theorem c_X7_takesAdjective {l : Launch} {d : Nat} {h : Hp} (r : Rg h) {w t : Int} (ht : 0 ≤ t ∧ t < 15) (hdep : hI h 77 11 = t + 1) (hd : 2 ≤ d := by omega) : CP l d 0 0 yX7_takesAdjective cX7_takesAdjective 2 (Option.some Jvm.ClassFile.FieldType.boolean) [.ref 77, iv w] h (pI fun x h1 => (hI h 83 t = 4 ∧ x = 1 ∧ h1 = h) ∨ (hI h 83 t ≠ 4 ∧ (hI h 83 t = 0 ∨ hI h 83 t = 2 ∨ hI h 83 t = 7 ∨ hI h 83 t = 6) ∧ x = 1 ∧ h1 = mOpens h (t + 1) 4 w 0) ∨ (hI h 83 t ≠ 4 ∧ ¬ (hI h 83 t = 0 ∨ hI h 83 t = 2 ∨ hI h 83 t = 7 ∨ hI h 83 t = 6) ∧ x = 0 ∧ h1 = h)) := by
  refine CP.ofV (L := [some (.ref 77), some (.int (Int32.ofInt w))]) RX7 (by decide +kernel) rfl (Nat.le_of_ble_eq_true rfl) rfl (fun X hX G E => ?_)
  subst hX
  refine V_aload0 G dX7_takesAdjective_0 ?_
  refine V_getR G fl_X7_26 dX7_takesAdjective_1 (by first | decide | assumption) (by first | rfl | assumption) rfl (by first | rfl | assumption) ?_
  refine V_aload0 G dX7_takesAdjective_4 ?_
  refine V_getIe (jz := 11) G fl_X7_79 dX7_takesAdjective_5 (by first | decide | assumption) (by first | rfl | assumption) rfl rfl (by first | (simp only [hI_sI, hI_sL, hL_sI, hL_sL, false_and, true_and, and_false, and_true, and_self, if_false, if_true, hdep]; first | done | rfl) | rfl) ?_
  refine V_iconst G dX7_takesAdjective_8 ?_
  refine V_isub G dX7_takesAdjective_9 ?_
  rw [show t + 1 - 1 = t by omega]
  refine V_ialde G dX7_takesAdjective_10 (by first | decide | assumption) (by first | rfl | assumption) (by decide) ⟨by omega, by omega⟩ (by first | (simp only [hI_sI, hI_sL, hL_sI, hL_sL, false_and, true_and, and_false, and_true, and_self, if_false, if_true, hdep]; first | done | rfl) | rfl) ?_
  refine V_iconst G dX7_takesAdjective_11 ?_
  refine V_icmpne G dX7_takesAdjective_12 (tgt := 17) (by decide) (by first | exact r _ _ | assumption | exact ⟨by omega, by omega⟩) (by first | exact r _ _ | assumption | exact ⟨by omega, by omega⟩) (fun c_12 => ?_) (fun c_12 => ?_)
  ·
    refine V_aload0 G dX7_takesAdjective_17 ?_
    refine V_cV0i (d1 := 1) G m_X7_94 dX7_takesAdjective_18 (by first | decide | assumption) (by first | rfl | assumption) (c_X7_wantsName r (t := t) (by omega) hdep) (by omega) (by omega) (by omega) (Nat.le_of_ble_eq_true rfl) (fun x_18 h_18 hp_18 => ?_)
    rw [hp_18.1, hp_18.2]
    refine V_ifneB G dX7_takesAdjective_21 (tgt := 26) (by decide)  (fun c_21 => ?_) (fun c_21 => ?_)
    ·
      refine V_aload0 G dX7_takesAdjective_26 ?_
      refine V_iconst G dX7_takesAdjective_27 ?_
      refine V_iload1 G dX7_takesAdjective_28 ?_
      refine V_iconst G dX7_takesAdjective_29 ?_
      refine V_cV3v (d1 := 1) G m_X7_98 dX7_takesAdjective_30 (by first | decide | assumption) (by first | rfl | assumption) (c_X7_opens (by omega) hdep) (by omega) (by omega) (by omega) (Nat.le_of_ble_eq_true rfl) (fun h_30 hp_30 => ?_)
      rw [hp_30]
      refine V_iconst G dX7_takesAdjective_33 ?_
      exact V_reti E dX7_takesAdjective_34 rfl rfl ⟨_, rfl, Or.inr (Or.inl ⟨by omega, c_21, rfl, rfl⟩)⟩
    ·
      refine V_iconst G dX7_takesAdjective_24 ?_
      exact V_reti E dX7_takesAdjective_25 rfl rfl ⟨_, rfl, Or.inr (Or.inr ⟨by omega, c_21, rfl, rfl⟩)⟩
  ·
    refine V_iconst G dX7_takesAdjective_15 ?_
    exact V_reti E dX7_takesAdjective_16 rfl rfl ⟨_, rfl, Or.inl ⟨by omega, rfl, rfl⟩⟩


def upH (f : Int → Int) (k v : Int) : Int → Int := fun j => if j = k then v else f j
def fillH (f : Int → Int) (s w : Int) : Int → Int := fun j => if s ≤ j ∧ j < w then w else f j
abbrev St3 : Type := List E3 × (Int → Int)
def nounTop (w : Int) (L : List E3) (hd : Int → Int) : Option St3 := match L with
  | [] => none
  | (a, b, c) :: T => if a = 0 then some ((5, w, 1) :: (1, w, c) :: T, hd) else if a = 2 then some ((5, w, 1) :: (3, b, c) :: T, upH hd w b) else if a = 7 then some ((5, w, 1) :: T, upH hd w b) else if a = 6 then some ((5, w, 0) :: T, upH hd w b) else none
def nounStep (w : Int) (L : List E3) (hd : Int → Int) : Option St3 := match L with
  | [] => none
  | (a, b, c) :: T => if a = 4 then nounTop w T (fillH hd b w) else nounTop w ((a, b, c) :: T) hd
def verbStep (w : Int) (L : List E3) (hd : Int → Int) : Option St3 := match L with
  | [] => none
  | (a, b, c) :: T => if a = 5 then verbStep w T hd else if a = 1 then some ((2, w, c) :: T, upH (upH hd b w) w c) else none
def adjStep (w : Int) (L : List E3) (hd : Int → Int) : Option St3 := match L with
  | [] => none
  | (a, b, c) :: T => if a = 4 then some ((a, b, c) :: T, hd) else if a = 0 ∨ a = 2 ∨ a = 7 ∨ a = 6 then some ((4, w, 0) :: (a, b, c) :: T, hd) else none
def openStep (w : Int) (L : List E3) (hd : Int → Int) : Option St3 := match L with
  | [] => none
  | (a, b, c) :: T => if a = 2 then some ((0, 0, w) :: (3, b, c) :: T, upH hd w b) else none
def elig (kd a c : Int) : Prop := if kd = 5 then a = 5 ∧ c = 1 else a ≠ 5 ∨ kd = 4
noncomputable def cands (kd : Int) : List E3 → List (List E3)
  | [] => []
  | (a, b, c) :: T => if a = 5 ∨ a = 2 ∨ a = 3 then (if kd = 5 then (if a = 5 ∧ c = 1 then ((a, b, c) :: T) :: cands kd T else cands kd T) else (if a ≠ 5 ∨ kd = 4 then ((a, b, c) :: T) :: cands kd T else cands kd T)) else []
def pickF (cw : Int) : List (List E3) → Int → Int → Int × Int
  | [], n, its => (n, its)
  | S :: cs, n, its => pickF cw cs (n + 1) (if n = cw then (S.length : Int) - 1 else its)
/-- what a step's answer says of the heap behind it -/
def nres (x : Int) (h1 : Hp) : Option St3 → Prop
  | none => x = 0
  | some (L2, hd2) => x = 1 ∧ stk h1 L2 ∧ hI h1 77 11 = L2.length ∧ ∀ k, hI h1 88 k = hd2 k
theorem stk_eq {h g : Hp} : ∀ {L : List E3}, (∀ q, 83 ≤ q → q ≤ 85 → ∀ j : Int, hI g q j = hI h q j) → stk h L → stk g L
  | [], _, _ => trivial
  | e :: L, hq, s => ⟨(hq 83 (by omega) (by omega) _).trans s.1, (hq 84 (by omega) (by omega) _).trans s.2.1, (hq 85 (by omega) (by omega) _).trans s.2.2.1, stk_eq hq s.2.2.2⟩


set_option maxRecDepth 100000 in
set_option maxHeartbeats 4000000 in
theorem noun37 {X : Cxt} {d : Nat} {h : Hp} {P : Int → Hp → Prop} (G : Gd X RX7 cX7_takesNoun d 0 0) (E : Ends X cX7_takesNoun (some .boolean) 0 0 (pI P)) (r : Rg h) {w s a b c : Int} {T : List E3} {a3 : Option Value} (hw : 0 ≤ w ∧ w < 12) (hs0 : 0 ≤ s ∧ s ≤ w) (hd : 2 ≤ d) (hT : T.length ≤ 13) (sk : stk h ((a, b, c) :: T)) (hdep : hI h 77 11 = (T.length : Int) + 1)
    (hP : ∀ x h1, eqx Sq h h1 → Rg h1 → nres x h1 (nounTop w ((a, b, c) :: T) (fillH (hI h 88) s w)) → P x h1) : V X 0 0 37 [some (.ref 77), some (.int (Int32.ofInt w)), some (.int (Int32.ofInt s)), a3] [] h := by
  obtain ⟨k1, k2, k3, k4⟩ := sk
  dsimp only at k1 k2 k3
  have hbr : inr b := k2 ▸ r _ _
  have har : inr a := k1 ▸ r _ _
  have hcr : inr c := k3 ▸ r _ _
  obtain ⟨t, ht⟩ : ∃ t : Int, t = (T.length : Int) := ⟨_, rfl⟩
  have ht0 : 0 ≤ t ∧ t ≤ 13 := by omega
  rw [← ht] at k1 k2 k3 hdep
  have fin : ∀ (g1 : Hp), eqx Sq h g1 → Rg g1 → nres 1 g1 (nounTop w ((a, b, c) :: T) (fillH (hI h 88) s w)) → V X 0 0 193 [some (.ref 77), some (.int (Int32.ofInt w)), some (.int (Int32.ofInt s)), some (.int (Int32.ofInt t))] [] g1 := fun g1 e1 e2 e3 => by
    refine V_iconst G dX7_takesNoun_193 ?_
    exact V_reti E dX7_takesNoun_194 rfl rfl ⟨_, rfl, hP _ _ e1 e2 e3⟩
  have after : ∀ (g : Hp) (a4 : Option Value), Rg g → eqx (fun q _ => q == 88) h g → (∀ j, hI g 88 j = fillH (hI h 88) s w j) → (a = 0 ∨ a = 2 ∨ a = 7 ∨ a = 6) → V X 0 0 66 [some (.ref 77), some (.int (Int32.ofInt w)), some (.int (Int32.ofInt s)), a4] [] g := fun g a4 rg eg0 hf hwa => by
    have hdg : hI g 77 11 = t + 1 := (eg0.1 _ _ rfl).trans hdep
    have ho : hI g 83 t = a := (eg0.1 _ _ rfl).trans k1
    have hwd : hI g 84 t = b := (eg0.1 _ _ rfl).trans k2
    have hmo : hI g 85 t = c := (eg0.1 _ _ rfl).trans k3
    have eg : eqx Sq h g := eg0.mono (fun q j z => by simp [Sq] at z; simp [z])
    have sg : stk g T := stk_eq (fun q h1 h2 j => eg0.1 q j (by simp; omega)) k4
    have r := rg
    refine V_aload0 G dX7_takesNoun_66 ?_
    refine V_getIe (jz := 11) G fl_X7_79 dX7_takesNoun_67 (by first | decide | assumption) (by first | rfl | assumption) rfl rfl (by first | (simp only [hI_sI, hI_sL, hL_sI, hL_sL, false_and, true_and, and_false, and_true, and_self, if_false, if_true, hdg, ho, hwd, hmo]; first | done | rfl) | rfl) ?_
    refine V_iconst G dX7_takesNoun_70 ?_
    refine V_isub G dX7_takesNoun_71 ?_
    rw [show t + 1 - 1 = t by omega]
    refine V_istore3 G dX7_takesNoun_72 rfl ?_
    refine V_aload0 G dX7_takesNoun_73 ?_
    refine V_getR G fl_X7_26 dX7_takesNoun_74 (by first | decide | assumption) (by first | rfl | assumption) rfl (by first | rfl | assumption) ?_
    refine V_iload3 G dX7_takesNoun_77 ?_
    refine V_ialde G dX7_takesNoun_78 (by first | decide | assumption) (by first | rfl | assumption) (by decide) ⟨by omega, by omega⟩ (by first | (simp only [hI_sI, hI_sL, hL_sI, hL_sL, false_and, true_and, and_false, and_true, and_self, if_false, if_true, hdg, ho, hwd, hmo]; first | done | rfl) | rfl) ?_
    refine V_ifne G dX7_takesNoun_79 (tgt := 106) (by decide) (by first | exact r _ _ | assumption | exact ⟨by omega, by omega⟩) (fun c_79 => ?_) (fun c_79 => ?_)
    ·
      refine V_aload0 G dX7_takesNoun_106 ?_
      refine V_getR G fl_X7_26 dX7_takesNoun_107 (by first | decide | assumption) (by first | rfl | assumption) rfl (by first | rfl | assumption) ?_
      refine V_iload3 G dX7_takesNoun_110 ?_
      refine V_ialde G dX7_takesNoun_111 (by first | decide | assumption) (by first | rfl | assumption) (by decide) ⟨by omega, by omega⟩ (by first | (simp only [hI_sI, hI_sL, hL_sI, hL_sL, false_and, true_and, and_false, and_true, and_self, if_false, if_true, hdg, ho, hwd, hmo]; first | done | rfl) | rfl) ?_
      refine V_iconst G dX7_takesNoun_112 ?_
      refine V_icmpne G dX7_takesNoun_113 (tgt := 145) (by decide) (by first | exact r _ _ | assumption | exact ⟨by omega, by omega⟩) (by first | exact r _ _ | assumption | exact ⟨by omega, by omega⟩) (fun c_113 => ?_) (fun c_113 => ?_)
      ·
        refine V_aload0 G dX7_takesNoun_145 ?_
        refine V_getR G fl_X7_41 dX7_takesNoun_146 (by first | decide | assumption) (by first | rfl | assumption) rfl (by first | rfl | assumption) ?_
        refine V_iload1 G dX7_takesNoun_149 ?_
        refine V_aload0 G dX7_takesNoun_150 ?_
        refine V_getR G fl_X7_29 dX7_takesNoun_151 (by first | decide | assumption) (by first | rfl | assumption) rfl (by first | rfl | assumption) ?_
        refine V_iload3 G dX7_takesNoun_154 ?_
        refine V_ialde G dX7_takesNoun_155 (by first | decide | assumption) (by first | rfl | assumption) (by decide) ⟨by omega, by omega⟩ (by first | (simp only [hI_sI, hI_sL, hL_sI, hL_sL, false_and, true_and, and_false, and_true, and_self, if_false, if_true, hdg, ho, hwd, hmo]; first | done | rfl) | rfl) ?_
        refine V_iast G dX7_takesNoun_156 (by first | decide | assumption) (by first | rfl | assumption) (by decide) ⟨by omega, by omega⟩ ?_
        refine V_aload0 G dX7_takesNoun_157 ?_
        refine V_getR G fl_X7_32 dX7_takesNoun_158 (by first | decide | assumption) (by first | rfl | assumption) rfl (by first | rfl | assumption) ?_
        refine V_iload3 G dX7_takesNoun_161 ?_
        refine V_aload0 G dX7_takesNoun_162 ?_
        refine V_getR G fl_X7_26 dX7_takesNoun_163 (by first | decide | assumption) (by first | rfl | assumption) rfl (by first | rfl | assumption) ?_
        refine V_iload3 G dX7_takesNoun_166 ?_
        refine V_ialde G dX7_takesNoun_167 (by first | decide | assumption) (by first | rfl | assumption) (by decide) ⟨by omega, by omega⟩ (by first | (simp only [hI_sI, hI_sL, hL_sI, hL_sL, false_and, true_and, and_false, and_true, and_self, if_false, if_true, hdg, ho, hwd, hmo]; first | done | rfl) | rfl) ?_
        refine V_bipush G dX7_takesNoun_168 (by decide) ?_
        refine V_icmpne G dX7_takesNoun_170 (tgt := 177) (by decide) (by first | exact r _ _ | assumption | exact ⟨by omega, by omega⟩) (by first | exact r _ _ | assumption | exact ⟨by omega, by omega⟩) (fun c_170 => ?_) (fun c_170 => ?_)
        ·
          refine V_iconst G dX7_takesNoun_177 ?_
          refine V_iast G dX7_takesNoun_178 (by first | decide | assumption) (by first | rfl | assumption) (by decide) ⟨by omega, by omega⟩ ?_
          refine V_aload0 G dX7_takesNoun_179 ?_
          refine V_getR G fl_X7_26 dX7_takesNoun_180 (by first | decide | assumption) (by first | rfl | assumption) rfl (by first | rfl | assumption) ?_
          refine V_iload3 G dX7_takesNoun_183 ?_
          refine V_iconst G dX7_takesNoun_184 ?_
          refine V_iast G dX7_takesNoun_185 (by first | decide | assumption) (by first | rfl | assumption) (by decide) ⟨by omega, by omega⟩ ?_
          refine V_aload0 G dX7_takesNoun_186 ?_
          refine V_getR G fl_X7_29 dX7_takesNoun_187 (by first | decide | assumption) (by first | rfl | assumption) rfl (by first | rfl | assumption) ?_
          refine V_iload3 G dX7_takesNoun_190 ?_
          refine V_iload1 G dX7_takesNoun_191 ?_
          refine V_iast G dX7_takesNoun_192 (by first | decide | assumption) (by first | rfl | assumption) (by decide) ⟨by omega, by omega⟩ ?_
          refine fin _ ?_ ?_ ?_
          · first
            | exact mOpens_eqx ((eg.st rfl).st rfl) rfl rfl rfl rfl
            | exact (((eg.st rfl).st rfl).st rfl).st rfl
          · first
            | exact mOpens_Rg ((rg.sI ⟨by omega, by omega⟩).sI ⟨by omega, by omega⟩) ⟨by omega, by omega⟩ ⟨by omega, by omega⟩ ⟨by omega, by omega⟩ ⟨by omega, by omega⟩
            | exact (((rg.sI hbr).sI ⟨by omega, by omega⟩).sI ⟨by omega, by omega⟩).sI ⟨by omega, by omega⟩
          · simp only [nounTop]
            first
            | (rw [if_pos (by omega)]
               refine ⟨rfl, ?_, ?_, ?_⟩
               · exact (mOpens_stk (L := (1, w, c) :: T) (by simp; omega) ⟨by simp [hI_sI, ← ht], by simp [hI_sI, ← ht], by simp [hI_sI, ← ht, hmo], stk_w (by omega) (stk_w (by omega) sg)⟩).1
               · exact (mOpens_stk (L := (1, w, c) :: T) (by simp; omega) ⟨by simp [hI_sI, ← ht], by simp [hI_sI, ← ht], by simp [hI_sI, ← ht, hmo], stk_w (by omega) (stk_w (by omega) sg)⟩).2
               · intro k
                 rw [mOpens_ne (by decide) (by decide) (by decide) (by decide)]
                 simp only [hI_sI, Nat.reduceEqDiff, false_and, if_false]
                 exact hf k)
            | (rw [if_neg (by omega), if_pos (by omega)]
               refine ⟨rfl, ?_, ?_, ?_⟩
               · exact (mOpens_stk (L := (3, b, c) :: T) (by simp; omega) ⟨by simp [hI_sI, ← ht], by simp [hI_sI, ← ht, hwd], by simp [hI_sI, ← ht, hmo], stk_w (by omega) (stk_w (by omega) sg)⟩).1
               · exact (mOpens_stk (L := (3, b, c) :: T) (by simp; omega) ⟨by simp [hI_sI, ← ht], by simp [hI_sI, ← ht, hwd], by simp [hI_sI, ← ht, hmo], stk_w (by omega) (stk_w (by omega) sg)⟩).2
               · intro k
                 rw [mOpens_ne (by decide) (by decide) (by decide) (by decide)]
                 simp only [hI_sI, Nat.reduceEqDiff, false_and, if_false, true_and, upH]
                 split
                 · rfl
                 · exact hf k)
            | (rw [if_neg (by omega), if_neg (by omega)]
               first
               | rw [if_pos (by omega)]
               | rw [if_neg (by omega), if_pos (by omega)]
               refine ⟨rfl, ⟨by simp [hI_sI, ← ht], by simp [hI_sI, ← ht], by simp [hI_sI, ← ht], stk_w (by omega) (stk_w (by omega) (stk_w (by omega) (stk_w (by omega) sg)))⟩, by simp [hI_sI, hdg, ht], ?_⟩
               intro k
               simp only [hI_sI, Nat.reduceEqDiff, false_and, if_false, true_and, upH]
               split
               · rfl
               · exact hf k)
        ·
          refine V_iconst G dX7_takesNoun_173 ?_
          refine V_goto G dX7_takesNoun_174 (tgt := 178) (by decide) ?_
          refine V_iast G dX7_takesNoun_178 (by first | decide | assumption) (by first | rfl | assumption) (by decide) ⟨by omega, by omega⟩ ?_
          refine V_aload0 G dX7_takesNoun_179 ?_
          refine V_getR G fl_X7_26 dX7_takesNoun_180 (by first | decide | assumption) (by first | rfl | assumption) rfl (by first | rfl | assumption) ?_
          refine V_iload3 G dX7_takesNoun_183 ?_
          refine V_iconst G dX7_takesNoun_184 ?_
          refine V_iast G dX7_takesNoun_185 (by first | decide | assumption) (by first | rfl | assumption) (by decide) ⟨by omega, by omega⟩ ?_
          refine V_aload0 G dX7_takesNoun_186 ?_
          refine V_getR G fl_X7_29 dX7_takesNoun_187 (by first | decide | assumption) (by first | rfl | assumption) rfl (by first | rfl | assumption) ?_
          refine V_iload3 G dX7_takesNoun_190 ?_
          refine V_iload1 G dX7_takesNoun_191 ?_
          refine V_iast G dX7_takesNoun_192 (by first | decide | assumption) (by first | rfl | assumption) (by decide) ⟨by omega, by omega⟩ ?_
          refine fin _ ?_ ?_ ?_
          · first
            | exact mOpens_eqx ((eg.st rfl).st rfl) rfl rfl rfl rfl
            | exact (((eg.st rfl).st rfl).st rfl).st rfl
          · first
            | exact mOpens_Rg ((rg.sI ⟨by omega, by omega⟩).sI ⟨by omega, by omega⟩) ⟨by omega, by omega⟩ ⟨by omega, by omega⟩ ⟨by omega, by omega⟩ ⟨by omega, by omega⟩
            | exact (((rg.sI hbr).sI ⟨by omega, by omega⟩).sI ⟨by omega, by omega⟩).sI ⟨by omega, by omega⟩
          · simp only [nounTop]
            first
            | (rw [if_pos (by omega)]
               refine ⟨rfl, ?_, ?_, ?_⟩
               · exact (mOpens_stk (L := (1, w, c) :: T) (by simp; omega) ⟨by simp [hI_sI, ← ht], by simp [hI_sI, ← ht], by simp [hI_sI, ← ht, hmo], stk_w (by omega) (stk_w (by omega) sg)⟩).1
               · exact (mOpens_stk (L := (1, w, c) :: T) (by simp; omega) ⟨by simp [hI_sI, ← ht], by simp [hI_sI, ← ht], by simp [hI_sI, ← ht, hmo], stk_w (by omega) (stk_w (by omega) sg)⟩).2
               · intro k
                 rw [mOpens_ne (by decide) (by decide) (by decide) (by decide)]
                 simp only [hI_sI, Nat.reduceEqDiff, false_and, if_false]
                 exact hf k)
            | (rw [if_neg (by omega), if_pos (by omega)]
               refine ⟨rfl, ?_, ?_, ?_⟩
               · exact (mOpens_stk (L := (3, b, c) :: T) (by simp; omega) ⟨by simp [hI_sI, ← ht], by simp [hI_sI, ← ht, hwd], by simp [hI_sI, ← ht, hmo], stk_w (by omega) (stk_w (by omega) sg)⟩).1
               · exact (mOpens_stk (L := (3, b, c) :: T) (by simp; omega) ⟨by simp [hI_sI, ← ht], by simp [hI_sI, ← ht, hwd], by simp [hI_sI, ← ht, hmo], stk_w (by omega) (stk_w (by omega) sg)⟩).2
               · intro k
                 rw [mOpens_ne (by decide) (by decide) (by decide) (by decide)]
                 simp only [hI_sI, Nat.reduceEqDiff, false_and, if_false, true_and, upH]
                 split
                 · rfl
                 · exact hf k)
            | (rw [if_neg (by omega), if_neg (by omega)]
               first
               | rw [if_pos (by omega)]
               | rw [if_neg (by omega), if_pos (by omega)]
               refine ⟨rfl, ⟨by simp [hI_sI, ← ht], by simp [hI_sI, ← ht], by simp [hI_sI, ← ht], stk_w (by omega) (stk_w (by omega) (stk_w (by omega) (stk_w (by omega) sg)))⟩, by simp [hI_sI, hdg, ht], ?_⟩
               intro k
               simp only [hI_sI, Nat.reduceEqDiff, false_and, if_false, true_and, upH]
               split
               · rfl
               · exact hf k)
      ·
        refine V_aload0 G dX7_takesNoun_116 ?_
        refine V_getR G fl_X7_41 dX7_takesNoun_117 (by first | decide | assumption) (by first | rfl | assumption) rfl (by first | rfl | assumption) ?_
        refine V_iload1 G dX7_takesNoun_120 ?_
        refine V_aload0 G dX7_takesNoun_121 ?_
        refine V_getR G fl_X7_29 dX7_takesNoun_122 (by first | decide | assumption) (by first | rfl | assumption) rfl (by first | rfl | assumption) ?_
        refine V_iload3 G dX7_takesNoun_125 ?_
        refine V_ialde G dX7_takesNoun_126 (by first | decide | assumption) (by first | rfl | assumption) (by decide) ⟨by omega, by omega⟩ (by first | (simp only [hI_sI, hI_sL, hL_sI, hL_sL, false_and, true_and, and_false, and_true, and_self, if_false, if_true, hdg, ho, hwd, hmo]; first | done | rfl) | rfl) ?_
        refine V_iast G dX7_takesNoun_127 (by first | decide | assumption) (by first | rfl | assumption) (by decide) ⟨by omega, by omega⟩ ?_
        refine V_aload0 G dX7_takesNoun_128 ?_
        refine V_getR G fl_X7_26 dX7_takesNoun_129 (by first | decide | assumption) (by first | rfl | assumption) rfl (by first | rfl | assumption) ?_
        refine V_iload3 G dX7_takesNoun_132 ?_
        refine V_iconst G dX7_takesNoun_133 ?_
        refine V_iast G dX7_takesNoun_134 (by first | decide | assumption) (by first | rfl | assumption) (by decide) ⟨by omega, by omega⟩ ?_
        refine V_aload0 G dX7_takesNoun_135 ?_
        refine V_iconst G dX7_takesNoun_136 ?_
        refine V_iload1 G dX7_takesNoun_137 ?_
        refine V_iconst G dX7_takesNoun_138 ?_
        refine V_cV3v (d1 := 1) G m_X7_98 dX7_takesNoun_139 (by first | decide | assumption) (by first | rfl | assumption) (c_X7_opens (t := t + 1) (by omega) (by simp only [hI_sI, hdg, false_and, if_false, Nat.reduceEqDiff, reduceIte])) (by omega) (by omega) (by omega) (Nat.le_of_ble_eq_true rfl) (fun h_139 hp_139 => ?_)
        rw [hp_139]
        refine V_goto G dX7_takesNoun_142 (tgt := 193) (by decide) ?_
        refine fin _ ?_ ?_ ?_
        · first
          | exact mOpens_eqx ((eg.st rfl).st rfl) rfl rfl rfl rfl
          | exact (((eg.st rfl).st rfl).st rfl).st rfl
        · first
          | exact mOpens_Rg ((rg.sI ⟨by omega, by omega⟩).sI ⟨by omega, by omega⟩) ⟨by omega, by omega⟩ ⟨by omega, by omega⟩ ⟨by omega, by omega⟩ ⟨by omega, by omega⟩
          | exact (((rg.sI hbr).sI ⟨by omega, by omega⟩).sI ⟨by omega, by omega⟩).sI ⟨by omega, by omega⟩
        · simp only [nounTop]
          first
          | (rw [if_pos (by omega)]
             refine ⟨rfl, ?_, ?_, ?_⟩
             · exact (mOpens_stk (L := (1, w, c) :: T) (by simp; omega) ⟨by simp [hI_sI, ← ht], by simp [hI_sI, ← ht], by simp [hI_sI, ← ht, hmo], stk_w (by omega) (stk_w (by omega) sg)⟩).1
             · exact (mOpens_stk (L := (1, w, c) :: T) (by simp; omega) ⟨by simp [hI_sI, ← ht], by simp [hI_sI, ← ht], by simp [hI_sI, ← ht, hmo], stk_w (by omega) (stk_w (by omega) sg)⟩).2
             · intro k
               rw [mOpens_ne (by decide) (by decide) (by decide) (by decide)]
               simp only [hI_sI, Nat.reduceEqDiff, false_and, if_false]
               exact hf k)
          | (rw [if_neg (by omega), if_pos (by omega)]
             refine ⟨rfl, ?_, ?_, ?_⟩
             · exact (mOpens_stk (L := (3, b, c) :: T) (by simp; omega) ⟨by simp [hI_sI, ← ht], by simp [hI_sI, ← ht, hwd], by simp [hI_sI, ← ht, hmo], stk_w (by omega) (stk_w (by omega) sg)⟩).1
             · exact (mOpens_stk (L := (3, b, c) :: T) (by simp; omega) ⟨by simp [hI_sI, ← ht], by simp [hI_sI, ← ht, hwd], by simp [hI_sI, ← ht, hmo], stk_w (by omega) (stk_w (by omega) sg)⟩).2
             · intro k
               rw [mOpens_ne (by decide) (by decide) (by decide) (by decide)]
               simp only [hI_sI, Nat.reduceEqDiff, false_and, if_false, true_and, upH]
               split
               · rfl
               · exact hf k)
          | (rw [if_neg (by omega), if_neg (by omega)]
             first
             | rw [if_pos (by omega)]
             | rw [if_neg (by omega), if_pos (by omega)]
             refine ⟨rfl, ⟨by simp [hI_sI, ← ht], by simp [hI_sI, ← ht], by simp [hI_sI, ← ht], stk_w (by omega) (stk_w (by omega) (stk_w (by omega) (stk_w (by omega) sg)))⟩, by simp [hI_sI, hdg, ht], ?_⟩
             intro k
             simp only [hI_sI, Nat.reduceEqDiff, false_and, if_false, true_and, upH]
             split
             · rfl
             · exact hf k)
    ·
      refine V_aload0 G dX7_takesNoun_82 ?_
      refine V_getR G fl_X7_26 dX7_takesNoun_83 (by first | decide | assumption) (by first | rfl | assumption) rfl (by first | rfl | assumption) ?_
      refine V_iload3 G dX7_takesNoun_86 ?_
      refine V_iconst G dX7_takesNoun_87 ?_
      refine V_iast G dX7_takesNoun_88 (by first | decide | assumption) (by first | rfl | assumption) (by decide) ⟨by omega, by omega⟩ ?_
      refine V_aload0 G dX7_takesNoun_89 ?_
      refine V_getR G fl_X7_29 dX7_takesNoun_90 (by first | decide | assumption) (by first | rfl | assumption) rfl (by first | rfl | assumption) ?_
      refine V_iload3 G dX7_takesNoun_93 ?_
      refine V_iload1 G dX7_takesNoun_94 ?_
      refine V_iast G dX7_takesNoun_95 (by first | decide | assumption) (by first | rfl | assumption) (by decide) ⟨by omega, by omega⟩ ?_
      refine V_aload0 G dX7_takesNoun_96 ?_
      refine V_iconst G dX7_takesNoun_97 ?_
      refine V_iload1 G dX7_takesNoun_98 ?_
      refine V_iconst G dX7_takesNoun_99 ?_
      refine V_cV3v (d1 := 1) G m_X7_98 dX7_takesNoun_100 (by first | decide | assumption) (by first | rfl | assumption) (c_X7_opens (t := t + 1) (by omega) (by simp only [hI_sI, hdg, false_and, if_false, Nat.reduceEqDiff, reduceIte])) (by omega) (by omega) (by omega) (Nat.le_of_ble_eq_true rfl) (fun h_100 hp_100 => ?_)
      rw [hp_100]
      refine V_goto G dX7_takesNoun_103 (tgt := 193) (by decide) ?_
      refine fin _ ?_ ?_ ?_
      · first
        | exact mOpens_eqx ((eg.st rfl).st rfl) rfl rfl rfl rfl
        | exact (((eg.st rfl).st rfl).st rfl).st rfl
      · first
        | exact mOpens_Rg ((rg.sI ⟨by omega, by omega⟩).sI ⟨by omega, by omega⟩) ⟨by omega, by omega⟩ ⟨by omega, by omega⟩ ⟨by omega, by omega⟩ ⟨by omega, by omega⟩
        | exact (((rg.sI hbr).sI ⟨by omega, by omega⟩).sI ⟨by omega, by omega⟩).sI ⟨by omega, by omega⟩
      · simp only [nounTop]
        first
        | (rw [if_pos (by omega)]
           refine ⟨rfl, ?_, ?_, ?_⟩
           · exact (mOpens_stk (L := (1, w, c) :: T) (by simp; omega) ⟨by simp [hI_sI, ← ht], by simp [hI_sI, ← ht], by simp [hI_sI, ← ht, hmo], stk_w (by omega) (stk_w (by omega) sg)⟩).1
           · exact (mOpens_stk (L := (1, w, c) :: T) (by simp; omega) ⟨by simp [hI_sI, ← ht], by simp [hI_sI, ← ht], by simp [hI_sI, ← ht, hmo], stk_w (by omega) (stk_w (by omega) sg)⟩).2
           · intro k
             rw [mOpens_ne (by decide) (by decide) (by decide) (by decide)]
             simp only [hI_sI, Nat.reduceEqDiff, false_and, if_false]
             exact hf k)
        | (rw [if_neg (by omega), if_pos (by omega)]
           refine ⟨rfl, ?_, ?_, ?_⟩
           · exact (mOpens_stk (L := (3, b, c) :: T) (by simp; omega) ⟨by simp [hI_sI, ← ht], by simp [hI_sI, ← ht, hwd], by simp [hI_sI, ← ht, hmo], stk_w (by omega) (stk_w (by omega) sg)⟩).1
           · exact (mOpens_stk (L := (3, b, c) :: T) (by simp; omega) ⟨by simp [hI_sI, ← ht], by simp [hI_sI, ← ht, hwd], by simp [hI_sI, ← ht, hmo], stk_w (by omega) (stk_w (by omega) sg)⟩).2
           · intro k
             rw [mOpens_ne (by decide) (by decide) (by decide) (by decide)]
             simp only [hI_sI, Nat.reduceEqDiff, false_and, if_false, true_and, upH]
             split
             · rfl
             · exact hf k)
        | (rw [if_neg (by omega), if_neg (by omega)]
           first
           | rw [if_pos (by omega)]
           | rw [if_neg (by omega), if_pos (by omega)]
           refine ⟨rfl, ⟨by simp [hI_sI, ← ht], by simp [hI_sI, ← ht], by simp [hI_sI, ← ht], stk_w (by omega) (stk_w (by omega) (stk_w (by omega) (stk_w (by omega) sg)))⟩, by simp [hI_sI, hdg, ht], ?_⟩
           intro k
           simp only [hI_sI, Nat.reduceEqDiff, false_and, if_false, true_and, upH]
           split
           · rfl
           · exact hf k)
  have loop : ∀ (m : Nat) (k : Int) (g : Hp), k + m = w → s ≤ k → Rg g → eqx (fun q _ => q == 88) h g → (∀ j, hI g 88 j = if s ≤ j ∧ j < k then w else hI h 88 j) → (a = 0 ∨ a = 2 ∨ a = 7 ∨ a = 6) → V X 0 0 48 [some (.ref 77), some (.int (Int32.ofInt w)), some (.int (Int32.ofInt s)), some (.int (Int32.ofInt k))] [] g := by
    intro m
    induction m with
    | zero =>
      intro k g h1 h2 r eg hf hwa
      refine V_iload3 G dX7_takesNoun_48 ?_
      refine V_iload1 G dX7_takesNoun_49 ?_
      refine V_icmpge G dX7_takesNoun_50 (tgt := 66) (by decide) (by first | exact r _ _ | assumption | exact ⟨by omega, by omega⟩) (by first | exact r _ _ | assumption | exact ⟨by omega, by omega⟩) (fun c_50 => ?_) (fun c_50 => ?_)
      ·
        exact after g _ r eg (fun j => by rw [hf j, show k = w by omega]; rfl) hwa
      · omega
    | succ m ih =>
      intro k g h1 h2 r eg hf hwa
      refine V_iload3 G dX7_takesNoun_48 ?_
      refine V_iload1 G dX7_takesNoun_49 ?_
      refine V_icmpge G dX7_takesNoun_50 (tgt := 66) (by decide) (by first | exact r _ _ | assumption | exact ⟨by omega, by omega⟩) (by first | exact r _ _ | assumption | exact ⟨by omega, by omega⟩) (fun c_50 => ?_) (fun c_50 => ?_)
      · omega
      ·
        refine V_aload0 G dX7_takesNoun_53 ?_
        refine V_getR G fl_X7_41 dX7_takesNoun_54 (by first | decide | assumption) (by first | rfl | assumption) rfl (by first | rfl | assumption) ?_
        refine V_iload3 G dX7_takesNoun_57 ?_
        refine V_iload1 G dX7_takesNoun_58 ?_
        refine V_iast G dX7_takesNoun_59 (by first | decide | assumption) (by first | rfl | assumption) (by decide) ⟨by omega, by omega⟩ ?_
        refine V_iinc3 G dX7_takesNoun_60 rfl ?_
        refine V_goto G dX7_takesNoun_63 (tgt := 48) (by decide) ?_
        exact ih (k + 1) _ (by omega) (by omega) (r.sI ⟨by omega, by omega⟩) (eg.st rfl) (fun j => by
          rw [hI_sI]
          by_cases hj : j = k
          · rw [if_pos ⟨rfl, hj⟩, if_pos (by omega)]
          · rw [if_neg (fun z => hj z.2), hf j]
            by_cases hj2 : s ≤ j ∧ j < k
            · rw [if_pos hj2, if_pos (by omega)]
            · rw [if_neg hj2, if_neg (by omega)]) hwa
  refine V_aload0 G dX7_takesNoun_37 ?_
  refine V_cV0i (d1 := 1) G m_X7_94 dX7_takesNoun_38 (by first | decide | assumption) (by first | rfl | assumption) (c_X7_wantsName r (t := t) (by omega) hdep) (by omega) (by omega) (by omega) (Nat.le_of_ble_eq_true rfl) (fun x_38 h_38 hp_38 => ?_)
  rw [hp_38.1, hp_38.2, k1]
  refine V_ifneB G dX7_takesNoun_41 (tgt := 46) (by decide)  (fun c_41 => ?_) (fun c_41 => ?_)
  ·
    refine V_iload2 G dX7_takesNoun_46 ?_
    refine V_istore3 G dX7_takesNoun_47 rfl ?_
    obtain ⟨m, hm⟩ : ∃ m : Nat, s + m = w := ⟨(w - s).toNat, by omega⟩
    exact loop m s h hm (Int.le_refl _) r eqx.rf (fun j => by rw [if_neg (by omega)]) (by omega)
  ·
    refine V_iconst G dX7_takesNoun_44 ?_
    exact V_reti E dX7_takesNoun_45 rfl rfl ⟨_, rfl, hP _ _ eqx.rf r (by simp only [nounTop]; rw [if_neg (by omega), if_neg (by omega), if_neg (by omega), if_neg (by omega)]; rfl)⟩
set_option maxRecDepth 100000 in
set_option maxHeartbeats 4000000 in
theorem c_X7_takesNoun {l : Launch} {d : Nat} {h : Hp} (r : Rg h) {w : Int} (hw : 0 ≤ w ∧ w < 12) {L : List E3} (hL : L.length ≤ 14) (sk : stk h L) (hdep : hI h 77 11 = L.length) (hbot : ∀ a b c T, L = (a, b, c) :: T → (a = 4 → T ≠ [] ∧ 0 ≤ b ∧ b ≤ w)) (hne : L ≠ []) (hd : 2 ≤ d := by omega) : CP l d 0 0 yX7_takesNoun cX7_takesNoun 4 (Option.some Jvm.ClassFile.FieldType.boolean) [.ref 77, iv w] h (pI fun x h1 => eqx Sq h h1 ∧ Rg h1 ∧ nres x h1 (nounStep w L (hI h 88))) := by
  refine CP.ofV (L := [some (.ref 77), some (.int (Int32.ofInt w)), none, none]) RX7 (by decide +kernel) rfl (Nat.le_of_ble_eq_true rfl) rfl (fun X hX G E => ?_)
  subst hX
  obtain ⟨⟨a, b, c⟩, T, rfl⟩ := List.exists_cons_of_ne_nil hne
  have sk0 := sk
  obtain ⟨k1, k2, k3, k4⟩ := sk
  dsimp only at k1 k2 k3
  simp only [List.length_cons] at hL hdep
  obtain ⟨t, ht⟩ : ∃ t : Int, t = (T.length : Int) := ⟨_, rfl⟩
  have ht0 : 0 ≤ t ∧ t ≤ 13 := by omega
  have hdt : hI h 77 11 = t + 1 := by rw [hdep, ht]; simp
  have har : inr a := k1 ▸ r _ _
  clear hdep
  rw [← ht] at k1 k2 k3
  refine V_iload1 G dX7_takesNoun_0 ?_
  refine V_istore2 G dX7_takesNoun_1 rfl ?_
  refine V_aload0 G dX7_takesNoun_2 ?_
  refine V_getR G fl_X7_26 dX7_takesNoun_3 (by first | decide | assumption) (by first | rfl | assumption) rfl (by first | rfl | assumption) ?_
  refine V_aload0 G dX7_takesNoun_6 ?_
  refine V_getIe (jz := 11) G fl_X7_79 dX7_takesNoun_7 (by first | decide | assumption) (by first | rfl | assumption) rfl rfl (by first | (simp only [hI_sI, hI_sL, hL_sI, hL_sL, false_and, true_and, and_false, and_true, and_self, if_false, if_true, hdt, k1, k2]; first | done | rfl) | rfl) ?_
  refine V_iconst G dX7_takesNoun_10 ?_
  refine V_isub G dX7_takesNoun_11 ?_
  rw [show t + 1 - 1 = t by omega]
  refine V_ialde G dX7_takesNoun_12 (by first | decide | assumption) (by first | rfl | assumption) (by decide) ⟨by omega, by omega⟩ (by first | (simp only [hI_sI, hI_sL, hL_sI, hL_sL, false_and, true_and, and_false, and_true, and_self, if_false, if_true, hdt, k1, k2]; first | done | rfl) | rfl) ?_
  refine V_iconst G dX7_takesNoun_13 ?_
  refine V_icmpne G dX7_takesNoun_14 (tgt := 37) (by decide) (by first | exact r _ _ | assumption | exact ⟨by omega, by omega⟩) (by first | exact r _ _ | assumption | exact ⟨by omega, by omega⟩) (fun c_14 => ?_) (fun c_14 => ?_)
  ·
    first
    | exact noun37 (a := a2) (b := b2) (c := c2) (T := T2) (h := sI h 77 11 t) G E (r.sI ⟨by omega, by omega⟩) hw (by omega) hd (by omega) (stk_w (by omega) k4) (by simp [hI_sI]; omega) (fun x h1 e1 e2 e3 => ⟨(eqx.rf.st rfl).tr e1, e2, by
        have e4 : nounStep w ((a, b, c) :: (a2, b2, c2) :: T2) (hI h 88) = nounTop w ((a2, b2, c2) :: T2) (fillH (hI (sI h 77 11 t) 88) b w) := by
          simp only [nounStep]
          rw [if_pos (by omega)]
          rfl
        rw [e4]
        exact e3⟩)
    | exact noun37 (a := a) (b := b) (c := c) (T := T) G E r hw (by omega) hd (by omega) sk0 (by omega) (fun x h1 e1 e2 e3 => ⟨e1, e2, by
        have e5 : fillH (hI h 88) w w = hI h 88 := by
          funext j
          unfold fillH
          rw [if_neg (by omega)]
        have e4 : nounStep w ((a, b, c) :: T) (hI h 88) = nounTop w ((a, b, c) :: T) (hI h 88) := by
          simp only [nounStep]
          rw [if_neg (by omega)]
        rw [e4, ← e5]
        exact e3⟩)
  ·
    obtain ⟨hTn, hb⟩ := hbot a b c T rfl (by omega)
    obtain ⟨⟨a2, b2, c2⟩, T2, rfl⟩ := List.exists_cons_of_ne_nil hTn
    simp only [List.length_cons] at ht hL k4
    refine V_aload0 G dX7_takesNoun_17 ?_
    refine V_dup G dX7_takesNoun_18 rfl ?_
    refine V_getIe (jz := 11) G fl_X7_79 dX7_takesNoun_19 (by first | decide | assumption) (by first | rfl | assumption) rfl rfl (by first | (simp only [hI_sI, hI_sL, hL_sI, hL_sL, false_and, true_and, and_false, and_true, and_self, if_false, if_true, hdt, k1, k2]; first | done | rfl) | rfl) ?_
    refine V_iconst G dX7_takesNoun_22 ?_
    refine V_isub G dX7_takesNoun_23 ?_
    rw [show t + 1 - 1 = t by omega]
    refine V_putI (jz := 11) G fw_X7_79 dX7_takesNoun_24 (by first | decide | assumption) (by first | rfl | assumption) rfl rfl ?_
    refine V_aload0 G dX7_takesNoun_27 ?_
    refine V_getR G fl_X7_29 dX7_takesNoun_28 (by first | decide | assumption) (by first | rfl | assumption) rfl (by first | rfl | assumption) ?_
    refine V_aload0 G dX7_takesNoun_31 ?_
    refine V_getIe (jz := 11) G fl_X7_79 dX7_takesNoun_32 (by first | decide | assumption) (by first | rfl | assumption) rfl rfl (by first | (simp only [hI_sI, hI_sL, hL_sI, hL_sL, false_and, true_and, and_false, and_true, and_self, if_false, if_true, hdt, k1, k2]; first | done | rfl) | rfl) ?_
    refine V_ialde G dX7_takesNoun_35 (by first | decide | assumption) (by first | rfl | assumption) (by decide) ⟨by omega, by omega⟩ (by first | (simp only [hI_sI, hI_sL, hL_sI, hL_sL, false_and, true_and, and_false, and_true, and_self, if_false, if_true, hdt, k1, k2]; first | done | rfl) | rfl) ?_
    refine V_istore2 G dX7_takesNoun_36 rfl ?_
    first
    | exact noun37 (a := a2) (b := b2) (c := c2) (T := T2) (h := sI h 77 11 t) G E (r.sI ⟨by omega, by omega⟩) hw (by omega) hd (by omega) (stk_w (by omega) k4) (by simp [hI_sI]; omega) (fun x h1 e1 e2 e3 => ⟨(eqx.rf.st rfl).tr e1, e2, by
        have e4 : nounStep w ((a, b, c) :: (a2, b2, c2) :: T2) (hI h 88) = nounTop w ((a2, b2, c2) :: T2) (fillH (hI (sI h 77 11 t) 88) b w) := by
          simp only [nounStep]
          rw [if_pos (by omega)]
          rfl
        rw [e4]
        exact e3⟩)
    | exact noun37 (a := a) (b := b) (c := c) (T := T) G E r hw (by omega) hd (by omega) sk0 (by omega) (fun x h1 e1 e2 e3 => ⟨e1, e2, by
        have e5 : fillH (hI h 88) w w = hI h 88 := by
          funext j
          unfold fillH
          rw [if_neg (by omega)]
        have e4 : nounStep w ((a, b, c) :: T) (hI h 88) = nounTop w ((a, b, c) :: T) (hI h 88) := by
          simp only [nounStep]
          rw [if_neg (by omega)]
        rw [e4, ← e5]
        exact e3⟩)


theorem verb_5 {w a b c : Int} {T : List E3} {hd : Int → Int} (h : a = 5) : verbStep w ((a, b, c) :: T) hd = verbStep w T hd := by rw [verbStep, if_pos h]
theorem verb_1 {w a b c : Int} {T : List E3} {hd : Int → Int} (h : a = 1) : verbStep w ((a, b, c) :: T) hd = some ((2, w, c) :: T, upH (upH hd b w) w c) := by rw [verbStep, if_neg (by omega), if_pos h]
theorem verb_0 {w a b c : Int} {T : List E3} {hd : Int → Int} (h : a ≠ 5) (h2 : a ≠ 1) : verbStep w ((a, b, c) :: T) hd = none := by rw [verbStep, if_neg h, if_neg h2]
set_option maxRecDepth 100000 in
set_option maxHeartbeats 4000000 in
theorem verb7 {X : Cxt} {d : Nat} {h : Hp} {P : Int → Hp → Prop} (G : Gd X RX7 cX7_takesVerb d 0 0) (E : Ends X cX7_takesVerb (some .boolean) 0 0 (pI P)) (r : Rg h) {w : Int} (hw : 0 ≤ w ∧ w < 12) : ∀ (L : List E3), L.length ≤ 15 → stk h L → (∀ e ∈ L, e.1 = 1 → 0 ≤ e.2.1 ∧ e.2.1 < 12) →
    (∀ x h1, eqx Sq h h1 → Rg h1 → nres x h1 (verbStep w L (hI h 88)) → P x h1) → V X 0 0 7 [some (.ref 77), some (.int (Int32.ofInt w)), some (.int (Int32.ofInt ((L.length : Int) - 1)))] [] h
  | [], _, _, _, hP => by
    refine V_iload2 G dX7_takesVerb_7 ?_
    refine V_iflt G dX7_takesVerb_8 (tgt := 27) (by decide) ⟨by simp, by simp⟩ (fun c_8 => ?_) (fun c_8 => ?_)
    ·
      refine V_iload2 G dX7_takesVerb_27 ?_
      refine V_iflt G dX7_takesVerb_28 (tgt := 41) (by decide) ⟨by simp, by simp⟩ (fun c_28 => ?_) (fun c_28 => ?_)
      ·
        refine V_iconst G dX7_takesVerb_41 ?_
        exact V_reti E dX7_takesVerb_42 rfl rfl ⟨_, rfl, hP _ _ eqx.rf r rfl⟩
      · (simp at c_28)
    · (simp at c_8)
  | (a, b, c) :: T, hL, sk, hb, hP => by
    obtain ⟨k1, k2, k3, k4⟩ := sk
    dsimp only at k1 k2 k3
    simp only [List.length_cons] at hL
    have hbr : inr b := k2 ▸ r _ _
    have hcr : inr c := k3 ▸ r _ _
    obtain ⟨t, ht⟩ : ∃ t : Int, t = (T.length : Int) := ⟨_, rfl⟩
    rw [← ht] at k1 k2 k3
    rw [show (((a, b, c) :: T).length : Int) - 1 = t by simp; omega]
    have hb1 : a = 1 → 0 ≤ b ∧ b < 12 := fun z => hb (a, b, c) List.mem_cons_self z
    have r1 := r
    have har : inr a := k1 ▸ r _ _
    refine V_iload2 G dX7_takesVerb_7 ?_
    refine V_iflt G dX7_takesVerb_8 (tgt := 27) (by decide) (by first | exact r _ _ | assumption | exact ⟨by omega, by omega⟩) (fun c_8 => ?_) (fun c_8 => ?_)
    · omega
    ·
      refine V_aload0 G dX7_takesVerb_11 ?_
      refine V_getR G fl_X7_26 dX7_takesVerb_12 (by first | decide | assumption) (by first | rfl | assumption) rfl (by first | rfl | assumption) ?_
      refine V_iload2 G dX7_takesVerb_15 ?_
      refine V_ialde G dX7_takesVerb_16 (by first | decide | assumption) (by first | rfl | assumption) (by decide) ⟨by omega, by omega⟩ (by first | (simp only [hI_sI, hI_sL, hL_sI, hL_sL, false_and, true_and, and_false, and_true, and_self, if_false, if_true, k1, k2, k3]; first | done | rfl) | rfl) ?_
      refine V_iconst G dX7_takesVerb_17 ?_
      refine V_icmpne G dX7_takesVerb_18 (tgt := 27) (by decide) (by first | exact r _ _ | assumption | exact ⟨by omega, by omega⟩) (by first | exact r _ _ | assumption | exact ⟨by omega, by omega⟩) (fun c_18 => ?_) (fun c_18 => ?_)
      ·
        refine V_iload2 G dX7_takesVerb_27 ?_
        refine V_iflt G dX7_takesVerb_28 (tgt := 41) (by decide) (by first | exact r _ _ | assumption | exact ⟨by omega, by omega⟩) (fun c_28 => ?_) (fun c_28 => ?_)
        · omega
        ·
          refine V_aload0 G dX7_takesVerb_31 ?_
          refine V_getR G fl_X7_26 dX7_takesVerb_32 (by first | decide | assumption) (by first | rfl | assumption) rfl (by first | rfl | assumption) ?_
          refine V_iload2 G dX7_takesVerb_35 ?_
          refine V_ialde G dX7_takesVerb_36 (by first | decide | assumption) (by first | rfl | assumption) (by decide) ⟨by omega, by omega⟩ (by first | (simp only [hI_sI, hI_sL, hL_sI, hL_sL, false_and, true_and, and_false, and_true, and_self, if_false, if_true, k1, k2, k3]; first | done | rfl) | rfl) ?_
          refine V_iconst G dX7_takesVerb_37 ?_
          refine V_icmpeq G dX7_takesVerb_38 (tgt := 43) (by decide) (by first | exact r _ _ | assumption | exact ⟨by omega, by omega⟩) (by first | exact r _ _ | assumption | exact ⟨by omega, by omega⟩) (fun c_38 => ?_) (fun c_38 => ?_)
          ·
            have hb2 := hb1 (by omega)
            refine V_aload0 G dX7_takesVerb_43 ?_
            refine V_getR G fl_X7_41 dX7_takesVerb_44 (by first | decide | assumption) (by first | rfl | assumption) rfl (by first | rfl | assumption) ?_
            refine V_aload0 G dX7_takesVerb_47 ?_
            refine V_getR G fl_X7_29 dX7_takesVerb_48 (by first | decide | assumption) (by first | rfl | assumption) rfl (by first | rfl | assumption) ?_
            refine V_iload2 G dX7_takesVerb_51 ?_
            refine V_ialde G dX7_takesVerb_52 (by first | decide | assumption) (by first | rfl | assumption) (by decide) ⟨by omega, by omega⟩ (by first | (simp only [hI_sI, hI_sL, hL_sI, hL_sL, false_and, true_and, and_false, and_true, and_self, if_false, if_true, k1, k2, k3]; first | done | rfl) | rfl) ?_
            refine V_iload1 G dX7_takesVerb_53 ?_
            refine V_iast G dX7_takesVerb_54 (by first | decide | assumption) (by first | rfl | assumption) (by decide) ⟨by omega, by omega⟩ ?_
            refine V_aload0 G dX7_takesVerb_55 ?_
            refine V_getR G fl_X7_41 dX7_takesVerb_56 (by first | decide | assumption) (by first | rfl | assumption) rfl (by first | rfl | assumption) ?_
            refine V_iload1 G dX7_takesVerb_59 ?_
            refine V_aload0 G dX7_takesVerb_60 ?_
            refine V_getR G fl_X7_32 dX7_takesVerb_61 (by first | decide | assumption) (by first | rfl | assumption) rfl (by first | rfl | assumption) ?_
            refine V_iload2 G dX7_takesVerb_64 ?_
            refine V_ialde G dX7_takesVerb_65 (by first | decide | assumption) (by first | rfl | assumption) (by decide) ⟨by omega, by omega⟩ (by first | (simp only [hI_sI, hI_sL, hL_sI, hL_sL, false_and, true_and, and_false, and_true, and_self, if_false, if_true, k1, k2, k3]; first | done | rfl) | rfl) ?_
            refine V_iast G dX7_takesVerb_66 (by first | decide | assumption) (by first | rfl | assumption) (by decide) ⟨by omega, by omega⟩ ?_
            refine V_aload0 G dX7_takesVerb_67 ?_
            refine V_getR G fl_X7_26 dX7_takesVerb_68 (by first | decide | assumption) (by first | rfl | assumption) rfl (by first | rfl | assumption) ?_
            refine V_iload2 G dX7_takesVerb_71 ?_
            refine V_iconst G dX7_takesVerb_72 ?_
            refine V_iast G dX7_takesVerb_73 (by first | decide | assumption) (by first | rfl | assumption) (by decide) ⟨by omega, by omega⟩ ?_
            refine V_aload0 G dX7_takesVerb_74 ?_
            refine V_getR G fl_X7_29 dX7_takesVerb_75 (by first | decide | assumption) (by first | rfl | assumption) rfl (by first | rfl | assumption) ?_
            refine V_iload2 G dX7_takesVerb_78 ?_
            refine V_iload1 G dX7_takesVerb_79 ?_
            refine V_iast G dX7_takesVerb_80 (by first | decide | assumption) (by first | rfl | assumption) (by decide) ⟨by omega, by omega⟩ ?_
            refine V_aload0 G dX7_takesVerb_81 ?_
            refine V_iload2 G dX7_takesVerb_82 ?_
            refine V_iconst G dX7_takesVerb_83 ?_
            refine V_iadd G dX7_takesVerb_84 ?_
            refine V_putI (jz := 11) G fw_X7_79 dX7_takesVerb_85 (by first | decide | assumption) (by first | rfl | assumption) rfl rfl ?_
            refine V_iconst G dX7_takesVerb_88 ?_
            exact V_reti E dX7_takesVerb_89 rfl rfl ⟨_, rfl, hP _ _ (((((eqx.rf.st rfl).st rfl).st rfl).st rfl).st rfl) (((((r.sI ⟨by omega, by omega⟩).sI hcr).sI ⟨by omega, by omega⟩).sI ⟨by omega, by omega⟩).sI ⟨by omega, by omega⟩) (by
      rw [verb_1 (by omega)]
      refine ⟨rfl, ⟨by simp [hI_sI, ← ht], by simp [hI_sI, ← ht], by simp [hI_sI, ← ht, k3], stk_w (by omega) (stk_w (by omega) (stk_w (by omega) (stk_w (by omega) (stk_w (by omega) k4))))⟩, by simp [hI_sI, ht], ?_⟩
      intro k
      simp only [hI_sI, Nat.reduceEqDiff, false_and, if_false, true_and, upH])⟩
          ·
            refine V_iconst G dX7_takesVerb_41 ?_
            exact V_reti E dX7_takesVerb_42 rfl rfl ⟨_, rfl, hP _ _ eqx.rf r (by rw [verb_0 (by omega) (by omega)]; rfl)⟩
      ·
        refine V_iinc2 G dX7_takesVerb_21 rfl ?_
        rw [show t + -1 = (T.length : Int) - 1 by omega]
        refine V_goto G dX7_takesVerb_24 (tgt := 7) (by decide) ?_
        exact verb7 G E r hw T (by omega) k4 (fun e he => hb e (List.mem_cons_of_mem _ he)) (fun x h1 e1 e2 e3 => hP x h1 e1 e2 (by
          rw [verb_5 (by omega)]
          exact e3))
set_option maxRecDepth 100000 in
set_option maxHeartbeats 4000000 in
theorem c_X7_takesVerb {l : Launch} {d : Nat} {h : Hp} (r : Rg h) {w : Int} (hw : 0 ≤ w ∧ w < 12) {L : List E3} (hL : L.length ≤ 15) (sk : stk h L) (hdep : hI h 77 11 = L.length) (hb : ∀ e ∈ L, e.1 = 1 → 0 ≤ e.2.1 ∧ e.2.1 < 12) (hd : 1 ≤ d := by omega) : CP l d 0 0 yX7_takesVerb cX7_takesVerb 3 (Option.some Jvm.ClassFile.FieldType.boolean) [.ref 77, iv w] h (pI fun x h1 => eqx Sq h h1 ∧ Rg h1 ∧ nres x h1 (verbStep w L (hI h 88))) := by
  refine CP.ofV (L := [some (.ref 77), some (.int (Int32.ofInt w)), none]) RX7 (by decide +kernel) rfl (Nat.le_of_ble_eq_true rfl) rfl (fun X hX G E => ?_)
  subst hX
  refine V_aload0 G dX7_takesVerb_0 ?_
  refine V_getIe (jz := 11) G fl_X7_79 dX7_takesVerb_1 (by first | decide | assumption) (by first | rfl | assumption) rfl rfl (by first | (simp only [hI_sI, hI_sL, hL_sI, hL_sL, false_and, true_and, and_false, and_true, and_self, if_false, if_true, hdep]; first | done | rfl) | rfl) ?_
  refine V_iconst G dX7_takesVerb_4 ?_
  refine V_isub G dX7_takesVerb_5 ?_
  refine V_istore2 G dX7_takesVerb_6 rfl ?_
  exact verb7 G E r hw L hL sk hb (fun x h1 e1 e2 e3 => ⟨e1, e2, e3⟩)

set_option maxRecDepth 100000 in
set_option maxHeartbeats 4000000 in
theorem c_X7_takesOpener {l : Launch} {d : Nat} {h : Hp} (r : Rg h) {w : Int} (hw : 0 ≤ w ∧ w < 12) {L : List E3} (hL : L.length ≤ 14) (sk : stk h L) (hdep : hI h 77 11 = L.length) (hne : L ≠ []) (hd : 2 ≤ d := by omega) : CP l d 0 0 yX7_takesOpener cX7_takesOpener 3 (Option.some Jvm.ClassFile.FieldType.boolean) [.ref 77, iv w] h (pI fun x h1 => eqx Sq h h1 ∧ Rg h1 ∧ nres x h1 (openStep w L (hI h 88))) := by
  refine CP.ofV (L := [some (.ref 77), some (.int (Int32.ofInt w)), none]) RX7 (by decide +kernel) rfl (Nat.le_of_ble_eq_true rfl) rfl (fun X hX G E => ?_)
  subst hX
  obtain ⟨⟨a, b, c⟩, T, rfl⟩ := List.exists_cons_of_ne_nil hne
  obtain ⟨k1, k2, k3, k4⟩ := sk
  dsimp only at k1 k2 k3
  simp only [List.length_cons] at hL hdep
  have hbr : inr b := k2 ▸ r _ _
  have hcr : inr c := k3 ▸ r _ _
  have har : inr a := k1 ▸ r _ _
  obtain ⟨t, ht⟩ : ∃ t : Int, t = (T.length : Int) := ⟨_, rfl⟩
  have ht0 : 0 ≤ t ∧ t ≤ 13 := by omega
  have hdep : hI h 77 11 = t + 1 := by rw [hdep, ht]; simp
  rw [← ht] at k1 k2 k3
  refine V_aload0 G dX7_takesOpener_0 ?_
  refine V_getIe (jz := 11) G fl_X7_79 dX7_takesOpener_1 (by first | decide | assumption) (by first | rfl | assumption) rfl rfl (by first | (simp only [hI_sI, hI_sL, hL_sI, hL_sL, false_and, true_and, and_false, and_true, and_self, if_false, if_true, hdep, k1, k2]; first | done | rfl) | rfl) ?_
  refine V_iconst G dX7_takesOpener_4 ?_
  refine V_isub G dX7_takesOpener_5 ?_
  rw [show t + 1 - 1 = t by omega]
  refine V_istore2 G dX7_takesOpener_6 rfl ?_
  refine V_aload0 G dX7_takesOpener_7 ?_
  refine V_getR G fl_X7_26 dX7_takesOpener_8 (by first | decide | assumption) (by first | rfl | assumption) rfl (by first | rfl | assumption) ?_
  refine V_iload2 G dX7_takesOpener_11 ?_
  refine V_ialde G dX7_takesOpener_12 (by first | decide | assumption) (by first | rfl | assumption) (by decide) ⟨by omega, by omega⟩ (by first | (simp only [hI_sI, hI_sL, hL_sI, hL_sL, false_and, true_and, and_false, and_true, and_self, if_false, if_true, hdep, k1, k2]; first | done | rfl) | rfl) ?_
  refine V_iconst G dX7_takesOpener_13 ?_
  refine V_icmpeq G dX7_takesOpener_14 (tgt := 19) (by decide) (by first | exact r _ _ | assumption | exact ⟨by omega, by omega⟩) (by first | exact r _ _ | assumption | exact ⟨by omega, by omega⟩) (fun c_14 => ?_) (fun c_14 => ?_)
  ·
    refine V_aload0 G dX7_takesOpener_19 ?_
    refine V_getR G fl_X7_41 dX7_takesOpener_20 (by first | decide | assumption) (by first | rfl | assumption) rfl (by first | rfl | assumption) ?_
    refine V_iload1 G dX7_takesOpener_23 ?_
    refine V_aload0 G dX7_takesOpener_24 ?_
    refine V_getR G fl_X7_29 dX7_takesOpener_25 (by first | decide | assumption) (by first | rfl | assumption) rfl (by first | rfl | assumption) ?_
    refine V_iload2 G dX7_takesOpener_28 ?_
    refine V_ialde G dX7_takesOpener_29 (by first | decide | assumption) (by first | rfl | assumption) (by decide) ⟨by omega, by omega⟩ (by first | (simp only [hI_sI, hI_sL, hL_sI, hL_sL, false_and, true_and, and_false, and_true, and_self, if_false, if_true, hdep, k1, k2]; first | done | rfl) | rfl) ?_
    refine V_iast G dX7_takesOpener_30 (by first | decide | assumption) (by first | rfl | assumption) (by decide) ⟨by omega, by omega⟩ ?_
    refine V_aload0 G dX7_takesOpener_31 ?_
    refine V_getR G fl_X7_26 dX7_takesOpener_32 (by first | decide | assumption) (by first | rfl | assumption) rfl (by first | rfl | assumption) ?_
    refine V_iload2 G dX7_takesOpener_35 ?_
    refine V_iconst G dX7_takesOpener_36 ?_
    refine V_iast G dX7_takesOpener_37 (by first | decide | assumption) (by first | rfl | assumption) (by decide) ⟨by omega, by omega⟩ ?_
    refine V_aload0 G dX7_takesOpener_38 ?_
    refine V_iconst G dX7_takesOpener_39 ?_
    refine V_iconst G dX7_takesOpener_40 ?_
    refine V_iload1 G dX7_takesOpener_41 ?_
    refine V_cV3v (d1 := 1) G m_X7_98 dX7_takesOpener_42 (by first | decide | assumption) (by first | rfl | assumption) (c_X7_opens (t := t + 1) (by omega) (by simp only [hI_sI, hdep, false_and, if_false, Nat.reduceEqDiff, reduceIte])) (by omega) (by omega) (by omega) (Nat.le_of_ble_eq_true rfl) (fun h_42 hp_42 => ?_)
    rw [hp_42]
    refine V_iconst G dX7_takesOpener_45 ?_
    exact V_reti E dX7_takesOpener_46 rfl rfl ⟨_, rfl, ⟨mOpens_eqx ((eqx.rf.st rfl).st rfl) rfl rfl rfl rfl, mOpens_Rg ((r.sI hbr).sI ⟨by omega, by omega⟩) ⟨by omega, by omega⟩ ⟨by omega, by omega⟩ ⟨by omega, by omega⟩ ⟨by omega, by omega⟩, by
    simp only [openStep]
    rw [if_pos (by omega)]
    have q := mOpens_stk (h := sI (sI h 88 w b) 83 t 3) (L := (3, b, c) :: T) (a := 0) (b := 0) (c := w) (t := t + 1) (by simp; omega) ⟨by simp [hI_sI, ← ht], by simp [hI_sI, ← ht, k2], by simp [hI_sI, ← ht, k3], stk_w (by omega) (stk_w (by omega) k4)⟩
    refine ⟨rfl, q.1, q.2, ?_⟩
    intro k
    rw [mOpens_ne (by decide) (by decide) (by decide) (by decide)]
    simp only [hI_sI, Nat.reduceEqDiff, false_and, if_false, true_and, upH]⟩⟩
  ·
    refine V_iconst G dX7_takesOpener_17 ?_
    exact V_reti E dX7_takesOpener_18 rfl rfl ⟨_, rfl, ⟨eqx.rf, r, by simp only [openStep]; rw [if_neg (by omega)]; rfl⟩⟩

end M2
