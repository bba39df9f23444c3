
section M3
theorem cands_n {kd a b c : Int} {T : List E3} (h : ¬ (a = 5 ∨ a = 2 ∨ a = 3)) : cands kd ((a, b, c) :: T) = [] := by rw [cands, if_neg h]
theorem cands_t {kd a b c : Int} {T : List E3} (h : a = 5 ∨ a = 2 ∨ a = 3) (e : if kd = 5 then a = 5 ∧ c = 1 else a ≠ 5 ∨ kd = 4) : cands kd ((a, b, c) :: T) = ((a, b, c) :: T) :: cands kd T := by
  rw [cands, if_pos h]
  split
  · next z => rw [if_pos z] at e; rw [if_pos e]
  · next z => rw [if_neg z] at e; rw [if_pos e]
theorem cands_f {kd a b c : Int} {T : List E3} (h : a = 5 ∨ a = 2 ∨ a = 3) (e : ¬ (if kd = 5 then a = 5 ∧ c = 1 else a ≠ 5 ∨ kd = 4)) : cands kd ((a, b, c) :: T) = cands kd T := by
  rw [cands, if_pos h]
  split
  · next z => rw [if_pos z] at e; rw [if_neg e]
  · next z => rw [if_neg z] at e; rw [if_neg e]
theorem cands_len (kd : Int) : ∀ L : List E3, (cands kd L).length ≤ L.length
  | [] => by simp [cands]
  | (a, b, c) :: T => by
    have := cands_len kd T
    rw [cands]
    split <;> (try split) <;> (try split) <;> simp <;> omega
/-- what chosen answers, by what is left to look at -/
def mChosen (h : Hp) (w n : Int) : Hp := sI h 87 w n
set_option maxRecDepth 100000 in
set_option maxHeartbeats 4000000 in
theorem chosen12 {X : Cxt} {d : Nat} {h : Hp} {P : Int → Hp → Prop} (G : Gd X RX7 cX7_chosen d 0 0) (E : Ends X cX7_chosen (some .int) 0 0 (pI P)) (r : Rg h) {w kd cw : Int} (hw : 0 ≤ w ∧ w < 12) (hkd : hI h 78 (2 + w) = kd) (hcw : hI h 86 w = cw) (hd : 2 ≤ d) : ∀ (L : List E3) (n its : Int), L.length ≤ 16 → stk h L → 0 ≤ n → n + L.length ≤ 16 →
    (∀ x, x = (pickF cw (cands kd L) n its).2 → P x (mChosen h w (pickF cw (cands kd L) n its).1)) → V X 0 0 12 [some (.ref 77), some (.int (Int32.ofInt w)), some (.int (Int32.ofInt n)), some (.int (Int32.ofInt its)), some (.int (Int32.ofInt ((L.length : Int) - 1)))] [] h
  | [], n, its, _, _, hn, _, hP => by
    refine V_iload4 G dX7_chosen_12 ?_
    refine V_iflt G dX7_chosen_14 (tgt := 66) (by decide) ⟨by simp, by simp⟩ (fun c_14 => ?_) (fun c_14 => ?_)
    ·
      refine V_aload0 G dX7_chosen_66 ?_
      refine V_getR G fl_X7_38 dX7_chosen_67 (by first | decide | assumption) (by first | rfl | assumption) rfl (by first | rfl | assumption) ?_
      refine V_iload1 G dX7_chosen_70 ?_
      refine V_iload2 G dX7_chosen_71 ?_
      refine V_iast G dX7_chosen_72 (by first | decide | assumption) (by first | rfl | assumption) (by decide) ⟨by omega, by omega⟩ ?_
      refine V_iload3 G dX7_chosen_73 ?_
      exact V_reti E dX7_chosen_74 rfl rfl ⟨_, rfl, hP _ rfl⟩
    · (simp at c_14)
  | (a, b, c) :: T, n, its, hL, sk, hn, hn2, hP => by
    obtain ⟨k1, k2, k3, k4⟩ := sk
    dsimp only at k1 k2 k3
    simp only [List.length_cons] at hL hn2
    have har : inr a := k1 ▸ r _ _
    have hkr : inr kd := hkd ▸ r _ _
    have hcr : inr cw := hcw ▸ r _ _
    obtain ⟨t, ht⟩ : ∃ t : Int, t = (T.length : Int) := ⟨_, rfl⟩
    rw [← ht] at k1 k2 k3
    rw [show (((a, b, c) :: T).length : Int) - 1 = t by simp; omega]
    have hn3 : n + t + 1 ≤ 16 := by omega
    refine V_iload4 G dX7_chosen_12 ?_
    refine V_iflt G dX7_chosen_14 (tgt := 66) (by decide) (by first | exact r _ _ | assumption | exact ⟨by omega, by omega⟩) (fun c_14 => ?_) (fun c_14 => ?_)
    · omega
    ·
      refine V_aload0 G dX7_chosen_17 ?_
      refine V_iload4 G dX7_chosen_18 ?_
      refine V_cV1i (d1 := 1) G m_X7_82 dX7_chosen_20 (by first | decide | assumption) (by first | rfl | assumption) (c_X7_isComplete r (w := t) (by omega)) (by omega) (by omega) (by omega) (Nat.le_of_ble_eq_true rfl) (fun x_20 h_20 hp_20 => ?_)
      rw [hp_20.1, hp_20.2, k1]
      refine V_ifeqB G dX7_chosen_23 (tgt := 66) (by decide)  (fun c_23 => ?_) (fun c_23 => ?_)
      ·
        refine V_aload0 G dX7_chosen_66 ?_
        refine V_getR G fl_X7_38 dX7_chosen_67 (by first | decide | assumption) (by first | rfl | assumption) rfl (by first | rfl | assumption) ?_
        refine V_iload1 G dX7_chosen_70 ?_
        refine V_iload2 G dX7_chosen_71 ?_
        refine V_iast G dX7_chosen_72 (by first | decide | assumption) (by first | rfl | assumption) (by decide) ⟨by omega, by omega⟩ ?_
        refine V_iload3 G dX7_chosen_73 ?_
        exact V_reti E dX7_chosen_74 rfl rfl ⟨_, rfl, (by have q := hP its (by rw [cands_n c_23]; rfl); rw [cands_n c_23] at q; exact q)⟩
      ·
        refine V_aload0 G dX7_chosen_26 ?_
        refine V_iload4 G dX7_chosen_27 ?_
        refine V_aload0 G dX7_chosen_29 ?_
        refine V_iload1 G dX7_chosen_30 ?_
        refine V_cV1i (d1 := 1) G m_X7_86 dX7_chosen_31 (by first | decide | assumption) (by first | rfl | assumption) (c_X7_kind (w := w) hw) (by omega) (by omega) (by omega) (Nat.le_of_ble_eq_true rfl) (fun x_31 h_31 hp_31 => ?_)
        rw [hp_31.1, hp_31.2, hkd]
        refine V_cV2i (d1 := 1) G m_X7_90 dX7_chosen_34 (by first | decide | assumption) (by first | rfl | assumption) (c_X7_canHold r (w := t) (kd := kd) (by omega) hkr) (by omega) (by omega) (by omega) (Nat.le_of_ble_eq_true rfl) (fun x_34 h_34 hp_34 => ?_)
        rw [hp_34.1, hp_34.2, k1, k3]
        refine V_ifeqB G dX7_chosen_37 (tgt := 60) (by decide)  (fun c_37 => ?_) (fun c_37 => ?_)
        ·
          refine V_iinc4 G dX7_chosen_60 rfl ?_
          rw [show t + -1 = (T.length : Int) - 1 by omega]
          refine V_goto G dX7_chosen_63 (tgt := 12) (by decide) ?_
          first
          | exact chosen12 G E r hw hkd hcw hd T _ _ (by omega) k4 (by omega) (by omega) (fun x hx => by
              have e : pickF cw (cands kd ((a, b, c) :: T)) n its = pickF cw (cands kd T) (n + 1) t := by
                rw [cands_t c_23 c_37]
                show pickF cw (cands kd T) (n + 1) (if n = cw then (((a, b, c) :: T).length : Int) - 1 else its) = _
                rw [if_pos (by omega), show (((a, b, c) :: T).length : Int) - 1 = t by simp; omega]
              rw [← e] at hx ⊢
              exact hP x hx)
          | exact chosen12 G E r hw hkd hcw hd T _ _ (by omega) k4 (by omega) (by omega) (fun x hx => by
              have e : pickF cw (cands kd ((a, b, c) :: T)) n its = pickF cw (cands kd T) (n + 1) its := by
                rw [cands_t c_23 c_37]
                show pickF cw (cands kd T) (n + 1) (if n = cw then (((a, b, c) :: T).length : Int) - 1 else its) = _
                rw [if_neg (by omega)]
              rw [← e] at hx ⊢
              exact hP x hx)
          | exact chosen12 G E r hw hkd hcw hd T _ _ (by omega) k4 (by omega) (by omega) (fun x hx => by
              rw [← cands_f (b := b) c_23 c_37] at hx ⊢
              exact hP x hx)
        ·
          refine V_iload2 G dX7_chosen_40 ?_
          refine V_aload0 G dX7_chosen_41 ?_
          refine V_getR G fl_X7_35 dX7_chosen_42 (by first | decide | assumption) (by first | rfl | assumption) rfl (by first | rfl | assumption) ?_
          refine V_iload1 G dX7_chosen_45 ?_
          refine V_ialde G dX7_chosen_46 (by first | decide | assumption) (by first | rfl | assumption) (by decide) ⟨by omega, by omega⟩ (by first | (simp only [hI_sI, hI_sL, hL_sI, hL_sL, false_and, true_and, and_false, and_true, and_self, if_false, if_true, hcw]; first | done | rfl) | rfl) ?_
          refine V_icmpne G dX7_chosen_47 (tgt := 55) (by decide) (by first | exact r _ _ | assumption | exact ⟨by omega, by omega⟩) (by first | exact r _ _ | assumption | exact ⟨by omega, by omega⟩) (fun c_47 => ?_) (fun c_47 => ?_)
          ·
            refine V_iload3 G dX7_chosen_55 ?_
            refine V_istore3 G dX7_chosen_56 rfl ?_
            refine V_iinc2 G dX7_chosen_57 rfl ?_
            refine V_iinc4 G dX7_chosen_60 rfl ?_
            rw [show t + -1 = (T.length : Int) - 1 by omega]
            refine V_goto G dX7_chosen_63 (tgt := 12) (by decide) ?_
            first
            | exact chosen12 G E r hw hkd hcw hd T _ _ (by omega) k4 (by omega) (by omega) (fun x hx => by
                have e : pickF cw (cands kd ((a, b, c) :: T)) n its = pickF cw (cands kd T) (n + 1) t := by
                  rw [cands_t c_23 c_37]
                  show pickF cw (cands kd T) (n + 1) (if n = cw then (((a, b, c) :: T).length : Int) - 1 else its) = _
                  rw [if_pos (by omega), show (((a, b, c) :: T).length : Int) - 1 = t by simp; omega]
                rw [← e] at hx ⊢
                exact hP x hx)
            | exact chosen12 G E r hw hkd hcw hd T _ _ (by omega) k4 (by omega) (by omega) (fun x hx => by
                have e : pickF cw (cands kd ((a, b, c) :: T)) n its = pickF cw (cands kd T) (n + 1) its := by
                  rw [cands_t c_23 c_37]
                  show pickF cw (cands kd T) (n + 1) (if n = cw then (((a, b, c) :: T).length : Int) - 1 else its) = _
                  rw [if_neg (by omega)]
                rw [← e] at hx ⊢
                exact hP x hx)
            | exact chosen12 G E r hw hkd hcw hd T _ _ (by omega) k4 (by omega) (by omega) (fun x hx => by
                rw [← cands_f (b := b) c_23 c_37] at hx ⊢
                exact hP x hx)
          ·
            refine V_iload4 G dX7_chosen_50 ?_
            refine V_goto G dX7_chosen_52 (tgt := 56) (by decide) ?_
            refine V_istore3 G dX7_chosen_56 rfl ?_
            refine V_iinc2 G dX7_chosen_57 rfl ?_
            refine V_iinc4 G dX7_chosen_60 rfl ?_
            rw [show t + -1 = (T.length : Int) - 1 by omega]
            refine V_goto G dX7_chosen_63 (tgt := 12) (by decide) ?_
            first
            | exact chosen12 G E r hw hkd hcw hd T _ _ (by omega) k4 (by omega) (by omega) (fun x hx => by
                have e : pickF cw (cands kd ((a, b, c) :: T)) n its = pickF cw (cands kd T) (n + 1) t := by
                  rw [cands_t c_23 c_37]
                  show pickF cw (cands kd T) (n + 1) (if n = cw then (((a, b, c) :: T).length : Int) - 1 else its) = _
                  rw [if_pos (by omega), show (((a, b, c) :: T).length : Int) - 1 = t by simp; omega]
                rw [← e] at hx ⊢
                exact hP x hx)
            | exact chosen12 G E r hw hkd hcw hd T _ _ (by omega) k4 (by omega) (by omega) (fun x hx => by
                have e : pickF cw (cands kd ((a, b, c) :: T)) n its = pickF cw (cands kd T) (n + 1) its := by
                  rw [cands_t c_23 c_37]
                  show pickF cw (cands kd T) (n + 1) (if n = cw then (((a, b, c) :: T).length : Int) - 1 else its) = _
                  rw [if_neg (by omega)]
                rw [← e] at hx ⊢
                exact hP x hx)
            | exact chosen12 G E r hw hkd hcw hd T _ _ (by omega) k4 (by omega) (by omega) (fun x hx => by
                rw [← cands_f (b := b) c_23 c_37] at hx ⊢
                exact hP x hx)

set_option maxRecDepth 100000 in
set_option maxHeartbeats 4000000 in
theorem c_X7_chosen {l : Launch} {d : Nat} {h : Hp} (r : Rg h) {w kd cw : Int} (hw : 0 ≤ w ∧ w < 12) (hkd : hI h 78 (2 + w) = kd) (hcw : hI h 86 w = cw) {L : List E3} (hL : L.length ≤ 16) (sk : stk h L) (hdep : hI h 77 11 = L.length) (hd : 2 ≤ d := by omega) : CP l d 0 0 yX7_chosen cX7_chosen 5 (Option.some Jvm.ClassFile.FieldType.int) [.ref 77, iv w] h (pI fun x h1 => x = (pickF cw (cands kd L) 0 (-1)).2 ∧ h1 = sI h 87 w (pickF cw (cands kd L) 0 (-1)).1) := by
  refine CP.ofV (L := [some (.ref 77), some (.int (Int32.ofInt w)), none, none, none]) RX7 (by decide +kernel) rfl (Nat.le_of_ble_eq_true rfl) rfl (fun X hX G E => ?_)
  subst hX
  refine V_iconst G dX7_chosen_0 ?_
  refine V_istore2 G dX7_chosen_1 rfl ?_
  refine V_iconst G dX7_chosen_2 ?_
  refine V_istore3 G dX7_chosen_3 rfl ?_
  refine V_aload0 G dX7_chosen_4 ?_
  refine V_getIe (jz := 11) G fl_X7_79 dX7_chosen_5 (by first | decide | assumption) (by first | rfl | assumption) rfl rfl (by first | (simp only [hI_sI, hI_sL, hL_sI, hL_sL, false_and, true_and, and_false, and_true, and_self, if_false, if_true, hdep]; first | done | rfl) | rfl) ?_
  refine V_iconst G dX7_chosen_8 ?_
  refine V_isub G dX7_chosen_9 ?_
  refine V_istore4 G dX7_chosen_10 rfl ?_
  exact chosen12 G E r hw hkd hcw hd L 0 (-1) hL sk (by omega) (by omega) (fun x hx => ⟨hx, rfl⟩)


theorem pickF_1 (cw : Int) : ∀ (cs : List (List E3)) (n its : Int), (pickF cw cs n its).1 = n + cs.length
  | [], n, its => by simp [pickF]
  | S :: cs, n, its => by rw [pickF, pickF_1 cw cs]; simp; omega
theorem pickF_lt (cw : Int) : ∀ (cs : List (List E3)) (n its : Int), cw < n → (pickF cw cs n its).2 = its
  | [], n, its, _ => rfl
  | S :: cs, n, its, h => by rw [pickF, if_neg (by omega), pickF_lt cw cs _ _ (by omega)]
theorem pickF_2 (cw : Int) : ∀ (cs : List (List E3)) (n its : Int), n ≤ cw → (pickF cw cs n its).2 = match cs[(cw - n).toNat]? with
    | some S => (S.length : Int) - 1
    | none => its
  | [], n, its, _ => by simp [pickF]
  | S :: cs, n, its, h => by
    rw [pickF]
    by_cases e : n = cw
    · rw [if_pos e, pickF_lt cw cs _ _ (by omega), show (cw - n).toNat = 0 by omega]
      rfl
    · rw [if_neg e, pickF_2 cw cs _ _ (by omega), show (cw - n).toNat = (cw - (n + 1)).toNat + 1 by omega]
      rfl
noncomputable def hangStep (w kd cw : Int) (L : List E3) (hd : Int → Int) : Option St3 := match (cands kd L)[cw.toNat]? with
  | some ((a, b, c) :: T) => if kd = 4 then some ((7, w, 0) :: ((if a = 2 then 3 else a), b, c) :: T, upH hd w b) else if kd = 5 then some ((6, w, c) :: T, upH hd w b) else some (((if a = 2 then 3 else a), b, c) :: T, upH hd w b)
  | _ => none
/-- the parts that can hold are ends of the stack, not empty -/
theorem cands_suf (kd : Int) : ∀ (L S : List E3), S ∈ cands kd L → S ≠ [] ∧ S.length ≤ L.length ∧ (∀ h, stk h L → stk h S) ∧ ∀ e ∈ S, e ∈ L
  | [], S, h => by simp [cands] at h
  | (a, b, c) :: T, S, h => by
    have ih := cands_suf kd T S
    have key : S = (a, b, c) :: T ∨ S ∈ cands kd T := by
      rw [cands] at h
      split at h
      · split at h <;> split at h <;> first | exact (List.mem_cons.mp h).elim Or.inl Or.inr | exact Or.inr h
      · simp at h
    rcases key with rfl | h2
    · exact ⟨by simp, Nat.le_refl _, fun _ z => z, fun e he => he⟩
    · obtain ⟨q1, q2, q3, q4⟩ := ih h2
      exact ⟨q1, by simp; omega, fun g z => q3 g z.2.2.2, fun e he => List.mem_cons_of_mem _ (q4 e he)⟩
theorem cands_top {kd : Int} : ∀ (L : List E3) {a b c : Int} {T : List E3}, (a, b, c) :: T ∈ cands kd L → (a = 5 ∨ a = 2 ∨ a = 3)
  | [], a, b, c, T, h => by simp [cands] at h
  | (a', b', c') :: T', a, b, c, T, h => by
    rw [cands] at h
    split at h
    · next hz =>
      split at h <;> split at h <;> first
        | (rcases List.mem_cons.mp h with e | h
           · cases e; exact hz
           · exact cands_top T' h)
        | exact cands_top T' h
    · simp at h

set_option maxRecDepth 100000 in
set_option maxHeartbeats 4000000 in
theorem c_X7_takesHanging {l : Launch} {d : Nat} {h : Hp} (r : Rg h) {w kd cw : Int} (hw : 0 ≤ w ∧ w < 12) (hkd : hI h 78 (2 + w) = kd) (hcw : hI h 86 w = cw) (hcw0 : 0 ≤ cw) {L : List E3} (hL : L.length ≤ 15) (sk : stk h L) (hdep : hI h 77 11 = L.length) (hd : 3 ≤ d := by omega) : CP l d 0 0 yX7_takesHanging cX7_takesHanging 3 (Option.some Jvm.ClassFile.FieldType.boolean) [.ref 77, iv w] h (pI fun x h1 => eqx Sp h h1 ∧ Rg h1 ∧ hI h1 87 w = (cands kd L).length ∧ (∀ j, j ≠ w → hI h1 87 j = hI h 87 j) ∧ nres x h1 (hangStep w kd cw L (hI h 88))) := by
  refine CP.ofV (L := [some (.ref 77), some (.int (Int32.ofInt w)), none]) RX7 (by decide +kernel) rfl (Nat.le_of_ble_eq_true rfl) rfl (fun X hX G E => ?_)
  subst hX
  have hkr : inr kd := hkd ▸ r _ _
  have hn : (pickF cw (cands kd L) 0 (-1)).1 = (cands kd L).length := by rw [pickF_1]; omega
  have hp2 := pickF_2 cw (cands kd L) 0 (-1) hcw0
  rw [Int.sub_zero] at hp2
  have hcl := cands_len kd L
  have r0 : Rg (sI h 87 w (cands kd L).length) := r.sI ⟨by omega, by omega⟩
  have e0 : eqx Sp h (sI h 87 w (cands kd L).length) := eqx.rf.st rfl
  refine V_aload0 G dX7_takesHanging_0 ?_
  refine V_iload1 G dX7_takesHanging_1 ?_
  refine V_cV1i (d1 := 2) G m_X7_102 dX7_takesHanging_2 (by first | decide | assumption) (by first | rfl | assumption) (c_X7_chosen r hw hkd hcw (by omega) sk hdep) (by omega) (by omega) (by omega) (Nat.le_of_ble_eq_true rfl) (fun x_2 h_2 hp_2 => ?_)
  rw [hp_2.1, hp_2.2, hn]
  rcases hc : (cands kd L)[cw.toNat]? with _ | S
  · have hz : (pickF cw (cands kd L) 0 (-1)).2 = -1 := by rw [hp2, hc]
    rw [hz]
    refine V_istore2 G dX7_takesHanging_5 rfl ?_
    refine V_iload2 G dX7_takesHanging_6 ?_
    refine V_iconst G dX7_takesHanging_7 ?_
    refine V_icmpne G dX7_takesHanging_8 (tgt := 13) (by decide) ⟨by omega, by omega⟩ ⟨by omega, by omega⟩ (fun c_8 => absurd rfl c_8) (fun c_8 => ?_)
    refine V_iconst G dX7_takesHanging_11 ?_
    exact V_reti E dX7_takesHanging_12 rfl rfl ⟨_, rfl, ⟨e0, r0, by simp [hI_sI], fun j hj => by simp [hI_sI, hj], by unfold hangStep; rw [hc]; rfl⟩⟩
  obtain ⟨q1, q2, q3, q4⟩ := cands_suf kd L S (List.mem_of_getElem? hc)
  obtain ⟨⟨a, b, c⟩, T, rfl⟩ := List.exists_cons_of_ne_nil q1
  have hst : hangStep w kd cw L (hI h 88) = if kd = 4 then some ((7, w, 0) :: ((if a = 2 then 3 else a), b, c) :: T, upH (hI h 88) w b) else if kd = 5 then some ((6, w, c) :: T, upH (hI h 88) w b) else some (((if a = 2 then 3 else a), b, c) :: T, upH (hI h 88) w b) := by unfold hangStep; rw [hc]
  have ha := cands_top L (List.mem_of_getElem? hc)
  obtain ⟨k1, k2, k3, k4⟩ := q3 _ (stk_w (q := 87) (j := w) (v := (cands kd L).length) (by omega) sk)
  dsimp only at k1 k2 k3
  simp only [List.length_cons] at q2
  obtain ⟨t, ht⟩ : ∃ t : Int, t = (T.length : Int) := ⟨_, rfl⟩
  rw [← ht] at k1 k2 k3
  have hz : (pickF cw (cands kd L) 0 (-1)).2 = t := by rw [hp2, hc]; simp; omega
  rw [hz]
  have hkd2 : hI (sI h 87 w (cands kd L).length) 78 (2 + w) = kd := hkd
  have hbr : inr b := k2 ▸ r0 _ _
  have hcr : inr c := k3 ▸ r0 _ _
  have har : inr a := k1 ▸ r0 _ _
  have hg87 : hI (sI h 87 w (cands kd L).length) 87 w = (cands kd L).length := by simp [hI_sI]
  have hg87n : ∀ j, j ≠ w → hI (sI h 87 w (cands kd L).length) 87 j = hI h 87 j := fun j hj => by simp [hI_sI, hj]
  have hg88 : ∀ j, hI (sI h 87 w (cands kd L).length) 88 j = hI h 88 j := fun j => rfl
  clear hp2 hn sk
  generalize hgg : sI h 87 w ((cands kd L).length : Int) = g at *
  have r := r0
  obtain ⟨v, hv⟩ : ∃ v : Int, v = if a = 2 then 3 else a := ⟨_, rfl⟩
  have hvr : inr v := by rw [hv]; split
                         · exact ⟨by omega, by omega⟩
                         · exact har
  rw [← hv] at hst
  refine V_istore2 G dX7_takesHanging_5 rfl ?_
  refine V_iload2 G dX7_takesHanging_6 ?_
  refine V_iconst G dX7_takesHanging_7 ?_
  refine V_icmpne G dX7_takesHanging_8 (tgt := 13) (by decide) (by first | exact r _ _ | assumption | exact ⟨by omega, by omega⟩) (by first | exact r _ _ | assumption | exact ⟨by omega, by omega⟩) (fun c_8 => ?_) (fun c_8 => ?_)
  ·
    refine V_aload0 G dX7_takesHanging_13 ?_
    refine V_iload2 G dX7_takesHanging_14 ?_
    refine V_iconst G dX7_takesHanging_15 ?_
    refine V_iadd G dX7_takesHanging_16 ?_
    refine V_putI (jz := 11) G fw_X7_79 dX7_takesHanging_17 (by first | decide | assumption) (by first | rfl | assumption) rfl rfl ?_
    refine V_aload0 G dX7_takesHanging_20 ?_
    refine V_getR G fl_X7_41 dX7_takesHanging_21 (by first | decide | assumption) (by first | rfl | assumption) rfl (by first | rfl | assumption) ?_
    refine V_iload1 G dX7_takesHanging_24 ?_
    refine V_aload0 G dX7_takesHanging_25 ?_
    refine V_getR G fl_X7_29 dX7_takesHanging_26 (by first | decide | assumption) (by first | rfl | assumption) rfl (by first | rfl | assumption) ?_
    refine V_iload2 G dX7_takesHanging_29 ?_
    refine V_ialde G dX7_takesHanging_30 (by first | decide | assumption) (by first | rfl | assumption) (by decide) ⟨by omega, by omega⟩ (by first | (simp only [hI_sI, hI_sL, hL_sI, hL_sL, false_and, true_and, and_false, and_true, and_self, if_false, if_true, k1, k2, k3]; first | done | rfl) | rfl) ?_
    refine V_iast G dX7_takesHanging_31 (by first | decide | assumption) (by first | rfl | assumption) (by decide) ⟨by omega, by omega⟩ ?_
    refine V_aload0 G dX7_takesHanging_32 ?_
    refine V_getR G fl_X7_26 dX7_takesHanging_33 (by first | decide | assumption) (by first | rfl | assumption) rfl (by first | rfl | assumption) ?_
    refine V_iload2 G dX7_takesHanging_36 ?_
    refine V_aload0 G dX7_takesHanging_37 ?_
    refine V_getR G fl_X7_26 dX7_takesHanging_38 (by first | decide | assumption) (by first | rfl | assumption) rfl (by first | rfl | assumption) ?_
    refine V_iload2 G dX7_takesHanging_41 ?_
    refine V_ialde G dX7_takesHanging_42 (by first | decide | assumption) (by first | rfl | assumption) (by decide) ⟨by omega, by omega⟩ (by first | (simp only [hI_sI, hI_sL, hL_sI, hL_sL, false_and, true_and, and_false, and_true, and_self, if_false, if_true, k1, k2, k3]; first | done | rfl) | rfl) ?_
    refine V_iconst G dX7_takesHanging_43 ?_
    have mid : V X 0 0 57 [some (.ref 77), some (.int (Int32.ofInt w)), some (.int (Int32.ofInt t))] [.int (Int32.ofInt v), .int (Int32.ofInt t), .ref 83] (sI (sI g 77 11 (t + 1)) 88 w b) := by
      refine V_iast G dX7_takesHanging_57 (by first | decide | assumption) (by first | rfl | assumption) (by decide) ⟨by omega, by omega⟩ ?_
      refine V_aload0 G dX7_takesHanging_58 ?_
      refine V_iload1 G dX7_takesHanging_59 ?_
      refine V_cV1i (d1 := 1) G m_X7_86 dX7_takesHanging_60 (by first | decide | assumption) (by first | rfl | assumption) (c_X7_kind (w := w) hw) (by omega) (by omega) (by omega) (Nat.le_of_ble_eq_true rfl) (fun x_60 h_60 hp_60 => ?_)
      rw [hp_60.1, hp_60.2]
      simp only [hI_sI, Nat.reduceEqDiff, false_and, if_false, hkd2]
      refine V_iconst G dX7_takesHanging_63 ?_
      refine V_icmpne G dX7_takesHanging_64 (tgt := 78) (by decide) (by first | exact r _ _ | assumption | exact ⟨by omega, by omega⟩) (by first | exact r _ _ | assumption | exact ⟨by omega, by omega⟩) (fun c_64 => ?_) (fun c_64 => ?_)
      ·
        refine V_aload0 G dX7_takesHanging_78 ?_
        refine V_iload1 G dX7_takesHanging_79 ?_
        refine V_cV1i (d1 := 1) G m_X7_86 dX7_takesHanging_80 (by first | decide | assumption) (by first | rfl | assumption) (c_X7_kind (w := w) hw) (by omega) (by omega) (by omega) (Nat.le_of_ble_eq_true rfl) (fun x_80 h_80 hp_80 => ?_)
        rw [hp_80.1, hp_80.2]
        simp only [hI_sI, Nat.reduceEqDiff, false_and, if_false, hkd2]
        refine V_iconst G dX7_takesHanging_83 ?_
        refine V_icmpne G dX7_takesHanging_84 (tgt := 102) (by decide) (by first | exact r _ _ | assumption | exact ⟨by omega, by omega⟩) (by first | exact r _ _ | assumption | exact ⟨by omega, by omega⟩) (fun c_84 => ?_) (fun c_84 => ?_)
        ·
          refine V_iconst G dX7_takesHanging_102 ?_
          exact V_reti E dX7_takesHanging_103 rfl rfl ⟨_, rfl, by
      have R1 : eqx Sp h (sI (sI (sI g 77 11 (t + 1)) 88 w b) 83 t v) := ((e0.st rfl).st rfl).st rfl
      have R2 : Rg (sI (sI (sI g 77 11 (t + 1)) 88 w b) 83 t v) := ((r.sI ⟨by omega, by omega⟩).sI hbr).sI hvr
      have R3 : stk (sI (sI (sI g 77 11 (t + 1)) 88 w b) 83 t v) ((v, b, c) :: T) := ⟨by simp [hI_sI, ← ht], by simp [hI_sI, ← ht, k2], by simp [hI_sI, ← ht, k3], stk_w (by omega) (stk_w (by omega) (stk_w (by omega) k4))⟩
      have R4 : ∀ k, hI (sI (sI (sI g 77 11 (t + 1)) 88 w b) 83 t v) 88 k = upH (hI h 88) w b k := fun k => by
        simp only [hI_sI, Nat.reduceEqDiff, false_and, if_false, true_and, upH]
        split
        · rfl
        · exact hg88 k
      have R5 : hI (sI (sI (sI g 77 11 (t + 1)) 88 w b) 83 t v) 87 w = (cands kd L).length := by simp [hI_sI, hg87]
      have R6 : ∀ j, j ≠ w → hI (sI (sI (sI g 77 11 (t + 1)) 88 w b) 83 t v) 87 j = hI h 87 j := fun j hj => by simp [hI_sI, hg87n j hj]
      have R7 : hI (sI (sI (sI g 77 11 (t + 1)) 88 w b) 83 t v) 77 11 = t + 1 := by simp [hI_sI]
      have R8 : hI (sI (sI (sI g 77 11 (t + 1)) 88 w b) 83 t v) 85 t = c := by simp [hI_sI, k3]
      generalize sI (sI (sI g 77 11 (t + 1)) 88 w b) 83 t v = g3 at *
      first
      | (refine ⟨mOpens_eqx R1 rfl rfl rfl rfl, mOpens_Rg R2 ⟨by omega, by omega⟩ ⟨by omega, by omega⟩ ⟨by omega, by omega⟩ ⟨by omega, by omega⟩, by rw [mOpens_ne (by decide) (by decide) (by decide) (by decide)]; exact R5, fun j hj => by rw [mOpens_ne (by decide) (by decide) (by decide) (by decide)]; exact R6 j hj, ?_⟩
         rw [hst, if_pos (by omega)]
         have q := mOpens_stk (a := 7) (b := w) (c := 0) (t := t + 1) (by simp; omega) R3
         exact ⟨rfl, q.1, q.2, fun k => by rw [mOpens_ne (by decide) (by decide) (by decide) (by decide)]; exact R4 k⟩)
      | (refine ⟨(R1.st rfl).st rfl, (R2.sI ⟨by omega, by omega⟩).sI ⟨by omega, by omega⟩, by simp [hI_sI, R5], fun j hj => by simp [hI_sI, R6 j hj], ?_⟩
         rw [hst, if_neg (by omega), if_pos (by omega)]
         exact ⟨rfl, ⟨by simp [hI_sI, ← ht], by simp [hI_sI, ← ht], by simp [hI_sI, ← ht, R8], stk_w (by omega) (stk_w (by omega) R3.2.2.2)⟩, by simp [hI_sI, R7, ht], fun k => R4 k⟩)
      | (refine ⟨R1, R2, R5, R6, ?_⟩
         rw [hst, if_neg (by omega), if_neg (by omega)]
         exact ⟨rfl, R3, by rw [R7, ht]; simp, fun k => R4 k⟩)⟩
        ·
          refine V_aload0 G dX7_takesHanging_87 ?_
          refine V_getR G fl_X7_26 dX7_takesHanging_88 (by first | decide | assumption) (by first | rfl | assumption) rfl (by first | rfl | assumption) ?_
          refine V_iload2 G dX7_takesHanging_91 ?_
          refine V_bipush G dX7_takesHanging_92 (by decide) ?_
          refine V_iast G dX7_takesHanging_94 (by first | decide | assumption) (by first | rfl | assumption) (by decide) ⟨by omega, by omega⟩ ?_
          refine V_aload0 G dX7_takesHanging_95 ?_
          refine V_getR G fl_X7_29 dX7_takesHanging_96 (by first | decide | assumption) (by first | rfl | assumption) rfl (by first | rfl | assumption) ?_
          refine V_iload2 G dX7_takesHanging_99 ?_
          refine V_iload1 G dX7_takesHanging_100 ?_
          refine V_iast G dX7_takesHanging_101 (by first | decide | assumption) (by first | rfl | assumption) (by decide) ⟨by omega, by omega⟩ ?_
          refine V_iconst G dX7_takesHanging_102 ?_
          exact V_reti E dX7_takesHanging_103 rfl rfl ⟨_, rfl, by
      have R1 : eqx Sp h (sI (sI (sI g 77 11 (t + 1)) 88 w b) 83 t v) := ((e0.st rfl).st rfl).st rfl
      have R2 : Rg (sI (sI (sI g 77 11 (t + 1)) 88 w b) 83 t v) := ((r.sI ⟨by omega, by omega⟩).sI hbr).sI hvr
      have R3 : stk (sI (sI (sI g 77 11 (t + 1)) 88 w b) 83 t v) ((v, b, c) :: T) := ⟨by simp [hI_sI, ← ht], by simp [hI_sI, ← ht, k2], by simp [hI_sI, ← ht, k3], stk_w (by omega) (stk_w (by omega) (stk_w (by omega) k4))⟩
      have R4 : ∀ k, hI (sI (sI (sI g 77 11 (t + 1)) 88 w b) 83 t v) 88 k = upH (hI h 88) w b k := fun k => by
        simp only [hI_sI, Nat.reduceEqDiff, false_and, if_false, true_and, upH]
        split
        · rfl
        · exact hg88 k
      have R5 : hI (sI (sI (sI g 77 11 (t + 1)) 88 w b) 83 t v) 87 w = (cands kd L).length := by simp [hI_sI, hg87]
      have R6 : ∀ j, j ≠ w → hI (sI (sI (sI g 77 11 (t + 1)) 88 w b) 83 t v) 87 j = hI h 87 j := fun j hj => by simp [hI_sI, hg87n j hj]
      have R7 : hI (sI (sI (sI g 77 11 (t + 1)) 88 w b) 83 t v) 77 11 = t + 1 := by simp [hI_sI]
      have R8 : hI (sI (sI (sI g 77 11 (t + 1)) 88 w b) 83 t v) 85 t = c := by simp [hI_sI, k3]
      generalize sI (sI (sI g 77 11 (t + 1)) 88 w b) 83 t v = g3 at *
      first
      | (refine ⟨mOpens_eqx R1 rfl rfl rfl rfl, mOpens_Rg R2 ⟨by omega, by omega⟩ ⟨by omega, by omega⟩ ⟨by omega, by omega⟩ ⟨by omega, by omega⟩, by rw [mOpens_ne (by decide) (by decide) (by decide) (by decide)]; exact R5, fun j hj => by rw [mOpens_ne (by decide) (by decide) (by decide) (by decide)]; exact R6 j hj, ?_⟩
         rw [hst, if_pos (by omega)]
         have q := mOpens_stk (a := 7) (b := w) (c := 0) (t := t + 1) (by simp; omega) R3
         exact ⟨rfl, q.1, q.2, fun k => by rw [mOpens_ne (by decide) (by decide) (by decide) (by decide)]; exact R4 k⟩)
      | (refine ⟨(R1.st rfl).st rfl, (R2.sI ⟨by omega, by omega⟩).sI ⟨by omega, by omega⟩, by simp [hI_sI, R5], fun j hj => by simp [hI_sI, R6 j hj], ?_⟩
         rw [hst, if_neg (by omega), if_pos (by omega)]
         exact ⟨rfl, ⟨by simp [hI_sI, ← ht], by simp [hI_sI, ← ht], by simp [hI_sI, ← ht, R8], stk_w (by omega) (stk_w (by omega) R3.2.2.2)⟩, by simp [hI_sI, R7, ht], fun k => R4 k⟩)
      | (refine ⟨R1, R2, R5, R6, ?_⟩
         rw [hst, if_neg (by omega), if_neg (by omega)]
         exact ⟨rfl, R3, by rw [R7, ht]; simp, fun k => R4 k⟩)⟩
      ·
        refine V_aload0 G dX7_takesHanging_67 ?_
        refine V_bipush G dX7_takesHanging_68 (by decide) ?_
        refine V_iload1 G dX7_takesHanging_70 ?_
        refine V_iconst G dX7_takesHanging_71 ?_
        refine V_cV3v (d1 := 1) G m_X7_98 dX7_takesHanging_72 (by first | decide | assumption) (by first | rfl | assumption) (c_X7_opens (t := t + 1) (by omega) (by simp [hI_sI])) (by omega) (by omega) (by omega) (Nat.le_of_ble_eq_true rfl) (fun h_72 hp_72 => ?_)
        rw [hp_72]
        refine V_goto G dX7_takesHanging_75 (tgt := 102) (by decide) ?_
        refine V_iconst G dX7_takesHanging_102 ?_
        exact V_reti E dX7_takesHanging_103 rfl rfl ⟨_, rfl, by
      have R1 : eqx Sp h (sI (sI (sI g 77 11 (t + 1)) 88 w b) 83 t v) := ((e0.st rfl).st rfl).st rfl
      have R2 : Rg (sI (sI (sI g 77 11 (t + 1)) 88 w b) 83 t v) := ((r.sI ⟨by omega, by omega⟩).sI hbr).sI hvr
      have R3 : stk (sI (sI (sI g 77 11 (t + 1)) 88 w b) 83 t v) ((v, b, c) :: T) := ⟨by simp [hI_sI, ← ht], by simp [hI_sI, ← ht, k2], by simp [hI_sI, ← ht, k3], stk_w (by omega) (stk_w (by omega) (stk_w (by omega) k4))⟩
      have R4 : ∀ k, hI (sI (sI (sI g 77 11 (t + 1)) 88 w b) 83 t v) 88 k = upH (hI h 88) w b k := fun k => by
        simp only [hI_sI, Nat.reduceEqDiff, false_and, if_false, true_and, upH]
        split
        · rfl
        · exact hg88 k
      have R5 : hI (sI (sI (sI g 77 11 (t + 1)) 88 w b) 83 t v) 87 w = (cands kd L).length := by simp [hI_sI, hg87]
      have R6 : ∀ j, j ≠ w → hI (sI (sI (sI g 77 11 (t + 1)) 88 w b) 83 t v) 87 j = hI h 87 j := fun j hj => by simp [hI_sI, hg87n j hj]
      have R7 : hI (sI (sI (sI g 77 11 (t + 1)) 88 w b) 83 t v) 77 11 = t + 1 := by simp [hI_sI]
      have R8 : hI (sI (sI (sI g 77 11 (t + 1)) 88 w b) 83 t v) 85 t = c := by simp [hI_sI, k3]
      generalize sI (sI (sI g 77 11 (t + 1)) 88 w b) 83 t v = g3 at *
      first
      | (refine ⟨mOpens_eqx R1 rfl rfl rfl rfl, mOpens_Rg R2 ⟨by omega, by omega⟩ ⟨by omega, by omega⟩ ⟨by omega, by omega⟩ ⟨by omega, by omega⟩, by rw [mOpens_ne (by decide) (by decide) (by decide) (by decide)]; exact R5, fun j hj => by rw [mOpens_ne (by decide) (by decide) (by decide) (by decide)]; exact R6 j hj, ?_⟩
         rw [hst, if_pos (by omega)]
         have q := mOpens_stk (a := 7) (b := w) (c := 0) (t := t + 1) (by simp; omega) R3
         exact ⟨rfl, q.1, q.2, fun k => by rw [mOpens_ne (by decide) (by decide) (by decide) (by decide)]; exact R4 k⟩)
      | (refine ⟨(R1.st rfl).st rfl, (R2.sI ⟨by omega, by omega⟩).sI ⟨by omega, by omega⟩, by simp [hI_sI, R5], fun j hj => by simp [hI_sI, R6 j hj], ?_⟩
         rw [hst, if_neg (by omega), if_pos (by omega)]
         exact ⟨rfl, ⟨by simp [hI_sI, ← ht], by simp [hI_sI, ← ht], by simp [hI_sI, ← ht, R8], stk_w (by omega) (stk_w (by omega) R3.2.2.2)⟩, by simp [hI_sI, R7, ht], fun k => R4 k⟩)
      | (refine ⟨R1, R2, R5, R6, ?_⟩
         rw [hst, if_neg (by omega), if_neg (by omega)]
         exact ⟨rfl, R3, by rw [R7, ht]; simp, fun k => R4 k⟩)⟩
    refine V_icmpne G dX7_takesHanging_44 (tgt := 51) (by decide) (by first | exact r _ _ | assumption | exact ⟨by omega, by omega⟩) (by first | exact r _ _ | assumption | exact ⟨by omega, by omega⟩) (fun c_44 => ?_) (fun c_44 => ?_)
    ·
      refine V_aload0 G dX7_takesHanging_51 ?_
      refine V_getR G fl_X7_26 dX7_takesHanging_52 (by first | decide | assumption) (by first | rfl | assumption) rfl (by first | rfl | assumption) ?_
      refine V_iload2 G dX7_takesHanging_55 ?_
      refine V_ialde G dX7_takesHanging_56 (by first | decide | assumption) (by first | rfl | assumption) (by decide) ⟨by omega, by omega⟩ (by first | (simp only [hI_sI, hI_sL, hL_sI, hL_sL, false_and, true_and, and_false, and_true, and_self, if_false, if_true, k1, k2, k3]; first | done | rfl) | rfl) ?_
      first
      | (rw [hv, if_pos (by omega)] at mid; exact mid)
      | (rw [hv, if_neg (by omega)] at mid; exact mid)
    ·
      refine V_iconst G dX7_takesHanging_47 ?_
      refine V_goto G dX7_takesHanging_48 (tgt := 57) (by decide) ?_
      first
      | (rw [hv, if_pos (by omega)] at mid; exact mid)
      | (rw [hv, if_neg (by omega)] at mid; exact mid)
  · omega

end M3
