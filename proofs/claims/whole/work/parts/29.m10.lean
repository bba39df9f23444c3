
section M10
def savL (S : List Cs) (c : Cs) : List Cs := (if S.length = 6 then S.tail else S) ++ [c]
def begS (c : Cs) : Cs := fun j => if j = 1 ∨ (14 ≤ j ∧ j < 26) then 0 else c j
/-- a call's answer: what was thrown (0: nothing), the number, the state behind it -/
abbrev Rs : Type := Int × Int × Sg
def ores (o : Rs) (x : Int) (h1 : Hp) : Prop := hI h1 77 0 = o.1 ∧ RepM o.2.2 h1 ∧ (o.1 = 0 → x = o.2.1)

set_option maxRecDepth 100000 in
set_option maxHeartbeats 4000000 in
theorem c_X7_saves {l : Launch} {d : Nat} {h : Hp} (r : Rg h) {g : Sg} (R : RepM g h) (hl6 : g.2.1.length ≤ 6) (hd : 1 ≤ d := by omega) : CP l d 0 0 yX7_saves cX7_saves 2 (Option.none : Option Jvm.ClassFile.FieldType) [.ref 77] h (pV fun h1 => eqx (fun q j => q == 79 || (q == 77 && j == 3)) h h1 ∧ Rg h1 ∧ RepM (g.1, savL g.2.1 g.1, g.2.2) h1) := by
  refine CP.ofV (L := [some (.ref 77), none]) RX7 (by decide +kernel) rfl (Nat.le_of_ble_eq_true rfl) rfl (fun X hX G E => ?_)
  subst hX
  obtain ⟨c, S, s0, s1, bf⟩ := g
  obtain ⟨R1, R2, R3, R4, R5, R6, R7⟩ := R
  dsimp only at R1 R2 R3 R4 R5 R6 R7 hl6 ⊢
  have fin : ∀ (g : Hp) (S1 : List Cs) (a1 : Option Value), S1.length ≤ 5 → Rg g → eqx (fun q j => q == 79 || (q == 77 && j == 3)) h g → hI g 77 3 = S1.length → (∀ (i : Nat) (v : Cs), S1[i]? = some v → cAt g 79 (26 * (i : Int)) v) → savL S c = S1 ++ [c] → V X 0 0 49 [some (.ref 77), a1] [] g := by
    intro g S1 a1 hS1 r1 eg h3 hS hsv
    have hS1i : (S1.length : Int) ≤ 5 := by omega
    have cp : ∀ (m : Nat) (k : Int) (f : Hp), k + m = 26 → 0 ≤ k → Rg f → eqx (fun q j => q == 79 || (q == 77 && j == 3)) h f → hI f 77 3 = S1.length → (∀ (i : Nat) (v : Cs), S1[i]? = some v → cAt f 79 (26 * (i : Int)) v) → (∀ j, 0 ≤ j → j < k → hI f 79 (26 * S1.length + j) = c j) → V X 0 0 51 [some (.ref 77), some (.int (Int32.ofInt k))] [] f := by
      intro m
      induction m with
      | zero =>
        intro k f hm_ hk0 r2 ef hf3 hfS hfc
        have r := r2
        refine V_iload1 G dX7_saves_51 ?_
        refine V_bipush G dX7_saves_52 (by decide) ?_
        refine V_icmpge G dX7_saves_54 (tgt := 83) (by decide) (by first | exact r _ _ | assumption | exact ⟨by omega, by omega⟩) (by first | exact r _ _ | assumption | exact ⟨by omega, by omega⟩) (fun c_54 => ?_) (fun c_54 => ?_)
        ·
          refine V_aload0 G dX7_saves_83 ?_
          refine V_dup G dX7_saves_84 rfl ?_
          refine V_getIe (jz := 3) G fl_X7_76 dX7_saves_85 (by first | decide | assumption) (by first | rfl | assumption) rfl rfl (by first | (simp only [hI_sI, hI_sL, hL_sI, hL_sL, false_and, true_and, and_false, and_true, and_self, if_false, if_true, hf3]; first | done | rfl) | rfl) ?_
          refine V_iconst G dX7_saves_88 ?_
          refine V_iadd G dX7_saves_89 ?_
          refine V_putI (jz := 3) G fw_X7_76 dX7_saves_90 (by first | decide | assumption) (by first | rfl | assumption) rfl rfl ?_
          exact V_retv E dX7_saves_93 rfl ⟨rfl, by
              have e9 := ef.st (q := 77) (j := 3) (v := (S1.length : Int) + 1) rfl
              have q78 : ∀ j, hI (sI f 77 3 ((S1.length : Int) + 1)) 78 j = hI h 78 j := fun j => e9.1 78 j rfl
              refine ⟨e9, r2.sI ⟨by omega, by omega⟩, ?_⟩
              rw [hsv]
              refine ⟨R1.eq q78, by simp [hI_sI], fun i v hv => ?_, R4.eq (fun j => e9.1 81 j rfl) (fun j => e9.1 80 j rfl), R5.eq (fun j => e9.1 81 j rfl) (fun j => e9.1 80 j rfl), (e9.1 77 7 rfl).trans R6, fun i z hz => (e9.1 82 _ rfl).trans (R7 i z hz)⟩
              intro j j1 j2
              rw [hI_sI, if_neg (by omega)]
              by_cases hi : i < S1.length
              · rw [List.getElem?_append_left hi] at hv
                exact hfS i v hv j j1 j2
              · rw [List.getElem?_append_right (by omega)] at hv
                have h9 := (List.getElem?_eq_some_iff.mp hv).1
                simp at h9
                have h8 : i = S1.length := by omega
                subst h8
                simp at hv
                subst hv
                exact hfc j j1 (by omega)⟩
        · omega
      | succ m ih =>
        intro k f hm_ hk0 r2 ef hf3 hfS hfc
        have r := r2
        refine V_iload1 G dX7_saves_51 ?_
        refine V_bipush G dX7_saves_52 (by decide) ?_
        refine V_icmpge G dX7_saves_54 (tgt := 83) (by decide) (by first | exact r _ _ | assumption | exact ⟨by omega, by omega⟩) (by first | exact r _ _ | assumption | exact ⟨by omega, by omega⟩) (fun c_54 => ?_) (fun c_54 => ?_)
        · omega
        ·
          refine V_aload0 G dX7_saves_57 ?_
          refine V_getR G fl_X7_13 dX7_saves_58 (by first | decide | assumption) (by first | rfl | assumption) rfl (by first | rfl | assumption) ?_
          refine V_bipush G dX7_saves_61 (by decide) ?_
          refine V_aload0 G dX7_saves_63 ?_
          refine V_getIe (jz := 3) G fl_X7_76 dX7_saves_64 (by first | decide | assumption) (by first | rfl | assumption) rfl rfl (by first | (simp only [hI_sI, hI_sL, hL_sI, hL_sL, false_and, true_and, and_false, and_true, and_self, if_false, if_true, hf3]; first | done | rfl) | rfl) ?_
          refine V_imul G dX7_saves_67 ?_
          refine V_iload1 G dX7_saves_68 ?_
          refine V_iadd G dX7_saves_69 ?_
          refine V_aload0 G dX7_saves_70 ?_
          refine V_getR G fl_X7_7 dX7_saves_71 (by first | decide | assumption) (by first | rfl | assumption) rfl (by first | rfl | assumption) ?_
          refine V_iload1 G dX7_saves_74 ?_
          refine V_ialde G dX7_saves_75 (by first | decide | assumption) (by first | rfl | assumption) (by decide) ⟨by omega, by omega⟩ (by first | (simp only [hI_sI, hI_sL, hL_sI, hL_sL, false_and, true_and, and_false, and_true, and_self, if_false, if_true, hf3]; first | done | rfl) | rfl) ?_
          refine V_iast G dX7_saves_76 (by first | decide | assumption) (by first | rfl | assumption) (by decide) ⟨by omega, by omega⟩ ?_
          refine V_iinc1 G dX7_saves_77 rfl ?_
          refine V_goto G dX7_saves_80 (tgt := 51) (by decide) ?_
          exact ih (k + 1) _ (by omega) (by omega) (r2.sI (r2 _ _)) (ef.st rfl) (by simp [hI_sI, hf3]) (fun i v hv j j1 j2 => by
            have hil := (List.getElem?_eq_some_iff.mp hv).1
            rw [hI_sI, if_neg (by omega)]
            exact hfS i v hv j j1 j2) (fun j j1 j2 => by
            rw [hI_sI]
            by_cases hj : j = k
            · subst hj
              rw [if_pos ⟨rfl, rfl⟩, ef.1 78 _ rfl]
              have := R1 j j1 (by omega)
              rwa [Int.zero_add] at this
            · rw [if_neg (by omega)]
              exact hfc j j1 (by omega))
    refine V_iconst G dX7_saves_49 ?_
    refine V_istore1 G dX7_saves_50 rfl ?_
    exact cp 26 0 _ (by omega) (by omega) r1 eg h3 hS (fun j j1 j2 => by omega)
  have sh : ∀ (m : Nat) (k : Int) (f : Hp), k + m = 130 → 0 ≤ k → Rg f → eqx (fun q j => q == 79 || (q == 77 && j == 3)) h f → hI f 77 3 = 6 → (∀ j : Int, 0 ≤ j → j < k → hI f 79 j = hI h 79 (j + 26)) → (∀ j : Int, k ≤ j → hI f 79 j = hI h 79 j) → S.length = 6 → V X 0 0 11 [some (.ref 77), some (.int (Int32.ofInt k))] [] f := by
    intro m
    induction m with
    | zero =>
      intro k f hm_ hk0 r2 ef hf3 hlo hhi h6
      have r := r2
      refine V_iload1 G dX7_saves_11 ?_
      refine V_sipush G dX7_saves_12 (by decide) ?_
      refine V_icmpge G dX7_saves_15 (tgt := 39) (by decide) (by first | exact r _ _ | assumption | exact ⟨by omega, by omega⟩) (by first | exact r _ _ | assumption | exact ⟨by omega, by omega⟩) (fun c_15 => ?_) (fun c_15 => ?_)
      ·
        refine V_aload0 G dX7_saves_39 ?_
        refine V_dup G dX7_saves_40 rfl ?_
        refine V_getIe (jz := 3) G fl_X7_76 dX7_saves_41 (by first | decide | assumption) (by first | rfl | assumption) rfl rfl (by first | (simp only [hI_sI, hI_sL, hL_sI, hL_sL, false_and, true_and, and_false, and_true, and_self, if_false, if_true, hf3]; first | done | rfl) | rfl) ?_
        refine V_iconst G dX7_saves_44 ?_
        refine V_isub G dX7_saves_45 ?_
        refine V_putI (jz := 3) G fw_X7_76 dX7_saves_46 (by first | decide | assumption) (by first | rfl | assumption) rfl rfl ?_
        exact fin _ S.tail _ (by rw [List.length_tail]; omega) (r2.sI ⟨by omega, by omega⟩) (ef.st rfl) (by simp [hI_sI]; omega) (fun i v hv => by
          intro j j1 j2
          have hil := (List.getElem?_eq_some_iff.mp hv).1
          rw [List.length_tail] at hil
          rw [hI_sI, if_neg (by omega), hlo _ (by omega) (by omega)]
          rw [List.getElem?_tail] at hv
          have := R3 (i + 1) v hv j j1 j2
          rwa [show 26 * ((i + 1 : Nat) : Int) + j = 26 * (i : Int) + j + 26 by omega] at this) (by unfold savL; rw [if_pos h6])
      · omega
    | succ m ih =>
      intro k f hm_ hk0 r2 ef hf3 hlo hhi h6
      have r := r2
      refine V_iload1 G dX7_saves_11 ?_
      refine V_sipush G dX7_saves_12 (by decide) ?_
      refine V_icmpge G dX7_saves_15 (tgt := 39) (by decide) (by first | exact r _ _ | assumption | exact ⟨by omega, by omega⟩) (by first | exact r _ _ | assumption | exact ⟨by omega, by omega⟩) (fun c_15 => ?_) (fun c_15 => ?_)
      · omega
      ·
        refine V_aload0 G dX7_saves_18 ?_
        refine V_getR G fl_X7_13 dX7_saves_19 (by first | decide | assumption) (by first | rfl | assumption) rfl (by first | rfl | assumption) ?_
        refine V_iload1 G dX7_saves_22 ?_
        refine V_aload0 G dX7_saves_23 ?_
        refine V_getR G fl_X7_13 dX7_saves_24 (by first | decide | assumption) (by first | rfl | assumption) rfl (by first | rfl | assumption) ?_
        refine V_iload1 G dX7_saves_27 ?_
        refine V_bipush G dX7_saves_28 (by decide) ?_
        refine V_iadd G dX7_saves_30 ?_
        refine V_ialde G dX7_saves_31 (by first | decide | assumption) (by first | rfl | assumption) (by decide) ⟨by omega, by omega⟩ (by first | (simp only [hI_sI, hI_sL, hL_sI, hL_sL, false_and, true_and, and_false, and_true, and_self, if_false, if_true]; first | done | rfl) | rfl) ?_
        refine V_iast G dX7_saves_32 (by first | decide | assumption) (by first | rfl | assumption) (by decide) ⟨by omega, by omega⟩ ?_
        refine V_iinc1 G dX7_saves_33 rfl ?_
        refine V_goto G dX7_saves_36 (tgt := 11) (by decide) ?_
        exact ih (k + 1) _ (by omega) (by omega) (r2.sI (r2 _ _)) (ef.st rfl) (by simp [hI_sI, hf3]) (fun j j1 j2 => by
          rw [hI_sI]
          by_cases hj : j = k
          · subst hj
            rw [if_pos ⟨rfl, rfl⟩, hhi _ (by omega)]
          · rw [if_neg (by omega)]
            exact hlo j j1 (by omega)) (fun j j1 => by rw [hI_sI, if_neg (by omega)]; exact hhi j (by omega)) h6
  refine V_aload0 G dX7_saves_0 ?_
  refine V_getIe (jz := 3) G fl_X7_76 dX7_saves_1 (by first | decide | assumption) (by first | rfl | assumption) rfl rfl (by first | (simp only [hI_sI, hI_sL, hL_sI, hL_sL, false_and, true_and, and_false, and_true, and_self, if_false, if_true, R2]; first | done | rfl) | rfl) ?_
  refine V_bipush G dX7_saves_4 (by decide) ?_
  refine V_icmpne G dX7_saves_6 (tgt := 49) (by decide) (by first | exact r _ _ | assumption | exact ⟨by omega, by omega⟩) (by first | exact r _ _ | assumption | exact ⟨by omega, by omega⟩) (fun c_6 => ?_) (fun c_6 => ?_)
  ·
    exact fin h S _ (by omega) r eqx.rf R2 R3 (by unfold savL; rw [if_neg (by omega)])
  ·
    refine V_iconst G dX7_saves_9 ?_
    refine V_istore1 G dX7_saves_10 rfl ?_
    exact sh 130 0 h (by omega) (by omega) r eqx.rf (by omega) (fun j j1 j2 => by omega) (fun j j1 => rfl) (by omega)


/-- laysAll over the abstract state -/
theorem c_lays {l : Launch} {d : Nat} {h : Hp} (r : Rg h) {g : Sg} (T : RdsOk) (R : RepM g h) (hn0 : 0 ≤ nS g.1 ∧ nS g.1 ≤ 12) (hk : ∀ w, 0 ≤ w → w < nS g.1 → 0 ≤ kdS g.1 w ∧ kdS g.1 w ≤ 6) (hd : 6 ≤ d := by omega) : CP l d 0 0 yX7_laysAll cX7_laysAll 3 (Option.none : Option Jvm.ClassFile.FieldType) [.ref 77] h (pV fun h1 => eqx Sl h h1 ∧ Rg h1 ∧ LaidM g.1 h1 ∧ RepM g h1) := by
  have hn : hI h 78 0 = nS g.1 := by
    have := R.1 0 (by omega) (by omega)
    rwa [Int.zero_add] at this
  have hkd : ∀ w, 0 ≤ w → w < nS g.1 → hI h 78 (2 + w) = kdS g.1 w := fun w h1 h2 => by
    have := R.1 (2 + w) (by omega) (by omega)
    rwa [Int.zero_add] at this
  have hfx : ∀ w, 0 ≤ w → w < nS g.1 → hI h 78 (14 + w) = fxS g.1 w := fun w h1 h2 => by
    have := R.1 (14 + w) (by omega) (by omega)
    rwa [Int.zero_add] at this
  have eA : rds (fun w => hI h 78 (2 + w)) (nS g.1) = AS g.1 := rds_congr hkd
  obtain ⟨t1, t2, t3, -⟩ := T (fun w => hI h 78 (2 + w)) (nS g.1) hn0 (fun w h1 h2 => by rw [hkd w h1 h2]; exact hk w h1 h2)
  rw [eA] at t1 t2 t3
  refine (c_X7_laysAll r hn hn0 (fun w h1 h2 => by rw [hkd w h1 h2]; exact hk w h1 h2) t1 t2 (by omega) (by omega)).mono ?_
  rintro rr h1 ⟨e0, e1, e2, e3, e4, e5⟩
  refine ⟨e0, e1, e2, ⟨e3, e4, ?_⟩, R.lays e1⟩
  have e9 : lfF (fun k => fitsP (nS g.1) (-1) (fun w => hI h 78 (14 + w)) (fun w => hI h1 89 (12 * k + w))) (AS g.1).length 0 = lfS g.1 := by
    refine lfF_congr _ _ (fun k k1 k2 => (fxS_congr hfx).trans (fitsP_congr (fun w w1 w2 => ?_)))
    obtain ⟨f, hf⟩ : ∃ f, (AS g.1)[k.toNat]? = some f := ⟨_, List.getElem?_eq_getElem (by omega)⟩
    have q1 := e4 k.toNat f hf w w1 w2
    have q2 := rowA_at hf
    rw [show ((k.toNat : Nat) : Int) = k by omega] at q1 q2
    rw [q2]
    exact q1
  rw [← e9]
  exact e5
theorem begS_at {c : Cs} {j : Int} (h : ¬ (j = 1 ∨ (14 ≤ j ∧ j < 26))) : begS c j = c j := if_neg h

set_option maxRecDepth 100000 in
set_option maxHeartbeats 4000000 in
theorem c_X7_begins {l : Launch} {d : Nat} {h : Hp} (r : Rg h) {g : Sg} (T : RdsOk) (R : RepM g h) (hn0 : 0 ≤ nS g.1 ∧ nS g.1 ≤ 12) (hk : ∀ w, 0 ≤ w → w < nS g.1 → 0 ≤ kdS g.1 w ∧ kdS g.1 w ≤ 6) (hd : 7 ≤ d := by omega) : CP l d 0 0 yX7_begins cX7_begins 2 (Option.some Jvm.ClassFile.FieldType.int) [.ref 77] h (pI fun x h1 => eqx SM h h1 ∧ Rg h1 ∧ x = (AS (begS g.1)).length ∧ RepM (begS g.1, g.2) h1 ∧ hI h1 77 0 = hI h 77 0) := by
  refine CP.ofV (L := [some (.ref 77), none]) RX7 (by decide +kernel) rfl (Nat.le_of_ble_eq_true rfl) rfl (fun X hX G E => ?_)
  subst hX
  obtain ⟨c, g2⟩ := g
  obtain ⟨R1, R2⟩ := R
  dsimp only at R1 R2 hn0 hk ⊢
  have lp : ∀ (m : Nat) (k : Int) (f : Hp), k + m = 12 → 0 ≤ k → Rg f → eqx (fun q j => q == 78) h f → (∀ j, 0 ≤ j → j < 26 → hI f 78 j = if j = 1 ∨ (14 ≤ j ∧ j < 14 + k) then 0 else c j) → V X 0 0 9 [some (.ref 77), some (.int (Int32.ofInt k))] [] f := by
    intro m
    induction m with
    | zero =>
      intro k f hm_ hk0 r2 ef hf
      refine V_iload1 G dX7_begins_9 ?_
      refine V_bipush G dX7_begins_10 (by decide) ?_
      refine V_icmpge G dX7_begins_12 (tgt := 31) (by decide) (by first | exact r _ _ | assumption | exact ⟨by omega, by omega⟩) (by first | exact r _ _ | assumption | exact ⟨by omega, by omega⟩) (fun c_12 => ?_) (fun c_12 => ?_)
      ·
        refine V_aload0 G dX7_begins_31 ?_
        have RB : RepM (begS c, g2) f := ⟨fun j j1 j2 => by
          rw [Int.zero_add, hf j j1 j2, show (14 : Int) + k = 26 by omega]
          rfl, (ef.1 77 3 rfl).trans R2.1, fun i v hv => (R2.2.1 i v hv).eq (fun j => ef.1 79 j rfl), R2.2.2.1.eq (fun j => ef.1 81 j rfl) (fun j => ef.1 80 j rfl), R2.2.2.2.1.eq (fun j => ef.1 81 j rfl) (fun j => ef.1 80 j rfl), (ef.1 77 7 rfl).trans R2.2.2.2.2.1, fun i z hz => (ef.1 82 _ rfl).trans (R2.2.2.2.2.2 i z hz)⟩
        have en : nS (begS c) = nS c := rfl
        have ek : ∀ w, 0 ≤ w → w < nS c → kdS (begS c) w = kdS c w := fun w w1 w2 => begS_at (by omega)
        refine V_cV0v (d1 := 6) G m_X7_187 dX7_begins_32 (by first | decide | assumption) (by first | rfl | assumption) (c_lays r2 T RB (by rw [show nS (begS c, g2).1 = nS c from rfl]; exact hn0) (fun w w1 w2 => by rw [show kdS (begS c, g2).1 w = kdS c w from ek w w1 w2]; exact hk w w1 w2)) (by omega) (by omega) (by omega) (Nat.le_of_ble_eq_true rfl) (fun h_32 hp_32 => ?_)
        obtain ⟨z1, z2, z3, z4⟩ := hp_32
        have z16 := z3.1
        refine V_aload0 G dX7_begins_35 ?_
        refine V_getIe (jz := 16) G fl_X7_123 dX7_begins_36 (by first | decide | assumption) (by first | rfl | assumption) rfl rfl (by first | (simp only [hI_sI, hI_sL, hL_sI, hL_sL, false_and, true_and, and_false, and_true, and_self, if_false, if_true, z16]; first | done | rfl) | rfl) ?_
        exact V_reti E dX7_begins_39 rfl rfl ⟨_, rfl, ⟨(ef.mono (fun q j z => by simp [SM] at z; simp; omega)).tr (Sl_SM z1), z2, rfl, z4, (z1.1 77 0 rfl).trans (ef.1 77 0 rfl)⟩⟩
      · omega
    | succ m ih =>
      intro k f hm_ hk0 r2 ef hf
      refine V_iload1 G dX7_begins_9 ?_
      refine V_bipush G dX7_begins_10 (by decide) ?_
      refine V_icmpge G dX7_begins_12 (tgt := 31) (by decide) (by first | exact r _ _ | assumption | exact ⟨by omega, by omega⟩) (by first | exact r _ _ | assumption | exact ⟨by omega, by omega⟩) (fun c_12 => ?_) (fun c_12 => ?_)
      · omega
      ·
        refine V_aload0 G dX7_begins_15 ?_
        refine V_getR G fl_X7_7 dX7_begins_16 (by first | decide | assumption) (by first | rfl | assumption) rfl (by first | rfl | assumption) ?_
        refine V_bipush G dX7_begins_19 (by decide) ?_
        refine V_iload1 G dX7_begins_21 ?_
        refine V_iadd G dX7_begins_22 ?_
        refine V_iconst G dX7_begins_23 ?_
        refine V_iast G dX7_begins_24 (by first | decide | assumption) (by first | rfl | assumption) (by decide) ⟨by omega, by omega⟩ ?_
        refine V_iinc1 G dX7_begins_25 rfl ?_
        refine V_goto G dX7_begins_28 (tgt := 9) (by decide) ?_
        exact ih (k + 1) _ (by omega) (by omega) (r2.sI ⟨by omega, by omega⟩) (ef.st rfl) (fun j j1 j2 => by
          rw [hI_sI]
          by_cases hj : j = 14 + k
          · rw [if_pos ⟨rfl, hj⟩, if_pos (by omega)]
          · rw [if_neg (fun z => hj z.2), hf j j1 j2]
            by_cases hj2 : j = 1 ∨ (14 ≤ j ∧ j < 14 + k)
            · rw [if_pos hj2, if_pos (by omega)]
            · rw [if_neg hj2, if_neg (by omega)])
  refine V_aload0 G dX7_begins_0 ?_
  refine V_getR G fl_X7_7 dX7_begins_1 (by first | decide | assumption) (by first | rfl | assumption) rfl (by first | rfl | assumption) ?_
  refine V_iconst G dX7_begins_4 ?_
  refine V_iconst G dX7_begins_5 ?_
  refine V_iast G dX7_begins_6 (by first | decide | assumption) (by first | rfl | assumption) (by decide) ⟨by omega, by omega⟩ ?_
  refine V_iconst G dX7_begins_7 ?_
  refine V_istore1 G dX7_begins_8 rfl ?_
  exact lp 12 0 _ (by omega) (by omega) (r.sI ⟨by omega, by omega⟩) (eqx.rf.st rfl) (fun j j1 j2 => by
    have := R1 j j1 j2
    rw [Int.zero_add] at this
    rw [hI_sI]
    by_cases hj : j = 1
    · rw [if_pos ⟨rfl, hj⟩, if_pos (by omega)]
    · rw [if_neg (fun z => hj z.2), if_neg (by omega)]
      exact this)

end M10
