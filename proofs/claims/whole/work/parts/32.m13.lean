section M13
set_option maxRecDepth 100000 in
set_option maxHeartbeats 4000000 in
theorem c_X7_append {l : Launch} {d : Nat} {h : Hp} (r : Rg h) {g : Sg} (R : RepM g h) (hb20 : g.2.2.2.2.length ≤ 20) {z : Int} (hz : inr z) (hd : 2 ≤ d := by omega) : CP l d 0 0 yX7_append cX7_append 2 (Option.some Jvm.ClassFile.FieldType.int) [.ref 77, iv z] h (pI fun x h1 => aft (opAppend g z) x h h1) := by
  refine CP.ofV (L := [some (.ref 77), some (.int (Int32.ofInt z))]) RX7 (by decide +kernel) rfl (Nat.le_of_ble_eq_true rfl) rfl (fun X hX G E => ?_)
  subst hX
  have r0 : Rg (sI h 77 0 0) := r.sI ⟨by decide, by decide⟩
  have R0 : RepM g (sI h 77 0 0) := R.thr
  have e0 : eqx SM h (sI h 77 0 0) := eqx.rf.st rfl
  have hbl := R0.2.2.2.2.2.1
  refine V_aload0 G dX7_append_0 ?_
  refine V_iconst G dX7_append_1 ?_
  refine V_putI (jz := 0) G fw_X7_68 dX7_append_2 (by first | decide | assumption) (by first | rfl | assumption) rfl rfl ?_
  refine V_iload1 G dX7_append_5 ?_
  refine V_bipush G dX7_append_6 (by decide) ?_
  refine V_bipush G dX7_append_8 (by decide) ?_
  refine V_cS3i (d1 := 1) G m_X7_72 dX7_append_10 (c_X7_in (v := z) (a := 33) (b := 126) hz ⟨by decide, by decide⟩ ⟨by decide, by decide⟩) (by omega) (by omega) (by omega) (Nat.le_of_ble_eq_true rfl) (fun x_10 h_10 hp_10 => ?_)
  rw [hp_10.1, hp_10.2]
  refine V_ifneB G dX7_append_13 (tgt := 22) (by decide)  (fun c_13 => ?_) (fun c_13 => ?_)
  ·
    refine V_aload0 G dX7_append_22 ?_
    refine V_getIe (jz := 7) G fl_X7_211 dX7_append_23 (by first | decide | assumption) (by first | rfl | assumption) rfl rfl (by first | (simp only [hI_sI, hI_sL, hL_sI, hL_sL, false_and, true_and, and_false, and_true, and_self, if_false, if_true, hbl]; first | done | rfl) | rfl) ?_
    refine V_bipush G dX7_append_26 (by decide) ?_
    refine V_icmpne G dX7_append_28 (tgt := 37) (by decide) (by first | exact r _ _ | assumption | exact ⟨by omega, by omega⟩) (by first | exact r _ _ | assumption | exact ⟨by omega, by omega⟩) (fun c_28 => ?_) (fun c_28 => ?_)
    ·
      refine V_aload0 G dX7_append_37 ?_
      refine V_getR G fl_X7_23 dX7_append_38 (by first | decide | assumption) (by first | rfl | assumption) rfl (by first | rfl | assumption) ?_
      refine V_aload0 G dX7_append_41 ?_
      refine V_getIe (jz := 7) G fl_X7_211 dX7_append_42 (by first | decide | assumption) (by first | rfl | assumption) rfl rfl (by first | (simp only [hI_sI, hI_sL, hL_sI, hL_sL, false_and, true_and, and_false, and_true, and_self, if_false, if_true, hbl]; first | done | rfl) | rfl) ?_
      refine V_iload1 G dX7_append_45 ?_
      refine V_iast G dX7_append_46 (by first | decide | assumption) (by first | rfl | assumption) (by decide) ⟨by omega, by omega⟩ ?_
      refine V_aload0 G dX7_append_47 ?_
      refine V_dup G dX7_append_48 rfl ?_
      refine V_getIe (jz := 7) G fl_X7_211 dX7_append_49 (by first | decide | assumption) (by first | rfl | assumption) rfl rfl (by first | (simp only [hI_sI, hI_sL, hL_sI, hL_sL, false_and, true_and, and_false, and_true, and_self, if_false, if_true, hbl]; first | done | rfl) | rfl) ?_
      refine V_iconst G dX7_append_52 ?_
      refine V_iadd G dX7_append_53 ?_
      refine V_putI (jz := 7) G fw_X7_211 dX7_append_54 (by first | decide | assumption) (by first | rfl | assumption) rfl rfl ?_
      refine V_aload0 G dX7_append_57 ?_
      refine V_getIe (jz := 7) G fl_X7_211 dX7_append_58 (by first | decide | assumption) (by first | rfl | assumption) rfl rfl (by first | (simp only [hI_sI, hI_sL, hL_sI, hL_sL, false_and, true_and, and_false, and_true, and_self, if_false, if_true, hbl]; first | done | rfl) | rfl) ?_
      exact V_reti E dX7_append_61 rfl rfl ⟨_, rfl, by
    unfold opAppend
    rw [if_neg (fun z => z c_13), if_neg (by omega)]
    obtain ⟨q1, q2, q3, q4, q5, q6, q7⟩ := R0
    refine ⟨((e0.st rfl).st rfl), (r0.sI hz).sI ⟨by omega, by omega⟩, by simp [hI_sI], ⟨q1, q2, q3, q4, q5, by simp [hI_sI], fun i v hv => ?_⟩, fun _ => rfl⟩
    rw [hI_sI, if_neg (by omega), hI_sI]
    by_cases hi : i < g.2.2.2.2.length
    · rw [List.getElem?_append_left hi] at hv
      rw [if_neg (by omega)]
      exact q7 i v hv
    · rw [List.getElem?_append_right (by omega)] at hv
      have h9 := (List.getElem?_eq_some_iff.mp hv).1
      simp at h9
      have h8 : i = g.2.2.2.2.length := by omega
      subst h8
      simp at hv
      rw [if_pos ⟨rfl, rfl⟩, hv]⟩
    ·
      refine V_aload0 G dX7_append_31 ?_
      refine V_iconst G dX7_append_32 ?_
      refine V_cV1i (d1 := 1) G m_X7_190 dX7_append_33 (by first | decide | assumption) (by first | rfl | assumption) (c_X7_fails) (by omega) (by omega) (by omega) (Nat.le_of_ble_eq_true rfl) (fun x_33 h_33 hp_33 => ?_)
      rw [hp_33.1, hp_33.2]
      exact V_reti E dX7_append_36 rfl rfl ⟨_, rfl, by unfold opAppend; rw [if_neg (fun z => z c_13), if_pos (by omega)]; exact aft_fail e0 r0 R0 (by decide) ⟨by decide, by decide⟩⟩
  ·
    refine V_aload0 G dX7_append_16 ?_
    refine V_iconst G dX7_append_17 ?_
    refine V_cV1i (d1 := 1) G m_X7_190 dX7_append_18 (by first | decide | assumption) (by first | rfl | assumption) (c_X7_fails) (by omega) (by omega) (by omega) (Nat.le_of_ble_eq_true rfl) (fun x_18 h_18 hp_18 => ?_)
    rw [hp_18.1, hp_18.2]
    exact V_reti E dX7_append_21 rfl rfl ⟨_, rfl, by unfold opAppend; rw [if_pos c_13]; exact aft_fail e0 r0 R0 (by decide) ⟨by decide, by decide⟩⟩

set_option maxRecDepth 100000 in
set_option maxHeartbeats 4000000 in
theorem c_X7_clearBuffer {l : Launch} {d : Nat} {h : Hp} (r : Rg h) {g : Sg} (R : RepM g h) (hb20 : g.2.2.2.2.length ≤ 20) (hd : 1 ≤ d := by omega) : CP l d 0 0 yX7_clearBuffer cX7_clearBuffer 2 (Option.some Jvm.ClassFile.FieldType.int) [.ref 77] h (pI fun x h1 => aft (opClear g) x h h1) := by
  refine CP.ofV (L := [some (.ref 77), none]) RX7 (by decide +kernel) rfl (Nat.le_of_ble_eq_true rfl) rfl (fun X hX G E => ?_)
  subst hX
  have r0 : Rg (sI h 77 0 0) := r.sI ⟨by decide, by decide⟩
  have R0 : RepM g (sI h 77 0 0) := R.thr
  have e0 : eqx SM h (sI h 77 0 0) := eqx.rf.st rfl
  have hbl := R0.2.2.2.2.2.1
  refine V_aload0 G dX7_clearBuffer_0 ?_
  refine V_iconst G dX7_clearBuffer_1 ?_
  refine V_putI (jz := 0) G fw_X7_68 dX7_clearBuffer_2 (by first | decide | assumption) (by first | rfl | assumption) rfl rfl ?_
  refine V_aload0 G dX7_clearBuffer_5 ?_
  refine V_getIe (jz := 7) G fl_X7_211 dX7_clearBuffer_6 (by first | decide | assumption) (by first | rfl | assumption) rfl rfl (by first | (simp only [hI_sI, hI_sL, hL_sI, hL_sL, false_and, true_and, and_false, and_true, and_self, if_false, if_true, hbl]; first | done | rfl) | rfl) ?_
  refine V_istore1 G dX7_clearBuffer_9 rfl ?_
  refine V_aload0 G dX7_clearBuffer_10 ?_
  refine V_iconst G dX7_clearBuffer_11 ?_
  refine V_putI (jz := 7) G fw_X7_211 dX7_clearBuffer_12 (by first | decide | assumption) (by first | rfl | assumption) rfl rfl ?_
  refine V_iload1 G dX7_clearBuffer_15 ?_
  exact V_reti E dX7_clearBuffer_16 rfl rfl ⟨_, rfl, by
    obtain ⟨q1, q2, q3, q4, q5, q6, q7⟩ := R0
    exact ⟨e0.st rfl, r0.sI ⟨by decide, by decide⟩, by simp [hI_sI, opClear], ⟨q1, q2, q3, q4, q5, by simp [hI_sI, opClear], fun i v hv => by simp [opClear] at hv⟩, fun _ => rfl⟩⟩

set_option maxRecDepth 100000 in
set_option maxHeartbeats 4000000 in
theorem c_X7_keep {l : Launch} {d : Nat} {h : Hp} (r : Rg h) {g : Sg} (T : RdsOk) (R : RepM g h) (I : okS g.1) (hl6 : g.2.1.length ≤ 6) {k1 : Int} (hk1 : inr k1) (hd : 2 ≤ d := by omega) : CP l d 0 0 yX7_keep cX7_keep 3 (Option.some Jvm.ClassFile.FieldType.int) [.ref 77, iv k1] h (pI fun x h1 => aft (opKeep g k1) x h h1) := by
  refine CP.ofV (L := [some (.ref 77), some (.int (Int32.ofInt k1)), none]) RX7 (by decide +kernel) rfl (Nat.le_of_ble_eq_true rfl) rfl (fun X hX G E => ?_)
  subst hX
  have r0 : Rg (sI h 77 0 0) := r.sI ⟨by decide, by decide⟩
  have R0 : RepM g (sI h 77 0 0) := R.thr
  have e0 : eqx SM h (sI h 77 0 0) := eqx.rf.st rfl
  have hn := R0.n
  have hn0 := I.1
  have lp : ∀ (m : Nat) (k : Int) (f : Hp), k + m = 26 → 0 ≤ k → 0 ≤ k1 ∧ k1 ≤ 1 → Rg f → eqx (fun q _ => q == 80) (sI h 77 0 0) f → (∀ j : Int, 0 ≤ j → j < k → hI f 80 (26 * k1 + j) = g.1 j) → (∀ j : Int, j < 26 * k1 ∨ 26 * (k1 + 1) ≤ j → hI f 80 j = hI h 80 j) → V X 0 0 22 [some (.ref 77), some (.int (Int32.ofInt k1)), some (.int (Int32.ofInt k))] [] f := by
    intro m
    induction m with
    | zero =>
      intro k f hm_ hk0 h01 r2 ef hf hf2
      have hfn : hI f 78 0 = nS g.1 := (ef.1 78 0 rfl).trans hn
      refine V_iload2 G dX7_keep_22 ?_
      refine V_bipush G dX7_keep_23 (by decide) ?_
      refine V_icmpge G dX7_keep_25 (tgt := 51) (by decide) (by first | exact r _ _ | assumption | exact ⟨by omega, by omega⟩) (by first | exact r _ _ | assumption | exact ⟨by omega, by omega⟩) (fun c_25 => ?_) (fun c_25 => ?_)
      ·
        refine V_aload0 G dX7_keep_51 ?_
        refine V_getR G fl_X7_19 dX7_keep_52 (by first | decide | assumption) (by first | rfl | assumption) rfl (by first | rfl | assumption) ?_
        refine V_iload1 G dX7_keep_55 ?_
        refine V_iconst G dX7_keep_56 ?_
        refine V_zast G dX7_keep_57 (by first | decide | assumption) (by first | rfl | assumption) (by decide) ⟨by omega, by omega⟩ (by omega) ?_
        refine V_aload0 G dX7_keep_58 ?_
        refine V_getR G fl_X7_7 dX7_keep_59 (by first | decide | assumption) (by first | rfl | assumption) rfl (by first | rfl | assumption) ?_
        refine V_iconst G dX7_keep_62 ?_
        refine V_ialde G dX7_keep_63 (by first | decide | assumption) (by first | rfl | assumption) (by decide) ⟨by omega, by omega⟩ (by first | (simp only [hI_sI, hI_sL, hL_sI, hL_sL, false_and, true_and, and_false, and_true, and_self, if_false, if_true, hfn]; first | done | rfl) | rfl) ?_
        exact V_reti E dX7_keep_64 rfl rfl ⟨_, rfl, by
            obtain ⟨q1, q2, q3, q4, q5, q6, q7⟩ := R0
            have e80 := ef
            have e9 : eqx SM h (sI f 81 k1 1) := (e0.tr (ef.mono (fun q j z => by simp [SM] at z; simp; omega))).st rfl
            have r9 : Rg (sI f 81 k1 1) := r2.sI ⟨by decide, by decide⟩
            have hc : cAt (sI f 81 k1 1) 80 (26 * k1) g.1 := fun j j1 j2 => hf j j1 (by omega)
            have a1 : cAt (sI f 81 k1 1) 78 0 g.1 := q1.eq (fun j => ef.1 78 j rfl)
            have a2 : hI (sI f 81 k1 1) 77 3 = g.2.1.length := (ef.1 77 3 rfl).trans q2
            have a3 : ∀ (i : Nat) (c : Cs), g.2.1[i]? = some c → cAt (sI f 81 k1 1) 79 (26 * (i : Int)) c := fun i c hc => (q3 i c hc).eq (fun j => ef.1 79 j rfl)
            have a6 : hI (sI f 81 k1 1) 77 7 = g.2.2.2.2.length := (ef.1 77 7 rfl).trans q6
            have a7 : ∀ (i : Nat) (z : Int), g.2.2.2.2[i]? = some z → hI (sI f 81 k1 1) 82 i = z := fun i z hz => (ef.1 82 _ rfl).trans (q7 i z hz)
            have t0 : hI (sI f 81 k1 1) 77 0 = 0 := (ef.1 77 0 rfl).trans (by simp [hI_sI])
            have oth : ∀ (m : Int) (s : Option Cs), m ≠ k1 → m = 0 ∨ m = 1 → sAt (sI h 77 0 0) m s → sAt (sI f 81 k1 1) m s := by
              intro m s hm hm2 hs
              have w1 : hI (sI f 81 k1 1) 81 m = hI (sI h 77 0 0) 81 m := by rw [hI_sI, if_neg (by omega)]; exact ef.1 81 m rfl
              cases s with
              | none => exact w1.trans hs
              | some c => exact ⟨w1.trans hs.1, fun j j1 j2 => by
                  have w2 := hf2 (26 * m + j) (by omega)
                  exact w2.trans (hs.2 j j1 j2)⟩
            unfold opKeep
            rcases (show k1 = 0 ∨ k1 = 1 by omega) with e | e
            · rw [if_pos e]
              subst e
              exact ⟨e9, r9, t0, ⟨a1, a2, a3, ⟨by simp [hI_sI], hc⟩, oth 1 _ (by omega) (by omega) q5, a6, a7⟩, fun _ => rfl⟩
            · rw [if_neg (by omega), if_pos e]
              subst e
              exact ⟨e9, r9, t0, ⟨a1, a2, a3, oth 0 _ (by omega) (by omega) q4, ⟨by simp [hI_sI], hc⟩, a6, a7⟩, fun _ => rfl⟩⟩
      · omega
    | succ m ih =>
      intro k f hm_ hk0 h01 r2 ef hf hf2
      have r := r2
      refine V_iload2 G dX7_keep_22 ?_
      refine V_bipush G dX7_keep_23 (by decide) ?_
      refine V_icmpge G dX7_keep_25 (tgt := 51) (by decide) (by first | exact r _ _ | assumption | exact ⟨by omega, by omega⟩) (by first | exact r _ _ | assumption | exact ⟨by omega, by omega⟩) (fun c_25 => ?_) (fun c_25 => ?_)
      · omega
      ·
        refine V_aload0 G dX7_keep_28 ?_
        refine V_getR G fl_X7_16 dX7_keep_29 (by first | decide | assumption) (by first | rfl | assumption) rfl (by first | rfl | assumption) ?_
        refine V_bipush G dX7_keep_32 (by decide) ?_
        refine V_iload1 G dX7_keep_34 ?_
        refine V_imul G dX7_keep_35 ?_
        refine V_iload2 G dX7_keep_36 ?_
        refine V_iadd G dX7_keep_37 ?_
        refine V_aload0 G dX7_keep_38 ?_
        refine V_getR G fl_X7_7 dX7_keep_39 (by first | decide | assumption) (by first | rfl | assumption) rfl (by first | rfl | assumption) ?_
        refine V_iload2 G dX7_keep_42 ?_
        refine V_ialde G dX7_keep_43 (by first | decide | assumption) (by first | rfl | assumption) (by decide) ⟨by omega, by omega⟩ (by first | (simp only [hI_sI, hI_sL, hL_sI, hL_sL, false_and, true_and, and_false, and_true, and_self, if_false, if_true]; first | done | rfl) | rfl) ?_
        refine V_iast G dX7_keep_44 (by first | decide | assumption) (by first | rfl | assumption) (by decide) ⟨by omega, by omega⟩ ?_
        refine V_iinc2 G dX7_keep_45 rfl ?_
        refine V_goto G dX7_keep_48 (tgt := 22) (by decide) ?_
        exact ih (k + 1) _ (by omega) (by omega) h01 (r2.sI (r2 _ _)) (ef.st rfl) (fun j j1 j2 => by
          rw [hI_sI]
          by_cases hj : j = k
          · subst hj
            rw [if_pos ⟨rfl, rfl⟩, ef.1 78 _ rfl]
            exact R0.at' j1 (by omega)
          · rw [if_neg (by omega)]
            exact hf j j1 (by omega)) (fun j j1 => by rw [hI_sI, if_neg (by omega)]; exact hf2 j j1)
  refine V_aload0 G dX7_keep_0 ?_
  refine V_iconst G dX7_keep_1 ?_
  refine V_putI (jz := 0) G fw_X7_68 dX7_keep_2 (by first | decide | assumption) (by first | rfl | assumption) rfl rfl ?_
  refine V_iload1 G dX7_keep_5 ?_
  refine V_iconst G dX7_keep_6 ?_
  refine V_iconst G dX7_keep_7 ?_
  refine V_cS3i (d1 := 1) G m_X7_72 dX7_keep_8 (c_X7_in (v := k1) (a := 0) (b := 1) hk1 ⟨by decide, by decide⟩ ⟨by decide, by decide⟩) (by omega) (by omega) (by omega) (Nat.le_of_ble_eq_true rfl) (fun x_8 h_8 hp_8 => ?_)
  rw [hp_8.1, hp_8.2]
  refine V_ifneB G dX7_keep_11 (tgt := 20) (by decide)  (fun c_11 => ?_) (fun c_11 => ?_)
  ·
    refine V_iconst G dX7_keep_20 ?_
    refine V_istore2 G dX7_keep_21 rfl ?_
    exact lp 26 0 _ (by omega) (by omega) c_11 r0 eqx.rf (fun j j1 j2 => by omega) (fun j _ => rfl)
  ·
    refine V_aload0 G dX7_keep_14 ?_
    refine V_iconst G dX7_keep_15 ?_
    refine V_cV1i (d1 := 1) G m_X7_190 dX7_keep_16 (by first | decide | assumption) (by first | rfl | assumption) (c_X7_fails) (by omega) (by omega) (by omega) (Nat.le_of_ble_eq_true rfl) (fun x_16 h_16 hp_16 => ?_)
    rw [hp_16.1, hp_16.2]
    exact V_reti E dX7_keep_19 rfl rfl ⟨_, rfl, by unfold opKeep; rw [if_neg (by omega), if_neg (by omega)]; exact aft_fail e0 r0 R0 (by decide) ⟨by decide, by decide⟩⟩

set_option maxRecDepth 100000 in
set_option maxHeartbeats 4000000 in
theorem c_X7_goBack {l : Launch} {d : Nat} {h : Hp} (r : Rg h) {g : Sg} (T : RdsOk) (R : RepM g h) (I : okS g.1) (hl6 : g.2.1.length ≤ 6) {k1 : Int} (hk1 : inr k1) (hd : 2 ≤ d := by omega) : CP l d 0 0 yX7_goBack cX7_goBack 3 (Option.some Jvm.ClassFile.FieldType.int) [.ref 77, iv k1] h (pI fun x h1 => aft (opBack g k1) x h h1) := by
  refine CP.ofV (L := [some (.ref 77), some (.int (Int32.ofInt k1)), none]) RX7 (by decide +kernel) rfl (Nat.le_of_ble_eq_true rfl) rfl (fun X hX G E => ?_)
  subst hX
  have r0 : Rg (sI h 77 0 0) := r.sI ⟨by decide, by decide⟩
  have R0 : RepM g (sI h 77 0 0) := R.thr
  have e0 : eqx SM h (sI h 77 0 0) := eqx.rf.st rfl
  have hn := R0.n
  have hn0 := I.1
  have lp : ∀ (c : Cs) (hs : Hp), 0 ≤ k1 ∧ k1 ≤ 1 → opBack g k1 = (0, nS c, (c, savL g.2.1 g.1, g.2.2)) → eqx SM h hs → RepM (g.1, savL g.2.1 g.1, g.2.2) hs → hI hs 77 0 = 0 → cAt hs 80 (26 * k1) c → Rg hs → V X 0 0 41 [some (.ref 77), some (.int (Int32.ofInt k1)), some (.int (Int32.ofInt 0))] [] hs := by
    intro c hs h01 hop es Rs hs0 hc rs
    have lp2 : ∀ (m : Nat) (k : Int) (f : Hp), k + m = 26 → 0 ≤ k → Rg f → eqx (fun q _ => q == 78) hs f → (∀ j : Int, 0 ≤ j → j < k → hI f 78 j = c j) → V X 0 0 41 [some (.ref 77), some (.int (Int32.ofInt k1)), some (.int (Int32.ofInt k))] [] f := by
      intro m
      induction m with
      | zero =>
        intro k f hm_ hk0 r2 ef hf
        have r := r2
        refine V_iload2 G dX7_goBack_41 ?_
        refine V_bipush G dX7_goBack_42 (by decide) ?_
        refine V_icmpge G dX7_goBack_44 (tgt := 70) (by decide) (by first | exact r _ _ | assumption | exact ⟨by omega, by omega⟩) (by first | exact r _ _ | assumption | exact ⟨by omega, by omega⟩) (fun c_44 => ?_) (fun c_44 => ?_)
        ·
          refine V_aload0 G dX7_goBack_70 ?_
          refine V_getR G fl_X7_7 dX7_goBack_71 (by first | decide | assumption) (by first | rfl | assumption) rfl (by first | rfl | assumption) ?_
          refine V_iconst G dX7_goBack_74 ?_
          refine V_ialde G dX7_goBack_75 (by first | decide | assumption) (by first | rfl | assumption) (by decide) ⟨by omega, by omega⟩ (by first | (simp only [hI_sI, hI_sL, hL_sI, hL_sL, false_and, true_and, and_false, and_true, and_self, if_false, if_true]; first | done | rfl) | rfl) ?_
          exact V_reti E dX7_goBack_76 rfl rfl ⟨_, rfl, by
              rw [hop]
              exact ⟨es.tr (S78_SM ef), r2, (ef.1 77 0 rfl).trans hs0, Rs.cur ef (fun j j1 j2 => hf j j1 (by omega)), fun _ => hf 0 (by omega) (by omega)⟩⟩
        · omega
      | succ m ih =>
        intro k f hm_ hk0 r2 ef hf
        have r := r2
        refine V_iload2 G dX7_goBack_41 ?_
        refine V_bipush G dX7_goBack_42 (by decide) ?_
        refine V_icmpge G dX7_goBack_44 (tgt := 70) (by decide) (by first | exact r _ _ | assumption | exact ⟨by omega, by omega⟩) (by first | exact r _ _ | assumption | exact ⟨by omega, by omega⟩) (fun c_44 => ?_) (fun c_44 => ?_)
        · omega
        ·
          refine V_aload0 G dX7_goBack_47 ?_
          refine V_getR G fl_X7_7 dX7_goBack_48 (by first | decide | assumption) (by first | rfl | assumption) rfl (by first | rfl | assumption) ?_
          refine V_iload2 G dX7_goBack_51 ?_
          refine V_aload0 G dX7_goBack_52 ?_
          refine V_getR G fl_X7_16 dX7_goBack_53 (by first | decide | assumption) (by first | rfl | assumption) rfl (by first | rfl | assumption) ?_
          refine V_bipush G dX7_goBack_56 (by decide) ?_
          refine V_iload1 G dX7_goBack_58 ?_
          refine V_imul G dX7_goBack_59 ?_
          refine V_iload2 G dX7_goBack_60 ?_
          refine V_iadd G dX7_goBack_61 ?_
          refine V_ialde G dX7_goBack_62 (by first | decide | assumption) (by first | rfl | assumption) (by decide) ⟨by omega, by omega⟩ (by first | (simp only [hI_sI, hI_sL, hL_sI, hL_sL, false_and, true_and, and_false, and_true, and_self, if_false, if_true]; first | done | rfl) | rfl) ?_
          refine V_iast G dX7_goBack_63 (by first | decide | assumption) (by first | rfl | assumption) (by decide) ⟨by omega, by omega⟩ ?_
          refine V_iinc2 G dX7_goBack_64 rfl ?_
          refine V_goto G dX7_goBack_67 (tgt := 41) (by decide) ?_
          exact ih (k + 1) _ (by omega) (by omega) (r2.sI (r2 _ _)) (ef.st rfl) (fun j j1 j2 => by
            rw [hI_sI]
            by_cases hj : j = k
            · subst hj
              rw [if_pos ⟨rfl, rfl⟩, ef.1 80 _ rfl]
              exact hc j j1 (by omega)
            · rw [if_neg (fun z => hj z.2)]
              exact hf j j1 (by omega))

    exact lp2 26 0 hs (by omega) (by omega) rs eqx.rf (fun j j1 j2 => by omega)
  refine V_aload0 G dX7_goBack_0 ?_
  refine V_iconst G dX7_goBack_1 ?_
  refine V_putI (jz := 0) G fw_X7_68 dX7_goBack_2 (by first | decide | assumption) (by first | rfl | assumption) rfl rfl ?_
  refine V_iload1 G dX7_goBack_5 ?_
  refine V_iconst G dX7_goBack_6 ?_
  refine V_iconst G dX7_goBack_7 ?_
  refine V_cS3i (d1 := 1) G m_X7_72 dX7_goBack_8 (c_X7_in (v := k1) (a := 0) (b := 1) hk1 ⟨by decide, by decide⟩ ⟨by decide, by decide⟩) (by omega) (by omega) (by omega) (Nat.le_of_ble_eq_true rfl) (fun x_8 h_8 hp_8 => ?_)
  rw [hp_8.1, hp_8.2]
  refine V_ifneB G dX7_goBack_11 (tgt := 20) (by decide)  (fun c_11 => ?_) (fun c_11 => ?_)
  ·
    have hsl : (hI h 81 k1 = 0 ∧ opBack g k1 = (2, 0, g)) ∨ (hI h 81 k1 = 1 ∧ ∃ c, opBack g k1 = (0, nS c, (c, savL g.2.1 g.1, g.2.2)) ∧ cAt h 80 (26 * k1) c) := by
      unfold opBack
      rcases (show k1 = 0 ∨ k1 = 1 by omega) with e | e
      · subst e
        rw [if_pos rfl]
        have := R.2.2.2.1
        cases hs : g.2.2.1 with
        | none => rw [hs] at this; exact Or.inl ⟨this, rfl⟩
        | some c => rw [hs] at this; exact Or.inr ⟨this.1, c, rfl, this.2⟩
      · subst e
        rw [if_neg (by decide), if_pos rfl]
        have := R.2.2.2.2.1
        cases hs : g.2.2.2.1 with
        | none => rw [hs] at this; exact Or.inl ⟨this, rfl⟩
        | some c => rw [hs] at this; exact Or.inr ⟨this.1, c, rfl, this.2⟩
    refine V_aload0 G dX7_goBack_20 ?_
    refine V_getR G fl_X7_19 dX7_goBack_21 (by first | decide | assumption) (by first | rfl | assumption) rfl (by first | rfl | assumption) ?_
    refine V_iload1 G dX7_goBack_24 ?_
    refine V_zalde G dX7_goBack_25 (by first | decide | assumption) (by first | rfl | assumption) (by decide) ⟨by omega, by omega⟩ (by first | (simp only [hI_sI, hI_sL, hL_sI, hL_sL, false_and, true_and, and_false, and_true, and_self, if_false, if_true]; first | done | rfl) | rfl) ?_
    refine V_ifne G dX7_goBack_26 (tgt := 35) (by decide) (by first | exact r _ _ | assumption | exact ⟨by omega, by omega⟩) (fun c_26 => ?_) (fun c_26 => ?_)
    ·
      refine V_aload0 G dX7_goBack_35 ?_
      refine V_cV0v (d1 := 1) G m_X7_193 dX7_goBack_36 (by first | decide | assumption) (by first | rfl | assumption) (c_X7_saves r0 R0 hl6) (by omega) (by omega) (by omega) (Nat.le_of_ble_eq_true rfl) (fun h_36 hp_36 => ?_)
      obtain ⟨z1, z2, z3⟩ := hp_36
      have hn9 := z3.n
      dsimp only at hn9
      have r := z2
      have z77 : hI h_36 77 0 = 0 := (z1.1 77 0 rfl).trans (by simp [hI_sI])
      refine V_iconst G dX7_goBack_39 ?_
      refine V_istore2 G dX7_goBack_40 rfl ?_
      rcases hsl with ⟨u1, -⟩ | ⟨u1, c, u2, u3⟩
      · omega
      · exact lp c h_36 c_11 u2 (e0.tr (S79_SM z1)) z3 z77 (u3.eq (fun j => (z1.1 80 j rfl).trans rfl)) z2
    ·
      refine V_aload0 G dX7_goBack_29 ?_
      refine V_iconst G dX7_goBack_30 ?_
      refine V_cV1i (d1 := 1) G m_X7_190 dX7_goBack_31 (by first | decide | assumption) (by first | rfl | assumption) (c_X7_fails) (by omega) (by omega) (by omega) (Nat.le_of_ble_eq_true rfl) (fun x_31 h_31 hp_31 => ?_)
      rw [hp_31.1, hp_31.2]
      exact V_reti E dX7_goBack_34 rfl rfl ⟨_, rfl, by
    rcases hsl with ⟨u1, u2⟩ | ⟨u1, -⟩
    · rw [u2]; exact aft_fail e0 r0 R0 (by decide) ⟨by decide, by decide⟩
    · omega⟩
  ·
    refine V_aload0 G dX7_goBack_14 ?_
    refine V_iconst G dX7_goBack_15 ?_
    refine V_cV1i (d1 := 1) G m_X7_190 dX7_goBack_16 (by first | decide | assumption) (by first | rfl | assumption) (c_X7_fails) (by omega) (by omega) (by omega) (Nat.le_of_ble_eq_true rfl) (fun x_16 h_16 hp_16 => ?_)
    rw [hp_16.1, hp_16.2]
    exact V_reti E dX7_goBack_19 rfl rfl ⟨_, rfl, by unfold opBack; rw [if_neg (by omega), if_neg (by omega)]; exact aft_fail e0 r0 R0 (by decide) ⟨by decide, by decide⟩⟩

set_option maxRecDepth 100000 in
set_option maxHeartbeats 4000000 in
theorem c_X7_undo {l : Launch} {d : Nat} {h : Hp} (r : Rg h) {g : Sg} (T : RdsOk) (R : RepM g h) (I : okS g.1) (hl6 : g.2.1.length ≤ 6) (hd : 2 ≤ d := by omega) : CP l d 0 0 yX7_undo cX7_undo 2 (Option.some Jvm.ClassFile.FieldType.int) [.ref 77] h (pI fun x h1 => aft (opUndo g) x h h1) := by
  refine CP.ofV (L := [some (.ref 77), none]) RX7 (by decide +kernel) rfl (Nat.le_of_ble_eq_true rfl) rfl (fun X hX G E => ?_)
  subst hX
  have r0 : Rg (sI h 77 0 0) := r.sI ⟨by decide, by decide⟩
  have R0 : RepM g (sI h 77 0 0) := R.thr
  have e0 : eqx SM h (sI h 77 0 0) := eqx.rf.st rfl
  have hn := R0.n
  have hn0 := I.1
  have hsm := R0.2.1
  have lp : ∀ (c : Cs) (hs : Hp) (L : List Cs), g.2.1 = L ++ [c] → Rg hs → eqx SM h hs → RepM (g.1, L, g.2.2) hs → hI hs 77 0 = 0 → cAt hs 79 (26 * (L.length : Int)) c → V X 0 0 30 [some (.ref 77), some (.int (Int32.ofInt 0))] [] hs := by
    intro c hs L hL rs es Rs hs0 hc
    have hs3 : hI hs 77 3 = L.length := Rs.2.1
    have hL5 : (L.length : Int) ≤ 5 := by rw [hL] at hl6; simp at hl6; omega
    have lp2 : ∀ (m : Nat) (k : Int) (f : Hp), k + m = 26 → 0 ≤ k → Rg f → eqx (fun q _ => q == 78) hs f → (∀ j : Int, 0 ≤ j → j < k → hI f 78 j = c j) → V X 0 0 30 [some (.ref 77), some (.int (Int32.ofInt k))] [] f := by
      intro m
      induction m with
      | zero =>
        intro k f hm_ hk0 r2 ef hf
        have r := r2
        have hf3 : hI f 77 3 = L.length := (ef.1 77 3 rfl).trans hs3
        refine V_iload1 G dX7_undo_30 ?_
        refine V_bipush G dX7_undo_31 (by decide) ?_
        refine V_icmpge G dX7_undo_33 (tgt := 62) (by decide) (by first | exact r _ _ | assumption | exact ⟨by omega, by omega⟩) (by first | exact r _ _ | assumption | exact ⟨by omega, by omega⟩) (fun c_33 => ?_) (fun c_33 => ?_)
        ·
          refine V_aload0 G dX7_undo_62 ?_
          refine V_getIe (jz := 3) G fl_X7_76 dX7_undo_63 (by first | decide | assumption) (by first | rfl | assumption) rfl rfl (by first | (simp only [hI_sI, hI_sL, hL_sI, hL_sL, false_and, true_and, and_false, and_true, and_self, if_false, if_true]; first | done | rfl) | rfl) ?_
          exact V_reti E dX7_undo_66 rfl rfl ⟨_, rfl, by
              unfold opUndo
              rw [hL, List.getLast?_append]
              exact ⟨es.tr (S78_SM ef), r2, (ef.1 77 0 rfl).trans hs0, by simpa using Rs.cur ef (fun j j1 j2 => hf j j1 (by omega)), fun _ => by rw [ef.1 77 3 rfl, hs3]; simp⟩⟩
        · omega
      | succ m ih =>
        intro k f hm_ hk0 r2 ef hf
        have r := r2
        have hf3 : hI f 77 3 = L.length := (ef.1 77 3 rfl).trans hs3
        refine V_iload1 G dX7_undo_30 ?_
        refine V_bipush G dX7_undo_31 (by decide) ?_
        refine V_icmpge G dX7_undo_33 (tgt := 62) (by decide) (by first | exact r _ _ | assumption | exact ⟨by omega, by omega⟩) (by first | exact r _ _ | assumption | exact ⟨by omega, by omega⟩) (fun c_33 => ?_) (fun c_33 => ?_)
        · omega
        ·
          refine V_aload0 G dX7_undo_36 ?_
          refine V_getR G fl_X7_7 dX7_undo_37 (by first | decide | assumption) (by first | rfl | assumption) rfl (by first | rfl | assumption) ?_
          refine V_iload1 G dX7_undo_40 ?_
          refine V_aload0 G dX7_undo_41 ?_
          refine V_getR G fl_X7_13 dX7_undo_42 (by first | decide | assumption) (by first | rfl | assumption) rfl (by first | rfl | assumption) ?_
          refine V_bipush G dX7_undo_45 (by decide) ?_
          refine V_aload0 G dX7_undo_47 ?_
          refine V_getIe (jz := 3) G fl_X7_76 dX7_undo_48 (by first | decide | assumption) (by first | rfl | assumption) rfl rfl (by first | (simp only [hI_sI, hI_sL, hL_sI, hL_sL, false_and, true_and, and_false, and_true, and_self, if_false, if_true, hf3]; first | done | rfl) | rfl) ?_
          refine V_imul G dX7_undo_51 ?_
          refine V_iload1 G dX7_undo_52 ?_
          refine V_iadd G dX7_undo_53 ?_
          refine V_ialde G dX7_undo_54 (by first | decide | assumption) (by first | rfl | assumption) (by decide) ⟨by omega, by omega⟩ (by first | (simp only [hI_sI, hI_sL, hL_sI, hL_sL, false_and, true_and, and_false, and_true, and_self, if_false, if_true, hf3]; first | done | rfl) | rfl) ?_
          refine V_iast G dX7_undo_55 (by first | decide | assumption) (by first | rfl | assumption) (by decide) ⟨by omega, by omega⟩ ?_
          refine V_iinc1 G dX7_undo_56 rfl ?_
          refine V_goto G dX7_undo_59 (tgt := 30) (by decide) ?_
          exact ih (k + 1) _ (by omega) (by omega) (r2.sI (r2 _ _)) (ef.st rfl) (fun j j1 j2 => by
            rw [hI_sI]
            by_cases hj : j = k
            · subst hj
              rw [if_pos ⟨rfl, rfl⟩, ef.1 79 _ rfl]
              exact hc j j1 (by omega)
            · rw [if_neg (fun z => hj z.2)]
              exact hf j j1 (by omega))

    exact lp2 26 0 hs (by omega) (by omega) rs eqx.rf (fun j j1 j2 => by omega)
  refine V_aload0 G dX7_undo_0 ?_
  refine V_iconst G dX7_undo_1 ?_
  refine V_putI (jz := 0) G fw_X7_68 dX7_undo_2 (by first | decide | assumption) (by first | rfl | assumption) rfl rfl ?_
  refine V_aload0 G dX7_undo_5 ?_
  refine V_getIe (jz := 3) G fl_X7_76 dX7_undo_6 (by first | decide | assumption) (by first | rfl | assumption) rfl rfl (by first | (simp only [hI_sI, hI_sL, hL_sI, hL_sL, false_and, true_and, and_false, and_true, and_self, if_false, if_true, hsm]; first | done | rfl) | rfl) ?_
  refine V_ifne G dX7_undo_9 (tgt := 18) (by decide) (by first | exact r _ _ | assumption | exact ⟨by omega, by omega⟩) (fun c_9 => ?_) (fun c_9 => ?_)
  ·
    refine V_aload0 G dX7_undo_18 ?_
    refine V_dup G dX7_undo_19 rfl ?_
    refine V_getIe (jz := 3) G fl_X7_76 dX7_undo_20 (by first | decide | assumption) (by first | rfl | assumption) rfl rfl (by first | (simp only [hI_sI, hI_sL, hL_sI, hL_sL, false_and, true_and, and_false, and_true, and_self, if_false, if_true, hsm]; first | done | rfl) | rfl) ?_
    refine V_iconst G dX7_undo_23 ?_
    refine V_isub G dX7_undo_24 ?_
    refine V_putI (jz := 3) G fw_X7_76 dX7_undo_25 (by first | decide | assumption) (by first | rfl | assumption) rfl rfl ?_
    refine V_iconst G dX7_undo_28 ?_
    refine V_istore1 G dX7_undo_29 rfl ?_
    obtain ⟨c, hc⟩ : ∃ c, g.2.1.getLast? = some c := by
      cases hq : g.2.1.getLast? with
      | none => rw [List.getLast?_eq_none_iff] at hq; rw [hq] at c_9; simp at c_9
      | some c => exact ⟨c, rfl⟩
    obtain ⟨L, hL⟩ := List.getLast?_eq_some_iff.mp hc
    have hll : (g.2.1.length : Int) = L.length + 1 := by rw [hL]; simp
    obtain ⟨q1, q2, q3, q4, q5, q6, q7⟩ := R0
    exact lp c _ L hL (r0.sI ⟨by omega, by omega⟩) (e0.st rfl) ⟨q1, by simp [hI_sI]; omega, fun i v hv => q3 i v (by rw [hL, List.getElem?_append_left (List.getElem?_eq_some_iff.mp hv).1]; exact hv), q4, q5, q6, q7⟩ (by simp [hI_sI]) (q3 L.length c (by rw [hL]; simp))
  ·
    refine V_aload0 G dX7_undo_12 ?_
    refine V_iconst G dX7_undo_13 ?_
    refine V_cV1i (d1 := 1) G m_X7_190 dX7_undo_14 (by first | decide | assumption) (by first | rfl | assumption) (c_X7_fails) (by omega) (by omega) (by omega) (Nat.le_of_ble_eq_true rfl) (fun x_14 h_14 hp_14 => ?_)
    rw [hp_14.1, hp_14.2]
    exact V_reti E dX7_undo_17 rfl rfl ⟨_, rfl, by
    have hnil : g.2.1 = [] := List.eq_nil_of_length_eq_zero (by omega)
    unfold opUndo
    rw [hnil]
    exact aft_fail e0 r0 R0 (by decide) ⟨by decide, by decide⟩⟩

end M13
