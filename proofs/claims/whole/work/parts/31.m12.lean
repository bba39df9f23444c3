section M12
set_option maxRecDepth 100000 in
set_option maxHeartbeats 4000000 in
theorem c_X7_change {l : Launch} {d : Nat} {h : Hp} (r : Rg h) {g : Sg} (T : RdsOk) (R : RepM g h) (I : okS g.1) (hl6 : g.2.1.length ≤ 6) {w p : Int} (hw : inr w) (hp : inr p) (hd : 8 ≤ d := by omega) : CP l d 0 0 yX7_change cX7_change 3 (Option.some Jvm.ClassFile.FieldType.int) [.ref 77, iv w, iv p] h (pI fun x h1 => aft (opChange g w p) x h h1) := by
  refine CP.ofV (L := [some (.ref 77), some (.int (Int32.ofInt w)), some (.int (Int32.ofInt p))]) RX7 (by decide +kernel) rfl (Nat.le_of_ble_eq_true rfl) rfl (fun X hX G E => ?_)
  subst hX
  have r0 : Rg (sI h 77 0 0) := r.sI ⟨by decide, by decide⟩
  have R0 : RepM g (sI h 77 0 0) := R.thr
  have e0 : eqx SM h (sI h 77 0 0) := eqx.rf.st rfl
  have hn := R0.n
  have hn0 := I.1
  refine V_aload0 G dX7_change_0 ?_
  refine V_iconst G dX7_change_1 ?_
  refine V_putI (jz := 0) G fw_X7_68 dX7_change_2 (by first | decide | assumption) (by first | rfl | assumption) rfl rfl ?_
  refine V_aload0 G dX7_change_5 ?_
  refine V_iload1 G dX7_change_6 ?_
  refine V_cV1i (d1 := 2) G m_X7_199 dX7_change_7 (by first | decide | assumption) (by first | rfl | assumption) (c_X7_isWord r0 (n := nS g.1) hn hn0 hw) (by omega) (by omega) (by omega) (Nat.le_of_ble_eq_true rfl) (fun x_7 h_7 hp_7 => ?_)
  rw [hp_7.1, hp_7.2]
  refine V_ifneB G dX7_change_10 (tgt := 19) (by decide)  (fun c_10 => ?_) (fun c_10 => ?_)
  ·
    refine V_iload2 G dX7_change_19 ?_
    refine V_iconst G dX7_change_20 ?_
    refine V_bipush G dX7_change_21 (by decide) ?_
    refine V_cS3i (d1 := 1) G m_X7_72 dX7_change_23 (c_X7_in (v := p) (a := 0) (b := 6) hp ⟨by decide, by decide⟩ ⟨by decide, by decide⟩) (by omega) (by omega) (by omega) (Nat.le_of_ble_eq_true rfl) (fun x_23 h_23 hp_23 => ?_)
    rw [hp_23.1, hp_23.2]
    refine V_ifneB G dX7_change_26 (tgt := 35) (by decide)  (fun c_26 => ?_) (fun c_26 => ?_)
    ·
      refine V_aload0 G dX7_change_35 ?_
      refine V_cV0v (d1 := 1) G m_X7_193 dX7_change_36 (by first | decide | assumption) (by first | rfl | assumption) (c_X7_saves r0 R0 hl6) (by omega) (by omega) (by omega) (Nat.le_of_ble_eq_true rfl) (fun h_36 hp_36 => ?_)
      obtain ⟨z1, z2, z3⟩ := hp_36
      have hn9 := z3.n
      dsimp only at hn9
      have r := z2
      have z77 : hI h_36 77 0 = 0 := (z1.1 77 0 rfl).trans (by simp [hI_sI])
      refine V_aload0 G dX7_change_39 ?_
      refine V_getR G fl_X7_7 dX7_change_40 (by first | decide | assumption) (by first | rfl | assumption) rfl (by first | rfl | assumption) ?_
      refine V_iconst G dX7_change_43 ?_
      refine V_iload1 G dX7_change_44 ?_
      refine V_iadd G dX7_change_45 ?_
      refine V_iload2 G dX7_change_46 ?_
      refine V_iast G dX7_change_47 (by first | decide | assumption) (by first | rfl | assumption) (by decide) ⟨by omega, by omega⟩ ?_
      refine V_aload0 G dX7_change_48 ?_
      have e9 : eqx (fun q _ => q == 78) h_36 (sI h_36 78 (2 + w) p) := eqx.rf.st rfl
      have R9 := z3.cur e9 (c := uC g.1 (2 + w) p) (fun j j1 j2 => by
        have := z3.at' j1 j2
        dsimp only at this
        unfold uC
        simp only [hI_sI, true_and]
        by_cases q1 : j = 2 + w
        · rw [if_pos q1, if_pos q1]
        · rw [if_neg q1, if_neg q1]; exact this)
      have en9 : nS (uC g.1 (2 + w) p) = nS g.1 := if_neg (by omega)
      refine V_cV0i (d1 := 7) G m_X7_196 dX7_change_49 (by first | decide | assumption) (by first | rfl | assumption) (c_X7_begins (g := (uC g.1 (2 + w) p, savL g.2.1 g.1, g.2.2)) (z2.sI hp) T R9 (by show 0 ≤ nS (uC g.1 (2 + w) p) ∧ _; rw [en9]; exact hn0) (fun j j1 j2 => by
    have j2 : j < nS (uC g.1 (2 + w) p) := j2
    rw [en9] at j2
    show 0 ≤ uC g.1 (2 + w) p (2 + j) ∧ uC g.1 (2 + w) p (2 + j) ≤ 6
    unfold uC
    by_cases q2 : 2 + j = 2 + w
    · rw [if_pos q2]; exact c_26
    · rw [if_neg q2]; exact I.2.1 j j1 j2)) (by omega) (by omega) (by omega) (Nat.le_of_ble_eq_true rfl) (fun x_49 h_49 hp_49 => ?_)
      obtain ⟨y1, y2, y3, y4, y5⟩ := hp_49
      exact V_reti E dX7_change_52 rfl rfl ⟨_, rfl, by
    unfold opChange
    rw [if_neg (fun z => z c_10), if_neg (fun z => z c_26)]
    exact ⟨(e0.tr (S79_SM z1)).tr ((S78_SM e9).tr y1), y2, (y5.trans (e9.1 77 0 rfl)).trans z77, y4, fun _ => y3⟩⟩
    ·
      refine V_aload0 G dX7_change_29 ?_
      refine V_iconst G dX7_change_30 ?_
      refine V_cV1i (d1 := 1) G m_X7_190 dX7_change_31 (by first | decide | assumption) (by first | rfl | assumption) (c_X7_fails) (by omega) (by omega) (by omega) (Nat.le_of_ble_eq_true rfl) (fun x_31 h_31 hp_31 => ?_)
      rw [hp_31.1, hp_31.2]
      exact V_reti E dX7_change_34 rfl rfl ⟨_, rfl, by unfold opChange; rw [if_neg (fun z => z c_10), if_pos c_26]; exact aft_fail e0 r0 R0 (by decide) ⟨by decide, by decide⟩⟩
  ·
    refine V_aload0 G dX7_change_13 ?_
    refine V_iconst G dX7_change_14 ?_
    refine V_cV1i (d1 := 1) G m_X7_190 dX7_change_15 (by first | decide | assumption) (by first | rfl | assumption) (c_X7_fails) (by omega) (by omega) (by omega) (Nat.le_of_ble_eq_true rfl) (fun x_15 h_15 hp_15 => ?_)
    rw [hp_15.1, hp_15.2]
    exact V_reti E dX7_change_18 rfl rfl ⟨_, rfl, by unfold opChange; rw [if_pos c_10]; exact aft_fail e0 r0 R0 (by decide) ⟨by decide, by decide⟩⟩

set_option maxRecDepth 100000 in
set_option maxHeartbeats 4000000 in
theorem c_X7_wipe {l : Launch} {d : Nat} {h : Hp} (r : Rg h) {g : Sg} (T : RdsOk) (R : RepM g h) (I : okS g.1) (hl6 : g.2.1.length ≤ 6) {w : Int} (hw : inr w) (hd : 8 ≤ d := by omega) : CP l d 0 0 yX7_wipe cX7_wipe 3 (Option.some Jvm.ClassFile.FieldType.int) [.ref 77, iv w] h (pI fun x h1 => aft (opWipe g w) x h h1) := by
  refine CP.ofV (L := [some (.ref 77), some (.int (Int32.ofInt w)), none]) RX7 (by decide +kernel) rfl (Nat.le_of_ble_eq_true rfl) rfl (fun X hX G E => ?_)
  subst hX
  have r0 : Rg (sI h 77 0 0) := r.sI ⟨by decide, by decide⟩
  have R0 : RepM g (sI h 77 0 0) := R.thr
  have e0 : eqx SM h (sI h 77 0 0) := eqx.rf.st rfl
  have hn := R0.n
  have hn0 := I.1
  have lp : ∀ (hs : Hp), eqx SM h hs → RepM (g.1, savL g.2.1 g.1, g.2.2) hs → hI hs 77 0 = 0 → 0 ≤ w → w < nS g.1 → ∀ (f : Hp) (k : Int), Rg f → eqx (fun q _ => q == 78) hs f → w ≤ k → k ≤ nS g.1 - 1 → (∀ j, 0 ≤ j → j < 26 → hI f 78 j = if j = 0 then nS g.1 - 1 else if 2 + w ≤ j ∧ j < 2 + k then g.1 (j + 1) else g.1 j) → V X 0 0 35 [some (.ref 77), some (.int (Int32.ofInt w)), some (.int (Int32.ofInt k))] [] f := by
    intro hs es Rs hs0 w0 w1
    have last : ∀ (f : Hp) (k : Int), Rg f → eqx (fun q _ => q == 78) hs f → k = nS g.1 - 1 → (∀ j, 0 ≤ j → j < 26 → hI f 78 j = if j = 0 then nS g.1 - 1 else if 2 + w ≤ j ∧ j < 2 + k then g.1 (j + 1) else g.1 j) → V X 0 0 69 [some (.ref 77), some (.int (Int32.ofInt w)), some (.int (Int32.ofInt k))] [] f := by
      intro f k r ef hk hf
      have hf0 : hI f 78 0 = nS g.1 - 1 := by rw [hf 0 (by omega) (by omega), if_pos rfl]
      have e9 : eqx (fun q _ => q == 78) hs (sI f 78 (2 + (nS g.1 - 1)) 0) := ef.st rfl
      have R9 := Rs.cur e9 (c := wipeC g.1 w) (fun j j1 j2 => by
        have := hf j j1 j2
        unfold wipeC
        simp only [hI_sI, true_and]
        by_cases q1 : j = 0
        · rw [if_neg (by omega), if_pos q1, this, if_pos q1]
        · rw [if_neg q1] at this ⊢
          by_cases q2 : j = 2 + (nS g.1 - 1)
          · rw [if_pos q2, if_neg (by omega), if_pos q2]
          · rw [if_neg q2, this, hk]
            by_cases q3 : 2 + w ≤ j ∧ j < 2 + (nS g.1 - 1)
            · rw [if_pos q3, if_pos q3]
            · rw [if_neg q3, if_neg q3, if_neg q2])
      refine V_aload0 G dX7_wipe_69 ?_
      refine V_getR G fl_X7_7 dX7_wipe_70 (by first | decide | assumption) (by first | rfl | assumption) rfl (by first | rfl | assumption) ?_
      refine V_iconst G dX7_wipe_73 ?_
      refine V_aload0 G dX7_wipe_74 ?_
      refine V_getR G fl_X7_7 dX7_wipe_75 (by first | decide | assumption) (by first | rfl | assumption) rfl (by first | rfl | assumption) ?_
      refine V_iconst G dX7_wipe_78 ?_
      refine V_ialde G dX7_wipe_79 (by first | decide | assumption) (by first | rfl | assumption) (by decide) ⟨by omega, by omega⟩ (by first | (simp only [hI_sI, hI_sL, hL_sI, hL_sL, false_and, true_and, and_false, and_true, and_self, if_false, if_true, hf0]; first | done | rfl) | rfl) ?_
      refine V_iadd G dX7_wipe_80 ?_
      refine V_iconst G dX7_wipe_81 ?_
      refine V_iast G dX7_wipe_82 (by first | decide | assumption) (by first | rfl | assumption) (by decide) ⟨by omega, by omega⟩ ?_
      refine V_aload0 G dX7_wipe_83 ?_
      refine V_cV0i (d1 := 7) G m_X7_196 dX7_wipe_84 (by first | decide | assumption) (by first | rfl | assumption) (c_X7_begins (g := (wipeC g.1 w, savL g.2.1 g.1, g.2.2)) (r.sI ⟨by decide, by decide⟩) T R9 (by show 0 ≤ nS g.1 - 1 ∧ nS g.1 - 1 ≤ 12; omega) (fun j j1 j2 => by
    have j2 : j < nS g.1 - 1 := j2
    show 0 ≤ wipeC g.1 w (2 + j) ∧ wipeC g.1 w (2 + j) ≤ 6
    unfold wipeC
    rw [if_neg (by omega)]
    by_cases q2 : 2 + w ≤ 2 + j ∧ 2 + j < 2 + (nS g.1 - 1)
    · rw [if_pos q2, show 2 + j + 1 = 2 + (j + 1) by omega]; exact I.2.1 (j + 1) (by omega) (by omega)
    · rw [if_neg q2, if_neg (by omega)]; exact I.2.1 j j1 (by omega))) (by omega) (by omega) (by omega) (Nat.le_of_ble_eq_true rfl) (fun x_84 h_84 hp_84 => ?_)
      obtain ⟨y1, y2, y3, y4, y5⟩ := hp_84
      exact V_reti E dX7_wipe_87 rfl rfl ⟨_, rfl, by
    unfold opWipe
    rw [if_neg (fun z => z ⟨w0, w1⟩)]
    exact ⟨es.tr ((S78_SM e9).tr y1), y2, (y5.trans (e9.1 77 0 rfl)).trans hs0, y4, fun _ => y3⟩⟩
    have lp2 : ∀ (m : Nat) (k : Int) (f : Hp), k + m = nS g.1 - 1 → w ≤ k → Rg f → eqx (fun q _ => q == 78) hs f → (∀ j, 0 ≤ j → j < 26 → hI f 78 j = if j = 0 then nS g.1 - 1 else if 2 + w ≤ j ∧ j < 2 + k then g.1 (j + 1) else g.1 j) → V X 0 0 35 [some (.ref 77), some (.int (Int32.ofInt w)), some (.int (Int32.ofInt k))] [] f := by
      intro m
      induction m with
      | zero =>
        intro k f hm_ hk0 r2 ef hf
        have r := r2
        have hf0 : hI f 78 0 = nS g.1 - 1 := by rw [hf 0 (by omega) (by omega), if_pos rfl]
        refine V_iload2 G dX7_wipe_35 ?_
        refine V_aload0 G dX7_wipe_36 ?_
        refine V_getR G fl_X7_7 dX7_wipe_37 (by first | decide | assumption) (by first | rfl | assumption) rfl (by first | rfl | assumption) ?_
        refine V_iconst G dX7_wipe_40 ?_
        refine V_ialde G dX7_wipe_41 (by first | decide | assumption) (by first | rfl | assumption) (by decide) ⟨by omega, by omega⟩ (by first | (simp only [hI_sI, hI_sL, hL_sI, hL_sL, false_and, true_and, and_false, and_true, and_self, if_false, if_true, hf0]; first | done | rfl) | rfl) ?_
        refine V_icmpge G dX7_wipe_42 (tgt := 69) (by decide) (by first | exact r _ _ | assumption | exact ⟨by omega, by omega⟩) (by first | exact r _ _ | assumption | exact ⟨by omega, by omega⟩) (fun c_42 => ?_) (fun c_42 => ?_)
        ·
          exact last f k r2 ef (by omega) hf
        · omega
      | succ m ih =>
        intro k f hm_ hk0 r2 ef hf
        have r := r2
        have hf0 : hI f 78 0 = nS g.1 - 1 := by rw [hf 0 (by omega) (by omega), if_pos rfl]
        refine V_iload2 G dX7_wipe_35 ?_
        refine V_aload0 G dX7_wipe_36 ?_
        refine V_getR G fl_X7_7 dX7_wipe_37 (by first | decide | assumption) (by first | rfl | assumption) rfl (by first | rfl | assumption) ?_
        refine V_iconst G dX7_wipe_40 ?_
        refine V_ialde G dX7_wipe_41 (by first | decide | assumption) (by first | rfl | assumption) (by decide) ⟨by omega, by omega⟩ (by first | (simp only [hI_sI, hI_sL, hL_sI, hL_sL, false_and, true_and, and_false, and_true, and_self, if_false, if_true, hf0]; first | done | rfl) | rfl) ?_
        refine V_icmpge G dX7_wipe_42 (tgt := 69) (by decide) (by first | exact r _ _ | assumption | exact ⟨by omega, by omega⟩) (by first | exact r _ _ | assumption | exact ⟨by omega, by omega⟩) (fun c_42 => ?_) (fun c_42 => ?_)
        · omega
        ·
          refine V_aload0 G dX7_wipe_45 ?_
          refine V_getR G fl_X7_7 dX7_wipe_46 (by first | decide | assumption) (by first | rfl | assumption) rfl (by first | rfl | assumption) ?_
          refine V_iconst G dX7_wipe_49 ?_
          refine V_iload2 G dX7_wipe_50 ?_
          refine V_iadd G dX7_wipe_51 ?_
          refine V_aload0 G dX7_wipe_52 ?_
          refine V_getR G fl_X7_7 dX7_wipe_53 (by first | decide | assumption) (by first | rfl | assumption) rfl (by first | rfl | assumption) ?_
          refine V_iconst G dX7_wipe_56 ?_
          refine V_iload2 G dX7_wipe_57 ?_
          refine V_iadd G dX7_wipe_58 ?_
          refine V_iconst G dX7_wipe_59 ?_
          refine V_iadd G dX7_wipe_60 ?_
          refine V_ialde G dX7_wipe_61 (by first | decide | assumption) (by first | rfl | assumption) (by decide) ⟨by omega, by omega⟩ (by first | (simp only [hI_sI, hI_sL, hL_sI, hL_sL, false_and, true_and, and_false, and_true, and_self, if_false, if_true, hf0]; first | done | rfl) | rfl) ?_
          refine V_iast G dX7_wipe_62 (by first | decide | assumption) (by first | rfl | assumption) (by decide) ⟨by omega, by omega⟩ ?_
          refine V_iinc2 G dX7_wipe_63 rfl ?_
          refine V_goto G dX7_wipe_66 (tgt := 35) (by decide) ?_
          exact ih (k + 1) _ (by omega) (by omega) (r2.sI (r2 _ _)) (ef.st rfl) (fun j j1 j2 => by
            rw [hI_sI]
            by_cases hj : j = 2 + k
            · subst hj
              rw [if_pos ⟨rfl, rfl⟩, hf _ (by omega) (by omega), if_neg (by omega), if_neg (by omega), if_neg (by omega), if_pos (by omega)]
            · rw [if_neg (fun z => hj z.2), hf j j1 j2]
              by_cases hj2 : j = 0
              · rw [if_pos hj2, if_pos hj2]
              · rw [if_neg hj2, if_neg hj2]
                by_cases hj3 : 2 + w ≤ j ∧ j < 2 + k
                · rw [if_pos hj3, if_pos (by omega)]
                · rw [if_neg hj3, if_neg (by omega)])

    intro f k r2 ef k0 k1 hf
    exact lp2 (nS g.1 - 1 - k).toNat k f (by omega) k0 r2 ef hf
  refine V_aload0 G dX7_wipe_0 ?_
  refine V_iconst G dX7_wipe_1 ?_
  refine V_putI (jz := 0) G fw_X7_68 dX7_wipe_2 (by first | decide | assumption) (by first | rfl | assumption) rfl rfl ?_
  refine V_aload0 G dX7_wipe_5 ?_
  refine V_iload1 G dX7_wipe_6 ?_
  refine V_cV1i (d1 := 2) G m_X7_199 dX7_wipe_7 (by first | decide | assumption) (by first | rfl | assumption) (c_X7_isWord r0 (n := nS g.1) hn hn0 hw) (by omega) (by omega) (by omega) (Nat.le_of_ble_eq_true rfl) (fun x_7 h_7 hp_7 => ?_)
  rw [hp_7.1, hp_7.2]
  refine V_ifneB G dX7_wipe_10 (tgt := 19) (by decide)  (fun c_10 => ?_) (fun c_10 => ?_)
  ·
    refine V_aload0 G dX7_wipe_19 ?_
    refine V_cV0v (d1 := 1) G m_X7_193 dX7_wipe_20 (by first | decide | assumption) (by first | rfl | assumption) (c_X7_saves r0 R0 hl6) (by omega) (by omega) (by omega) (Nat.le_of_ble_eq_true rfl) (fun h_20 hp_20 => ?_)
    obtain ⟨z1, z2, z3⟩ := hp_20
    have hn9 := z3.n
    dsimp only at hn9
    have r := z2
    have z77 : hI h_20 77 0 = 0 := (z1.1 77 0 rfl).trans (by simp [hI_sI])
    refine V_aload0 G dX7_wipe_23 ?_
    refine V_getR G fl_X7_7 dX7_wipe_24 (by first | decide | assumption) (by first | rfl | assumption) rfl (by first | rfl | assumption) ?_
    refine V_iconst G dX7_wipe_27 ?_
    refine V_dup2 G dX7_wipe_28 rfl rfl ?_
    refine V_ialde G dX7_wipe_29 (by first | decide | assumption) (by first | rfl | assumption) (by decide) ⟨by omega, by omega⟩ hn9 ?_
    refine V_iconst G dX7_wipe_30 ?_
    refine V_isub G dX7_wipe_31 ?_
    refine V_iast G dX7_wipe_32 (by first | decide | assumption) (by first | rfl | assumption) (by decide) ⟨by omega, by omega⟩ ?_
    refine V_iload1 G dX7_wipe_33 ?_
    refine V_istore2 G dX7_wipe_34 rfl ?_
    exact lp h_20 (e0.tr (S79_SM z1)) z3 z77 c_10.1 c_10.2 _ w (z2.sI ⟨by omega, by omega⟩) (eqx.rf.st rfl) (by omega) (by omega) (fun j j1 j2 => by
      have := z3.at' j1 j2
      dsimp only at this
      rw [hI_sI]
      by_cases q1 : j = 0
      · rw [if_pos ⟨rfl, q1⟩, if_pos q1]
      · rw [if_neg (fun z => q1 z.2), if_neg q1, if_neg (by omega)]; exact this)
  ·
    refine V_aload0 G dX7_wipe_13 ?_
    refine V_iconst G dX7_wipe_14 ?_
    refine V_cV1i (d1 := 1) G m_X7_190 dX7_wipe_15 (by first | decide | assumption) (by first | rfl | assumption) (c_X7_fails) (by omega) (by omega) (by omega) (Nat.le_of_ble_eq_true rfl) (fun x_15 h_15 hp_15 => ?_)
    rw [hp_15.1, hp_15.2]
    exact V_reti E dX7_wipe_18 rfl rfl ⟨_, rfl, by unfold opWipe; rw [if_pos c_10]; exact aft_fail e0 r0 R0 (by decide) ⟨by decide, by decide⟩⟩

set_option maxRecDepth 100000 in
set_option maxHeartbeats 4000000 in
theorem c_X7_loosen {l : Launch} {d : Nat} {h : Hp} (r : Rg h) {g : Sg} (T : RdsOk) (R : RepM g h) (I : okS g.1) (hl6 : g.2.1.length ≤ 6) {w : Int} (hw : inr w) (hd : 7 ≤ d := by omega) : CP l d 0 0 yX7_loosen cX7_loosen 2 (Option.some Jvm.ClassFile.FieldType.int) [.ref 77, iv w] h (pI fun x h1 => aft (opLoosen g w) x h h1) := by
  refine CP.ofV (L := [some (.ref 77), some (.int (Int32.ofInt w))]) RX7 (by decide +kernel) rfl (Nat.le_of_ble_eq_true rfl) rfl (fun X hX G E => ?_)
  subst hX
  have r0 : Rg (sI h 77 0 0) := r.sI ⟨by decide, by decide⟩
  have R0 : RepM g (sI h 77 0 0) := R.thr
  have e0 : eqx SM h (sI h 77 0 0) := eqx.rf.st rfl
  have hn := R0.n
  have hn0 := I.1
  refine V_aload0 G dX7_loosen_0 ?_
  refine V_iconst G dX7_loosen_1 ?_
  refine V_putI (jz := 0) G fw_X7_68 dX7_loosen_2 (by first | decide | assumption) (by first | rfl | assumption) rfl rfl ?_
  refine V_aload0 G dX7_loosen_5 ?_
  refine V_iload1 G dX7_loosen_6 ?_
  refine V_cV1i (d1 := 2) G m_X7_199 dX7_loosen_7 (by first | decide | assumption) (by first | rfl | assumption) (c_X7_isWord r0 (n := nS g.1) hn hn0 hw) (by omega) (by omega) (by omega) (Nat.le_of_ble_eq_true rfl) (fun x_7 h_7 hp_7 => ?_)
  rw [hp_7.1, hp_7.2]
  refine V_ifneB G dX7_loosen_10 (tgt := 19) (by decide)  (fun c_10 => ?_) (fun c_10 => ?_)
  ·
    refine V_aload0 G dX7_loosen_19 ?_
    refine V_cV0v (d1 := 1) G m_X7_193 dX7_loosen_20 (by first | decide | assumption) (by first | rfl | assumption) (c_X7_saves r0 R0 hl6) (by omega) (by omega) (by omega) (Nat.le_of_ble_eq_true rfl) (fun h_20 hp_20 => ?_)
    obtain ⟨z1, z2, z3⟩ := hp_20
    have hn9 := z3.n
    dsimp only at hn9
    have r := z2
    have z77 : hI h_20 77 0 = 0 := (z1.1 77 0 rfl).trans (by simp [hI_sI])
    refine V_aload0 G dX7_loosen_23 ?_
    refine V_getR G fl_X7_7 dX7_loosen_24 (by first | decide | assumption) (by first | rfl | assumption) rfl (by first | rfl | assumption) ?_
    refine V_bipush G dX7_loosen_27 (by decide) ?_
    refine V_iload1 G dX7_loosen_29 ?_
    refine V_iadd G dX7_loosen_30 ?_
    refine V_iconst G dX7_loosen_31 ?_
    refine V_iast G dX7_loosen_32 (by first | decide | assumption) (by first | rfl | assumption) (by decide) ⟨by omega, by omega⟩ ?_
    refine V_aload0 G dX7_loosen_33 ?_
    refine V_getR G fl_X7_7 dX7_loosen_34 (by first | decide | assumption) (by first | rfl | assumption) rfl (by first | rfl | assumption) ?_
    refine V_iconst G dX7_loosen_37 ?_
    refine V_iconst G dX7_loosen_38 ?_
    refine V_iast G dX7_loosen_39 (by first | decide | assumption) (by first | rfl | assumption) (by decide) ⟨by omega, by omega⟩ ?_
    refine V_aload0 G dX7_loosen_40 ?_
    have e9 : eqx (fun q _ => q == 78) h_20 (sI (sI h_20 78 (14 + w) 0) 78 1 0) := (eqx.rf.st rfl).st rfl
    have R9 := z3.cur e9 (c := uC (uC g.1 (14 + w) 0) 1 0) (fun j j1 j2 => by
      have := z3.at' j1 j2
      dsimp only at this
      unfold uC
      simp only [hI_sI, true_and]
      by_cases q1 : j = 1
      · rw [if_pos q1, if_pos q1]
      · rw [if_neg q1, if_neg q1]
        by_cases q2 : j = 14 + w
        · rw [if_pos q2, if_pos q2]
        · rw [if_neg q2, if_neg q2]; exact this)
    have en9 : nS (uC (uC g.1 (14 + w) 0) 1 0) = nS g.1 := by
      show uC (uC g.1 (14 + w) 0) 1 0 0 = g.1 0
      unfold uC
      rw [if_neg (by omega), if_neg (by omega)]
    have ek9 : ∀ j, 0 ≤ j → j < nS g.1 → kdS (uC (uC g.1 (14 + w) 0) 1 0) j = kdS g.1 j := fun j j1 j2 => by
      show uC (uC g.1 (14 + w) 0) 1 0 (2 + j) = g.1 (2 + j)
      unfold uC
      rw [if_neg (by omega), if_neg (by omega)]
    refine V_cV0v (d1 := 6) G m_X7_187 dX7_loosen_41 (by first | decide | assumption) (by first | rfl | assumption) (c_lays (g := (uC (uC g.1 (14 + w) 0) 1 0, savL g.2.1 g.1, g.2.2)) ((z2.sI ⟨by decide, by decide⟩).sI ⟨by decide, by decide⟩) T R9 (by show 0 ≤ nS _ ∧ nS _ ≤ 12; rw [en9]; exact hn0) (fun j j1 j2 => by
    have j2 : j < nS (uC (uC g.1 (14 + w) 0) 1 0) := j2
    rw [en9] at j2
    show 0 ≤ kdS (uC (uC g.1 (14 + w) 0) 1 0) j ∧ kdS (uC (uC g.1 (14 + w) 0) 1 0) j ≤ 6
    rw [ek9 j j1 j2]
    exact I.2.1 j j1 j2)) (by omega) (by omega) (by omega) (Nat.le_of_ble_eq_true rfl) (fun h_41 hp_41 => ?_)
    obtain ⟨y1, y2, y3, y4⟩ := hp_41
    have y18 := y3.2.2.1
    refine V_aload0 G dX7_loosen_44 ?_
    refine V_getIe (jz := 18) G fl_X7_142 dX7_loosen_45 (by first | decide | assumption) (by first | rfl | assumption) rfl rfl y18 ?_
    exact V_reti E dX7_loosen_48 rfl rfl ⟨_, rfl, by
    unfold opLoosen
    rw [if_neg (fun z => z c_10)]
    exact ⟨(e0.tr (S79_SM z1)).tr ((S78_SM e9).tr (Sl_SM y1)), y2, ((y1.1 77 0 rfl).trans (e9.1 77 0 rfl)).trans z77, y4, fun _ => rfl⟩⟩
  ·
    refine V_aload0 G dX7_loosen_13 ?_
    refine V_iconst G dX7_loosen_14 ?_
    refine V_cV1i (d1 := 1) G m_X7_190 dX7_loosen_15 (by first | decide | assumption) (by first | rfl | assumption) (c_X7_fails) (by omega) (by omega) (by omega) (Nat.le_of_ble_eq_true rfl) (fun x_15 h_15 hp_15 => ?_)
    rw [hp_15.1, hp_15.2]
    exact V_reti E dX7_loosen_18 rfl rfl ⟨_, rfl, by unfold opLoosen; rw [if_pos c_10]; exact aft_fail e0 r0 R0 (by decide) ⟨by decide, by decide⟩⟩

end M12
