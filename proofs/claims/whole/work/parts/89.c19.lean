section C19

theorem slC.put {h h1 : Hp} {k : Int} {q : Nat} {c : Cs} (S : StC h1 q c) (e1 : hI h1 75 k = 1) : slC h1 k q (some c) := ⟨e1, S⟩
theorem rep_sl {g : Sg} {h h1 : Hp} {s0 s1 : Option Cs} (R : RepC g h) (e : ∀ a j, ¬ (67 ≤ a ∧ a ≤ 75) → hI h1 a j = hI h a j) (eL : hL h1 = hL h) (eR : hR h1 = hR h) (B : SlC h1 s0 s1) : RepC (g.1, g.2.1, s0, s1, g.2.2.2.2) h1 ∧ eqC h h1 := by
  obtain ⟨P, W⟩ := R.2.1
  exact ⟨⟨R.1.eq (fun z j q => e z j (by omega)) (fun j => by rw [eL]), ⟨P, W.eq (fun z j q => e z j (by simp [SV] at q; omega)) (fun j => by rw [eR])⟩, B, R.2.2.2.eq (e 0 14 (by omega)) (fun j => e 76 j (by omega))⟩, fun a j q => e a j (by omega), fun a j q => by rw [eL]⟩

theorem slk {h h1 : Hp} {k : Int} {q : Nat} {s : Option Cs} (a : slC h k q s) (_ : q ≠ 75) (e : ∀ z j, z = q ∨ z = q + 1 ∨ z = q + 2 → hI h1 z j = hI h z j) (e2 : hI h1 75 k = hI h 75 k) : slC h1 k q s := by
  cases s with
  | none => exact e2.trans a
  | some c => exact ⟨e2.trans a.1, a.2.eq (fun z j q => e z j (by omega))⟩

set_option maxRecDepth 100000 in
set_option maxHeartbeats 1600000 in
theorem c_X6_keep {l : Launch} {d : Nat} {h : Hp} (hlt : l.stackTraces = false) (r : Rg h) {g : Sg} (R : RepC g h) (I : InvS g) {k : Int} (hk : inr k) (hd : 40 ≤ d := by omega) : CX l d 1 6 yX6_keep cX6_keep 2 (Option.some Jvm.ClassFile.FieldType.int) [.ref 0, iv k] h (pI (opP (opKeep g k) h)) (opX (opKeep g k) IAE ISE h) := by
  refine CX.ofV (L := [some (.ref 0), some (.int (Int32.ofInt k))]) RX6 hlt (by decide +kernel) rfl (Nat.le_of_ble_eq_true rfl) rfl (fun X hX G Y E => ?_)
  subst hX
  obtain ⟨S, RD, PT, LF, DR⟩ := R.1
  obtain ⟨P, W⟩ := R.2.1
  have i1 := I.1
  have hn0 := i1.1
  have hn := S.1
  have SL := R.2.2.1
  have L := SL.1
  refine V_aload0 G dX6_keep_0 ?_
  refine V_iload1 G dX6_keep_1 ?_
  refine V_xV1v (d1 := 13) (kc1 := 1) (ks1 := 6) G Y m_X6_180 dX6_keep_2 (by first | decide | assumption) (by first | rfl | assumption) (c_X6_needSlot hlt hk) (fun E h1 q => ⟨q.1, Or.inl ⟨by unfold opKeep; rw [if_neg (by omega), if_neg (by omega)], q.2.1⟩⟩) (by omega) (by omega) (by omega) (Nat.le_of_ble_eq_true rfl) (fun h_2 hp_2 => ?_)
  obtain ⟨e_2, b_2⟩ := hp_2
  rw [e_2]
  obtain rfl | rfl : k = 0 ∨ k = 1 := by omega
  ·
    refine V_aload0 G dX6_keep_5 ?_
    refine V_getR G fl_X6_66 dX6_keep_6 (by first | decide | assumption) (by first | rfl | assumption) rfl (by first | rfl | assumption) ?_
    refine V_iload1 G dX6_keep_9 ?_
    refine V_aload0 G dX6_keep_10 ?_
    refine V_getR G fl_X6_12 dX6_keep_11 (by first | decide | assumption) (by first | rfl | assumption) rfl (by first | rfl | assumption) ?_
    refine V_cV2v (d1 := 16) G m_X6_183 dX6_keep_14 (by first | decide | assumption) (by first | rfl | assumption) (c_X5_put isSs_all.2 r L (i := 0) (x := 68) rfl isSt_all.2.2.2.2.2.2.2.2.1 isSt_all.1 (by omega) S hn0) (by omega) (by omega) (by omega) (Nat.le_of_ble_eq_true rfl) (fun h_14 hp_14 => ?_)
    obtain ⟨a1, a2, a3⟩ := hp_14
    refine V_aload0 G dX6_keep_17 ?_
    refine V_getR G fl_X6_69 dX6_keep_18 (by first | decide | assumption) (by first | rfl | assumption) rfl (by first | rfl | assumption) ?_
    refine V_iload1 G dX6_keep_21 ?_
    refine V_iconst G dX6_keep_22 ?_
    refine V_zast G dX6_keep_23 (by first | decide | assumption) (by first | rfl | assumption) (by decide) ⟨by omega, by omega⟩ (by omega) ?_
    refine V_aload0 G dX6_keep_24 ?_
    refine V_getR G fl_X6_12 dX6_keep_25 (by first | decide | assumption) (by first | rfl | assumption) rfl (by first | rfl | assumption) ?_
    refine V_cV0i (d1 := 1) G m_X6_82 dX6_keep_28 (by first | decide | assumption) (by first | rfl | assumption) (c_X4_size isSt_all.1) (by omega) (by omega) (by omega) (Nat.le_of_ble_eq_true rfl) (fun x_28 h_28 hp_28 => ?_)
    rw [show x_28 = nS g.1 from hp_28.1.trans (by rw [hI_sI, if_neg (by omega), a1.1 1 2 (by decide)]; exact hn), hp_28.2]
    have fs := rep_sl (h1 := sI h_14 75 0 1) (s0 := some g.1) (s1 := g.2.2.2.1) R (fun a j q => by rw [hI_sI, if_neg (by omega)]; exact a1.1 a j (by simp [Sst]; omega)) a1.2.1 a1.2.2 ⟨⟨by rw [hI_sI, if_neg (by omega), a1.1 67 2 (by decide)]; exact L.1, fun i x hx => by show hR h_14 71 i = _; rw [a1.2.2]; exact L.2.1 i x hx, L.2.2⟩, ⟨by rw [hI_sI, if_pos ⟨rfl, rfl⟩], a3.eq (fun z j q => by rw [hI_sI, if_neg (by omega)])⟩, slk (q := 72) SL.2.2 (by decide) (fun z j q => by rw [hI_sI, if_neg (by omega)]; exact a1.1 z j (by simp [Sst]; omega)) (by rw [hI_sI, if_neg (by decide)]; exact a1.1 75 1 (by decide))⟩
    exact V_reti E dX6_keep_31 rfl rfl ⟨_, rfl, ⟨by unfold opKeep; rw [if_pos rfl], by unfold opKeep; rw [if_pos rfl], by unfold opKeep; rw [if_pos rfl]; exact fs.1, a2.sI ⟨by omega, by omega⟩, fs.2⟩⟩
  ·
    refine V_aload0 G dX6_keep_5 ?_
    refine V_getR G fl_X6_66 dX6_keep_6 (by first | decide | assumption) (by first | rfl | assumption) rfl (by first | rfl | assumption) ?_
    refine V_iload1 G dX6_keep_9 ?_
    refine V_aload0 G dX6_keep_10 ?_
    refine V_getR G fl_X6_12 dX6_keep_11 (by first | decide | assumption) (by first | rfl | assumption) rfl (by first | rfl | assumption) ?_
    refine V_cV2v (d1 := 16) G m_X6_183 dX6_keep_14 (by first | decide | assumption) (by first | rfl | assumption) (c_X5_put isSs_all.2 r L (i := 1) (x := 72) rfl isSt_all.2.2.2.2.2.2.2.2.2 isSt_all.1 (by omega) S hn0) (by omega) (by omega) (by omega) (Nat.le_of_ble_eq_true rfl) (fun h_14 hp_14 => ?_)
    obtain ⟨a1, a2, a3⟩ := hp_14
    refine V_aload0 G dX6_keep_17 ?_
    refine V_getR G fl_X6_69 dX6_keep_18 (by first | decide | assumption) (by first | rfl | assumption) rfl (by first | rfl | assumption) ?_
    refine V_iload1 G dX6_keep_21 ?_
    refine V_iconst G dX6_keep_22 ?_
    refine V_zast G dX6_keep_23 (by first | decide | assumption) (by first | rfl | assumption) (by decide) ⟨by omega, by omega⟩ (by omega) ?_
    refine V_aload0 G dX6_keep_24 ?_
    refine V_getR G fl_X6_12 dX6_keep_25 (by first | decide | assumption) (by first | rfl | assumption) rfl (by first | rfl | assumption) ?_
    refine V_cV0i (d1 := 1) G m_X6_82 dX6_keep_28 (by first | decide | assumption) (by first | rfl | assumption) (c_X4_size isSt_all.1) (by omega) (by omega) (by omega) (Nat.le_of_ble_eq_true rfl) (fun x_28 h_28 hp_28 => ?_)
    rw [show x_28 = nS g.1 from hp_28.1.trans (by rw [hI_sI, if_neg (by omega), a1.1 1 2 (by decide)]; exact hn), hp_28.2]
    have fs := rep_sl (h1 := sI h_14 75 1 1) (s0 := g.2.2.1) (s1 := some g.1) R (fun a j q => by rw [hI_sI, if_neg (by omega)]; exact a1.1 a j (by simp [Sst]; omega)) a1.2.1 a1.2.2 ⟨⟨by rw [hI_sI, if_neg (by omega), a1.1 67 2 (by decide)]; exact L.1, fun i x hx => by show hR h_14 71 i = _; rw [a1.2.2]; exact L.2.1 i x hx, L.2.2⟩, slk (q := 68) SL.2.1 (by decide) (fun z j q => by rw [hI_sI, if_neg (by omega)]; exact a1.1 z j (by simp [Sst]; omega)) (by rw [hI_sI, if_neg (by decide)]; exact a1.1 75 0 (by decide)), ⟨by rw [hI_sI, if_pos ⟨rfl, rfl⟩], a3.eq (fun z j q => by rw [hI_sI, if_neg (by omega)])⟩⟩
    exact V_reti E dX6_keep_31 rfl rfl ⟨_, rfl, ⟨by unfold opKeep; rw [if_neg (by decide), if_pos rfl], by unfold opKeep; rw [if_neg (by decide), if_pos rfl], by unfold opKeep; rw [if_neg (by decide), if_pos rfl]; exact fs.1, a2.sI ⟨by omega, by omega⟩, fs.2⟩⟩

theorem slk2 {h h1 : Hp} {s0 s1 : Option Cs} (a : SlC h s0 s1) (e : eqz SV noL h h1) : SlC h1 s0 s1 := a.eq (fun z j q => e.1 z j (by simp [SV]; omega)) (fun j => e.2.2 71 j (by decide))

set_option maxRecDepth 100000 in
set_option maxHeartbeats 1600000 in
theorem c_X6_goBack {l : Launch} {d : Nat} {h : Hp} (hlt : l.stackTraces = false) (r : Rg h) {g : Sg} (R : RepC g h) (I : InvS g) {k : Int} (hk : inr k) (hd : 40 ≤ d := by omega) : CX l d 2 12 yX6_goBack cX6_goBack 2 (Option.some Jvm.ClassFile.FieldType.int) [.ref 0, iv k] h (pI (opP (opBack g k) h)) (opX (opBack g k) IAE ISE h) := by
  refine CX.ofV (L := [some (.ref 0), some (.int (Int32.ofInt k))]) RX6 hlt (by decide +kernel) rfl (Nat.le_of_ble_eq_true rfl) rfl (fun X hX G Y E => ?_)
  subst hX
  obtain ⟨S, RD, PT, LF, DR⟩ := R.1
  obtain ⟨P, W⟩ := R.2.1
  have i1 := I.1
  have hn0 := i1.1
  have hn := S.1
  have SL := R.2.2.1
  have L := SL.1
  refine V_aload0 G dX6_goBack_0 ?_
  refine V_iload1 G dX6_goBack_1 ?_
  refine V_xV1v (d1 := 13) (kc1 := 1) (ks1 := 6) G Y m_X6_180 dX6_goBack_2 (by first | decide | assumption) (by first | rfl | assumption) (c_X6_needSlot hlt hk) (fun E h1 q => ⟨q.1, Or.inl ⟨by unfold opBack; rw [if_neg (by omega), if_neg (by omega)], q.2.1⟩⟩) (by omega) (by omega) (by omega) (Nat.le_of_ble_eq_true rfl) (fun h_2 hp_2 => ?_)
  obtain ⟨e_2, b_2⟩ := hp_2
  rw [e_2]
  obtain rfl | rfl : k = 0 ∨ k = 1 := by omega
  ·
    rcases hs : g.2.2.1 with _ | c
    · have z0 : hI h 75 0 = 0 := by have := SL.2.1; rw [hs] at this; exact this
      refine V_aload0 G dX6_goBack_5 ?_
      refine V_getR G fl_X6_69 dX6_goBack_6 (by first | decide | assumption) (by first | rfl | assumption) rfl (by first | rfl | assumption) ?_
      refine V_iload1 G dX6_goBack_9 ?_
      refine V_zalde G dX6_goBack_10 (by first | decide | assumption) (by first | rfl | assumption) (by decide) ⟨by omega, by omega⟩ z0 ?_
      refine V_ifne G dX6_goBack_11 (tgt := 24) (by decide) (by first | exact r _ _ | assumption | exact ⟨by omega, by omega⟩) (fun c_11 => ?_) (fun c_11 => ?_)
      · exact absurd rfl c_11
      ·
        exact V_throw G Y th_ISE dX6_goBack_14 dX6_goBack_17 dX6_goBack_18 dX6_goBack_20 dX6_goBack_23 (text := "no snapshot in the slot") (by decide) ⟨rfl, Or.inr ⟨by unfold opBack; rw [if_pos rfl, hs], rfl⟩⟩ (by omega) (by omega) (by omega)
    · have z0 : hI h 75 0 = 1 := by have := SL.2.1; rw [hs] at this; exact this.1
      have sq : StC h 68 c := by have := SL.2.1; rw [hs] at this; exact this.2
      have ic : okS c := I.2.2.1 c hs
      refine V_aload0 G dX6_goBack_5 ?_
      refine V_getR G fl_X6_69 dX6_goBack_6 (by first | decide | assumption) (by first | rfl | assumption) rfl (by first | rfl | assumption) ?_
      refine V_iload1 G dX6_goBack_9 ?_
      refine V_zalde G dX6_goBack_10 (by first | decide | assumption) (by first | rfl | assumption) (by decide) ⟨by omega, by omega⟩ z0 ?_
      refine V_ifne G dX6_goBack_11 (tgt := 24) (by decide) (by first | exact r _ _ | assumption | exact ⟨by omega, by omega⟩) (fun c_11 => ?_) (fun c_11 => ?_)
      ·
        refine V_aload0 G dX6_goBack_24 ?_
        refine V_cV0v (d1 := 20) G m_X6_93 dX6_goBack_25 (by first | decide | assumption) (by first | rfl | assumption) (c_X6_saveState r W S hn0) (by omega) (by omega) (by omega) (Nat.le_of_ble_eq_true rfl) (fun h_25 hp_25 => ?_)
        obtain ⟨a1, a2, P1, a3⟩ := hp_25
        have s1 := stkC S a1
        refine V_aload0 G dX6_goBack_28 ?_
        refine V_getR G fl_X6_66 dX6_goBack_29 (by first | decide | assumption) (by first | rfl | assumption) rfl (by first | rfl | assumption) ?_
        refine V_iload1 G dX6_goBack_32 ?_
        refine V_aload0 G dX6_goBack_33 ?_
        refine V_getR G fl_X6_12 dX6_goBack_34 (by first | decide | assumption) (by first | rfl | assumption) rfl (by first | rfl | assumption) ?_
        refine V_cV2v (d1 := 16) G m_X6_189 dX6_goBack_37 (by first | decide | assumption) (by first | rfl | assumption) (c_X5_copyTo isSs_all.2 a2 (slk2 SL a1).1 (i := 0) (x := 68) rfl isSt_all.2.2.2.2.2.2.2.2.1 isSt_all.1 (by omega) (sq.eq (fun z j q => a1.1 z j (by simp [SV]; omega))) ic.1) (by omega) (by omega) (by omega) (Nat.le_of_ble_eq_true rfl) (fun h_37 hp_37 => ?_)
        obtain ⟨d1, d2, d3⟩ := hp_37
        have b1 : eqx S13 h_25 h_37 := d1.mono (fun a j q => by simp [S13] at q; simp [Sst]; omega)
        refine V_aload0 G dX6_goBack_40 ?_
        refine V_cV0v (d1 := 23) G m_X6_192 dX6_goBack_41 (by first | decide | assumption) (by first | rfl | assumption) (c_X6_tellReadings d2 ic d3 (zrk PT a1 b1)) (by omega) (by omega) (by omega) (Nat.le_of_ble_eq_true rfl) (fun h_41 hp_41 => ?_)
        obtain ⟨e1, e2, e3⟩ := hp_41
        have fs := fin_sen R a1 a3 b1 (e1.mono (fun a j q => by simp [SB1] at q; simp [SBd]; omega)) e3
        refine V_aload0 G dX6_goBack_44 ?_
        refine V_getR G fl_X6_12 dX6_goBack_45 (by first | decide | assumption) (by first | rfl | assumption) rfl (by first | rfl | assumption) ?_
        refine V_cV0i (d1 := 1) G m_X6_82 dX6_goBack_48 (by first | decide | assumption) (by first | rfl | assumption) (c_X4_size isSt_all.1) (by omega) (by omega) (by omega) (Nat.le_of_ble_eq_true rfl) (fun x_48 h_48 hp_48 => ?_)
        rw [show x_48 = nS c from hp_48.1.trans e3.1.1, hp_48.2]
        exact V_reti E dX6_goBack_51 rfl rfl ⟨_, rfl, ⟨by unfold opBack; rw [if_pos rfl, hs], by unfold opBack; rw [if_pos rfl, hs], by unfold opBack; rw [if_pos rfl, hs]; exact fs.1, e2, fs.2⟩⟩
      · exact absurd c_11 (by decide)
  ·
    rcases hs : g.2.2.2.1 with _ | c
    · have z0 : hI h 75 1 = 0 := by have := SL.2.2; rw [hs] at this; exact this
      refine V_aload0 G dX6_goBack_5 ?_
      refine V_getR G fl_X6_69 dX6_goBack_6 (by first | decide | assumption) (by first | rfl | assumption) rfl (by first | rfl | assumption) ?_
      refine V_iload1 G dX6_goBack_9 ?_
      refine V_zalde G dX6_goBack_10 (by first | decide | assumption) (by first | rfl | assumption) (by decide) ⟨by omega, by omega⟩ z0 ?_
      refine V_ifne G dX6_goBack_11 (tgt := 24) (by decide) (by first | exact r _ _ | assumption | exact ⟨by omega, by omega⟩) (fun c_11 => ?_) (fun c_11 => ?_)
      · exact absurd rfl c_11
      ·
        exact V_throw G Y th_ISE dX6_goBack_14 dX6_goBack_17 dX6_goBack_18 dX6_goBack_20 dX6_goBack_23 (text := "no snapshot in the slot") (by decide) ⟨rfl, Or.inr ⟨by unfold opBack; rw [if_neg (by decide), if_pos rfl, hs], rfl⟩⟩ (by omega) (by omega) (by omega)
    · have z0 : hI h 75 1 = 1 := by have := SL.2.2; rw [hs] at this; exact this.1
      have sq : StC h 72 c := by have := SL.2.2; rw [hs] at this; exact this.2
      have ic : okS c := I.2.2.2.1 c hs
      refine V_aload0 G dX6_goBack_5 ?_
      refine V_getR G fl_X6_69 dX6_goBack_6 (by first | decide | assumption) (by first | rfl | assumption) rfl (by first | rfl | assumption) ?_
      refine V_iload1 G dX6_goBack_9 ?_
      refine V_zalde G dX6_goBack_10 (by first | decide | assumption) (by first | rfl | assumption) (by decide) ⟨by omega, by omega⟩ z0 ?_
      refine V_ifne G dX6_goBack_11 (tgt := 24) (by decide) (by first | exact r _ _ | assumption | exact ⟨by omega, by omega⟩) (fun c_11 => ?_) (fun c_11 => ?_)
      ·
        refine V_aload0 G dX6_goBack_24 ?_
        refine V_cV0v (d1 := 20) G m_X6_93 dX6_goBack_25 (by first | decide | assumption) (by first | rfl | assumption) (c_X6_saveState r W S hn0) (by omega) (by omega) (by omega) (Nat.le_of_ble_eq_true rfl) (fun h_25 hp_25 => ?_)
        obtain ⟨a1, a2, P1, a3⟩ := hp_25
        have s1 := stkC S a1
        refine V_aload0 G dX6_goBack_28 ?_
        refine V_getR G fl_X6_66 dX6_goBack_29 (by first | decide | assumption) (by first | rfl | assumption) rfl (by first | rfl | assumption) ?_
        refine V_iload1 G dX6_goBack_32 ?_
        refine V_aload0 G dX6_goBack_33 ?_
        refine V_getR G fl_X6_12 dX6_goBack_34 (by first | decide | assumption) (by first | rfl | assumption) rfl (by first | rfl | assumption) ?_
        refine V_cV2v (d1 := 16) G m_X6_189 dX6_goBack_37 (by first | decide | assumption) (by first | rfl | assumption) (c_X5_copyTo isSs_all.2 a2 (slk2 SL a1).1 (i := 1) (x := 72) rfl isSt_all.2.2.2.2.2.2.2.2.2 isSt_all.1 (by omega) (sq.eq (fun z j q => a1.1 z j (by simp [SV]; omega))) ic.1) (by omega) (by omega) (by omega) (Nat.le_of_ble_eq_true rfl) (fun h_37 hp_37 => ?_)
        obtain ⟨d1, d2, d3⟩ := hp_37
        have b1 : eqx S13 h_25 h_37 := d1.mono (fun a j q => by simp [S13] at q; simp [Sst]; omega)
        refine V_aload0 G dX6_goBack_40 ?_
        refine V_cV0v (d1 := 23) G m_X6_192 dX6_goBack_41 (by first | decide | assumption) (by first | rfl | assumption) (c_X6_tellReadings d2 ic d3 (zrk PT a1 b1)) (by omega) (by omega) (by omega) (Nat.le_of_ble_eq_true rfl) (fun h_41 hp_41 => ?_)
        obtain ⟨e1, e2, e3⟩ := hp_41
        have fs := fin_sen R a1 a3 b1 (e1.mono (fun a j q => by simp [SB1] at q; simp [SBd]; omega)) e3
        refine V_aload0 G dX6_goBack_44 ?_
        refine V_getR G fl_X6_12 dX6_goBack_45 (by first | decide | assumption) (by first | rfl | assumption) rfl (by first | rfl | assumption) ?_
        refine V_cV0i (d1 := 1) G m_X6_82 dX6_goBack_48 (by first | decide | assumption) (by first | rfl | assumption) (c_X4_size isSt_all.1) (by omega) (by omega) (by omega) (Nat.le_of_ble_eq_true rfl) (fun x_48 h_48 hp_48 => ?_)
        rw [show x_48 = nS c from hp_48.1.trans e3.1.1, hp_48.2]
        exact V_reti E dX6_goBack_51 rfl rfl ⟨_, rfl, ⟨by unfold opBack; rw [if_neg (by decide), if_pos rfl, hs], by unfold opBack; rw [if_neg (by decide), if_pos rfl, hs], by unfold opBack; rw [if_neg (by decide), if_pos rfl, hs]; exact fs.1, e2, fs.2⟩⟩
      · exact absurd c_11 (by decide)

theorem last_at {S : List Cs} {c : Cs} (h : S.getLast? = some c) : 0 < S.length ∧ S[S.length - 1]? = some c := by
  cases S with
  | nil => simp at h
  | cons a t => exact ⟨by simp, by rw [← List.getLast?_eq_getElem?]; exact h⟩
theorem last_no {S : List Cs} (h : S.getLast? = none) : S.length = 0 := by
  cases S with
  | nil => rfl
  | cons a t => simp at h

set_option maxRecDepth 100000 in
set_option maxHeartbeats 1600000 in
theorem c_X6_undo {l : Launch} {d : Nat} {h : Hp} (hlt : l.stackTraces = false) (r : Rg h) {g : Sg} (R : RepC g h) (I : InvS g) (hd : 36 ≤ d := by omega) : CX l d 1 6 yX6_undo cX6_undo 1 (Option.some Jvm.ClassFile.FieldType.int) [.ref 0] h (pI (opP (opUndo g) h)) (opX (opUndo g) ISE ISE h) := by
  refine CX.ofV (L := [some (.ref 0)]) RX6 hlt (by decide +kernel) rfl (Nat.le_of_ble_eq_true rfl) rfl (fun X hX G Y E => ?_)
  subst hX
  obtain ⟨S, RD, PT, LF, DR⟩ := R.1
  obtain ⟨P, W⟩ := R.2.1
  have i1 := I.1
  have hn0 := i1.1
  have hn := S.1
  have w3 := W.2.2.1
  have w4 := W.2.2.2.1
  rcases hs : g.2.1.getLast? with _ | c
  · have l0 := last_no hs
    refine V_aload0 G dX6_undo_0 ?_
    refine V_getIe (jz := 10) G fl_X6_63 dX6_undo_1 (by first | decide | assumption) (by first | rfl | assumption) rfl rfl w3 ?_
    refine V_ifne G dX6_undo_4 (tgt := 17) (by decide) (by first | exact r _ _ | assumption | exact ⟨by omega, by omega⟩) (fun c_4 => ?_) (fun c_4 => ?_)
    · omega
    ·
      exact V_throw G Y th_ISE dX6_undo_7 dX6_undo_10 dX6_undo_11 dX6_undo_13 dX6_undo_16 (text := "no saved state") (by decide) ⟨rfl, Or.inl ⟨by unfold opUndo; rw [hs], rfl⟩⟩ (by omega) (by omega) (by omega)
  · obtain ⟨l0, l1⟩ := last_at hs
    have ic : okS c := I.2.1 c (List.mem_of_getLast? hs)
    obtain ⟨x, x1, x2⟩ := W.2.2.2.2 _ c l1
    have xm := W.1.mem_iff.mp (List.mem_of_getElem? x1)
    have xr := sv6_r x xm
    have w5 : hI (sI h 0 10 ((g.2.1.length : Int) - 1)) 0 10 = ((g.2.1.length - 1 : Nat) : Int) := by rw [hI_sI, if_pos ⟨rfl, rfl⟩]; omega
    have a1 : eqz SV noL h (sI h 0 10 ((g.2.1.length : Int) - 1)) := eqz.rf.st (by rfl)
    have W2 : SvC (sI h 0 10 ((g.2.1.length : Int) - 1)) P g.2.1.dropLast := by
      refine ⟨W.1, ⟨by rw [hI_sI, if_neg (by omega)]; exact W.2.1.1, W.2.1.2⟩, by rw [w5]; simp, by simp; omega, fun i e he => ?_⟩
      have il := (List.getElem?_eq_some_iff.mp he).1
      simp at il
      rw [List.getElem?_dropLast, if_pos (by omega)] at he
      obtain ⟨p, p1, p2⟩ := W.2.2.2.2 i e he
      have pr := sv6_r p (W.1.mem_iff.mp (List.mem_of_getElem? p1))
      exact ⟨p, p1, p2.eq (fun z j q => by rw [hI_sI, if_neg (by omega)])⟩
    refine V_aload0 G dX6_undo_0 ?_
    refine V_getIe (jz := 10) G fl_X6_63 dX6_undo_1 (by first | decide | assumption) (by first | rfl | assumption) rfl rfl w3 ?_
    refine V_ifne G dX6_undo_4 (tgt := 17) (by decide) (by first | exact r _ _ | assumption | exact ⟨by omega, by omega⟩) (fun c_4 => ?_) (fun c_4 => ?_)
    ·
      refine V_aload0 G dX6_undo_17 ?_
      refine V_dup G dX6_undo_18 rfl ?_
      refine V_getIe (jz := 10) G fl_X6_63 dX6_undo_19 (by first | decide | assumption) (by first | rfl | assumption) rfl rfl w3 ?_
      refine V_iconst G dX6_undo_22 ?_
      refine V_isub G dX6_undo_23 ?_
      refine V_putI (jz := 10) G fw_X6_63 dX6_undo_24 (by first | decide | assumption) (by first | rfl | assumption) rfl rfl ?_
      refine V_aload0 G dX6_undo_27 ?_
      refine V_getR G fl_X6_59 dX6_undo_28 (by first | decide | assumption) (by first | rfl | assumption) rfl (by first | rfl | assumption) ?_
      refine V_aload0 G dX6_undo_31 ?_
      refine V_getIe (jz := 10) G fl_X6_63 dX6_undo_32 (by first | decide | assumption) (by first | rfl | assumption) rfl rfl rfl ?_
      rw [w5]
      refine V_aload0 G dX6_undo_35 ?_
      refine V_getR G fl_X6_12 dX6_undo_36 (by first | decide | assumption) (by first | rfl | assumption) rfl (by first | rfl | assumption) ?_
      refine V_cV2v (d1 := 16) G m_X6_189 dX6_undo_39 (by first | decide | assumption) (by first | rfl | assumption) (c_X5_copyTo isSs_all.1 (r.sI ⟨by omega, by omega⟩) W2.2.1 x1 (sv6_st x xm) isSt_all.1 (by omega) (x2.eq (fun z j q => by rw [hI_sI, if_neg (by omega)])) ic.1) (by omega) (by omega) (by omega) (Nat.le_of_ble_eq_true rfl) (fun h_39 hp_39 => ?_)
      obtain ⟨d1, d2, d3⟩ := hp_39
      have b1 : eqx S13 (sI h 0 10 ((g.2.1.length : Int) - 1)) h_39 := d1.mono (fun a j q => by simp [S13] at q; simp [Sst]; omega)
      refine V_aload0 G dX6_undo_42 ?_
      refine V_cV0v (d1 := 23) G m_X6_192 dX6_undo_43 (by first | decide | assumption) (by first | rfl | assumption) (c_X6_tellReadings d2 ic d3 (zrk PT a1 b1)) (by omega) (by omega) (by omega) (Nat.le_of_ble_eq_true rfl) (fun h_43 hp_43 => ?_)
      obtain ⟨e1, e2, e3⟩ := hp_43
      have fs := fin_sen R a1 W2 b1 (e1.mono (fun a j q => by simp [SB1] at q; simp [SBd]; omega)) e3
      have w6 : hI h_43 0 10 = (g.2.1.length : Int) - 1 := by
        rw [e1.1 0 10 (by decide), b1.1 0 10 (by decide), w5]
        omega
      refine V_aload0 G dX6_undo_46 ?_
      refine V_getIe (jz := 10) G fl_X6_63 dX6_undo_47 (by first | decide | assumption) (by first | rfl | assumption) rfl rfl w6 ?_
      exact V_reti E dX6_undo_50 rfl rfl ⟨_, rfl, ⟨by unfold opUndo; rw [hs], by unfold opUndo; rw [hs], by unfold opUndo; rw [hs]; exact fs.1, e2, fs.2⟩⟩
    · omega

end C19
