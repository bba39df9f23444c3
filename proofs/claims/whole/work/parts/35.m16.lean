section M16

noncomputable def opDraw (g : Sg) (p : Int) : Rs :=
  if ¬ (0 ≤ p ∧ p < (lfS g.1).length) then (1, 0, g) else (0, hgtS g.1 (lfA (lfS g.1) p), (uC g.1 1 p, savL g.2.1 g.1, g.2.2))
/-- what doesn't look at the drawn one -/
theorem nS_u {c : Cs} {k v : Int} (h : k ≠ 0) : nS (uC c k v) = nS c := if_neg (Ne.symm h)
theorem kdS_u {c : Cs} {k v : Int} (h : k < 2 ∨ 14 ≤ k) {w : Int} (h1 : 0 ≤ w) (h2 : w < 12) : kdS (uC c k v) w = kdS c w := if_neg (by omega)
theorem fxS_u {c : Cs} {k v : Int} (h : k < 14) {w : Int} (h1 : 0 ≤ w) : fxS (uC c k v) w = fxS c w := if_neg (by omega)
theorem AS_u {c : Cs} {k v : Int} (hn : nS c ≤ 12) (h : k = 1 ∨ 14 ≤ k) : AS (uC c k v) = AS c := by
  unfold AS
  rw [nS_u (by omega)]
  exact rds_congr (fun w h1 h2 => kdS_u (by omega) h1 (by omega))
theorem lfS_u1 {c : Cs} {v : Int} (hn : nS c ≤ 12) : lfS (uC c 1 v) = lfS c := by
  unfold lfS
  rw [AS_u hn (Or.inl rfl), nS_u (by omega)]
  exact lfF_congr _ _ (fun j h1 h2 => fxS_congr (fun w w1 w2 => fxS_u (by omega) w1))
theorem okS_u1 {c : Cs} {v : Int} (I : okS c) (h0 : 0 ≤ v) (h1 : v < (lfS c).length) : okS (uC c 1 v) := by
  obtain ⟨i1, i2, i3, i4, i5⟩ := I
  refine ⟨by rw [nS_u (by omega)]; exact i1, fun w w1 w2 => ?_, fun w w1 w2 => by rw [fxS_u (by omega) w1]; exact i3 w w1 w2, ⟨?_, ?_⟩, fun w w1 w2 => ?_⟩
  · rw [nS_u (by omega)] at w2
    rw [kdS_u (by omega) w1 (by omega)]
    exact i2 w w1 w2
  · show 0 ≤ uC c 1 v 1
    unfold uC
    rw [if_pos rfl]
    exact h0
  · rw [lfS_u1 i1.2]
    refine Or.inr ?_
    show uC c 1 v 1 < _
    unfold uC
    rw [if_pos rfl]
    exact h1
  · rw [nS_u (by omega)] at w1
    have := i5 w w1 w2
    unfold uC
    rw [if_neg (by omega), if_neg (by omega)]
    exact this
theorem LaidM_u1 {c : Cs} {v : Int} {h h1 : Hp} (hn : nS c ≤ 12) (L : LaidM c h) (e : ∀ q j, q = 89 ∨ q = 90 ∨ q = 77 ∧ (j = 16 ∨ j = 18) → hI h1 q j = hI h q j) : LaidM (uC c 1 v) h1 := by
  unfold LaidM
  rw [AS_u hn (Or.inl rfl), lfS_u1 hn, nS_u (by omega)]
  exact ⟨(e 77 16 (by omega)).trans L.1, fun i f hi w q1 q2 => (e 89 _ (by omega)).trans (L.2.1 i f hi w q1 q2), (e 77 18 (by omega)).trans L.2.2.1, fun i z hi => (e 90 _ (by omega)).trans (L.2.2.2 i z hi)⟩
theorem hgtS_u1 {c : Cs} {v i : Int} (T : RdsOk) (I : okS c) (h1 : 0 ≤ i) (h2 : i < (AS c).length) : hgtS (uC c 1 v) i = hgtS c i := by
  obtain ⟨f, hf⟩ : ∃ f, (AS c)[i.toNat]? = some f := ⟨_, List.getElem?_eq_getElem (by omega)⟩
  have hq := rowA_at hf
  rw [show ((i.toNat : Nat) : Int) = i by omega] at hq
  obtain ⟨-, -, -, t4⟩ := T (kdS c) (nS c) I.1 I.2.1
  unfold hgtS
  rw [AS_u I.1.2 (Or.inl rfl), nS_u (by omega), hq]
  exact hgtF_congr (fun w w1 w2 => kdS_u (by omega) w1 (by have := I.1; omega)) (fun _ _ _ => rfl) (t4 f (List.mem_of_getElem? hf)).1
theorem RepM.u {g : Sg} {h : Hp} {k v : Int} (R : RepM g h) : RepM (uC g.1 k v, g.2) (sI h 78 k v) := R.cur (eqx.rf.st rfl) (fun j j1 j2 => by
  unfold uC
  rw [hI_sI]
  by_cases q : j = k
  · rw [if_pos ⟨rfl, q⟩, if_pos q]
  · rw [if_neg (fun z => q z.2), if_neg q]; exact R.at' j1 j2)

set_option maxRecDepth 100000 in
set_option maxHeartbeats 4000000 in
theorem c_X7_draw {l : Launch} {d : Nat} {h : Hp} (r : Rg h) {g : Sg} (T : RdsOk) (R : RepM g h) (I : okS g.1) (hl6 : g.2.1.length ≤ 6) {p : Int} (hp : inr p) (hd : 7 ≤ d := by omega) : CP l d 0 0 yX7_draw cX7_draw 2 (Option.some Jvm.ClassFile.FieldType.int) [.ref 77, iv p] h (pI fun x h1 => aft (opDraw g p) x h h1) := by
  refine CP.ofV (L := [some (.ref 77), some (.int (Int32.ofInt p))]) RX7 (by decide +kernel) rfl (Nat.le_of_ble_eq_true rfl) rfl (fun X hX G E => ?_)
  subst hX
  have r0 : Rg (sI h 77 0 0) := r.sI ⟨by decide, by decide⟩
  have R0 : RepM g (sI h 77 0 0) := R.thr
  have e0 : eqx SM h (sI h 77 0 0) := eqx.rf.st rfl
  have hn := R0.n
  have hn0 := I.1
  refine V_aload0 G dX7_draw_0 ?_
  refine V_iconst G dX7_draw_1 ?_
  refine V_putI (jz := 0) G fw_X7_68 dX7_draw_2 (by first | decide | assumption) (by first | rfl | assumption) rfl rfl ?_
  refine V_aload0 G dX7_draw_5 ?_
  refine V_cV0v (d1 := 6) G m_X7_187 dX7_draw_6 (by first | decide | assumption) (by first | rfl | assumption) (c_lays r0 T R0 hn0 I.2.1) (by omega) (by omega) (by omega) (Nat.le_of_ble_eq_true rfl) (fun h_6 hp_6 => ?_)
  obtain ⟨v1, v2, v3, v4⟩ := hp_6
  have e1 := e0.tr (Sl_SM v1)
  obtain ⟨w1, w2, w3⟩ := lfS_at T I v3
  have hA42 := AS_le T I
  have r := v2
  have v77 : hI h_6 77 0 = 0 := (v1.1 77 0 rfl).trans (by simp [hI_sI])
  refine V_iload1 G dX7_draw_9 ?_
  refine V_iconst G dX7_draw_10 ?_
  refine V_aload0 G dX7_draw_11 ?_
  refine V_getIe (jz := 18) G fl_X7_142 dX7_draw_12 (by first | decide | assumption) (by first | rfl | assumption) rfl rfl (by first | (simp only [hI_sI, hI_sL, hL_sI, hL_sL, false_and, true_and, and_false, and_true, and_self, if_false, if_true, w2]; first | done | rfl) | rfl) ?_
  refine V_iconst G dX7_draw_15 ?_
  refine V_isub G dX7_draw_16 ?_
  refine V_cS3i (d1 := 1) G m_X7_72 dX7_draw_17 (c_X7_in (v := p) (a := 0) (b := (lfS g.1).length - 1) hp ⟨by decide, by decide⟩ ⟨by omega, by omega⟩) (by omega) (by omega) (by omega) (Nat.le_of_ble_eq_true rfl) (fun x_17 h_17 hp_17 => ?_)
  rw [hp_17.1, hp_17.2]
  refine V_ifneB G dX7_draw_20 (tgt := 29) (by decide)  (fun c_20 => ?_) (fun c_20 => ?_)
  ·
    obtain ⟨w4, w5, w6⟩ := w3 p (by omega) (by omega)
    refine V_aload0 G dX7_draw_29 ?_
    refine V_cV0v (d1 := 1) G m_X7_193 dX7_draw_30 (by first | decide | assumption) (by first | rfl | assumption) (c_X7_saves v2 v4 hl6) (by omega) (by omega) (by omega) (Nat.le_of_ble_eq_true rfl) (fun h_30 hp_30 => ?_)
    obtain ⟨z1, z2, z3⟩ := hp_30
    have hn9 := z3.n
    dsimp only at hn9
    have r := z2
    have z77 : hI h_30 77 0 = 0 := (z1.1 77 0 rfl).trans v77
    refine V_aload0 G dX7_draw_33 ?_
    refine V_getR G fl_X7_7 dX7_draw_34 (by first | decide | assumption) (by first | rfl | assumption) rfl (by first | rfl | assumption) ?_
    refine V_iconst G dX7_draw_37 ?_
    refine V_iload1 G dX7_draw_38 ?_
    refine V_iast G dX7_draw_39 (by first | decide | assumption) (by first | rfl | assumption) (by decide) ⟨by omega, by omega⟩ ?_
    refine V_aload0 G dX7_draw_40 ?_
    refine V_aload0 G dX7_draw_41 ?_
    refine V_getR G fl_X7_47 dX7_draw_42 (by first | decide | assumption) (by first | rfl | assumption) rfl (by first | rfl | assumption) ?_
    refine V_iload1 G dX7_draw_45 ?_
    refine V_ialde G dX7_draw_46 (by first | decide | assumption) (by first | rfl | assumption) (by decide) ⟨by omega, by omega⟩ (show hI _ 90 p = lfA (lfS g.1) p from (z1.1 90 p rfl).trans w4) ?_
    refine V_cV1i (d1 := 5) G m_X7_208 dX7_draw_47 (by first | decide | assumption) (by first | rfl | assumption) (c_hgt (g := (uC g.1 1 p, savL g.2.1 g.1, g.2.2)) (z2.sI hp) T z3.u (okS_u1 I (by omega) (by omega)) (LaidM_u1 hn0.2 v3 (fun q j hq => by rw [hI_sI, if_neg (by omega)]; exact z1.1 q j (by simp; omega))) w5 (by show _ < ((AS (uC g.1 1 p)).length : Int); rw [AS_u hn0.2 (Or.inl rfl)]; exact w6)) (by omega) (by omega) (by omega) (Nat.le_of_ble_eq_true rfl) (fun x_47 h_47 hp_47 => ?_)
    rw [hp_47.1, hp_47.2]
    exact V_reti E dX7_draw_50 rfl rfl ⟨_, rfl, by
    unfold opDraw
    rw [if_neg (by omega)]
    exact ⟨e1.tr ((S79_SM z1).st rfl), z2.sI hp, z77, z3.u, fun _ => hgtS_u1 T I w5 w6⟩⟩
  ·
    refine V_aload0 G dX7_draw_23 ?_
    refine V_iconst G dX7_draw_24 ?_
    refine V_cV1i (d1 := 1) G m_X7_190 dX7_draw_25 (by first | decide | assumption) (by first | rfl | assumption) (c_X7_fails) (by omega) (by omega) (by omega) (Nat.le_of_ble_eq_true rfl) (fun x_25 h_25 hp_25 => ?_)
    rw [hp_25.1, hp_25.2]
    exact V_reti E dX7_draw_28 rfl rfl ⟨_, rfl, by unfold opDraw; rw [if_pos (by omega)]; exact aft_fail e1 v2 v4 (by decide) ⟨by decide, by decide⟩⟩

end M16
