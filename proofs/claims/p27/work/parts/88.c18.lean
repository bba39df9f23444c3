section C18

theorem S7_24 {a : Nat} {j : Int} (h : SB1 a j = false) : S7 24 a j = false := by simp [SB1] at h; simp [S7]; omega
theorem S7_31 {a : Nat} {j : Int} (h : (a < 31 ∨ 37 < a)) : S7 31 a j = false := by simp [S7]; omega
theorem LfC.u {h : Hp} {c : Cs} {v : Int} (L : LfC h c) (hn : nS c ≤ 12) : LfC h (uC c 1 v) := by
  unfold LfC
  rw [lfS_u1 hn]
  exact L
theorem lfk {h h1 h2 : Hp} {c : Cs} (L : LfC h c) (a : eqz SV noL h h1) (b : eqx S13 h1 h2) : LfC h2 c := L.eq ((b.1 0 4 (by decide)).trans (a.1 0 4 (by decide))) (fun j => (b.1 23 j (by rfl)).trans (a.1 23 j (by rfl)))
/-- a drawing is drawn anew: what else the cells hold stays -/
theorem body_drw {h2 h3 : Hp} {c : Cs} (S : StC h2 1 c) (R : RdC h2 4 c) (P : PtC h2 c) (L : LfC h2 c) (e : eqx (S7 24) h2 h3) (D : DrwC h3 c) : BodyC h3 c :=
  ⟨S.eq (fun z j q => e.1 z j (by simp [S7]; omega)), R.eq (e.1 4 1 (by decide)) (fun j => by rw [e.2.1]), P.eq (fun z j q => e.1 z j (by simp [S7]; omega)), L.eq (e.1 0 4 (by decide)) (fun j => e.1 23 j (by simp [S7])), D⟩
/-- what isn't looked at changes -/
theorem rep_oth {g : Sg} {h h1 : Hp} (R : RepC g h) (e : eqx (S7 31) h h1) : RepC g h1 ∧ eqC h h1 := by
  obtain ⟨P, W⟩ := R.2.1
  exact rep_done (c := g.1) (sv := g.2.1) R (e.z (fun a j q => S7_31 (by simp [SA] at q; omega))) (R.1.eq (fun z j q => e.1 z j (S7_31 (by omega))) (fun j => by rw [e.2.1])) ⟨P, W.eq (fun z j q => e.1 z j (S7_31 (by simp [SV] at q; omega))) (fun j => by rw [e.2.2])⟩
theorem st_u1 {h : Hp} {c : Cs} {p : Int} (S : StC h 1 c) (hn : nS c ≤ 12) : StC (sI h 1 3 p) 1 (uC c 1 p) := by
  refine ⟨?_, ?_, fun w w0 w1 => ?_, fun w w0 w1 => ?_⟩
  · rw [hI_sI, if_neg (by omega), nS_u (by omega)]; exact S.1
  · rw [hI_sI, if_pos ⟨rfl, rfl⟩]; unfold uC; rw [if_pos rfl]
  · rw [nS_u (by omega)] at w1
    rw [hI_sI, if_neg (by omega), kdS_u (by omega) w0 (by omega)]; exact S.2.2.1 w w0 w1
  · rw [hI_sI, if_neg (by omega), fxS_u (by omega) w0]; exact S.2.2.2 w w0 w1
theorem rep_bf {g : Sg} {h h1 : Hp} {bf : List Int} (R : RepC g h) (e : ∀ a j, a ≠ 76 → ¬ (a = 0 ∧ j = 14) → hI h1 a j = hI h a j) (eL : hL h1 = hL h) (eR : hR h1 = hR h) (B : BfC h1 bf) : RepC (g.1, g.2.1, g.2.2.1, g.2.2.2.1, bf) h1 ∧ eqC h h1 := by
  obtain ⟨P, W⟩ := R.2.1
  exact ⟨⟨R.1.eq (fun z j q => e z j (by omega) (by omega)) (fun j => by rw [eL]), ⟨P, W.eq (fun z j q => e z j (by simp [SV] at q; omega) (by simp [SV] at q; omega)) (fun j => by rw [eR])⟩, R.2.2.1.eq (fun z j q => e z j (by omega) (by omega)) (fun j => by rw [eR]), B⟩, fun a j q => e a j (by omega) (by omega), fun a j q => by rw [eL]⟩
theorem bf_push {h : Hp} {bf : List Int} (B : BfC h bf) (z : Int) : BfC (sI (sI h 76 bf.length z) 0 14 (bf.length + 1)) (bf ++ [z]) := by
  refine ⟨by rw [hI_sI, if_pos ⟨rfl, rfl⟩]; simp, fun i y hy => ?_⟩
  rw [hI_sI, if_neg (by omega), hI_sI]
  rcases list_snoc_at hy with ⟨q1, q2⟩ | ⟨q1, q2⟩
  · rw [if_neg (by omega)]; exact B.2 i y q2
  · rw [if_pos ⟨rfl, by omega⟩]; exact q2.symm

theorem lfr {c : Cs} {p : Int} (hp : 0 ≤ p ∧ p < (lfS c).length) : 0 ≤ lfA (lfS c) p ∧ lfA (lfS c) p < (AS c).length := by
  have hl : p.toNat < (lfS c).length := by omega
  have : lfA (lfS c) p ∈ lfS c := by
    unfold lfA
    rw [List.getElem?_eq_getElem hl]
    exact List.getElem_mem hl
  have := lfF_mem _ _ _ this
  omega

set_option maxRecDepth 100000 in
set_option maxHeartbeats 1600000 in
theorem c_X6_draw {l : Launch} {d : Nat} {h : Hp} (hlt : l.stackTraces = false) (r : Rg h) {g : Sg} (R : RepC g h) (I : InvS g) {p : Int} (hp : inr p) (hd : 36 ≤ d := by omega) : CX l d 2 12 yX6_draw cX6_draw 2 (Option.some Jvm.ClassFile.FieldType.int) [.ref 0, iv p] h (pI (opP (opDraw g p) h)) (opX (opDraw g p) IOB ISE h) := by
  refine CX.ofV (L := [some (.ref 0), some (.int (Int32.ofInt p))]) RX6 hlt (by decide +kernel) rfl (Nat.le_of_ble_eq_true rfl) rfl (fun X hX G Y E => ?_)
  subst hX
  obtain ⟨S, RD, PT, LF, DR⟩ := R.1
  obtain ⟨P, W⟩ := R.2.1
  have i1 := I.1
  have hn0 := i1.1
  have hn := S.1
  have ll := lfS_len i1
  refine V_aload0 G dX6_draw_0 ?_
  refine V_iload1 G dX6_draw_1 ?_
  refine V_xV1v (d1 := 13) (kc1 := 1) (ks1 := 6) G Y m_X6_127 dX6_draw_2 (by first | decide | assumption) (by first | rfl | assumption) (c_X6_needReading hlt hp LF.1 ⟨by omega, by omega⟩) (fun E h1 q => ⟨q.1, Or.inl ⟨by unfold opDraw; rw [if_pos q.2.2], q.2.1⟩⟩) (by omega) (by omega) (by omega) (Nat.le_of_ble_eq_true rfl) (fun h_2 hp_2 => ?_)
  obtain ⟨e_2, b_2⟩ := hp_2
  rw [e_2]
  refine V_aload0 G dX6_draw_5 ?_
  refine V_cV0v (d1 := 20) G m_X6_93 dX6_draw_6 (by first | decide | assumption) (by first | rfl | assumption) (c_X6_saveState r W S hn0) (by omega) (by omega) (by omega) (Nat.le_of_ble_eq_true rfl) (fun h_6 hp_6 => ?_)
  obtain ⟨a1, a2, P1, a3⟩ := hp_6
  have s1 := stkC S a1
  refine V_aload0 G dX6_draw_9 ?_
  refine V_getR G fl_X6_12 dX6_draw_10 (by first | decide | assumption) (by first | rfl | assumption) rfl (by first | rfl | assumption) ?_
  refine V_iload1 G dX6_draw_13 ?_
  refine V_cV1v (d1 := 1) G m_X6_130 dX6_draw_14 (by first | decide | assumption) (by first | rfl | assumption) (c_X4_setDrawn isSt_all.1 (v := p)) (by omega) (by omega) (by omega) (Nat.le_of_ble_eq_true rfl) (fun h_14 hp_14 => ?_)
  subst hp_14
  have b1 : eqx S13 h_6 (sI h_6 1 3 (p)) := eqx.rf.st (by rfl)
  have s2 := st_u1 (p := p) s1 hn0.2
  have r2 := (rdk RD a1 b1).u hn0.2 (Or.inl rfl) (v := p)
  have p2 := (ptk PT a1 b1).u hn0.2 (Or.inl rfl) (v := p)
  have l2 := (lfk LF a1 b1).u hn0.2 (v := p)
  refine V_aload0 G dX6_draw_17 ?_
  refine V_cV0v (d1 := 22) G m_X6_133 dX6_draw_18 (by first | decide | assumption) (by first | rfl | assumption) (c_X6_drawAgain (a2.sI ⟨by omega, by omega⟩) (okS_u1 i1 b_2.1 b_2.2) s2 r2 l2) (by omega) (by omega) (by omega) (Nat.le_of_ble_eq_true rfl) (fun h_18 hp_18 => ?_)
  obtain ⟨e1, e2, e3⟩ := hp_18
  have bd := body_drw s2 r2 p2 l2 e1 e3
  have fs := fin_sen R a1 a3 b1 (e1.w (L := L5) (fun _ _ => S7_24)) bd
  refine V_aload0 G dX6_draw_21 ?_
  refine V_getR G fl_X6_41 dX6_draw_22 (by first | decide | assumption) (by first | rfl | assumption) rfl (by first | rfl | assumption) ?_
  refine V_cV0i (d1 := 2) G m_X6_136 dX6_draw_25 (by first | decide | assumption) (by first | rfl | assumption) (c_X0_height isDr_all.1 (by rw [nS_u (by omega)]; exact hn0) (e3 (by
        rw [lfS_u1 hn0.2]
        intro q
        rw [q] at b_2
        simp at b_2
        omega))) (by omega) (by omega) (by omega) (Nat.le_of_ble_eq_true rfl) (fun x_25 h_25 hp_25 => ?_)
  obtain ⟨x0, x1⟩ := hp_25
  rw [x1]
  have hh : x_25 = hgtS g.1 (lfA (lfS g.1) p) := by
    rw [x0, ← hgtS_u1 (v := p) rds_ok i1 (lfr b_2).1 (lfr b_2).2]
    unfold hgtS drS
    rw [lfS_u1 hn0.2]
    have : uC g.1 1 p 1 = p := by unfold uC; rw [if_pos rfl]
    rw [this]
  have x3 := e2
  exact V_reti E dX6_draw_28 rfl rfl ⟨_, rfl, ⟨by unfold opDraw; rw [if_neg (fun q => q b_2)], by unfold opDraw; rw [if_neg (fun q => q b_2)]; exact hh, by unfold opDraw; rw [if_neg (fun q => q b_2)]; exact fs.1, x3, fs.2⟩⟩

set_option maxRecDepth 100000 in
set_option maxHeartbeats 1600000 in
theorem c_X6_flatten {l : Launch} {d : Nat} {h : Hp} (hlt : l.stackTraces = false) (r : Rg h) {g : Sg} (R : RepC g h) (I : InvS g) (hd : 36 ≤ d := by omega) : CX l d 2 12 yX6_flatten cX6_flatten 2 (Option.some Jvm.ClassFile.FieldType.int) [.ref 0] h (pI (opP (opFlat g) h)) (opX (opFlat g) ISE ISE h) := by
  refine CX.ofV (L := [some (.ref 0), none]) RX6 hlt (by decide +kernel) rfl (Nat.le_of_ble_eq_true rfl) rfl (fun X hX G Y E => ?_)
  subst hX
  obtain ⟨S, RD, PT, LF, DR⟩ := R.1
  obtain ⟨P, W⟩ := R.2.1
  have i1 := I.1
  have hn0 := i1.1
  have hn := S.1
  have ll := lfS_len i1
  refine V_aload0 G dX6_flatten_0 ?_
  refine V_getIe (jz := 4) G fl_X6_34 dX6_flatten_1 (by first | decide | assumption) (by first | rfl | assumption) rfl rfl LF.1 ?_
  refine V_ifne G dX6_flatten_4 (tgt := 17) (by decide) (by first | exact r _ _ | assumption | exact ⟨by omega, by omega⟩) (fun c_4 => ?_) (fun c_4 => ?_)
  ·
    refine V_aload0 G dX6_flatten_17 ?_
    refine V_cV0i (d1 := 22) G m_X6_141 dX6_flatten_18 (by first | decide | assumption) (by first | rfl | assumption) (c_X6_flattestRank r i1 R.1 (by omega)) (by omega) (by omega) (by omega) (Nat.le_of_ble_eq_true rfl) (fun x_18 h_18 hp_18 => ?_)
    obtain ⟨x0, y1, y2, y3, y4⟩ := hp_18
    have R0 := rep_oth R y3
    obtain ⟨S, RD, PT, LF, DR⟩ := R0.1.1
    obtain ⟨P, W⟩ := R0.1.2.1
    refine V_istore1 G dX6_flatten_21 rfl ?_
    refine V_aload0 G dX6_flatten_22 ?_
    refine V_cV0v (d1 := 20) G m_X6_93 dX6_flatten_23 (by first | decide | assumption) (by first | rfl | assumption) (c_X6_saveState y4 W S hn0) (by omega) (by omega) (by omega) (Nat.le_of_ble_eq_true rfl) (fun h_23 hp_23 => ?_)
    obtain ⟨a1, a2, P1, a3⟩ := hp_23
    have s1 := stkC S a1
    refine V_aload0 G dX6_flatten_26 ?_
    refine V_getR G fl_X6_12 dX6_flatten_27 (by first | decide | assumption) (by first | rfl | assumption) rfl (by first | rfl | assumption) ?_
    refine V_iload1 G dX6_flatten_30 ?_
    refine V_cV1v (d1 := 1) G m_X6_130 dX6_flatten_31 (by first | decide | assumption) (by first | rfl | assumption) (c_X4_setDrawn isSt_all.1 (v := x_18)) (by omega) (by omega) (by omega) (Nat.le_of_ble_eq_true rfl) (fun h_31 hp_31 => ?_)
    subst hp_31
    have b1 : eqx S13 h_23 (sI h_23 1 3 (x_18)) := eqx.rf.st (by rfl)
    have s2 := st_u1 (p := x_18) s1 hn0.2
    have r2 := (rdk RD a1 b1).u hn0.2 (Or.inl rfl) (v := x_18)
    have p2 := (ptk PT a1 b1).u hn0.2 (Or.inl rfl) (v := x_18)
    have l2 := (lfk LF a1 b1).u hn0.2 (v := x_18)
    refine V_aload0 G dX6_flatten_34 ?_
    refine V_cV0v (d1 := 22) G m_X6_133 dX6_flatten_35 (by first | decide | assumption) (by first | rfl | assumption) (c_X6_drawAgain (a2.sI ⟨by omega, by omega⟩) (okS_u1 i1 y1 y2) s2 r2 l2) (by omega) (by omega) (by omega) (Nat.le_of_ble_eq_true rfl) (fun h_35 hp_35 => ?_)
    obtain ⟨e1, e2, e3⟩ := hp_35
    have bd := body_drw s2 r2 p2 l2 e1 e3
    have fs := fin_sen R0.1 a1 a3 b1 (e1.w (L := L5) (fun _ _ => S7_24)) bd
    refine V_iload1 G dX6_flatten_38 ?_
    exact V_reti E dX6_flatten_39 rfl rfl ⟨_, rfl, ⟨by unfold opFlat; rw [if_neg (show ¬ (lfS g.1).length = 0 by omega)], by unfold opFlat; rw [if_neg (show ¬ (lfS g.1).length = 0 by omega)]; exact x0, by unfold opFlat; rw [if_neg (show ¬ (lfS g.1).length = 0 by omega), ← x0]; exact fs.1, e2, R0.2.tr fs.2⟩⟩
  ·
    exact V_throw G Y th_ISE dX6_flatten_7 dX6_flatten_10 dX6_flatten_11 dX6_flatten_13 dX6_flatten_16 (text := "no reading to flatten") (by decide) ⟨rfl, Or.inl ⟨by unfold opFlat; rw [if_pos (by omega)], rfl⟩⟩ (by omega) (by omega) (by omega)

end C18
