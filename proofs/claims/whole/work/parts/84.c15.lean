section C15

theorem va_ldcWS {p : Program} {l : Launch} {e : Env} {R : Room} {s : State} {m : MethodId} {args : Array Value} {below : List Frame} {meth : Method} {c : Code} {H : Heap} {locs : List Loc} {cells slots : Nat} {Q : State → Prop} {cc : ByteArray} {pc : Nat} {ls : Array Slot} {rest : List Value} (hexec : p.tables.exec = Jvm.exec) (hb : c.code = cc) {own tx : String} {index q : Nat} (hown : s.vm.findClass own = some m.cls) (hZ : vk_R own index tx q s) (hdg : decode cc pc = .ok (.ldc_w index, 3))
    (k : W p l e R s m args below meth c H locs cells slots Q (F0 m (pc + 3) ls (.ref q :: rest))) : W p l e R s m args below meth c H locs cells slots Q (F0 m pc ls rest) := by
  intro T hT X
  obtain ⟨t, a1, b1⟩ := k T hT X
  exact ⟨t, X.ldcStringW hexec hown (text := tx) (a := q) hZ.1 hZ.2 (g := F0 m pc ls rest) rfl (by rw [hb]; exact hdg) t a1, b1⟩
variable {X : Cxt} {own : String} {cc : ByteArray} {d kc ks k n pc : Nat} {ls : List (Option Value)} {st : List Value} {h : Hp}

theorem V_strlen (G : Gd X RX6 cc d kc ks) (hd1 : decode cc pc = .ok (.ldc_w 305, 3)) (hd2 : decode cc (pc + 3) = .ok (.invokevirtual 307, 3)) (hdd : 5 ≤ d) (hst : (st.map fun v => v.category).sum ≤ 8) (hk : k ≤ kc) (hn : n ≤ ks) (kk : V X k n (pc + 3 + 3) ls (.int (Int32.ofInt 7) :: st) h) : V X k n pc ls st h := by
  obtain ⟨p, l, e, R, s, m, args, below, meth, c, D, cA, A, Dp, Q, σ, nL⟩ := X
  obtain ⟨hx, hb, hml, hown, hts, hK, hadr, hA, hGE, hlk, hfr, hlo, hkc, hks⟩ := G
  intro H locs d0 lr g1 g2 g3 g4
  obtain ⟨a, b, hRf, hST⟩ := hGE.2.2.2.2.2.1
  have hst2 : ((st.map (vm σ)).map fun v => v.category).sum ≤ 8 := by
    rw [List.map_map, show ((fun v : Value => v.category) ∘ vm σ) = fun v => v.category from funext fun v => vm_cat]; exact hst
  refine va_ldcWS (s := s.setDrawn d0) (q := a) hx hb hown (vk_R.same (u := s) rfl hRf) hd1 ?_
  obtain ⟨wc, w1, w2, w3, w3g, w4, w5, w6, w7⟩ := mw_X6_307
  refine va_callG (va_runV (C := RJ0) (b := a) (As := []) (rest := st.map (vm σ)) (nL := nL) ⟨hx, hb, hml, hown, dr_words hts d0⟩ ((s_len (l := l) (d := 4) (a := a) (b := b) (by omega)) D cA σ H.size h) ⟨callB_of 0 (dr_words hts d0) (gi_tw w5) rfl rfl rfl (dr_words hts d0 _ w4) (dr_words hts d0 _ w1) w6 ⟨by show 4 + 1 ≤ R.frames; omega, by show 8 + (_ + 11) + 64 * 4 ≤ R.locals; omega⟩, dr_words hts d0 _ w2, dr_words hts d0 _ (tw_in w3 w3g)⟩ ⟨blind_PSd, vk_recv (s := s.setDrawn d0) (i := 0) hST (by decide) g3, fun U hU hW => ⟨rfl, by rw [hU], by rw [hU]; exact g2, va_K.moved hW.alike hK, adr_of hadr _ (fun _ _ => trivial), by rw [hU]; exact GE.pass hGE g3 (show s.WarmedH U.vm from hW) (fun q hq1 hq2 => by
    rcases hq2 with ⟨i, hi, rfl⟩ | hq2
    · exact hadr.2 i hi
    · omega), by rw [hU]; exact vk_S_nar (vk_S.moved (show s.vm.Alike U.vm from (show s.WarmedH U.vm from hW).alike) (hST.kept g3.2.1)) (fun q hq1 hq2 => by
    rcases hq2 with ⟨i, hi, rfl⟩ | hq2
    · exact hadr.2 i hi
    · omega)⟩⟩ rfl rfl g4.2.1 rfl (lv_room hst2) hd2 ⟨by omega, by omega⟩) g3 (fun q hq1 hq2 => by
      rcases hq2 with ⟨i, hi, rfl⟩ | hq2
      · exact hadr.2 i hi
      · omega) (fun q hq2 => by
      rcases hq2 with ⟨i, hi, rfl⟩ | hq2
      · exact hadr.2 i hi
      · exact hA q (Nat.le_trans g3.1 hq2)) (fun r1 h1 H1 locs1 hp hP1 hS1 => ?_)
  obtain ⟨rfl, rfl⟩ := hp
  exact kk H1 locs1 d0 lr g1 hP1 hS1 g4

theorem chr_k {l : Launch} {d a b : Nat} {k : Int} (h0 : 0 ≤ k) (h7 : k < 7) (hdd : 4 ≤ d) : SX l d yJ0_charAt_5068e cJ0_charAt_5068e 2 (Option.some Jvm.ClassFile.FieldType.char) a b [.ref a, iv k] (some (iv (letF k))) := by
  have hk : k = 0 ∨ k = 1 ∨ k = 2 ∨ k = 3 ∨ k = 4 ∨ k = 5 ∨ k = 6 := by omega
  rcases hk with rfl | rfl | rfl | rfl | rfl | rfl | rfl
  · exact s_chr (x := 110) (y := 110) (z := 110) (by decide) (by decide) (by unfold vp_in; decide) (by decide) (by decide) (by decide) rfl hdd
  · exact s_chr (x := 118) (y := 118) (z := 118) (by decide) (by decide) (by unfold vp_in; decide) (by decide) (by decide) (by decide) rfl hdd
  · exact s_chr (x := 97) (y := 97) (z := 97) (by decide) (by decide) (by unfold vp_in; decide) (by decide) (by decide) (by decide) rfl hdd
  · exact s_chr (x := 100) (y := 100) (z := 100) (by decide) (by decide) (by unfold vp_in; decide) (by decide) (by decide) (by decide) rfl hdd
  · exact s_chr (x := 112) (y := 112) (z := 112) (by decide) (by decide) (by unfold vp_in; decide) (by decide) (by decide) (by decide) rfl hdd
  · exact s_chr (x := 99) (y := 99) (z := 99) (by decide) (by decide) (by unfold vp_in; decide) (by decide) (by decide) (by decide) rfl hdd
  · exact s_chr (x := 116) (y := 116) (z := 116) (by decide) (by decide) (by unfold vp_in; decide) (by decide) (by decide) (by decide) rfl hdd
theorem V_strchar (G : Gd X RX6 cc d kc ks) {j : Fin 4} {i : Int} (hd1 : decode cc pc = .ok (.ldc_w 305, 3)) (hd3 : decode cc (pc + 3) = .ok (.iload_n j, 1)) (hl : ls[(j : Nat)]? = some (some (iv i))) (h0 : 0 ≤ i) (h7 : i < 7) (hd2 : decode cc (pc + 3 + 1) = .ok (.invokevirtual 312, 3)) (hdd : 5 ≤ d) (hst : (st.map fun v => v.category).sum ≤ 8) (hk : k ≤ kc) (hn : n ≤ ks) (kk : V X k n (pc + 3 + 1 + 3) ls (.int (Int32.ofInt (letF i)) :: st) h) : V X k n pc ls st h := by
  obtain ⟨p, l, e, R, s, m, args, below, meth, c, D, cA, A, Dp, Q, σ, nL⟩ := X
  obtain ⟨hx, hb, hml, hown, hts, hK, hadr, hA, hGE, hlk, hfr, hlo, hkc, hks⟩ := G
  intro H locs d0 lr g1 g2 g3 g4
  obtain ⟨a, b, hRf, hST⟩ := hGE.2.2.2.2.2.1
  have hst2 : ((st.map (vm σ)).map fun v => v.category).sum ≤ 8 := by
    rw [List.map_map, show ((fun v : Value => v.category) ∘ vm σ) = fun v => v.category from funext fun v => vm_cat]; exact hst
  refine va_ldcWS (s := s.setDrawn d0) (q := a) hx hb hown (vk_R.same (u := s) rfl hRf) hd1 ?_
  refine lv_iload_n hx hb hd3 rfl (lok_at (v := iv i) g4 hl) ?_
  obtain ⟨wc, w1, w2, w3, w3g, w4, w5, w6, w7⟩ := mw_X6_312
  refine va_callG (va_runV (C := RJ0) (b := a) (As := [iv i]) (rest := st.map (vm σ)) (nL := nL) ⟨hx, hb, hml, hown, dr_words hts d0⟩ ((chr_k (l := l) (d := 4) (a := a) (b := b) h0 h7 (by omega)) D cA σ H.size h) ⟨callB_of 1 (dr_words hts d0) (gi_tw w5) rfl rfl rfl (dr_words hts d0 _ w4) (dr_words hts d0 _ w1) w6 ⟨by show 4 + 1 ≤ R.frames; omega, by show 8 + (_ + 11) + 64 * 4 ≤ R.locals; omega⟩, dr_words hts d0 _ w2, dr_words hts d0 _ (tw_in w3 w3g)⟩ ⟨blind_PSd, vk_recv (s := s.setDrawn d0) (i := 0) hST (by decide) g3, fun U hU hW => ⟨rfl, by rw [hU], by rw [hU]; exact g2, va_K.moved hW.alike hK, adr_of hadr _ (fun _ _ => trivial), by rw [hU]; exact GE.pass hGE g3 (show s.WarmedH U.vm from hW) (fun q hq1 hq2 => by
    rcases hq2 with ⟨i, hi, rfl⟩ | hq2
    · exact hadr.2 i hi
    · omega), by rw [hU]; exact vk_S_nar (vk_S.moved (show s.vm.Alike U.vm from (show s.WarmedH U.vm from hW).alike) (hST.kept g3.2.1)) (fun q hq1 hq2 => by
    rcases hq2 with ⟨i, hi, rfl⟩ | hq2
    · exact hadr.2 i hi
    · omega)⟩⟩ rfl rfl g4.2.1 rfl (lv_room hst2) hd2 ⟨by omega, by omega⟩) g3 (fun q hq1 hq2 => by
      rcases hq2 with ⟨i, hi, rfl⟩ | hq2
      · exact hadr.2 i hi
      · omega) (fun q hq2 => by
      rcases hq2 with ⟨i, hi, rfl⟩ | hq2
      · exact hadr.2 i hi
      · exact hA q (Nat.le_trans g3.1 hq2)) (fun r1 h1 H1 locs1 hp hP1 hS1 => ?_)
  obtain ⟨rfl, rfl⟩ := hp
  exact kk H1 locs1 d0 lr g1 hP1 hS1 g4

theorem knF_let {k : Int} (h0 : 0 ≤ k) (h7 : k < 7) : knF (letF k) = k := by
  have hk : k = 0 ∨ k = 1 ∨ k = 2 ∨ k = 3 ∨ k = 4 ∨ k = 5 ∨ k = 6 := by omega
  rcases hk with rfl | rfl | rfl | rfl | rfl | rfl | rfl <;> decide
theorem knF_no {z : Int} (h : ∀ j, 0 ≤ j → j < 7 → letF j ≠ z) : knF z = -1 := by
  have h0 := h 0 (by decide) (by decide)
  have h1 := h 1 (by decide) (by decide)
  have h2 := h 2 (by decide) (by decide)
  have h3 := h 3 (by decide) (by decide)
  have h4 := h 4 (by decide) (by decide)
  have h5 := h 5 (by decide) (by decide)
  have h6 := h 6 (by decide) (by decide)
  simp [letF] at h0 h1 h2 h3 h4 h5 h6
  unfold knF
  split
  · omega
  split
  · omega
  split
  · omega
  split
  · omega
  split
  · omega
  split
  · omega
  split
  · omega
  rfl

set_option maxRecDepth 100000 in
set_option maxHeartbeats 800000 in
theorem c_X6_letterOfKind {l : Launch} {d : Nat} {h : Hp} {i : Int} (hi : 0 ≤ i ∧ i ≤ 6) (hd : 6 ≤ d := by omega) : CP l d 0 0 yX6_letterOfKind cX6_letterOfKind 1 (Option.some Jvm.ClassFile.FieldType.int) [iv i] h (pI fun x h1 => x = letF i ∧ h1 = h) := by
  refine CP.ofV (L := [some (.int (Int32.ofInt i))]) RX6 (by decide +kernel) rfl (Nat.le_of_ble_eq_true rfl) rfl (fun X hX G E => ?_)
  subst hX
  refine V_iload0 G dX6_letterOfKind_0 ?_
  refine V_iflt G dX6_letterOfKind_1 (tgt := 24) (by decide) (by first | exact r _ _ | assumption | exact ⟨by omega, by omega⟩) (fun c_1 => ?_) (fun c_1 => ?_)
  · omega
  ·
    refine V_iload0 G dX6_letterOfKind_4 ?_
    refine V_strlen G dX6_letterOfKind_5 dX6_letterOfKind_8 (by omega) (Nat.le_of_ble_eq_true rfl) (by omega) (by omega) ?_
    refine V_icmpge G dX6_letterOfKind_11 (tgt := 24) (by decide) (by first | exact r _ _ | assumption | exact ⟨by omega, by omega⟩) (by first | exact r _ _ | assumption | exact ⟨by omega, by omega⟩) (fun c_11 => ?_) (fun c_11 => ?_)
    · omega
    ·
      refine V_strchar G dX6_letterOfKind_14 dX6_letterOfKind_17 rfl (by omega) (by omega) dX6_letterOfKind_18 (by omega) (Nat.le_of_ble_eq_true rfl) (by omega) (by omega) ?_
      refine V_goto G dX6_letterOfKind_21 (tgt := 25) (by decide) ?_
      exact V_reti E dX6_letterOfKind_25 rfl rfl ⟨_, rfl, ⟨rfl, rfl⟩⟩

set_option maxRecDepth 100000 in
set_option maxHeartbeats 800000 in
theorem c_X6_kindOfLetter {l : Launch} {d : Nat} {h : Hp} {z : Int} (hz : inr z) (hd : 6 ≤ d := by omega) : CP l d 0 0 yX6_kindOfLetter cX6_kindOfLetter 2 (Option.some Jvm.ClassFile.FieldType.int) [iv z] h (pI fun x h1 => x = knF z ∧ h1 = h) := by
  refine CP.ofV (L := [some (.int (Int32.ofInt z)), none]) RX6 (by decide +kernel) rfl (Nat.le_of_ble_eq_true rfl) rfl (fun X hX G E => ?_)
  subst hX
  have lr : ∀ k, inr (letF k) := fun k => ⟨by have := letF_r k; omega, by have := letF_r k; omega⟩
  have lp : ∀ (m : Nat) (k : Int), k + m = 7 → 0 ≤ k → (∀ j, 0 ≤ j → j < k → letF j ≠ z) → V X 0 0 2 [some (iv z), some (iv k)] [] h := by
    intro m
    induction m with
    | zero =>
      intro k hm hk hj
      have e : k = 7 := by omega
      subst e
      refine V_iload1 G dX6_kindOfLetter_2 ?_
      refine V_strlen G dX6_kindOfLetter_3 dX6_kindOfLetter_6 (by omega) (Nat.le_of_ble_eq_true rfl) (by omega) (by omega) ?_
      refine V_icmpge G dX6_kindOfLetter_9 (tgt := 31) (by decide) (by first | exact r _ _ | assumption | exact ⟨by omega, by omega⟩) (by first | exact r _ _ | assumption | exact ⟨by omega, by omega⟩) (fun c_9 => ?_) (fun c_9 => ?_)
      ·
        refine V_iconst G dX6_kindOfLetter_31 ?_
        exact V_reti E dX6_kindOfLetter_32 rfl rfl ⟨_, rfl, ⟨(knF_no hj).symm, rfl⟩⟩
      · omega
    | succ m ih =>
      intro k hm hk hj
      refine V_iload1 G dX6_kindOfLetter_2 ?_
      refine V_strlen G dX6_kindOfLetter_3 dX6_kindOfLetter_6 (by omega) (Nat.le_of_ble_eq_true rfl) (by omega) (by omega) ?_
      refine V_icmpge G dX6_kindOfLetter_9 (tgt := 31) (by decide) (by first | exact r _ _ | assumption | exact ⟨by omega, by omega⟩) (by first | exact r _ _ | assumption | exact ⟨by omega, by omega⟩) (fun c_9 => ?_) (fun c_9 => ?_)
      · omega
      ·
        refine V_strchar G dX6_kindOfLetter_12 dX6_kindOfLetter_15 rfl (by omega) (by omega) dX6_kindOfLetter_16 (by omega) (Nat.le_of_ble_eq_true rfl) (by omega) (by omega) ?_
        refine V_iload0 G dX6_kindOfLetter_19 ?_
        refine V_icmpne G dX6_kindOfLetter_20 (tgt := 25) (by decide) (lr _) hz (fun c_20 => ?_) (fun c_20 => ?_)
        ·
          refine V_iinc1 G dX6_kindOfLetter_25 rfl ?_
          refine V_goto G dX6_kindOfLetter_28 (tgt := 2) (by decide) ?_
          exact ih (k + 1) (by omega) (by omega) (fun j j0 j1 => by
            by_cases e : j = k
            · rw [e]; exact c_20
            · exact hj j j0 (by omega))
        ·
          refine V_iload1 G dX6_kindOfLetter_23 ?_
          exact V_reti E dX6_kindOfLetter_24 rfl rfl ⟨_, rfl, ⟨by rw [← c_20]; exact (knF_let hk (by omega)).symm, rfl⟩⟩
  refine V_iconst G dX6_kindOfLetter_0 ?_
  refine V_istore1 G dX6_kindOfLetter_1 rfl ?_
  exact lp 7 0 (by omega) (by omega) (fun j j0 j1 => by omega)


/-- the buffer's cells -/
def BfC (h : Hp) (bf : List Int) : Prop := hI h 0 14 = bf.length ∧ (∀ (i : Nat) (z : Int), bf[i]? = some z → hI h 76 (i : Int) = z)
theorem BfC.eq {h h1 : Hp} {bf : List Int} (a : BfC h bf) (e0 : hI h1 0 14 = hI h 0 14) (e : ∀ j, hI h1 76 j = hI h 76 j) : BfC h1 bf := ⟨e0.trans a.1, fun i z hz => (e _).trans (a.2 i z hz)⟩
theorem BfC.at {h : Hp} {bf : List Int} (a : BfC h bf) {k : Int} (h0 : 0 ≤ k) (h1 : k < bf.length) : hI h 76 k = bfA bf k := by
  have hl : k.toNat < bf.length := by omega
  have := a.2 k.toNat _ (List.getElem?_eq_getElem hl)
  rw [show ((k.toNat : Nat) : Int) = k by omega] at this
  rw [this]
  unfold bfA
  rw [List.getElem?_eq_getElem hl]
  rfl
theorem knF_rr {z : Int} : -1 ≤ knF z ∧ knF z ≤ 6 := by
  unfold knF
  constructor
  · repeat' split
    all_goals omega
  · repeat' split
    all_goals omega

set_option maxRecDepth 100000 in
set_option maxHeartbeats 800000 in
theorem c_X6_errorIndex {l : Launch} {d : Nat} {h : Hp} (r : Rg h) {bf : List Int} (B : BfC h bf) (h20 : bf.length ≤ 20) (hd : 8 ≤ d := by omega) : CP l d 0 0 yX6_errorIndex cX6_errorIndex 2 (Option.some Jvm.ClassFile.FieldType.int) [.ref 0] h (pI fun x h1 => x = erS bf ∧ h1 = h) := by
  refine CP.ofV (L := [some (.ref 0), none]) RX6 (by decide +kernel) rfl (Nat.le_of_ble_eq_true rfl) rfl (fun X hX G E => ?_)
  subst hX
  have hb0 := B.1
  have lp : ∀ (m : Nat) (k : Int), k + m = 12 → 0 ≤ k → k ≤ bf.length → erF (bfA bf) bf.length m k = erS bf → V X 0 0 2 [some (.ref 0), some (iv k)] [] h := by
    intro m
    induction m with
    | zero =>
      intro k hm hk hl he
      refine V_iload1 G dX6_errorIndex_2 ?_
      refine V_aload0 G dX6_errorIndex_3 ?_
      refine V_getIe (jz := 14) G fl_X6_76 dX6_errorIndex_4 (by first | decide | assumption) (by first | rfl | assumption) rfl rfl (by first | (simp only [hI_sI, hI_sL, hL_sI, hL_sL, false_and, true_and, and_false, and_true, and_self, if_false, if_true]; first | done | rfl) | rfl) ?_
      rw [hb0]
      refine V_icmpge G dX6_errorIndex_7 (tgt := 36) (by decide) (by first | exact r _ _ | assumption | exact ⟨by omega, by omega⟩) (by first | exact r _ _ | assumption | exact ⟨by omega, by omega⟩) (fun c_7 => ?_) (fun c_7 => ?_)
      ·
        refine V_aload0 G dX6_errorIndex_36 ?_
        refine V_getIe (jz := 14) G fl_X6_76 dX6_errorIndex_37 (by first | decide | assumption) (by first | rfl | assumption) rfl rfl (by first | (simp only [hI_sI, hI_sL, hL_sI, hL_sL, false_and, true_and, and_false, and_true, and_self, if_false, if_true]; first | done | rfl) | rfl) ?_
        rw [hb0]
        exact V_reti E dX6_errorIndex_40 rfl rfl ⟨_, rfl, ⟨by rw [← he, erF]; omega, rfl⟩⟩
      ·
        refine V_iload1 G dX6_errorIndex_10 ?_
        refine V_bipush G dX6_errorIndex_11 (by decide) ?_
        refine V_icmpge G dX6_errorIndex_13 (tgt := 28) (by decide) (by first | exact r _ _ | assumption | exact ⟨by omega, by omega⟩) (by first | exact r _ _ | assumption | exact ⟨by omega, by omega⟩) (fun c_13 => ?_) (fun c_13 => ?_)
        ·
          refine V_iload1 G dX6_errorIndex_28 ?_
          exact V_reti E dX6_errorIndex_29 rfl rfl ⟨_, rfl, ⟨by rw [← he, erF], rfl⟩⟩
        · omega
    | succ m ih =>
      intro k hm hk hl he
      refine V_iload1 G dX6_errorIndex_2 ?_
      refine V_aload0 G dX6_errorIndex_3 ?_
      refine V_getIe (jz := 14) G fl_X6_76 dX6_errorIndex_4 (by first | decide | assumption) (by first | rfl | assumption) rfl rfl (by first | (simp only [hI_sI, hI_sL, hL_sI, hL_sL, false_and, true_and, and_false, and_true, and_self, if_false, if_true]; first | done | rfl) | rfl) ?_
      rw [hb0]
      refine V_icmpge G dX6_errorIndex_7 (tgt := 36) (by decide) (by first | exact r _ _ | assumption | exact ⟨by omega, by omega⟩) (by first | exact r _ _ | assumption | exact ⟨by omega, by omega⟩) (fun c_7 => ?_) (fun c_7 => ?_)
      ·
        refine V_aload0 G dX6_errorIndex_36 ?_
        refine V_getIe (jz := 14) G fl_X6_76 dX6_errorIndex_37 (by first | decide | assumption) (by first | rfl | assumption) rfl rfl (by first | (simp only [hI_sI, hI_sL, hL_sI, hL_sL, false_and, true_and, and_false, and_true, and_self, if_false, if_true]; first | done | rfl) | rfl) ?_
        rw [hb0]
        exact V_reti E dX6_errorIndex_40 rfl rfl ⟨_, rfl, ⟨by rw [← he, erF, if_neg (by omega)]; omega, rfl⟩⟩
      ·
        refine V_iload1 G dX6_errorIndex_10 ?_
        refine V_bipush G dX6_errorIndex_11 (by decide) ?_
        refine V_icmpge G dX6_errorIndex_13 (tgt := 28) (by decide) (by first | exact r _ _ | assumption | exact ⟨by omega, by omega⟩) (by first | exact r _ _ | assumption | exact ⟨by omega, by omega⟩) (fun c_13 => ?_) (fun c_13 => ?_)
        · omega
        ·
          refine V_aload0 G dX6_errorIndex_16 ?_
          refine V_iload1 G dX6_errorIndex_17 ?_
          refine V_cV1i (d1 := 1) G m_X6_162 dX6_errorIndex_18 (by first | decide | assumption) (by first | rfl | assumption) (c_X6_codeAt (w := k) (by omega)) (by omega) (by omega) (by omega) (Nat.le_of_ble_eq_true rfl) (fun x_18 h_18 hp_18 => ?_)
          rw [hp_18.1, hp_18.2]
          have cr : inr (hI h 76 k) := r _ _
          have kr := @knF_rr (hI h 76 k)
          refine V_cS1i (d1 := 6) G m_X6_166 dX6_errorIndex_21 (c_X6_kindOfLetter cr) (by omega) (by omega) (by omega) (Nat.le_of_ble_eq_true rfl) (fun x_21 h_21 hp_21 => ?_)
          rw [hp_21.1, hp_21.2]
          refine V_iconst G dX6_errorIndex_24 ?_
          refine V_icmpne G dX6_errorIndex_25 (tgt := 30) (by decide) (by first | exact r _ _ | assumption | exact ⟨by omega, by omega⟩) (by first | exact r _ _ | assumption | exact ⟨by omega, by omega⟩) (fun c_25 => ?_) (fun c_25 => ?_)
          ·
            have bk := B.at hk (by omega)
            refine V_iinc1 G dX6_errorIndex_30 rfl ?_
            refine V_goto G dX6_errorIndex_33 (tgt := 2) (by decide) ?_
            exact ih (k + 1) (by omega) (by omega) (by omega) (by
              rw [← he]
              conv => rhs; rw [erF]
              rw [if_pos ⟨by omega, by omega, by rw [← bk]; exact c_25⟩])
          ·
            have bk := B.at hk (by omega)
            refine V_iload1 G dX6_errorIndex_28 ?_
            exact V_reti E dX6_errorIndex_29 rfl rfl ⟨_, rfl, ⟨by rw [← he, erF, if_neg (fun q => q.2.2 (by rw [← bk]; exact c_25))], rfl⟩⟩
  refine V_iconst G dX6_errorIndex_0 ?_
  refine V_istore1 G dX6_errorIndex_1 rfl ?_
  exact lp 12 0 (by omega) (by omega) (by omega) rfl

end C15
