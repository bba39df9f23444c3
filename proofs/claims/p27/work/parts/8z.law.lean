section L4
theorem lcmp_self (v : Int64) : lg_cmp v v = 0 := by simp [lg_cmp]
/-- the law's script, at place 98 -/
def SC (X : Cxt) (L : Nat) (xs : Nat → Int32) : Prop := match X with
  | (p, l, e, R, s, m, args, below, meth, c, D, cA, A, Dp, Q, σ, nL) => ∃ b, σ 98 = b ∧ b < s.heap.size ∧ ¬ A b ∧ va_X b L xs s s.heap
def PCx (b L : Nat) (xs : Nat → Int32) (av : List Value) : Array Value → State → Prop := va_Pc av (fun U => b < U.heap.size ∧ va_X b L xs U U.heap)
def QCx : Array Value → State → Outcome → State → Prop := fun _ st oc t => ∃ x : Int32, oc = .returned (some (.int x)) ∧ t.heap = st.heap
theorem blind_PCx {b L : Nat} {xs : Nat → Int32} {av : List Value} : FrameBlind (PCx b L xs av) := by
  intro a U g mk q
  obtain ⟨q0, q1, q2⟩ := q
  exact ⟨q0, q1, va_X.moved (u := U) (U := U.calling g mk a) (Vm.Alike.refl U.vm) q2⟩
set_option maxHeartbeats 4000000 in
theorem c_cell {l : Launch} {b L : Nat} {xs : Nat → Int32} {z : Int} (hz : 0 ≤ z ∧ z ≤ 100) (hL : L ≤ 5000) : Met l yL_cell (Cond.code yL_cell cL_cell 2 (Option.some Jvm.ClassFile.FieldType.int) :: tw) (rmm 1 0 0) (PCx b L xs [.ref b, .int (Int32.ofInt z)]) QCx 0 0 (fun _ => False) := by
  refine Met.ofW (cc := cL_cell) (maxL := 2) (ret := Option.some Jvm.ClassFile.FieldType.int) (by decide +kernel) rfl ?_
  intro p e s m args below meth c s₁ B hml hv
  obtain ⟨rfl, hb2, hX⟩ := hv
  have hts0 := atoms_spec (ws := Cond.code yL_cell cL_cell 2 (Option.some Jvm.ClassFile.FieldType.int) :: tw) B.pre
  have hlocks := B.notSynchronized
  have hret := B.returns
  have hx := B.exec
  have hb := B.bytes
  rw [lg_entry_eq]
  have hl := lok_entry (σ := fun q => q) (vs := [Value.ref b, .int (Int32.ofInt z)]) (nL := 2) (L := [some (.ref b), some (.int (Int32.ofInt z))]) rfl (Nat.le_of_ble_eq_true rfl)
  rw [vm_id] at hl
  have h0 := lok_at (i := 0) (v := .ref b) hl rfl
  have h1 := lok_at (i := 1) (v := .int (Int32.ofInt z)) hl rfl
  have hS : va_S (fun q => s.heap.size ≤ q) s.heap s.heap [] := va_S.rf
  have fin : ∀ x : Int32, W p l e (headSpec (Cond.code yL_cell cL_cell 2 (Option.some Jvm.ClassFile.FieldType.int) :: tw) (rmm 1 0 0)).room s m ([Value.ref b, .int (Int32.ofInt z)] : List Value).toArray below meth c s.heap [] 0 0 (MQ below QCx ([Value.ref b, .int (Int32.ofInt z)] : List Value).toArray s 0 0 (fun _ => False)) (F0 m 24 ((lg_sl [Value.ref b, .int (Int32.ofInt z)] ++ List.replicate (2 - (lg_sl [Value.ref b, .int (Int32.ofInt z)]).length) Slot.unset).toArray) [.int x]) := fun x =>
    W.zret hx hb hret rfl (fun t ht _ => ⟨x, rfl, ht⟩) (fun q hq => by cases hq) dL_cell_24 hlocks
  refine lv_iload_n (i := 1) hx hb dL_cell_0 rfl h1 ?_
  refine lv_aload_n (i := 0) hx hb dL_cell_1 rfl h0 ?_
  refine va_slen (H0 := s.heap) (A := fun q => s.heap.size ≤ q) hx hb hX hb2 (Nat.not_le.mpr hb2) hS dL_cell_2 ?_
  refine lv_icmp_ge hx hb dL_cell_3 (tgt := 12) (by decide) (fun q => ?_) (fun q => ?_)
  · refine lv_sipush hx hb dL_cell_12 rfl ?_
    refine lv_iload_n (i := 1) hx hb dL_cell_15 rfl h1 ?_
    refine lv_iconst hx hb dL_cell_16 rfl ?_
    refine lv_iadd hx hb dL_cell_17 ?_
    refine lv_imul hx hb dL_cell_18 ?_
    refine lv_iload_n (i := 1) hx hb dL_cell_19 rfl h1 ?_
    refine lv_bipush hx hb dL_cell_20 rfl ?_
    refine lv_iadd hx hb dL_cell_22 ?_
    refine lv_imul hx hb dL_cell_23 ?_
    exact fin _
  · have hin : 0 ≤ z ∧ z < L := by
      refine ⟨hz.1, ?_⟩
      apply Classical.byContradiction
      intro h
      apply q
      rw [← Int32.ofInt_eq_ofNat, show z = ((z.toNat : Nat) : Int) by omega]
      exact (i32_le (by omega) hL).mpr (by omega)
    refine lv_aload_n (i := 0) hx hb dL_cell_6 rfl h0 ?_
    refine lv_iload_n (i := 1) hx hb dL_cell_7 rfl h1 ?_
    refine va_sld (H0 := s.heap) (A := fun q => s.heap.size ≤ q) hx hb hX hb2 (Nat.not_le.mpr hb2) hS (zi_in hin hL) dL_cell_8 ?_
    refine lv_goto hx hb dL_cell_9 (tgt := 24) (by decide) ?_
    exact fin _
variable {X : Cxt} {cc : ByteArray} {d kc ks k n pc : Nat} {ls : List (Option Value)} {st : List Value} {h : Hp}
theorem Q_cell (G : Gd X RL cc d kc ks) {L : Nat} {xs : Nat → Int32} (Y : SC X L xs) (hL : L ≤ 5000) {z : Int} (hz : 0 ≤ z ∧ z ≤ 100) (hd : decode cc pc = .ok (.invokestatic 66, 3)) (hdd : 2 ≤ d) (hk : k ≤ kc) (hn : n ≤ ks) (hst : (st.map fun v => v.category).sum ≤ 8) (kk : ∀ x : Int, inr x → V X k n (pc + 3) ls (.int (Int32.ofInt x) :: st) h) : V X k n pc ls (.int (Int32.ofInt z) :: .ref 98 :: st) h := by
  obtain ⟨p, l, e, R, s, m, args, below, meth, c, D, cA, A, Dp, Q, σ, nL⟩ := X
  obtain ⟨hx, hb, hml, hown, hts, hK, hadr, hA, hGE, hlk, hfr, hlo, hkc, hks⟩ := G
  intro H locs d0 lr g1 g2 g3 g4
  obtain ⟨b, y1, y2, y3, y4⟩ := Y
  obtain ⟨w1, w2, w4, w5, w6, w7⟩ := m_L_66
  have hst2 : ((st.map (vm σ)).map fun v => v.category).sum ≤ 8 := by
    rw [List.map_map, show ((fun v : Value => v.category) ∘ vm σ) = fun v => v.category from funext fun v => vm_cat]; exact hst
  show W p l e R _ m args below meth c H locs k n Q (F0 m pc lr (.int (Int32.ofInt z) :: .ref (σ 98) :: st.map (vm σ)))
  rw [y1]
  have hHb : H[b]? = s.heap[b]? := g3.2.1 b y2 y3
  have hr := va_runS (cells := k) (slots := n) (locs := locs) (below := below) (p := p) (e := e) (meth := meth) (H := H) (As := [.ref b, .int (Int32.ofInt z)]) (rest := st.map (vm σ)) (nL := nL) (g := F0 m pc lr (.int (Int32.ofInt z) :: .ref b :: st.map (vm σ))) (s := s.setDrawn d0) (c := c) (m := m) (R := R) (args := args) ⟨hx, hb, hml, hown, dr_words hts d0⟩ (c_cell (l := l) (b := b) (L := L) (xs := xs) hz hL) ⟨callB_of 2 (dr_words hts d0) (gi_tw w5) rfl rfl rfl (dr_words hts d0 _ w4) (dr_words hts d0 _ w1) w6 ⟨by show 1 + 1 ≤ R.frames; omega, by show 8 + (2 + 11) + 64 * 1 ≤ R.locals; omega⟩, dr_words hts d0 _ w2⟩ ⟨blind_PCx, fun U hU hW => ⟨rfl, by rw [hU]; exact Nat.lt_of_lt_of_le y2 g3.1, va_X.moved hW.alike (by rw [hU]; exact va_X.kept y4 hHb)⟩⟩ rfl rfl g4.2.1 rfl (lv_room hst2) hd ⟨by omega, by omega⟩
  intro T hT X0
  obtain ⟨v, st₀, t, T', L2, h0, X', hL2, e1, e2, ⟨x, hv, hp⟩, stp⟩ := hr T hT X0
  cases hv
  have hTH : T'.heap = H := by rw [e1, hp, h0]
  obtain ⟨t2, a1, b1⟩ := kk x.toInt (i32_inr x) H (locs ++ L2) d0 lr g1 g2 ⟨g3.1, g3.2.1, fun q hq => by
    rcases List.mem_append.mp hq with hq | hq
    · exact g3.2.2 q hq
    · exact absurd (hL2 q hq) id⟩ g4 T' hTH X'
  rw [Int32.ofInt_toInt] at a1
  exact ⟨t2, stp t2 a1, b1⟩
/-- what a call that can be undone does -/
def opS (o : Rs) (g : Sg) : Prop := o.1 = 0 ∧ (0 ≤ o.2.1 ∧ o.2.1 ≤ 100) ∧ InvS o.2.2 ∧ o.2.2.2.1 = savL g.2.1 g.1 ∧ o.2.2.2.2 = g.2.2
variable {g : Sg}
theorem len_b {L : Nat} (h : L ≤ 42) : 0 ≤ (L : Int) ∧ (L : Int) ≤ 100 := by omega
theorem ch_S (I : InvS g) {w p : Int} (hw : 0 ≤ w ∧ w < nS g.1) (hp : 0 ≤ p ∧ p ≤ 6) : opS (opChange g w p) g := by
  have e : opChange g w p = (0, ((AS (begS (uC g.1 (2 + w) p))).length : Int), (begS (uC g.1 (2 + w) p), savL g.2.1 g.1, g.2.2)) := by
    unfold opChange
    rw [if_neg (fun z => z hw), if_neg (fun z => z hp)]
  have i := inv_opChange I w p
  rw [e] at i ⊢
  exact ⟨rfl, len_b (rds_len i.1), i, rfl, rfl⟩
theorem wi_S (I : InvS g) {w : Int} (hw : 0 ≤ w ∧ w < nS g.1) : opS (opWipe g w) g := by
  have e : opWipe g w = (0, ((AS (begS (wipeC g.1 w))).length : Int), (begS (wipeC g.1 w), savL g.2.1 g.1, g.2.2)) := by
    unfold opWipe
    rw [if_neg (fun z => z hw)]
  have i := inv_opWipe I w
  rw [e] at i ⊢
  exact ⟨rfl, len_b (rds_len i.1), i, rfl, rfl⟩
theorem lo_S (I : InvS g) {w : Int} (hw : 0 ≤ w ∧ w < nS g.1) : opS (opLoosen g w) g := by
  have e : opLoosen g w = (0, ((lfS (uC (uC g.1 (14 + w) 0) 1 0)).length : Int), (uC (uC g.1 (14 + w) 0) 1 0, savL g.2.1 g.1, g.2.2)) := by
    unfold opLoosen
    rw [if_neg (fun z => z hw)]
  have i := inv_opLoosen I w
  rw [e] at i ⊢
  exact ⟨rfl, len_b (lfS_len i.1), i, rfl, rfl⟩
theorem dr_S (I : InvS g) {p : Int} (hp : 0 ≤ p ∧ p < (lfS g.1).length) : opS (opDraw g p) g := by
  have e : opDraw g p = (0, hgtS g.1 (lfA (lfS g.1) p), (uC g.1 1 p, savL g.2.1 g.1, g.2.2)) := by
    unfold opDraw
    rw [if_neg (fun z => z hp)]
  have i := inv_opDraw I p
  rw [e] at i ⊢
  have := hgtF_r (nS g.1) (kdS g.1) (rowA (AS g.1) (lfA (lfS g.1) p))
  refine ⟨rfl, ?_, i, rfl, rfl⟩
  show 0 ≤ hgtF _ _ _ ∧ hgtF _ _ _ ≤ 100
  omega
theorem best_n {f : Int → Int} : ∀ (m : Nat) (k b : Int), 0 ≤ k → 0 ≤ b → b ≤ k → 0 ≤ bestF f m k b ∧ bestF f m k b ≤ k + m
  | 0, k, b, h0, h1, h2 => by
    rw [bestF]
    omega
  | m + 1, k, b, h0, h1, h2 => by
    rw [bestF]
    split
    · have := best_n (f := f) m (k + 1) k (by omega) h0 (by omega)
      omega
    · have := best_n (f := f) m (k + 1) b (by omega) h1 (by omega)
      omega
theorem fl_S (I : InvS g) (h : ((lfS g.1).length : Int) ≠ 0) : opS (opFlat g) g := by
  have e : opFlat g = (0, flS g.1, (uC g.1 1 (flS g.1), savL g.2.1 g.1, g.2.2)) := by
    unfold opFlat
    rw [if_neg (by omega)]
  have i := inv_opFlat I
  rw [e] at i ⊢
  have h42 := lfS_len I.1
  refine ⟨rfl, ?_, i, rfl, rfl⟩
  have := best_n (f := fun k => hgtS g.1 (lfA (lfS g.1) k)) ((lfS g.1).length - 1) 1 0 (by omega) (by omega) (by omega)
  show 0 ≤ bestF _ _ 1 0 ∧ bestF _ _ 1 0 ≤ 100
  omega
theorem fi_S (I : InvS g) {w z : Int} (hw : 0 ≤ w ∧ w < nS g.1) (hz : -1 ≤ z ∧ z < nS g.1 ∧ z ≠ w) (hl : lbS g.1 w z ≠ 0) : opS (opFix g w z) g := by
  have e : opFix g w z = (0, lbS g.1 w z, (uC (uC g.1 (14 + w) (z + 2)) 1 0, savL g.2.1 g.1, g.2.2)) := by
    unfold opFix
    rw [if_neg (by omega), if_neg hl]
  have i := inv_opFix I w z
  rw [e] at i ⊢
  have := lbS_b I.1 w z
  exact ⟨rfl, ⟨this.1, Int.le_trans this.2 (by omega)⟩, i, rfl, rfl⟩
theorem ad_S (I : InvS g) {p : Int} (hp : 0 ≤ p ∧ p ≤ 6) (hn : nS g.1 ≠ 12) : opS (opAdd g p) g := by
  have e : opAdd g p = (0, ((AS (begS (uC (uC g.1 (2 + nS g.1) p) 0 (nS g.1 + 1)))).length : Int), (begS (uC (uC g.1 (2 + nS g.1) p) 0 (nS g.1 + 1)), savL g.2.1 g.1, g.2.2)) := by
    unfold opAdd
    rw [if_neg (fun z => z hp), if_neg hn]
  have i := inv_opAdd I p
  rw [e] at i ⊢
  exact ⟨rfl, len_b (rds_len i.1), i, rfl, rfl⟩
theorem act_ok (I : InvS g) (v w : Int) : actR g v w = (-9, g) ∨ ∃ o : Rs, actR g v w = o.2 ∧ opS o g := by
  have hn12 := I.1.1
  have hask := askS_r (c := g.1) hn12.1
  have hl := lowI_r (v := w) (n := nS g.1 + 1) (by omega)
  unfold actR
  split
  · split
    · exact Or.inl rfl
    · have := lowI_r (v := w) (n := 7) (by omega)
      exact Or.inr ⟨_, rfl, ch_S I (word_r v (by omega)) (by omega)⟩
  · split
    · split
      · exact Or.inl rfl
      · exact Or.inr ⟨_, rfl, wi_S I (word_r v (by omega))⟩
    · split
      · split
        · exact Or.inl rfl
        · exact Or.inr ⟨_, rfl, dr_S I (lowI_r (by omega))⟩
      · split
        · split
          · exact Or.inl rfl
          · next q => exact Or.inr ⟨_, rfl, fl_S I q⟩
        · split
          · split
            · exact Or.inl rfl
            · split
              · exact Or.inl rfl
              · exact Or.inr ⟨_, rfl, fi_S I (by omega) (by omega) (by omega)⟩
          · split
            · split
              · exact Or.inl rfl
              · exact Or.inr ⟨_, rfl, lo_S I (word_r v (by omega))⟩
            · split
              · exact Or.inl rfl
              · next q => exact Or.inr ⟨_, rfl, ad_S I (kind_r w) q⟩
theorem un_back {o : Rs} (hS : opS o g) (h5 : g.2.1.length ≤ 5) : opUndo o.2.2 = (0, (g.2.1.length : Int), g) ∧ (o.2.2.2.1.length : Int) = g.2.1.length + 1 := by
  obtain ⟨o1, o2, o3, o4, o5⟩ := hS
  have e1 : o.2.2.2.1 = g.2.1 ++ [g.1] := by
    rw [o4]
    unfold savL
    rw [if_neg (by omega)]
  unfold opUndo
  rw [e1, List.getLast?_append]
  simp only [List.getLast?_singleton, Option.some_or]
  refine ⟨?_, by simp⟩
  rw [List.dropLast_concat, o5, List.length_append]
  simp
theorem un_6 (I : InvS g) (h : 0 < g.2.1.length) : (opUndo g).1 = 0 ∧ InvS (opUndo g).2.2 ∧ (opUndo g).2.2.2.1.length = g.2.1.length - 1 := by
  have i := inv_opUndo I
  refine ⟨?_, i, ?_⟩ <;> unfold opUndo
  · cases hc : g.2.1.getLast? with
    | none =>
      rw [List.getLast?_eq_none_iff] at hc
      rw [hc] at h
      simp at h
    | some c => rfl
  · cases hc : g.2.1.getLast? with
    | none =>
      rw [List.getLast?_eq_none_iff] at hc
      rw [hc] at h
      simp at h
    | some c =>
      show g.2.1.dropLast.length = _
      rw [List.length_dropLast]
theorem cnt8 : cntS g 8 = g.2.1.length := by
  unfold cntS
  rw [if_neg (by omega), if_neg (by omega), if_neg (by omega), if_neg (by omega), if_neg (by omega), if_neg (by omega), if_neg (by omega), if_neg (by omega)]
def LE (X : Cxt) (kc ks : Nat) : Prop := ∀ (k n : Nat) (ls : List (Option Value)) (h : Hp), k ≤ kc → n ≤ ks → V X k n 204 ls [.int (Int32.ofInt 1)] h
set_option maxRecDepth 100000 in
set_option maxHeartbeats 8000000 in
theorem law_loop {X : Cxt} {d kc ks : Nat} {L : Nat} {xs : Nat → Int32} (hlt : X.2.1.stackTraces = false) (G : Gd X RL cL_law d kc ks) (Y : SC X L xs) (hL : L ≤ 5000) (EL : LE X kc ks) (hd : 46 ≤ d) {k0 n0 : Nat} (hk0 : k0 + 59800 ≤ kc) (hn0 : n0 + 358800 ≤ ks) {g : Sg} {h : Hp} (I : InvS g) (R : RepC g h) (r : Rg h) (a3 a4 a5 a6 a8 a9 a10 : Option Value) : V X k0 n0 10 [some (.ref 98), some (.ref 0), some (.int (Int32.ofInt 0)), a3, a4, a5, a6, none, a8, a9, a10] [] h := by
  have j188 : ∀ (g : Sg) (i : Int) (h : Hp) (k n : Nat) (a3 a4 a5 a6 a8 a9 a10 : Option Value), (∀ (h : Hp), RepC g h → Rg h → V X (k + 600) (n + 3600) 10 [some (.ref 98), some (.ref 0), some (.int (Int32.ofInt (i + 1))), a3, a4, a5, a6, none, a8, a9, a10] [] h) → InvS g → RepC g h → Rg h → k + 600 ≤ kc → n + 3600 ≤ ks → V X k n 188 [some (.ref 98), some (.ref 0), some (.int (Int32.ofInt i)), a3, a4, a5, a6, none, a8, a9, a10] [] h := by
    intro g i h k n a3 a4 a5 a6 a8 a9 a10 kk I R r hk hn
    refine V_aload1 G dL_law_188 ?_
    refine V_cS1 (d1 := 45) (kc1 := 600) (ks1 := 3600) G m_L_81 dL_law_189 (c_holds hlt r R I) (by omega) (by omega) (by omega) (Nat.le_of_ble_eq_true rfl) (fun rr h1 hp => ?_)
    obtain ⟨_, rfl, rfl, R, r⟩ := hp
    refine V_ifne G dL_law_192 (tgt := 197) (by decide) ⟨by omega, by omega⟩ (fun c_192 => ?_) (fun c_192 => ?_)
    ·
      refine V_iinc2 G dL_law_197 rfl ?_
      refine V_goto G dL_law_200 (tgt := 10) (by decide) ?_
      exact kk _ R r
    · omega
  have j56 : ∀ (g : Sg) (i v w : Int) (h : Hp) (k n : Nat) (a5 a6 a8 a9 a10 : Option Value), g.2.1.length ≤ 5 → inr v → inr w → (∀ (g : Sg) (h : Hp) (k1 n1 : Nat) (a3 a4 a5 a6 a8 a9 a10 : Option Value), InvS g → RepC g h → Rg h → k1 ≤ k + 2290 → n1 ≤ n + 13740 → V X k1 n1 10 [some (.ref 98), some (.ref 0), some (.int (Int32.ofInt (i + 1))), a3, a4, a5, a6, none, a8, a9, a10] [] h) → InvS g → RepC g h → Rg h → k + 2290 ≤ kc → n + 13740 ≤ ks → V X k n 56 [some (.ref 98), some (.ref 0), some (.int (Int32.ofInt i)), some (.int (Int32.ofInt v)), some (.int (Int32.ofInt w)), a5, a6, none, a8, a9, a10] [] h := by
    intro g i v w h k n a5 a6 a8 a9 a10 h5 hv hw kk I R r hk hn
    refine V_aload1 G dL_law_56 ?_
    refine V_bipush G dL_law_57 (by decide) ?_
    refine Q_cntv G hlt I R r cnt8 ⟨by omega, by omega⟩ dL_law_59 (by omega) (by omega) (by omega) (Nat.le_of_ble_eq_true rfl) (fun h R r => ?_)
    refine V_istore5 G dL_law_62 rfl ?_
    refine V_aload1 G dL_law_64 ?_
    refine V_cS1 (d1 := 45) (kc1 := 400) (ks1 := 2400) G m_L_73 dL_law_65 (c_told hlt r R I) (by omega) (by omega) (by omega) (Nat.le_of_ble_eq_true rfl) (fun rr h1 hp => ?_)
    obtain ⟨_, rfl, rfl, R, r⟩ := hp
    refine V_lstore6 G dL_law_68 rfl ?_
    refine V_aload1 G dL_law_70 ?_
    refine V_iload3 G dL_law_71 ?_
    refine V_iload4 G dL_law_72 ?_
    refine V_cS3 (d1 := 45) (kc1 := 30) (ks1 := 180) G m_L_77 dL_law_74 (c_act hlt r R I) (by omega) (by omega) (by omega) (Nat.le_of_ble_eq_true rfl) (fun rr h1 hp => ?_)
    obtain ⟨_, rfl, rfl, R, r⟩ := hp
    refine V_istore8 G dL_law_77 rfl ?_
    refine V_aload1 G dL_law_79 ?_
    rcases act_ok I v w with hact | ⟨o, hact, hS⟩
    · skip
      rw [hact] at R ⊢
      dsimp only at R ⊢
      refine V_cS1 (d1 := 45) (kc1 := 400) (ks1 := 2400) G m_L_73 dL_law_80 (c_told hlt r R I) (by omega) (by omega) (by omega) (Nat.le_of_ble_eq_true rfl) (fun rr h1 hp => ?_)
      obtain ⟨_, rfl, rfl, R, r⟩ := hp
      refine V_lstore9 G dL_law_83 rfl ?_
      refine V_iload8 G dL_law_85 ?_
      refine V_bipush G dL_law_87 (by decide) ?_
      refine V_icmpne G dL_law_89 (tgt := 114) (by decide) ⟨by omega, by omega⟩ ⟨by omega, by omega⟩ (fun c_89 => ?_) (fun c_89 => ?_)
      · omega
      ·
        refine V_lload9 G dL_law_92 ?_
        refine V_lload6 G dL_law_94 ?_
        refine V_lcmp_ G dL_law_96 ?_
        rw [lcmp_self]
        refine V_ifne_ G dL_law_97 (tgt := 127) (by decide) (fun z => absurd rfl z) (fun _ => ?_)
        refine V_aload1 G dL_law_100 ?_
        refine V_bipush G dL_law_101 (by decide) ?_
        refine Q_cntv G hlt I R r cnt8 ⟨by omega, by omega⟩ dL_law_103 (by omega) (by omega) (by omega) (Nat.le_of_ble_eq_true rfl) (fun h R r => ?_)
        refine V_iload5 G dL_law_106 ?_
        refine V_icmpeq G dL_law_108 (tgt := 129) (by decide) ⟨by omega, by omega⟩ ⟨by omega, by omega⟩ (fun c_108 => ?_) (fun c_108 => ?_)
        ·
          refine V_iload8 G dL_law_129 ?_
          refine V_bipush G dL_law_131 (by decide) ?_
          refine V_icmpeq G dL_law_133 (tgt := 188) (by decide) ⟨by omega, by omega⟩ ⟨by omega, by omega⟩ (fun c_133 => ?_) (fun c_133 => ?_)
          ·
            exact j188 g i _ _ _ _ _ _ _ _ _ _ (fun h R r => kk g h _ _ _ _ _ _ _ _ _ I R r (by omega) (by omega)) I R r (by omega) (by omega)
          · omega
        · omega
    · skip
      have I2 := hS.2.2.1
      have hpos := hS.2.1
      have hb1 := anI_r (shI v 9) (b := 1) (by omega) (by omega)
      obtain ⟨ub, ul⟩ := un_back hS h5
      rw [hact] at R ⊢
      refine V_cS1 (d1 := 45) (kc1 := 400) (ks1 := 2400) G m_L_73 dL_law_80 (c_told hlt r R I2) (by omega) (by omega) (by omega) (Nat.le_of_ble_eq_true rfl) (fun rr h1 hp => ?_)
      obtain ⟨_, rfl, rfl, R, r⟩ := hp
      refine V_lstore9 G dL_law_83 rfl ?_
      refine V_iload8 G dL_law_85 ?_
      refine V_bipush G dL_law_87 (by decide) ?_
      refine V_icmpne G dL_law_89 (tgt := 114) (by decide) ⟨by omega, by omega⟩ ⟨by omega, by omega⟩ (fun c_89 => ?_) (fun c_89 => ?_)
      ·
        refine V_aload1 G dL_law_114 ?_
        refine V_bipush G dL_law_115 (by decide) ?_
        refine Q_cntv G hlt I2 R r cnt8 ⟨by omega, by omega⟩ dL_law_117 (by omega) (by omega) (by omega) (Nat.le_of_ble_eq_true rfl) (fun h R r => ?_)
        refine V_iload5 G dL_law_120 ?_
        refine V_iconst G dL_law_122 ?_
        refine V_iadd G dL_law_123 ?_
        refine V_icmpeq G dL_law_124 (tgt := 129) (by decide) ⟨by omega, by omega⟩ ⟨by omega, by omega⟩ (fun c_124 => ?_) (fun c_124 => ?_)
        ·
          refine V_iload8 G dL_law_129 ?_
          refine V_bipush G dL_law_131 (by decide) ?_
          refine V_icmpeq G dL_law_133 (tgt := 188) (by decide) ⟨by omega, by omega⟩ ⟨by omega, by omega⟩ (fun c_133 => ?_) (fun c_133 => ?_)
          · omega
          ·
            refine V_iload3 G dL_law_136 ?_
            refine V_bipush G dL_law_137 (by decide) ?_
            refine V_ishr_ G dL_law_139 ?_
            refine V_ibit G (z := shI v 9) (rfl) ?_
            refine V_iconst G dL_law_140 ?_
            refine V_iand_ G dL_law_141 ?_
            refine V_ibit G (z := anI (shI v 9) 1) (rfl) ?_
            refine V_ifne G dL_law_142 (tgt := 188) (by decide) ⟨by omega, by omega⟩ (fun c_142 => ?_) (fun c_142 => ?_)
            ·
              exact j188 o.2.2 i _ _ _ _ _ _ _ _ _ _ (fun h R r => kk o.2.2 h _ _ _ _ _ _ _ _ _ I2 R r (by omega) (by omega)) I2 R r (by omega) (by omega)
            ·
              refine V_aload1 G dL_law_145 ?_
              refine Q0 G (o := opUndo o.2.2) (by rw [ub]) m_L_70 dL_law_146 (c_X6_undo hlt r R I2) (by omega) (by omega) (by omega) (by omega) (by omega) (Nat.le_of_ble_eq_true rfl) (fun h R r => ?_)
              rw [ub] at R ⊢
              dsimp only at R ⊢
              refine V_iload5 G dL_law_149 ?_
              refine V_icmpne G dL_law_151 (tgt := 186) (by decide) ⟨by omega, by omega⟩ ⟨by omega, by omega⟩ (fun c_151 => ?_) (fun c_151 => ?_)
              · omega
              ·
                refine V_aload1 G dL_law_154 ?_
                refine V_cS1 (d1 := 45) (kc1 := 400) (ks1 := 2400) G m_L_73 dL_law_155 (c_told hlt r R I) (by omega) (by omega) (by omega) (Nat.le_of_ble_eq_true rfl) (fun rr h1 hp => ?_)
                obtain ⟨_, rfl, rfl, R, r⟩ := hp
                refine V_lload6 G dL_law_158 ?_
                refine V_lcmp_ G dL_law_160 ?_
                rw [lcmp_self]
                refine V_ifne_ G dL_law_161 (tgt := 186) (by decide) (fun z => absurd rfl z) (fun _ => ?_)
                refine V_aload1 G dL_law_164 ?_
                refine V_iload3 G dL_law_165 ?_
                refine V_iload4 G dL_law_166 ?_
                refine V_cS3 (d1 := 45) (kc1 := 30) (ks1 := 180) G m_L_77 dL_law_168 (c_act hlt r R I) (by omega) (by omega) (by omega) (Nat.le_of_ble_eq_true rfl) (fun rr h1 hp => ?_)
                obtain ⟨_, rfl, rfl, R, r⟩ := hp
                rw [hact] at R ⊢
                refine V_iload8 G dL_law_171 ?_
                refine V_icmpne G dL_law_173 (tgt := 186) (by decide) ⟨by omega, by omega⟩ ⟨by omega, by omega⟩ (fun c_173 => ?_) (fun c_173 => ?_)
                · omega
                ·
                  refine V_aload1 G dL_law_176 ?_
                  refine V_cS1 (d1 := 45) (kc1 := 400) (ks1 := 2400) G m_L_73 dL_law_177 (c_told hlt r R I2) (by omega) (by omega) (by omega) (Nat.le_of_ble_eq_true rfl) (fun rr h1 hp => ?_)
                  obtain ⟨_, rfl, rfl, R, r⟩ := hp
                  refine V_lload9 G dL_law_180 ?_
                  refine V_lcmp_ G dL_law_182 ?_
                  rw [lcmp_self]
                  refine V_ifeq_ G dL_law_183 (tgt := 188) (by decide) (fun _ => ?_) (fun z => absurd rfl z)
                  exact j188 o.2.2 i _ _ _ _ _ _ _ _ _ _ (fun h R r => kk o.2.2 h _ _ _ _ _ _ _ _ _ I2 R r (by omega) (by omega)) I2 R r (by omega) (by omega)
        · omega
      · omega
  have lp : ∀ (m : Nat) (i : Int) (k n : Nat) (g : Sg) (h : Hp) (a3 a4 a5 a6 a8 a9 a10 : Option Value), i + m = 26 → 0 ≤ i → k + 2300 * m ≤ kc → n + 13800 * m ≤ ks → InvS g → RepC g h → Rg h → V X k n 10 [some (.ref 98), some (.ref 0), some (.int (Int32.ofInt i)), a3, a4, a5, a6, none, a8, a9, a10] [] h := by
    intro m
    induction m with
    | zero =>
      intro i k n g h a3 a4 a5 a6 a8 a9 a10 hm hi hk hn I R r
      obtain rfl : i = 26 := by omega
      refine V_iload2 G dL_law_10 ?_
      refine V_bipush G dL_law_11 (by decide) ?_
      refine V_icmpge G dL_law_13 (tgt := 203) (by decide) ⟨by omega, by omega⟩ ⟨by omega, by omega⟩ (fun c_13 => ?_) (fun c_13 => ?_)
      ·
        refine V_iconst G dL_law_203 ?_
        exact EL _ _ _ h (by omega) (by omega)
      · omega
    | succ m ih =>
      intro i k n g h a3 a4 a5 a6 a8 a9 a10 hm hi hk hn I R r
      have h6 := I.2.2.2.2.1
      refine V_iload2 G dL_law_10 ?_
      refine V_bipush G dL_law_11 (by decide) ?_
      refine V_icmpge G dL_law_13 (tgt := 203) (by decide) ⟨by omega, by omega⟩ ⟨by omega, by omega⟩ (fun c_13 => ?_) (fun c_13 => ?_)
      · omega
      ·
        refine V_aload0 G dL_law_16 ?_
        refine V_iconst G dL_law_17 ?_
        refine V_iload2 G dL_law_18 ?_
        refine V_imul G dL_law_19 ?_
        refine Q_cell G Y hL ⟨by omega, by omega⟩ dL_law_20 (by omega) (by omega) (by omega) (Nat.le_of_ble_eq_true rfl) (fun v hv => ?_)
        refine V_istore3 G dL_law_23 rfl ?_
        refine V_aload0 G dL_law_24 ?_
        refine V_iconst G dL_law_25 ?_
        refine V_iload2 G dL_law_26 ?_
        refine V_imul G dL_law_27 ?_
        refine V_iconst G dL_law_28 ?_
        refine V_iadd G dL_law_29 ?_
        refine Q_cell G Y hL ⟨by omega, by omega⟩ dL_law_30 (by omega) (by omega) (by omega) (Nat.le_of_ble_eq_true rfl) (fun w hw => ?_)
        refine V_istore4 G dL_law_33 rfl ?_
        refine V_aload1 G dL_law_35 ?_
        refine V_bipush G dL_law_36 (by decide) ?_
        refine Q_cntv G hlt I R r cnt8 ⟨by omega, by omega⟩ dL_law_38 (by omega) (by omega) (by omega) (Nat.le_of_ble_eq_true rfl) (fun h R r => ?_)
        refine V_bipush G dL_law_41 (by decide) ?_
        refine V_icmpne G dL_law_43 (tgt := 56) (by decide) ⟨by omega, by omega⟩ ⟨by omega, by omega⟩ (fun c_43 => ?_) (fun c_43 => ?_)
        ·
          first
            | exact j56 g i v w h _ _ _ _ _ _ _ (by omega) hv hw (fun g h k1 n1 a3 a4 a5 a6 a8 a9 a10 I R r hk hn => ih (i + 1) k1 n1 g h a3 a4 a5 a6 a8 a9 a10 (by omega) (by omega) (by omega) (by omega) I R r) I R r (by omega) (by omega)
            | exact j56 (opUndo (opUndo g).2.2).2.2 i v w h _ _ _ _ _ _ _ (by rw [(un_6 (un_6 I (by omega)).2.1 (by rw [(un_6 I (by omega)).2.2]; omega)).2.2, (un_6 I (by omega)).2.2]; omega) hv hw (fun g h k1 n1 a3 a4 a5 a6 a8 a9 a10 I R r hk hn => ih (i + 1) k1 n1 g h a3 a4 a5 a6 a8 a9 a10 (by omega) (by omega) (by omega) (by omega) I R r) (un_6 (un_6 I (by omega)).2.1 (by rw [(un_6 I (by omega)).2.2]; omega)).2.1 R r (by omega) (by omega)
        ·
          refine V_aload1 G dL_law_46 ?_
          refine Q0 G (o := opUndo g) (un_6 I (by omega)).1 m_L_70 dL_law_47 (c_X6_undo hlt r R I) (by omega) (by omega) (by omega) (by omega) (by omega) (Nat.le_of_ble_eq_true rfl) (fun h R r => ?_)
          refine V_pop G dL_law_50 rfl ?_
          refine V_aload1 G dL_law_51 ?_
          refine Q0 G (o := opUndo (opUndo g).2.2) (un_6 (un_6 I (by omega)).2.1 (by rw [(un_6 I (by omega)).2.2]; omega)).1 m_L_70 dL_law_52 (c_X6_undo hlt r R (un_6 I (by omega)).2.1) (by omega) (by omega) (by omega) (by omega) (by omega) (Nat.le_of_ble_eq_true rfl) (fun h R r => ?_)
          refine V_pop G dL_law_55 rfl ?_
          first
            | exact j56 g i v w h _ _ _ _ _ _ _ (by omega) hv hw (fun g h k1 n1 a3 a4 a5 a6 a8 a9 a10 I R r hk hn => ih (i + 1) k1 n1 g h a3 a4 a5 a6 a8 a9 a10 (by omega) (by omega) (by omega) (by omega) I R r) I R r (by omega) (by omega)
            | exact j56 (opUndo (opUndo g).2.2).2.2 i v w h _ _ _ _ _ _ _ (by rw [(un_6 (un_6 I (by omega)).2.1 (by rw [(un_6 I (by omega)).2.2]; omega)).2.2, (un_6 I (by omega)).2.2]; omega) hv hw (fun g h k1 n1 a3 a4 a5 a6 a8 a9 a10 I R r hk hn => ih (i + 1) k1 n1 g h a3 a4 a5 a6 a8 a9 a10 (by omega) (by omega) (by omega) (by omega) I R r) (un_6 (un_6 I (by omega)).2.1 (by rw [(un_6 I (by omega)).2.2]; omega)).2.1 R r (by omega) (by omega)
  exact lp 26 0 k0 n0 g h a3 a4 a5 a6 a8 a9 a10 (by omega) (by omega) (by omega) (by omega) I R r
end L4
