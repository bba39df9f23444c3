section L2
def anI (v b : Int) : Int := (Int32.ofInt v &&& Int32.ofInt b).toInt
def shI (v b : Int) : Int := (Int32.ofInt v >>> (Int32.ofInt b &&& 31)).toInt
theorem anI_r (v : Int) {b : Int} (h0 : 0 ≤ b) (h1 : b < 2147483648) : 0 ≤ anI v b ∧ anI v b ≤ b := by
  unfold anI
  show 0 ≤ (Int32.ofInt v &&& Int32.ofInt b).toBitVec.toInt ∧ (Int32.ofInt v &&& Int32.ofInt b).toBitVec.toInt ≤ b
  rw [Int32.toBitVec_and]
  have hb : (Int32.ofInt b).toBitVec.toNat = b.toNat := by
    show (BitVec.ofInt 32 b).toNat = b.toNat
    rw [BitVec.toNat_ofInt]
    omega
  have hle : ((Int32.ofInt v).toBitVec &&& (Int32.ofInt b).toBitVec).toNat ≤ b.toNat := by
    rw [BitVec.toNat_and, hb]
    exact Nat.and_le_right
  have hm : ((Int32.ofInt v).toBitVec &&& (Int32.ofInt b).toBitVec).msb = false := by
    rw [BitVec.msb_eq_false_iff_two_mul_lt]
    omega
  rw [BitVec.toInt_eq_toNat_of_msb hm]
  omega
theorem shI_i (v b : Int) : inr (shI v b) := i32_inr _
noncomputable def kind0R (c : Cs) (w : Int) : Int := if nS c = 0 then 0 else if nS c = 1 then 1 else if lowI w 3 = 0 then lowI (shI w 2) 7 else if anI (shI w 2) 3 < 2 then 4 else 0
noncomputable def kindR (c : Cs) (w : Int) : Int := if anI (shI (addS c) (kind0R c w)) 1 = 0 ∧ anI (shI (addS c) 3) 1 = 1 ∧ anI (shI w 5) 1 = 0 then 3 else kind0R c w
def wordR (c : Cs) (v : Int) : Int := if nS c = 0 then 0 else lowI (shI v 4) (nS c)
noncomputable def actR (g : Sg) (v w : Int) : Int × Sg :=
  if anI v 15 = 0 then (if nS g.1 = 0 then (-9, g) else (opChange g (wordR g.1 v) (lowI w 7)).2)
  else if anI v 15 = 1 then (if nS g.1 = 0 then (-9, g) else (opWipe g (wordR g.1 v)).2)
  else if anI v 15 = 2 ∨ anI v 15 = 3 then (if ((lfS g.1).length : Int) = 0 then (-9, g) else (opDraw g (lowI w (lfS g.1).length)).2)
  else if anI v 15 = 4 then (if ((lfS g.1).length : Int) = 0 then (-9, g) else (opFlat g).2)
  else if anI v 15 = 5 ∨ anI v 15 = 6 then (if ((lfS g.1).length : Int) = 0 ∨ askS g.1 < 0 then (-9, g) else
    if lowI w (nS g.1 + 1) - 1 = askS g.1 ∨ lbS g.1 (askS g.1) (lowI w (nS g.1 + 1) - 1) = 0 then (-9, g) else (opFix g (askS g.1) (lowI w (nS g.1 + 1) - 1)).2)
  else if anI v 15 = 7 then (if nS g.1 = 0 then (-9, g) else (opLoosen g (wordR g.1 v)).2)
  else (if nS g.1 = 12 then (-9, g) else (opAdd g (kindR g.1 w)).2)
theorem askF_r {hd mo : Int → Int} {n : Int} : ∀ (m : Nat) (k b f : Int), 0 ≤ k → k + m ≤ n → -1 ≤ b → b < n → -1 ≤ askF hd mo m k b f ∧ askF hd mo m k b f < n
  | 0, k, b, f, h0, h1, h2, h3 => ⟨h2, h3⟩
  | m + 1, k, b, f, h0, h1, h2, h3 => by
    rw [askF]
    split
    · exact askF_r m (k + 1) k _ (by omega) (by omega) (by omega) (by omega)
    · exact askF_r m (k + 1) b f (by omega) (by omega) h2 h3
theorem askS_r {c : Cs} (h : 0 ≤ nS c) : -1 ≤ askS c ∧ (askS c < nS c ∨ askS c = -1) := by
  by_cases z : nS c = 0
  · unfold askS
    rw [z]
    refine ⟨?_, Or.inr rfl⟩
    show (-1 : Int) ≤ -1
    omega
  · have := askF_r (hd := hdsS c) (mo := mosS c) (n := nS c) (nS c).toNat 0 (-1) 0 (by omega) (by omega) (by omega) (by omega)
    exact ⟨this.1, Or.inl this.2⟩
theorem kind0_r {c : Cs} (w : Int) : 0 ≤ kind0R c w ∧ kind0R c w ≤ 6 := by
  have := lowI_r (v := shI w 2) (n := 7) (by omega)
  unfold kind0R
  repeat' split
  all_goals omega
theorem kind_r {c : Cs} (w : Int) : 0 ≤ kindR c w ∧ kindR c w ≤ 6 := by
  have := kind0_r (c := c) w
  unfold kindR
  split
  · omega
  · exact this
theorem word_r {c : Cs} (v : Int) (h : 0 < nS c) : 0 ≤ wordR c v ∧ wordR c v < nS c := by
  unfold wordR
  rw [if_neg (by omega)]
  exact lowI_r h
theorem ch_0 {g : Sg} {w p : Int} (hw : 0 ≤ w ∧ w < nS g.1) (hp : 0 ≤ p ∧ p ≤ 6) : (opChange g w p).1 = 0 := by
  unfold opChange
  rw [if_neg (fun z => z hw), if_neg (fun z => z hp)]
theorem wi_0 {g : Sg} {w : Int} (hw : 0 ≤ w ∧ w < nS g.1) : (opWipe g w).1 = 0 := by
  unfold opWipe
  rw [if_neg (fun z => z hw)]
theorem lo_0 {g : Sg} {w : Int} (hw : 0 ≤ w ∧ w < nS g.1) : (opLoosen g w).1 = 0 := by
  unfold opLoosen
  rw [if_neg (fun z => z hw)]
theorem dr_0 {g : Sg} {p : Int} (hp : 0 ≤ p ∧ p < (lfS g.1).length) : (opDraw g p).1 = 0 := by
  unfold opDraw
  rw [if_neg (fun z => z hp)]
theorem fl_0 {g : Sg} (h : ((lfS g.1).length : Int) ≠ 0) : (opFlat g).1 = 0 := by
  unfold opFlat
  rw [if_neg (by omega)]
theorem if_0 {g : Sg} {w z : Int} (hw : 0 ≤ w ∧ w < nS g.1) (hz : -1 ≤ z ∧ z < nS g.1 ∧ z ≠ w) : opIf g w z = (0, lbS g.1 w z, g) := by
  unfold opIf
  rw [if_neg (by omega)]
theorem fi_0 {g : Sg} {w z : Int} (hw : 0 ≤ w ∧ w < nS g.1) (hz : -1 ≤ z ∧ z < nS g.1 ∧ z ≠ w) (hl : lbS g.1 w z ≠ 0) : (opFix g w z).1 = 0 := by
  unfold opFix
  rw [if_neg (by omega), if_neg hl]
theorem ad_0 {g : Sg} {p : Int} (hp : 0 ≤ p ∧ p ≤ 6) (hn : nS g.1 ≠ 12) : (opAdd g p).1 = 0 := by
  unfold opAdd
  rw [if_neg (fun z => z hp), if_neg hn]
variable {X : Cxt} {cc : ByteArray} {d kc ks k n pc : Nat} {ls : List (Option Value)} {st : List Value} {h : Hp}
theorem Q_cntv (G : Gd X RL cc d kc ks) (hlt : X.2.1.stackTraces = false) {g : Sg} (I : InvS g) (R : RepC g h) (r : Rg h) {q v : Int} (hv : cntS g q = v) (hq : 0 ≤ q ∧ q ≤ 8) (hd : decode cc pc = .ok (.invokevirtual 12, 3)) (hdd : 41 ≤ d) (hk : k + 3 ≤ kc) (hn : n + 18 ≤ ks) (hst : (st.map fun v => v.category).sum ≤ 8) (kk : ∀ h1, RepC g h1 → Rg h1 → V X (k + 3) (n + 18) (pc + 3) ls (.int (Int32.ofInt v) :: st) h1) : V X k n pc ls (.int (Int32.ofInt q) :: .ref 0 :: st) h := by
  subst hv
  exact Q_cnt G hlt I R r hq hd hdd hk hn hst kk
theorem Q_wordv (G : Gd X RL cc d kc ks) (hlt : X.2.1.stackTraces = false) {g : Sg} (I : InvS g) (R : RepC g h) (r : Rg h) {w q v : Int} (hv : wordS g.1 w q = v) (hw : 0 ≤ w ∧ w < nS g.1) (hq : 0 ≤ q ∧ q ≤ 7) (hd : decode cc pc = .ok (.invokevirtual 18, 3)) (hdd : 41 ≤ d) (hk : k + 3 ≤ kc) (hn : n + 18 ≤ ks) (hst : (st.map fun v => v.category).sum ≤ 8) (kk : ∀ h1, RepC g h1 → Rg h1 → V X (k + 3) (n + 18) (pc + 3) ls (.int (Int32.ofInt v) :: st) h1) : V X k n pc ls (.int (Int32.ofInt q) :: .int (Int32.ofInt w) :: .ref 0 :: st) h := by
  subst hv
  exact Q_word G hlt I R r hw hq hd hdd hk hn hst kk
theorem Q_if (G : Gd X RL cc d kc ks) (hlt : X.2.1.stackTraces = false) {g : Sg} (I : InvS g) (R : RepC g h) (r : Rg h) {w z : Int} (hw : 0 ≤ w ∧ w < nS g.1) (hz : -1 ≤ z ∧ z < nS g.1 ∧ z ≠ w) (hd : decode cc pc = .ok (.invokevirtual 46, 3)) (hdd : 41 ≤ d) (hk : k + 3 ≤ kc) (hn : n + 18 ≤ ks) (hst : (st.map fun v => v.category).sum ≤ 8) (kk : ∀ h1, RepC g h1 → Rg h1 → V X (k + 3) (n + 18) (pc + 3) ls (.int (Int32.ofInt (lbS g.1 w z)) :: st) h1) : V X k n pc ls (.int (Int32.ofInt z) :: .int (Int32.ofInt w) :: .ref 0 :: st) h := by
  have hn12 := I.1.1
  have e := if_0 hw hz
  refine Q2 G (o := opIf g w z) (by rw [e]) m_L_46 hd (c_X6_ifFixed hlt r R I ⟨by omega, by omega⟩ ⟨by omega, by omega⟩) hdd (by omega) (by omega) hk hn hst ?_
  rw [e]
  exact kk
theorem cnt0 {g : Sg} : cntS g 0 = nS g.1 := if_pos rfl
theorem cnt3 {g : Sg} : cntS g 3 = ((lfS g.1).length : Int) := by
  unfold cntS
  rw [if_neg (by omega), if_neg (by omega), if_neg (by omega), if_pos rfl]
theorem cnt1 {g : Sg} : cntS g 1 = ((AS g.1).length : Int) := by
  unfold cntS
  rw [if_neg (by omega), if_pos rfl]

set_option maxRecDepth 100000 in
set_option maxHeartbeats 8000000 in
theorem c_act {l : Launch} {d : Nat} {h : Hp} (hlt : l.stackTraces = false) (r : Rg h) {g : Sg} (R : RepC g h) (I : InvS g) {v w : Int} (hd : 45 ≤ d := by omega) : CP l d 30 180 yL_act cL_act 10 (Option.some Jvm.ClassFile.FieldType.int) [.ref 0, iv v, iv w] h (pI fun x h1 => x = (actR g v w).1 ∧ RepC (actR g v w).2 h1 ∧ Rg h1) := by
  refine CP.ofV (L := [some (.ref 0), some (.int (Int32.ofInt v)), some (.int (Int32.ofInt w)), none, none, none, none, none, none, none]) RL (by decide +kernel) rfl (Nat.le_of_ble_eq_true rfl) rfl (fun X hX G E => ?_)
  subst hX
  have hn12 := I.1.1
  have h42 := lfS_len I.1
  have hask := askS_r hn12.1
  have hk15 := anI_r v (b := 15) (by omega) (by omega)
  have hl3 := lowI_r (v := w) (n := 3) (by omega)
  have hl1 := lowI_r (v := w) (n := nS g.1 + 1) (by omega)
  have ha3 := anI_r (shI w 2) (b := 3) (by omega) (by omega)
  have hb3 := anI_r (shI (addS g.1) 3) (b := 1) (by omega) (by omega)
  have hb5 := anI_r (shI w 5) (b := 1) (by omega) (by omega)
  have j337 : ∀ (K : Int) (h : Hp) (k n : Nat) (a7 a8 a9 : Option Value), K = kindR g.1 w → nS g.1 ≠ 12 → 7 < anI v 15 → c1 a8 = true → RepC g h → Rg h → k ≤ 20 → n ≤ 120 → V X k n 337 [some (.ref 0), some (.int (Int32.ofInt v)), some (.int (Int32.ofInt w)), some (.int (Int32.ofInt (nS g.1))), some (.int (Int32.ofInt ((lfS g.1).length : Int))), some (.int (Int32.ofInt (wordR g.1 v))), some (.int (Int32.ofInt (addS g.1))), a7, a8, a9] [.int (Int32.ofInt K)] h := by
    intro K h k n a7 a8 a9 hK hn hv c8 R r hk1 hn1
    subst hK
    have hkr := kind_r (c := g.1) w
    refine V_istore9 G dL_act_337 c8 ?_
    refine V_aload0 G dL_act_339 ?_
    refine V_iload9 G dL_act_340 ?_
    refine Q1 G (o := opAdd g (kindR g.1 w)) (ad_0 (kind_r w) (by omega)) m_L_55 dL_act_342 (c_X6_add hlt r R I ⟨by omega, by omega⟩) (by omega) (by omega) (by omega) (by omega) (by omega) (Nat.le_of_ble_eq_true rfl) (fun h R r => ?_)
    exact V_reti E dL_act_345 rfl rfl ⟨_, rfl, (by first | (rw [show actR g v w = (-9, g) from by unfold actR; (repeat' split) <;> first | rfl | omega]; exact ⟨rfl, R, r⟩) | (rw [show actR g v w = (opAdd g (kindR g.1 w)).2 from by unfold actR; (repeat' split) <;> first | rfl | omega]; exact ⟨rfl, R, r⟩))⟩
  have j301 : ∀ (K0 : Int) (h : Hp) (k n : Nat) (a7 a8 a9 : Option Value), K0 = kind0R g.1 w → nS g.1 ≠ 12 → 7 < anI v 15 → c1 a8 = true → RepC g h → Rg h → k ≤ 20 → n ≤ 120 → V X k n 301 [some (.ref 0), some (.int (Int32.ofInt v)), some (.int (Int32.ofInt w)), some (.int (Int32.ofInt (nS g.1))), some (.int (Int32.ofInt ((lfS g.1).length : Int))), some (.int (Int32.ofInt (wordR g.1 v))), some (.int (Int32.ofInt (addS g.1))), a7, a8, a9] [.int (Int32.ofInt K0)] h := by
    intro K0 h k n a7 a8 a9 hK hn hv c8 R r hk1 hn1
    have hb0 := anI_r (shI (addS g.1) K0) (b := 1) (by omega) (by omega)
    refine V_istore9 G dL_act_301 c8 ?_
    refine V_iload6 G dL_act_303 ?_
    refine V_iload9 G dL_act_305 ?_
    refine V_ishr_ G dL_act_307 ?_
    refine V_ibit G (z := shI (addS g.1) K0) (rfl) ?_
    refine V_iconst G dL_act_308 ?_
    refine V_iand_ G dL_act_309 ?_
    refine V_ibit G (z := anI (shI (addS g.1) K0) 1) (rfl) ?_
    refine V_ifne G dL_act_310 (tgt := 335) (by decide) ⟨by omega, by omega⟩ (fun c_310 => ?_) (fun c_310 => ?_)
    ·
      refine V_iload9 G dL_act_335 ?_
      exact j337 _ h _ _ _ _ _ (by subst hK; unfold kindR; (repeat' split) <;> first | rfl | omega) hn hv c8 R r (by omega) (by omega)
    ·
      refine V_iload6 G dL_act_313 ?_
      refine V_iconst G dL_act_315 ?_
      refine V_ishr_ G dL_act_316 ?_
      refine V_ibit G (z := shI (addS g.1) 3) (rfl) ?_
      refine V_iconst G dL_act_317 ?_
      refine V_iand_ G dL_act_318 ?_
      refine V_ibit G (z := anI (shI (addS g.1) 3) 1) (rfl) ?_
      refine V_iconst G dL_act_319 ?_
      refine V_icmpne G dL_act_320 (tgt := 335) (by decide) ⟨by omega, by omega⟩ ⟨by omega, by omega⟩ (fun c_320 => ?_) (fun c_320 => ?_)
      ·
        refine V_iload9 G dL_act_335 ?_
        exact j337 _ h _ _ _ _ _ (by subst hK; unfold kindR; (repeat' split) <;> first | rfl | omega) hn hv c8 R r (by omega) (by omega)
      ·
        refine V_iload2 G dL_act_323 ?_
        refine V_iconst G dL_act_324 ?_
        refine V_ishr_ G dL_act_325 ?_
        refine V_ibit G (z := shI w 5) (rfl) ?_
        refine V_iconst G dL_act_326 ?_
        refine V_iand_ G dL_act_327 ?_
        refine V_ibit G (z := anI (shI w 5) 1) (rfl) ?_
        refine V_ifne G dL_act_328 (tgt := 335) (by decide) ⟨by omega, by omega⟩ (fun c_328 => ?_) (fun c_328 => ?_)
        ·
          refine V_iload9 G dL_act_335 ?_
          exact j337 _ h _ _ _ _ _ (by subst hK; unfold kindR; (repeat' split) <;> first | rfl | omega) hn hv c8 R r (by omega) (by omega)
        ·
          refine V_iconst G dL_act_331 ?_
          refine V_goto G dL_act_332 (tgt := 337) (by decide) ?_
          exact j337 _ h _ _ _ _ _ (by subst hK; unfold kindR; (repeat' split) <;> first | rfl | omega) hn hv c8 R r (by omega) (by omega)
  have j28 : ∀ (Wd : Int) (h : Hp) (k n : Nat), Wd = wordR g.1 v → RepC g h → Rg h → k ≤ 6 → n ≤ 36 → V X k n 28 [some (.ref 0), some (.int (Int32.ofInt v)), some (.int (Int32.ofInt w)), some (.int (Int32.ofInt (nS g.1))), some (.int (Int32.ofInt ((lfS g.1).length : Int))), none, none, none, none, none] [.int (Int32.ofInt Wd)] h := by
    intro Wd h k n hW R r hk1 hn1
    subst hW
    refine V_istore5 G dL_act_28 rfl ?_
    refine V_aload0 G dL_act_30 ?_
    refine Q_next G I R r dL_act_31 (by omega) (by omega) (by omega) (Nat.le_of_ble_eq_true rfl) (fun h R r => ?_)
    refine V_istore6 G dL_act_34 rfl ?_
    refine V_iload1 G dL_act_36 ?_
    refine V_bipush G dL_act_37 (by decide) ?_
    refine V_iand_ G dL_act_39 ?_
    refine V_ibit G (z := anI v 15) (rfl) ?_
    rcases (by omega : anI v 15 = 0 ∨ anI v 15 = 1 ∨ anI v 15 = 2 ∨ anI v 15 = 3 ∨ anI v 15 = 4 ∨ anI v 15 = 5 ∨ anI v 15 = 6 ∨ anI v 15 = 7 ∨ 7 < anI v 15) with e_40 | e_40 | e_40 | e_40 | e_40 | e_40 | e_40 | e_40 | e_40
    · rw [e_40]
      refine V_tableIn G dL_act_40 (tgt := 88) ⟨by decide, by decide⟩ (by decide) (by decide) rfl (by decide) ?_
      refine V_iload3 G dL_act_88 ?_
      refine V_ifne G dL_act_89 (tgt := 97) (by decide) ⟨by omega, by omega⟩ (fun c_89 => ?_) (fun c_89 => ?_)
      ·
        refine V_aload0 G dL_act_97 ?_
        refine V_iload5 G dL_act_98 ?_
        refine V_iload2 G dL_act_100 ?_
        refine V_bipush G dL_act_101 (by decide) ?_
        refine V_cS2i (d1 := 1) G m_L_22 dL_act_103 (c_low (m := 7) ⟨by omega, by omega⟩) (by omega) (by omega) (by omega) (Nat.le_of_ble_eq_true rfl) (fun x_103 h_103 hp_103 => ?_)
        rw [hp_103.1, hp_103.2]
        have hW := word_r (c := g.1) v (by omega)
        have hK7 : 0 ≤ lowI w 7 ∧ lowI w 7 ≤ 6 := by have := lowI_r (v := w) (n := 7) (by omega); omega
        refine Q2 G (o := opChange g (wordR g.1 v) (lowI w 7)) (ch_0 hW hK7) m_L_31 dL_act_106 (c_X6_change hlt r R I ⟨by omega, by omega⟩ ⟨by omega, by omega⟩) (by omega) (by omega) (by omega) (by omega) (by omega) (Nat.le_of_ble_eq_true rfl) (fun h R r => ?_)
        exact V_reti E dL_act_109 rfl rfl ⟨_, rfl, (by first | (rw [show actR g v w = (-9, g) from by unfold actR; (repeat' split) <;> first | rfl | omega]; exact ⟨rfl, R, r⟩) | (rw [show actR g v w = (opChange g (wordR g.1 v) (lowI w 7)).2 from by unfold actR; (repeat' split) <;> first | rfl | omega]; exact ⟨rfl, R, r⟩))⟩
      ·
        refine V_bipush G dL_act_92 (by decide) ?_
        refine V_goto G dL_act_94 (tgt := 109) (by decide) ?_
        exact V_reti E dL_act_109 rfl rfl ⟨_, rfl, (by first | (rw [show actR g v w = (-9, g) from by unfold actR; (repeat' split) <;> first | rfl | omega]; exact ⟨rfl, R, r⟩) | (rw [show actR g v w = (opChange g (wordR g.1 v) (lowI w 7)).2 from by unfold actR; (repeat' split) <;> first | rfl | omega]; exact ⟨rfl, R, r⟩))⟩
    · rw [e_40]
      refine V_tableIn G dL_act_40 (tgt := 110) ⟨by decide, by decide⟩ (by decide) (by decide) rfl (by decide) ?_
      refine V_iload3 G dL_act_110 ?_
      refine V_ifne G dL_act_111 (tgt := 119) (by decide) ⟨by omega, by omega⟩ (fun c_111 => ?_) (fun c_111 => ?_)
      ·
        refine V_aload0 G dL_act_119 ?_
        refine V_iload5 G dL_act_120 ?_
        have hW := word_r (c := g.1) v (by omega)
        refine Q1 G (o := opWipe g (wordR g.1 v)) (wi_0 hW) m_L_34 dL_act_122 (c_X6_wipe hlt r R I ⟨by omega, by omega⟩) (by omega) (by omega) (by omega) (by omega) (by omega) (Nat.le_of_ble_eq_true rfl) (fun h R r => ?_)
        exact V_reti E dL_act_125 rfl rfl ⟨_, rfl, (by first | (rw [show actR g v w = (-9, g) from by unfold actR; (repeat' split) <;> first | rfl | omega]; exact ⟨rfl, R, r⟩) | (rw [show actR g v w = (opWipe g (wordR g.1 v)).2 from by unfold actR; (repeat' split) <;> first | rfl | omega]; exact ⟨rfl, R, r⟩))⟩
      ·
        refine V_bipush G dL_act_114 (by decide) ?_
        refine V_goto G dL_act_116 (tgt := 125) (by decide) ?_
        exact V_reti E dL_act_125 rfl rfl ⟨_, rfl, (by first | (rw [show actR g v w = (-9, g) from by unfold actR; (repeat' split) <;> first | rfl | omega]; exact ⟨rfl, R, r⟩) | (rw [show actR g v w = (opWipe g (wordR g.1 v)).2 from by unfold actR; (repeat' split) <;> first | rfl | omega]; exact ⟨rfl, R, r⟩))⟩
    · rw [e_40]
      refine V_tableIn G dL_act_40 (tgt := 126) ⟨by decide, by decide⟩ (by decide) (by decide) rfl (by decide) ?_
      refine V_iload4 G dL_act_126 ?_
      refine V_ifne G dL_act_128 (tgt := 136) (by decide) ⟨by omega, by omega⟩ (fun c_128 => ?_) (fun c_128 => ?_)
      ·
        refine V_aload0 G dL_act_136 ?_
        refine V_iload2 G dL_act_137 ?_
        refine V_iload4 G dL_act_138 ?_
        refine V_cS2i (d1 := 1) G m_L_22 dL_act_140 (c_low (m := (lfS g.1).length) ⟨by omega, by omega⟩) (by omega) (by omega) (by omega) (Nat.le_of_ble_eq_true rfl) (fun x_140 h_140 hp_140 => ?_)
        rw [hp_140.1, hp_140.2]
        have hL := lowI_r (v := w) (n := ((lfS g.1).length : Int)) (by omega)
        refine Q1 G (o := opDraw g (lowI w (lfS g.1).length)) (dr_0 hL) m_L_37 dL_act_143 (c_X6_draw hlt r R I ⟨by omega, by omega⟩) (by omega) (by omega) (by omega) (by omega) (by omega) (Nat.le_of_ble_eq_true rfl) (fun h R r => ?_)
        exact V_reti E dL_act_146 rfl rfl ⟨_, rfl, (by first | (rw [show actR g v w = (-9, g) from by unfold actR; (repeat' split) <;> first | rfl | omega]; exact ⟨rfl, R, r⟩) | (rw [show actR g v w = (opDraw g (lowI w (lfS g.1).length)).2 from by unfold actR; (repeat' split) <;> first | rfl | omega]; exact ⟨rfl, R, r⟩))⟩
      ·
        refine V_bipush G dL_act_131 (by decide) ?_
        refine V_goto G dL_act_133 (tgt := 146) (by decide) ?_
        exact V_reti E dL_act_146 rfl rfl ⟨_, rfl, (by first | (rw [show actR g v w = (-9, g) from by unfold actR; (repeat' split) <;> first | rfl | omega]; exact ⟨rfl, R, r⟩) | (rw [show actR g v w = (opDraw g (lowI w (lfS g.1).length)).2 from by unfold actR; (repeat' split) <;> first | rfl | omega]; exact ⟨rfl, R, r⟩))⟩
    · rw [e_40]
      refine V_tableIn G dL_act_40 (tgt := 126) ⟨by decide, by decide⟩ (by decide) (by decide) rfl (by decide) ?_
      refine V_iload4 G dL_act_126 ?_
      refine V_ifne G dL_act_128 (tgt := 136) (by decide) ⟨by omega, by omega⟩ (fun c_128 => ?_) (fun c_128 => ?_)
      ·
        refine V_aload0 G dL_act_136 ?_
        refine V_iload2 G dL_act_137 ?_
        refine V_iload4 G dL_act_138 ?_
        refine V_cS2i (d1 := 1) G m_L_22 dL_act_140 (c_low (m := (lfS g.1).length) ⟨by omega, by omega⟩) (by omega) (by omega) (by omega) (Nat.le_of_ble_eq_true rfl) (fun x_140 h_140 hp_140 => ?_)
        rw [hp_140.1, hp_140.2]
        have hL := lowI_r (v := w) (n := ((lfS g.1).length : Int)) (by omega)
        refine Q1 G (o := opDraw g (lowI w (lfS g.1).length)) (dr_0 hL) m_L_37 dL_act_143 (c_X6_draw hlt r R I ⟨by omega, by omega⟩) (by omega) (by omega) (by omega) (by omega) (by omega) (Nat.le_of_ble_eq_true rfl) (fun h R r => ?_)
        exact V_reti E dL_act_146 rfl rfl ⟨_, rfl, (by first | (rw [show actR g v w = (-9, g) from by unfold actR; (repeat' split) <;> first | rfl | omega]; exact ⟨rfl, R, r⟩) | (rw [show actR g v w = (opDraw g (lowI w (lfS g.1).length)).2 from by unfold actR; (repeat' split) <;> first | rfl | omega]; exact ⟨rfl, R, r⟩))⟩
      ·
        refine V_bipush G dL_act_131 (by decide) ?_
        refine V_goto G dL_act_133 (tgt := 146) (by decide) ?_
        exact V_reti E dL_act_146 rfl rfl ⟨_, rfl, (by first | (rw [show actR g v w = (-9, g) from by unfold actR; (repeat' split) <;> first | rfl | omega]; exact ⟨rfl, R, r⟩) | (rw [show actR g v w = (opDraw g (lowI w (lfS g.1).length)).2 from by unfold actR; (repeat' split) <;> first | rfl | omega]; exact ⟨rfl, R, r⟩))⟩
    · rw [e_40]
      refine V_tableIn G dL_act_40 (tgt := 147) ⟨by decide, by decide⟩ (by decide) (by decide) rfl (by decide) ?_
      refine V_iload4 G dL_act_147 ?_
      refine V_ifne G dL_act_149 (tgt := 157) (by decide) ⟨by omega, by omega⟩ (fun c_149 => ?_) (fun c_149 => ?_)
      ·
        refine V_aload0 G dL_act_157 ?_
        refine Q0 G (o := opFlat g) (fl_0 (by omega)) m_L_40 dL_act_158 (c_X6_flatten hlt r R I ) (by omega) (by omega) (by omega) (by omega) (by omega) (Nat.le_of_ble_eq_true rfl) (fun h R r => ?_)
        exact V_reti E dL_act_161 rfl rfl ⟨_, rfl, (by first | (rw [show actR g v w = (-9, g) from by unfold actR; (repeat' split) <;> first | rfl | omega]; exact ⟨rfl, R, r⟩) | (rw [show actR g v w = (opFlat g).2 from by unfold actR; (repeat' split) <;> first | rfl | omega]; exact ⟨rfl, R, r⟩))⟩
      ·
        refine V_bipush G dL_act_152 (by decide) ?_
        refine V_goto G dL_act_154 (tgt := 161) (by decide) ?_
        exact V_reti E dL_act_161 rfl rfl ⟨_, rfl, (by first | (rw [show actR g v w = (-9, g) from by unfold actR; (repeat' split) <;> first | rfl | omega]; exact ⟨rfl, R, r⟩) | (rw [show actR g v w = (opFlat g).2 from by unfold actR; (repeat' split) <;> first | rfl | omega]; exact ⟨rfl, R, r⟩))⟩
    · rw [e_40]
      refine V_tableIn G dL_act_40 (tgt := 162) ⟨by decide, by decide⟩ (by decide) (by decide) rfl (by decide) ?_
      refine V_iload4 G dL_act_162 ?_
      refine V_ifeq G dL_act_164 (tgt := 174) (by decide) ⟨by omega, by omega⟩ (fun c_164 => ?_) (fun c_164 => ?_)
      ·
        refine V_bipush G dL_act_174 (by decide) ?_
        exact V_reti E dL_act_176 rfl rfl ⟨_, rfl, (by first | (rw [show actR g v w = (-9, g) from by unfold actR; (repeat' split) <;> first | rfl | omega]; exact ⟨rfl, R, r⟩) | (rw [show actR g v w = (opFlat g).2 from by unfold actR; (repeat' split) <;> first | rfl | omega]; exact ⟨rfl, R, r⟩))⟩
      ·
        refine V_aload0 G dL_act_167 ?_
        refine Q_ask G I R r dL_act_168 (by omega) (by omega) (by omega) (Nat.le_of_ble_eq_true rfl) (fun h R r => ?_)
        refine V_ifge G dL_act_171 (tgt := 177) (by decide) ⟨by omega, by omega⟩ (fun c_171 => ?_) (fun c_171 => ?_)
        ·
          refine V_aload0 G dL_act_177 ?_
          refine Q_ask G I R r dL_act_178 (by omega) (by omega) (by omega) (Nat.le_of_ble_eq_true rfl) (fun h R r => ?_)
          refine V_istore7 G dL_act_181 rfl ?_
          refine V_iload2 G dL_act_183 ?_
          refine V_iload3 G dL_act_184 ?_
          refine V_iconst G dL_act_185 ?_
          refine V_iadd G dL_act_186 ?_
          refine V_cS2i (d1 := 1) G m_L_22 dL_act_187 (c_low (m := nS g.1 + 1) ⟨by omega, by omega⟩) (by omega) (by omega) (by omega) (Nat.le_of_ble_eq_true rfl) (fun x_187 h_187 hp_187 => ?_)
          rw [hp_187.1, hp_187.2]
          refine V_iconst G dL_act_190 ?_
          refine V_isub G dL_act_191 ?_
          refine V_istore8 G dL_act_192 rfl ?_
          refine V_iload8 G dL_act_194 ?_
          refine V_iload7 G dL_act_196 ?_
          refine V_icmpeq G dL_act_198 (tgt := 212) (by decide) ⟨by omega, by omega⟩ ⟨by omega, by omega⟩ (fun c_198 => ?_) (fun c_198 => ?_)
          ·
            refine V_bipush G dL_act_212 (by decide) ?_
            refine V_goto G dL_act_214 (tgt := 225) (by decide) ?_
            exact V_reti E dL_act_225 rfl rfl ⟨_, rfl, (by first | (rw [show actR g v w = (-9, g) from by unfold actR; (repeat' split) <;> first | rfl | omega]; exact ⟨rfl, R, r⟩) | (rw [show actR g v w = (opFix g (askS g.1) (lowI w (nS g.1 + 1) - 1)).2 from by unfold actR; (repeat' split) <;> first | rfl | omega]; exact ⟨rfl, R, r⟩))⟩
          ·
            refine V_aload0 G dL_act_201 ?_
            refine V_iload7 G dL_act_202 ?_
            refine V_iload8 G dL_act_204 ?_
            have hA : 0 ≤ askS g.1 ∧ askS g.1 < nS g.1 := ⟨by omega, by omega⟩
            have hH : -1 ≤ (lowI w (nS g.1 + 1) - 1) ∧ (lowI w (nS g.1 + 1) - 1) < nS g.1 ∧ (lowI w (nS g.1 + 1) - 1) ≠ askS g.1 := ⟨by omega, by omega, by omega⟩
            have hlb := lbS_b I.1 (askS g.1) (lowI w (nS g.1 + 1) - 1)
            refine Q_if G hlt I R r hA hH dL_act_206 (by omega) (by omega) (by omega) (Nat.le_of_ble_eq_true rfl) (fun h R r => ?_)
            refine V_ifne G dL_act_209 (tgt := 217) (by decide) ⟨by omega, by omega⟩ (fun c_209 => ?_) (fun c_209 => ?_)
            ·
              refine V_aload0 G dL_act_217 ?_
              refine V_iload7 G dL_act_218 ?_
              refine V_iload8 G dL_act_220 ?_
              refine Q2 G (o := opFix g (askS g.1) (lowI w (nS g.1 + 1) - 1)) (fi_0 hA hH (by omega)) m_L_49 dL_act_222 (c_X6_fix hlt r R I ⟨by omega, by omega⟩ ⟨by omega, by omega⟩) (by omega) (by omega) (by omega) (by omega) (by omega) (Nat.le_of_ble_eq_true rfl) (fun h R r => ?_)
              exact V_reti E dL_act_225 rfl rfl ⟨_, rfl, (by first | (rw [show actR g v w = (-9, g) from by unfold actR; (repeat' split) <;> first | rfl | omega]; exact ⟨rfl, R, r⟩) | (rw [show actR g v w = (opFix g (askS g.1) (lowI w (nS g.1 + 1) - 1)).2 from by unfold actR; (repeat' split) <;> first | rfl | omega]; exact ⟨rfl, R, r⟩))⟩
            ·
              refine V_bipush G dL_act_212 (by decide) ?_
              refine V_goto G dL_act_214 (tgt := 225) (by decide) ?_
              exact V_reti E dL_act_225 rfl rfl ⟨_, rfl, (by first | (rw [show actR g v w = (-9, g) from by unfold actR; (repeat' split) <;> first | rfl | omega]; exact ⟨rfl, R, r⟩) | (rw [show actR g v w = (opFix g (askS g.1) (lowI w (nS g.1 + 1) - 1)).2 from by unfold actR; (repeat' split) <;> first | rfl | omega]; exact ⟨rfl, R, r⟩))⟩
        ·
          refine V_bipush G dL_act_174 (by decide) ?_
          exact V_reti E dL_act_176 rfl rfl ⟨_, rfl, (by first | (rw [show actR g v w = (-9, g) from by unfold actR; (repeat' split) <;> first | rfl | omega]; exact ⟨rfl, R, r⟩) | (rw [show actR g v w = (opFlat g).2 from by unfold actR; (repeat' split) <;> first | rfl | omega]; exact ⟨rfl, R, r⟩))⟩
    · rw [e_40]
      refine V_tableIn G dL_act_40 (tgt := 162) ⟨by decide, by decide⟩ (by decide) (by decide) rfl (by decide) ?_
      refine V_iload4 G dL_act_162 ?_
      refine V_ifeq G dL_act_164 (tgt := 174) (by decide) ⟨by omega, by omega⟩ (fun c_164 => ?_) (fun c_164 => ?_)
      ·
        refine V_bipush G dL_act_174 (by decide) ?_
        exact V_reti E dL_act_176 rfl rfl ⟨_, rfl, (by first | (rw [show actR g v w = (-9, g) from by unfold actR; (repeat' split) <;> first | rfl | omega]; exact ⟨rfl, R, r⟩) | (rw [show actR g v w = (opFlat g).2 from by unfold actR; (repeat' split) <;> first | rfl | omega]; exact ⟨rfl, R, r⟩))⟩
      ·
        refine V_aload0 G dL_act_167 ?_
        refine Q_ask G I R r dL_act_168 (by omega) (by omega) (by omega) (Nat.le_of_ble_eq_true rfl) (fun h R r => ?_)
        refine V_ifge G dL_act_171 (tgt := 177) (by decide) ⟨by omega, by omega⟩ (fun c_171 => ?_) (fun c_171 => ?_)
        ·
          refine V_aload0 G dL_act_177 ?_
          refine Q_ask G I R r dL_act_178 (by omega) (by omega) (by omega) (Nat.le_of_ble_eq_true rfl) (fun h R r => ?_)
          refine V_istore7 G dL_act_181 rfl ?_
          refine V_iload2 G dL_act_183 ?_
          refine V_iload3 G dL_act_184 ?_
          refine V_iconst G dL_act_185 ?_
          refine V_iadd G dL_act_186 ?_
          refine V_cS2i (d1 := 1) G m_L_22 dL_act_187 (c_low (m := nS g.1 + 1) ⟨by omega, by omega⟩) (by omega) (by omega) (by omega) (Nat.le_of_ble_eq_true rfl) (fun x_187 h_187 hp_187 => ?_)
          rw [hp_187.1, hp_187.2]
          refine V_iconst G dL_act_190 ?_
          refine V_isub G dL_act_191 ?_
          refine V_istore8 G dL_act_192 rfl ?_
          refine V_iload8 G dL_act_194 ?_
          refine V_iload7 G dL_act_196 ?_
          refine V_icmpeq G dL_act_198 (tgt := 212) (by decide) ⟨by omega, by omega⟩ ⟨by omega, by omega⟩ (fun c_198 => ?_) (fun c_198 => ?_)
          ·
            refine V_bipush G dL_act_212 (by decide) ?_
            refine V_goto G dL_act_214 (tgt := 225) (by decide) ?_
            exact V_reti E dL_act_225 rfl rfl ⟨_, rfl, (by first | (rw [show actR g v w = (-9, g) from by unfold actR; (repeat' split) <;> first | rfl | omega]; exact ⟨rfl, R, r⟩) | (rw [show actR g v w = (opFix g (askS g.1) (lowI w (nS g.1 + 1) - 1)).2 from by unfold actR; (repeat' split) <;> first | rfl | omega]; exact ⟨rfl, R, r⟩))⟩
          ·
            refine V_aload0 G dL_act_201 ?_
            refine V_iload7 G dL_act_202 ?_
            refine V_iload8 G dL_act_204 ?_
            have hA : 0 ≤ askS g.1 ∧ askS g.1 < nS g.1 := ⟨by omega, by omega⟩
            have hH : -1 ≤ (lowI w (nS g.1 + 1) - 1) ∧ (lowI w (nS g.1 + 1) - 1) < nS g.1 ∧ (lowI w (nS g.1 + 1) - 1) ≠ askS g.1 := ⟨by omega, by omega, by omega⟩
            have hlb := lbS_b I.1 (askS g.1) (lowI w (nS g.1 + 1) - 1)
            refine Q_if G hlt I R r hA hH dL_act_206 (by omega) (by omega) (by omega) (Nat.le_of_ble_eq_true rfl) (fun h R r => ?_)
            refine V_ifne G dL_act_209 (tgt := 217) (by decide) ⟨by omega, by omega⟩ (fun c_209 => ?_) (fun c_209 => ?_)
            ·
              refine V_aload0 G dL_act_217 ?_
              refine V_iload7 G dL_act_218 ?_
              refine V_iload8 G dL_act_220 ?_
              refine Q2 G (o := opFix g (askS g.1) (lowI w (nS g.1 + 1) - 1)) (fi_0 hA hH (by omega)) m_L_49 dL_act_222 (c_X6_fix hlt r R I ⟨by omega, by omega⟩ ⟨by omega, by omega⟩) (by omega) (by omega) (by omega) (by omega) (by omega) (Nat.le_of_ble_eq_true rfl) (fun h R r => ?_)
              exact V_reti E dL_act_225 rfl rfl ⟨_, rfl, (by first | (rw [show actR g v w = (-9, g) from by unfold actR; (repeat' split) <;> first | rfl | omega]; exact ⟨rfl, R, r⟩) | (rw [show actR g v w = (opFix g (askS g.1) (lowI w (nS g.1 + 1) - 1)).2 from by unfold actR; (repeat' split) <;> first | rfl | omega]; exact ⟨rfl, R, r⟩))⟩
            ·
              refine V_bipush G dL_act_212 (by decide) ?_
              refine V_goto G dL_act_214 (tgt := 225) (by decide) ?_
              exact V_reti E dL_act_225 rfl rfl ⟨_, rfl, (by first | (rw [show actR g v w = (-9, g) from by unfold actR; (repeat' split) <;> first | rfl | omega]; exact ⟨rfl, R, r⟩) | (rw [show actR g v w = (opFix g (askS g.1) (lowI w (nS g.1 + 1) - 1)).2 from by unfold actR; (repeat' split) <;> first | rfl | omega]; exact ⟨rfl, R, r⟩))⟩
        ·
          refine V_bipush G dL_act_174 (by decide) ?_
          exact V_reti E dL_act_176 rfl rfl ⟨_, rfl, (by first | (rw [show actR g v w = (-9, g) from by unfold actR; (repeat' split) <;> first | rfl | omega]; exact ⟨rfl, R, r⟩) | (rw [show actR g v w = (opFlat g).2 from by unfold actR; (repeat' split) <;> first | rfl | omega]; exact ⟨rfl, R, r⟩))⟩
    · rw [e_40]
      refine V_tableIn G dL_act_40 (tgt := 226) ⟨by decide, by decide⟩ (by decide) (by decide) rfl (by decide) ?_
      refine V_iload3 G dL_act_226 ?_
      refine V_ifne G dL_act_227 (tgt := 235) (by decide) ⟨by omega, by omega⟩ (fun c_227 => ?_) (fun c_227 => ?_)
      ·
        refine V_aload0 G dL_act_235 ?_
        refine V_iload5 G dL_act_236 ?_
        have hW := word_r (c := g.1) v (by omega)
        refine Q1 G (o := opLoosen g (wordR g.1 v)) (lo_0 hW) m_L_52 dL_act_238 (c_X6_loosen hlt r R I ⟨by omega, by omega⟩) (by omega) (by omega) (by omega) (by omega) (by omega) (Nat.le_of_ble_eq_true rfl) (fun h R r => ?_)
        exact V_reti E dL_act_241 rfl rfl ⟨_, rfl, (by first | (rw [show actR g v w = (-9, g) from by unfold actR; (repeat' split) <;> first | rfl | omega]; exact ⟨rfl, R, r⟩) | (rw [show actR g v w = (opLoosen g (wordR g.1 v)).2 from by unfold actR; (repeat' split) <;> first | rfl | omega]; exact ⟨rfl, R, r⟩))⟩
      ·
        refine V_bipush G dL_act_230 (by decide) ?_
        refine V_goto G dL_act_232 (tgt := 241) (by decide) ?_
        exact V_reti E dL_act_241 rfl rfl ⟨_, rfl, (by first | (rw [show actR g v w = (-9, g) from by unfold actR; (repeat' split) <;> first | rfl | omega]; exact ⟨rfl, R, r⟩) | (rw [show actR g v w = (opLoosen g (wordR g.1 v)).2 from by unfold actR; (repeat' split) <;> first | rfl | omega]; exact ⟨rfl, R, r⟩))⟩
    ·
      refine V_tableOut G dL_act_40 (tgt := 242) ⟨by omega, by omega⟩ (Or.inr (by omega)) (by decide) ?_
      refine V_iload3 G dL_act_242 ?_
      refine V_bipush G dL_act_243 (by decide) ?_
      refine V_icmpne G dL_act_245 (tgt := 251) (by decide) ⟨by omega, by omega⟩ ⟨by omega, by omega⟩ (fun c_245 => ?_) (fun c_245 => ?_)
      ·
        refine V_iload3 G dL_act_251 ?_
        refine V_ifne G dL_act_252 (tgt := 259) (by decide) ⟨by omega, by omega⟩ (fun c_252 => ?_) (fun c_252 => ?_)
        ·
          refine V_iload3 G dL_act_259 ?_
          refine V_iconst G dL_act_260 ?_
          refine V_icmpne G dL_act_261 (tgt := 268) (by decide) ⟨by omega, by omega⟩ ⟨by omega, by omega⟩ (fun c_261 => ?_) (fun c_261 => ?_)
          ·
            refine V_iload2 G dL_act_268 ?_
            refine V_iconst G dL_act_269 ?_
            refine V_cS2i (d1 := 1) G m_L_22 dL_act_270 (c_low (m := 3) ⟨by omega, by omega⟩) (by omega) (by omega) (by omega) (Nat.le_of_ble_eq_true rfl) (fun x_270 h_270 hp_270 => ?_)
            rw [hp_270.1, hp_270.2]
            refine V_ifne G dL_act_273 (tgt := 287) (by decide) ⟨by omega, by omega⟩ (fun c_273 => ?_) (fun c_273 => ?_)
            ·
              refine V_iload2 G dL_act_287 ?_
              refine V_iconst G dL_act_288 ?_
              refine V_ishr_ G dL_act_289 ?_
              refine V_ibit G (z := shI w 2) (rfl) ?_
              refine V_iconst G dL_act_290 ?_
              refine V_iand_ G dL_act_291 ?_
              refine V_ibit G (z := anI (shI w 2) 3) (rfl) ?_
              refine V_iconst G dL_act_292 ?_
              refine V_icmpge G dL_act_293 (tgt := 300) (by decide) ⟨by omega, by omega⟩ ⟨by omega, by omega⟩ (fun c_293 => ?_) (fun c_293 => ?_)
              ·
                refine V_iconst G dL_act_300 ?_
                exact j301 _ h _ _ _ _ _ (by unfold kind0R; (repeat' split) <;> first | rfl | omega) (by omega) (by omega) rfl R r (by omega) (by omega)
              ·
                refine V_iconst G dL_act_296 ?_
                refine V_goto G dL_act_297 (tgt := 301) (by decide) ?_
                exact j301 _ h _ _ _ _ _ (by unfold kind0R; (repeat' split) <;> first | rfl | omega) (by omega) (by omega) rfl R r (by omega) (by omega)
            ·
              refine V_iload2 G dL_act_276 ?_
              refine V_iconst G dL_act_277 ?_
              refine V_ishr_ G dL_act_278 ?_
              refine V_ibit G (z := shI w 2) (rfl) ?_
              refine V_bipush G dL_act_279 (by decide) ?_
              refine V_cS2i (d1 := 1) G m_L_22 dL_act_281 (c_low (m := 7) ⟨by omega, by omega⟩) (by omega) (by omega) (by omega) (Nat.le_of_ble_eq_true rfl) (fun x_281 h_281 hp_281 => ?_)
              rw [hp_281.1, hp_281.2]
              refine V_goto G dL_act_284 (tgt := 301) (by decide) ?_
              exact j301 _ h _ _ _ _ _ (by unfold kind0R; (repeat' split) <;> first | rfl | omega) (by omega) (by omega) rfl R r (by omega) (by omega)
          ·
            refine V_iconst G dL_act_264 ?_
            refine V_goto G dL_act_265 (tgt := 301) (by decide) ?_
            exact j301 _ h _ _ _ _ _ (by unfold kind0R; (repeat' split) <;> first | rfl | omega) (by omega) (by omega) rfl R r (by omega) (by omega)
        ·
          refine V_iconst G dL_act_255 ?_
          refine V_goto G dL_act_256 (tgt := 301) (by decide) ?_
          exact j301 _ h _ _ _ _ _ (by unfold kind0R; (repeat' split) <;> first | rfl | omega) (by omega) (by omega) rfl R r (by omega) (by omega)
      ·
        refine V_bipush G dL_act_248 (by decide) ?_
        exact V_reti E dL_act_250 rfl rfl ⟨_, rfl, (by first | (rw [show actR g v w = (-9, g) from by unfold actR; (repeat' split) <;> first | rfl | omega]; exact ⟨rfl, R, r⟩) | (rw [show actR g v w = (opAdd g (kindR g.1 w)).2 from by unfold actR; (repeat' split) <;> first | rfl | omega]; exact ⟨rfl, R, r⟩))⟩
  refine V_aload0 G dL_act_0 ?_
  refine V_iconst G dL_act_1 ?_
  refine Q_cntv G hlt I R r cnt0 ⟨by omega, by omega⟩ dL_act_2 (by omega) (by omega) (by omega) (Nat.le_of_ble_eq_true rfl) (fun h R r => ?_)
  refine V_istore3 G dL_act_5 rfl ?_
  refine V_aload0 G dL_act_6 ?_
  refine V_iconst G dL_act_7 ?_
  refine Q_cntv G hlt I R r cnt3 ⟨by omega, by omega⟩ dL_act_8 (by omega) (by omega) (by omega) (Nat.le_of_ble_eq_true rfl) (fun h R r => ?_)
  refine V_istore4 G dL_act_11 rfl ?_
  refine V_iload3 G dL_act_13 ?_
  refine V_ifne G dL_act_14 (tgt := 21) (by decide) ⟨by omega, by omega⟩ (fun c_14 => ?_) (fun c_14 => ?_)
  ·
    refine V_iload1 G dL_act_21 ?_
    refine V_iconst G dL_act_22 ?_
    refine V_ishr_ G dL_act_23 ?_
    refine V_ibit G (z := shI v 4) (rfl) ?_
    refine V_iload3 G dL_act_24 ?_
    refine V_cS2i (d1 := 1) G m_L_22 dL_act_25 (c_low (m := nS g.1) ⟨by omega, by omega⟩) (by omega) (by omega) (by omega) (Nat.le_of_ble_eq_true rfl) (fun x_25 h_25 hp_25 => ?_)
    rw [hp_25.1, hp_25.2]
    exact j28 _ h _ _ (by unfold wordR; (repeat' split) <;> first | rfl | omega) R r (by omega) (by omega)
  ·
    refine V_iconst G dL_act_17 ?_
    refine V_goto G dL_act_18 (tgt := 28) (by decide) ?_
    exact j28 _ h _ _ (by unfold wordR; (repeat' split) <;> first | rfl | omega) R r (by omega) (by omega)

end L2
