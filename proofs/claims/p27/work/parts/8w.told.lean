section L1
theorem CX.noX {l : Launch} {d kc ks : Nat} {y : MethodName} {bytes : ByteArray} {maxL : Nat} {ret : Option FieldType} {av : List Value} {h : Hp} {post : Option Value → Hp → Prop} {px : String → Hp → Prop} (hC : CX l d kc ks y bytes maxL ret av h post px) (hx : ∀ E h1, ¬ px E h1) : CP l d kc ks y bytes maxL ret av h post := by
  intro D cA σ sz p e ha hc hk s m args below hf happ hP hK
  obtain ⟨n, o, h1, h2, h3, h4⟩ := hC D cA σ sz p e ha hc hk s m args below hf happ hP hK
  refine ⟨n, o, h1, h2, h3, ?_⟩
  rcases h4 with h4 | ⟨q, -, E, ce, L, ⟨⟨h', q1, -⟩, -⟩, -⟩
  · exact h4
  · exact absurd q1 (hx E h')
variable {X : Cxt} {cc : ByteArray} {d kc ks k n pc : Nat} {ls : List (Option Value)} {st : List Value} {h : Hp}
theorem V_wd {k' n' : Nat} (h1 : k ≤ k') (h2 : n ≤ n') (kk : V X k' n' pc ls st h) : V X k n pc ls st h := by
  obtain ⟨p, l, e, R, s, m, args, below, meth, c, D, cA, A, Dp, Q, σ, nL⟩ := X
  intro H locs d0 lr g1 g2 g3 g4
  exact W.widen h1 h2 (kk H locs d0 lr g1 g2 g3 g4)
theorem opX_no {o : Rs} (ho : o.1 = 0) {E1 E2 : String} {h : Hp} : ∀ E h1, ¬ opX o E1 E2 h E h1 := by
  rintro E h1 ⟨-, ⟨q, -⟩ | ⟨q, -⟩⟩ <;> omega
theorem Q0 (G : Gd X RL cc d kc ks) {idx maxL kc1 ks1 : Nat} {y : MethodName} {bytes : ByteArray} {o : Rs} {E1 E2 : String}  (ho : o.1 = 0) (M : MV RL idx 7 y bytes maxL (Option.some Jvm.ClassFile.FieldType.int) 0) (hd : decode cc pc = .ok (.invokevirtual idx, 3)) (hC : CX X.2.1 40 kc1 ks1 y bytes maxL (Option.some Jvm.ClassFile.FieldType.int) [.ref 0] h (pI (opP o h)) (opX o E1 E2 h)) (hdd : 41 ≤ d) (h3 : kc1 ≤ 3) (h18 : ks1 ≤ 18) (hk : k + 3 ≤ kc) (hn : n + 18 ≤ ks) (hst : (st.map fun v => v.category).sum ≤ 8) (kk : ∀ h1, RepC o.2.2 h1 → Rg h1 → V X (k + 3) (n + 18) (pc + 3) ls (.int (Int32.ofInt o.2.1) :: st) h1) : V X k n pc ls (.ref 0 :: st) h := by
  refine V_cV0 (d1 := 40) (kc1 := kc1) (ks1 := ks1) G M hd (by decide) rfl (hC.noX (opX_no ho)) (by omega) (by omega) (by omega) hst (fun rr h1 hp => ?_)
  obtain ⟨x, rfl, e1, rfl, e3, e4, -⟩ := hp
  exact V_wd (by omega) (by omega) (kk h1 e3 e4)
theorem Q1 (G : Gd X RL cc d kc ks) {idx maxL kc1 ks1 : Nat} {y : MethodName} {bytes : ByteArray} {o : Rs} {E1 E2 : String} {v0 : Value} (ho : o.1 = 0) (M : MV RL idx 7 y bytes maxL (Option.some Jvm.ClassFile.FieldType.int) 1) (hd : decode cc pc = .ok (.invokevirtual idx, 3)) (hC : CX X.2.1 40 kc1 ks1 y bytes maxL (Option.some Jvm.ClassFile.FieldType.int) [.ref 0, v0] h (pI (opP o h)) (opX o E1 E2 h)) (hdd : 41 ≤ d) (h3 : kc1 ≤ 3) (h18 : ks1 ≤ 18) (hk : k + 3 ≤ kc) (hn : n + 18 ≤ ks) (hst : (st.map fun v => v.category).sum ≤ 8) (kk : ∀ h1, RepC o.2.2 h1 → Rg h1 → V X (k + 3) (n + 18) (pc + 3) ls (.int (Int32.ofInt o.2.1) :: st) h1) : V X k n pc ls (v0 :: .ref 0 :: st) h := by
  refine V_cV1 (d1 := 40) (kc1 := kc1) (ks1 := ks1) G M hd (by decide) rfl (hC.noX (opX_no ho)) (by omega) (by omega) (by omega) hst (fun rr h1 hp => ?_)
  obtain ⟨x, rfl, e1, rfl, e3, e4, -⟩ := hp
  exact V_wd (by omega) (by omega) (kk h1 e3 e4)
theorem Q2 (G : Gd X RL cc d kc ks) {idx maxL kc1 ks1 : Nat} {y : MethodName} {bytes : ByteArray} {o : Rs} {E1 E2 : String} {v0 v1 : Value} (ho : o.1 = 0) (M : MV RL idx 7 y bytes maxL (Option.some Jvm.ClassFile.FieldType.int) 2) (hd : decode cc pc = .ok (.invokevirtual idx, 3)) (hC : CX X.2.1 40 kc1 ks1 y bytes maxL (Option.some Jvm.ClassFile.FieldType.int) [.ref 0, v0, v1] h (pI (opP o h)) (opX o E1 E2 h)) (hdd : 41 ≤ d) (h3 : kc1 ≤ 3) (h18 : ks1 ≤ 18) (hk : k + 3 ≤ kc) (hn : n + 18 ≤ ks) (hst : (st.map fun v => v.category).sum ≤ 8) (kk : ∀ h1, RepC o.2.2 h1 → Rg h1 → V X (k + 3) (n + 18) (pc + 3) ls (.int (Int32.ofInt o.2.1) :: st) h1) : V X k n pc ls (v1 :: v0 :: .ref 0 :: st) h := by
  refine V_cV2 (d1 := 40) (kc1 := kc1) (ks1 := ks1) G M hd (by decide) rfl (hC.noX (opX_no ho)) (by omega) (by omega) (by omega) hst (fun rr h1 hp => ?_)
  obtain ⟨x, rfl, e1, rfl, e3, e4, -⟩ := hp
  exact V_wd (by omega) (by omega) (kk h1 e3 e4)
theorem Q_cnt (G : Gd X RL cc d kc ks) (hlt : X.2.1.stackTraces = false) {g : Sg} (I : InvS g) (R : RepC g h) (r : Rg h) {q : Int} (hq : 0 ≤ q ∧ q ≤ 8) (hd : decode cc pc = .ok (.invokevirtual 12, 3)) (hdd : 41 ≤ d) (hk : k + 3 ≤ kc) (hn : n + 18 ≤ ks) (hst : (st.map fun v => v.category).sum ≤ 8) (kk : ∀ h1, RepC g h1 → Rg h1 → V X (k + 3) (n + 18) (pc + 3) ls (.int (Int32.ofInt (cntS g q)) :: st) h1) : V X k n pc ls (.int (Int32.ofInt q) :: .ref 0 :: st) h := by
  have e : opCount g q = (0, cntS g q, g) := if_neg (fun z => z hq)
  refine Q1 G (o := opCount g q) (by rw [e]) m_L_12 hd (c_X6_count hlt r R I ⟨by omega, by omega⟩) hdd (by omega) (by omega) hk hn hst ?_
  rw [e]
  exact kk
theorem Q_word (G : Gd X RL cc d kc ks) (hlt : X.2.1.stackTraces = false) {g : Sg} (I : InvS g) (R : RepC g h) (r : Rg h) {w q : Int} (hw : 0 ≤ w ∧ w < nS g.1) (hq : 0 ≤ q ∧ q ≤ 7) (hd : decode cc pc = .ok (.invokevirtual 18, 3)) (hdd : 41 ≤ d) (hk : k + 3 ≤ kc) (hn : n + 18 ≤ ks) (hst : (st.map fun v => v.category).sum ≤ 8) (kk : ∀ h1, RepC g h1 → Rg h1 → V X (k + 3) (n + 18) (pc + 3) ls (.int (Int32.ofInt (wordS g.1 w q)) :: st) h1) : V X k n pc ls (.int (Int32.ofInt q) :: .int (Int32.ofInt w) :: .ref 0 :: st) h := by
  have hn12 := I.1.1
  have e : opWord g w q = (0, wordS g.1 w q, g) := by
    unfold opWord
    rw [if_neg (fun z => z hw), if_neg (fun z => z hq)]
  refine Q2 G (o := opWord g w q) (by rw [e]) m_L_18 hd (c_X6_wordOf hlt r R I ⟨by omega, by omega⟩ ⟨by omega, by omega⟩) hdd (by omega) (by omega) hk hn hst ?_
  rw [e]
  exact kk
theorem Q_read (G : Gd X RL cc d kc ks) (hlt : X.2.1.stackTraces = false) {g : Sg} (I : InvS g) (R : RepC g h) (r : Rg h) {w q : Int} (hw : 0 ≤ w ∧ w < (lfS g.1).length) (hq : 0 ≤ q ∧ q ≤ 5) (hd : decode cc pc = .ok (.invokevirtual 58, 3)) (hdd : 41 ≤ d) (hk : k + 3 ≤ kc) (hn : n + 18 ≤ ks) (hst : (st.map fun v => v.category).sum ≤ 8) (kk : ∀ h1, RepC g h1 → Rg h1 → V X (k + 3) (n + 18) (pc + 3) ls (.int (Int32.ofInt (readS g.1 w q)) :: st) h1) : V X k n pc ls (.int (Int32.ofInt q) :: .int (Int32.ofInt w) :: .ref 0 :: st) h := by
  have h42 := lfS_len I.1
  have e : opRead g w q = (0, readS g.1 w q, g) := by
    unfold opRead
    rw [if_neg (fun z => z hw), if_neg (fun z => z hq)]
  refine Q2 G (o := opRead g w q) (by rw [e]) m_L_58 hd (c_X6_readingOf hlt r R I ⟨by omega, by omega⟩ ⟨by omega, by omega⟩) hdd (by omega) (by omega) hk hn hst ?_
  rw [e]
  exact kk
theorem Q_ask (G : Gd X RL cc d kc ks) {g : Sg} (I : InvS g) (R : RepC g h) (r : Rg h) (hd : decode cc pc = .ok (.invokevirtual 43, 3)) (hdd : 41 ≤ d) (hk : k ≤ kc) (hn : n ≤ ks) (hst : (st.map fun v => v.category).sum ≤ 8) (kk : ∀ h1, RepC g h1 → Rg h1 → V X k n (pc + 3) ls (.int (Int32.ofInt (askS g.1)) :: st) h1) : V X k n pc ls (.ref 0 :: st) h := by
  refine V_cV0i (d1 := 40) G m_L_43 hd (by decide) rfl (c_X6_question r R I) (by omega) hk hn hst (fun x h1 hp => ?_)
  obtain ⟨e1, rfl, e3, e4, -⟩ := hp
  exact kk h1 e3 e4
theorem Q_next (G : Gd X RL cc d kc ks) {g : Sg} (I : InvS g) (R : RepC g h) (r : Rg h) (hd : decode cc pc = .ok (.invokevirtual 27, 3)) (hdd : 41 ≤ d) (hk : k ≤ kc) (hn : n ≤ ks) (hst : (st.map fun v => v.category).sum ≤ 8) (kk : ∀ h1, RepC g h1 → Rg h1 → V X k n (pc + 3) ls (.int (Int32.ofInt (addS g.1)) :: st) h1) : V X k n pc ls (.ref 0 :: st) h := by
  refine V_cV0i (d1 := 40) G m_L_27 hd (by decide) rfl (c_X6_next r R I) (by omega) hk hn hst (fun x h1 hp => ?_)
  obtain ⟨e1, rfl, e3, e4, -⟩ := hp
  exact kk h1 e3 e4
theorem Q_share (G : Gd X RL cc d kc ks) {g : Sg} (I : InvS g) (R : RepC g h) (r : Rg h) (hd : decode cc pc = .ok (.invokevirtual 61, 3)) (hdd : 41 ≤ d) (hk : k ≤ kc) (hn : n ≤ ks) (hst : (st.map fun v => v.category).sum ≤ 8) (kk : V X k n (pc + 3) ls (.double (shS g.1) :: st) h) : V X k n pc ls (.ref 0 :: st) h := by
  refine V_cV0d (d1 := 40) G m_L_61 hd (by decide) rfl (c_X6_sureShare r R I) (by omega) hk hn hst (fun x h1 hp => ?_)
  obtain ⟨rfl, rfl⟩ := hp
  exact kk
/-- the law's small helper: a number from 0 to n - 1 -/
def lowI (v n : Int) : Int := (Int32.ofInt v &&& 2147483647).toInt % n
theorem low_nn (v : Int) : 0 ≤ (Int32.ofInt v &&& 2147483647).toInt := by
  show 0 ≤ (Int32.ofInt v &&& 2147483647).toBitVec.toInt
  rw [Int32.toBitVec_and]
  have hm : ((Int32.ofInt v).toBitVec &&& (2147483647 : Int32).toBitVec).msb = false := by
    rw [BitVec.msb_and, show (2147483647 : Int32).toBitVec.msb = false by decide, Bool.and_false]
  rw [BitVec.toInt_eq_toNat_of_msb hm]
  omega
theorem lowI_r {v n : Int} (h : 0 < n) : 0 ≤ lowI v n ∧ lowI v n < n := ⟨Int.emod_nonneg _ (by omega), Int.emod_lt_of_pos _ h⟩
set_option maxRecDepth 100000 in
set_option maxHeartbeats 4000000 in
theorem c_low {l : Launch} {d : Nat} {h : Hp} {v m : Int} (hm : 0 < m ∧ m < 2147483648) (hd : 1 ≤ d := by omega) : CP l d 0 0 yL_low cL_low 2 (Option.some Jvm.ClassFile.FieldType.int) [iv v, iv m] h (pI fun x h1 => x = lowI v m ∧ h1 = h) := by
  refine CP.ofV (L := [some (.int (Int32.ofInt v)), some (.int (Int32.ofInt m))]) RL (by decide +kernel) rfl (Nat.le_of_ble_eq_true rfl) rfl (fun X hX G E => ?_)
  subst hX
  refine V_iload0 G dL_low_0 ?_
  refine V_ldc_ G dL_low_1 k_L_7 ?_
  refine V_iand_ G dL_low_3 ?_
  refine V_ibit G (z := (Int32.ofInt v &&& 2147483647).toInt) (rfl) ?_
  refine V_iload1 G dL_low_4 ?_
  refine V_irem G dL_low_5 ⟨low_nn v, by have := Int32.toInt_lt (Int32.ofInt v &&& 2147483647); omega⟩ hm ?_
  exact V_reti E dL_low_6 rfl rfl ⟨_, rfl, ⟨rfl, rfl⟩⟩

/-- what is told of a state -/
noncomputable def tolW (c : Cs) : Nat → Int → Int64 → Int64
  | 0, _, a => a
  | m + 1, w, a => tolW c m (w + 1) (hF (fun q => z2l (wordS c w q)) 8 0 a)
noncomputable def tolC (g : Sg) : Int64 := tolW g.1 (nS g.1).toNat 0 (hF (fun q => z2l (cntS g q)) 8 0 3)
theorem hF_st {f : Int → Int64} {m : Nat} {k : Int} {a : Int64} : hF f (m + 1) k a = hF f m (k + 1) (31 * a + f k) := rfl
set_option maxRecDepth 100000 in
set_option maxHeartbeats 4000000 in
theorem c_told {l : Launch} {d : Nat} {h : Hp} (hlt : l.stackTraces = false) (r : Rg h) {g : Sg} (R : RepC g h) (I : InvS g) (hd : 45 ≤ d := by omega) : CP l d 400 2400 yL_told cL_told 5 (Option.some Jvm.ClassFile.FieldType.long) [.ref 0] h (pL fun x h1 => x = tolC g ∧ RepC g h1 ∧ Rg h1) := by
  refine CP.ofV (L := [some (.ref 0), none, none, none, none]) RL (by decide +kernel) rfl (Nat.le_of_ble_eq_true rfl) rfl (fun X hX G E => ?_)
  subst hX
  have hn12 := I.1.1
  have l1 : ∀ (m : Nat) (q : Int) (a : Int64) (h : Hp) (k n : Nat), q + m = 8 → 0 ≤ q → RepC g h → Rg h → k ≤ 3 * q → n ≤ 18 * q → (∀ (h : Hp) (k n : Nat), RepC g h → Rg h → k ≤ 24 → n ≤ 144 → V X k n 31 [some (.ref 0), some (.long (hF (fun q => z2l (cntS g q)) m q a)), none, some (.int (Int32.ofInt 8)), none] [] h) → V X k n 6 [some (.ref 0), some (.long a), none, some (.int (Int32.ofInt q)), none] [] h := by
    intro m
    induction m with
    | zero =>
      intro q a h k n hm hq R r hk hn kk
      obtain rfl : q = 8 := by omega
      refine V_iload3 G dL_told_6 ?_
      refine V_bipush G dL_told_7 (by decide) ?_
      refine V_icmpge G dL_told_9 (tgt := 31) (by decide) (by first | exact r _ _ | assumption | exact ⟨by omega, by omega⟩) (by first | exact r _ _ | assumption | exact ⟨by omega, by omega⟩) (fun c_9 => ?_) (fun c_9 => ?_)
      ·
        exact kk h k n R r (by omega) (by omega)
      · omega
    | succ m ih =>
      intro q a h k n hm hq R r hk hn kk
      refine V_iload3 G dL_told_6 ?_
      refine V_bipush G dL_told_7 (by decide) ?_
      refine V_icmpge G dL_told_9 (tgt := 31) (by decide) (by first | exact r _ _ | assumption | exact ⟨by omega, by omega⟩) (by first | exact r _ _ | assumption | exact ⟨by omega, by omega⟩) (fun c_9 => ?_) (fun c_9 => ?_)
      · omega
      ·
        refine V_ldc2 G dL_told_12 k_L_10 ?_
        refine V_lload1 G dL_told_15 ?_
        refine V_lmul G dL_told_16 ?_
        refine V_aload0 G dL_told_17 ?_
        refine V_iload3 G dL_told_18 ?_
        refine Q_cnt G hlt I R r ⟨by omega, by omega⟩ dL_told_19 (by omega) (by omega) (by omega) (Nat.le_of_ble_eq_true rfl) (fun h R r => ?_)
        refine V_i2l_ G dL_told_22 ?_
        refine V_ladd G dL_told_23 ?_
        refine V_lstore1 G dL_told_24 rfl ?_
        refine V_iinc3 G dL_told_25 rfl ?_
        refine V_goto G dL_told_28 (tgt := 6) (by decide) ?_
        exact ih (q + 1) _ h _ _ (by omega) (by omega) R r (by omega) (by omega) kk
  have l3 : ∀ (m : Nat) (w q : Int) (a : Int64) (h : Hp) (k n : Nat), q + m = 8 → 0 ≤ q → 0 ≤ w → w < nS g.1 → RepC g h → Rg h → k ≤ 24 + 27 * w + 3 + 3 * q → n ≤ 144 + 162 * w + 18 + 18 * q → (∀ (h : Hp) (k n : Nat), RepC g h → Rg h → k ≤ 24 + 27 * (w + 1) → n ≤ 144 + 162 * (w + 1) → V X k n 73 [some (.ref 0), some (.long (hF (fun q => z2l (wordS g.1 w q)) m q a)), none, some (.int (Int32.ofInt w)), some (.int (Int32.ofInt 8))] [] h) → V X k n 45 [some (.ref 0), some (.long a), none, some (.int (Int32.ofInt w)), some (.int (Int32.ofInt q))] [] h := by
    intro m
    induction m with
    | zero =>
      intro w q a h k n hm hq hw0 hw1 R r hk hn kk
      obtain rfl : q = 8 := by omega
      refine V_iload4 G dL_told_45 ?_
      refine V_bipush G dL_told_47 (by decide) ?_
      refine V_icmpge G dL_told_49 (tgt := 73) (by decide) (by first | exact r _ _ | assumption | exact ⟨by omega, by omega⟩) (by first | exact r _ _ | assumption | exact ⟨by omega, by omega⟩) (fun c_49 => ?_) (fun c_49 => ?_)
      ·
        exact kk h k n R r (by omega) (by omega)
      · omega
    | succ m ih =>
      intro w q a h k n hm hq hw0 hw1 R r hk hn kk
      refine V_iload4 G dL_told_45 ?_
      refine V_bipush G dL_told_47 (by decide) ?_
      refine V_icmpge G dL_told_49 (tgt := 73) (by decide) (by first | exact r _ _ | assumption | exact ⟨by omega, by omega⟩) (by first | exact r _ _ | assumption | exact ⟨by omega, by omega⟩) (fun c_49 => ?_) (fun c_49 => ?_)
      · omega
      ·
        refine V_ldc2 G dL_told_52 k_L_10 ?_
        refine V_lload1 G dL_told_55 ?_
        refine V_lmul G dL_told_56 ?_
        refine V_aload0 G dL_told_57 ?_
        refine V_iload3 G dL_told_58 ?_
        refine V_iload4 G dL_told_59 ?_
        refine Q_word G hlt I R r ⟨by omega, by omega⟩ ⟨by omega, by omega⟩ dL_told_61 (by omega) (by omega) (by omega) (Nat.le_of_ble_eq_true rfl) (fun h R r => ?_)
        refine V_i2l_ G dL_told_64 ?_
        refine V_ladd G dL_told_65 ?_
        refine V_lstore1 G dL_told_66 rfl ?_
        refine V_iinc4 G dL_told_67 rfl ?_
        refine V_goto G dL_told_70 (tgt := 45) (by decide) ?_
        exact ih w (q + 1) _ h _ _ (by omega) (by omega) hw0 hw1 R r (by omega) (by omega) kk
  have l2 : ∀ (m : Nat) (w : Int) (a : Int64) (h : Hp) (k n : Nat) (a4 : Option Value), w + m = nS g.1 → 0 ≤ w → RepC g h → Rg h → k ≤ 24 + 27 * w → n ≤ 144 + 162 * w → tolW g.1 m w a = tolC g → V X k n 33 [some (.ref 0), some (.long a), none, some (.int (Int32.ofInt w)), a4] [] h := by
    intro m
    induction m with
    | zero =>
      intro w a h k n a4 hm hw R r hk hn he
      refine V_iload3 G dL_told_33 ?_
      refine V_aload0 G dL_told_34 ?_
      refine V_iconst G dL_told_35 ?_
      refine Q_cnt G hlt I R r ⟨by omega, by omega⟩ dL_told_36 (by omega) (by omega) (by omega) (Nat.le_of_ble_eq_true rfl) (fun h R r => ?_)
      refine V_icmpge G dL_told_39 (tgt := 79) (by decide) ⟨by omega, by omega⟩ (show inr (nS g.1) from ⟨by omega, by omega⟩) (fun c_39 => ?_) (fun c_39 => ?_)
      ·
        refine V_lload1 G dL_told_79 ?_
        exact V_retl E dL_told_80 rfl ⟨_, rfl, he, R, r⟩
      · exact absurd (show cntS g 0 ≤ w from by show nS g.1 ≤ w; omega) c_39
    | succ m ih =>
      intro w a h k n a4 hm hw R r hk hn he
      refine V_iload3 G dL_told_33 ?_
      refine V_aload0 G dL_told_34 ?_
      refine V_iconst G dL_told_35 ?_
      refine Q_cnt G hlt I R r ⟨by omega, by omega⟩ dL_told_36 (by omega) (by omega) (by omega) (Nat.le_of_ble_eq_true rfl) (fun h R r => ?_)
      refine V_icmpge G dL_told_39 (tgt := 79) (by decide) ⟨by omega, by omega⟩ (show inr (nS g.1) from ⟨by omega, by omega⟩) (fun c_39 => ?_) (fun c_39 => ?_)
      · exact absurd (show nS g.1 ≤ w from c_39) (by omega)
      ·
        refine V_iconst G dL_told_42 ?_
        refine V_istore4 G dL_told_43 rfl ?_
        refine l3 8 w 0 _ h _ _ (by omega) (by omega) hw (by omega) R r (by omega) (by omega) (fun h k n R r hk hn => ?_)
        refine V_iinc3 G dL_told_73 rfl ?_
        refine V_goto G dL_told_76 (tgt := 33) (by decide) ?_
        exact ih (w + 1) _ h _ _ _ (by omega) (by omega) R r (by omega) (by omega) he
  refine V_ldc2 G dL_told_0 k_L_8 ?_
  refine V_lstore1 G dL_told_3 rfl ?_
  refine V_iconst G dL_told_4 ?_
  refine V_istore3 G dL_told_5 rfl ?_
  refine l1 8 0 3 h 0 0 (by omega) (by omega) R r (by omega) (by omega) (fun h k n R r hk hn => ?_)
  refine V_iconst G dL_told_31 ?_
  refine V_istore3 G dL_told_32 rfl ?_
  exact l2 (nS g.1).toNat 0 _ h _ _ _ (by omega) (by omega) R r (by omega) (by omega) rfl

end L1
