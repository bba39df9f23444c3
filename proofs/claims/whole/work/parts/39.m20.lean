section M20

def plc (t : Nat) : Nat := match t with
  | 0 => 94
  | 1 => 91
  | 2 => 95
  | 3 => 92
  | 4 => 93
  | _ => 96
def spP (h : Hp) (kd : Int → Int) (n : Int) (p : Nat → Int → Int → Prop) : Prop := ∀ t, t ≤ 5 → ∀ a b, 0 ≤ a → a ≤ b → b ≤ n → p t a b → hI h (plc t) (13 * a + b) = dp kd t a b
theorem spP.put {h : Hp} {kd : Int → Int} {n i j : Int} {p p' : Nat → Int → Int → Prop} (u : spP h kd n p) (t0 : Nat) (ht : t0 ≤ 5) (hn : n ≤ 12) (hi : 0 ≤ i) (hij : i ≤ j) (hj : j ≤ n) (hp : ∀ t, t ≤ 5 → ∀ a b, 0 ≤ a → a ≤ b → b ≤ n → p' t a b → p t a b ∨ (t = t0 ∧ a = i ∧ b = j)) : spP (sI h (plc t0) (13 * i + j) (dp kd t0 i j)) kd n p' := by
  intro t ht2 a b ha hab hb q
  rw [hI_sI]
  by_cases e : t = t0 ∧ a = i ∧ b = j
  · obtain ⟨rfl, rfl, rfl⟩ := e
    rw [if_pos ⟨rfl, rfl⟩]
  · rw [if_neg]
    · rcases hp t ht2 a b ha hab hb q with z | z
      · exact u t ht2 a b ha hab hb z
      · exact absurd z e
    · rintro ⟨z1, z2⟩
      apply e
      have : a = i ∧ b = j := by omega
      refine ⟨?_, this⟩
      exact (by decide : ∀ t < 6, ∀ t0 < 6, plc t = plc t0 → t = t0) t (by omega) t0 (by omega) z1
theorem dp50 {kd : Int → Int} {n : Int} (e : n = 0) : 0 = dp kd 5 0 n := by
  subst e
  rw [dp_5 (by omega)]
  rfl
theorem hkst {h : Hp} {kd : Int → Int} {n : Int} {q : Nat} {j v : Int} (hk : ∀ w, 0 ≤ w → w < n → hI h 78 (2 + w) = kd w ∧ 0 ≤ kd w ∧ kd w ≤ 6) (hq : q ≠ 78) : ∀ w, 0 ≤ w → w < n → hI (sI h q j v) 78 (2 + w) = kd w ∧ 0 ≤ kd w ∧ kd w ≤ 6 := fun w h1 h2 => by
  rw [hI_sI, if_neg (fun z => hq z.1.symm)]
  exact hk w h1 h2
theorem spP.mono {h : Hp} {kd : Int → Int} {n : Int} {p p' : Nat → Int → Int → Prop} (u : spP h kd n p) (hp : ∀ t a b, p' t a b → p t a b) : spP h kd n p' := fun t ht a b h1 h2 h3 q => u t ht a b h1 h2 h3 (hp t a b q)
def SDP (q : Nat) (_ : Int) : Bool := decide (91 ≤ q ∧ q ≤ 96)
theorem SDP_SM {h h1 : Hp} (e : eqx SDP h h1) : eqx SM h h1 := e.mono (fun q j z => by
  simp [SM] at z
  simp [SDP]
  omega)

set_option maxRecDepth 100000 in
set_option maxHeartbeats 1000000 in
theorem c_X7_laysSpan {l : Launch} {d : Nat} {h : Hp} (r : Rg h) {kd : Int → Int} {n i j : Int} (hn0 : 0 ≤ n ∧ n ≤ 12) (hk : ∀ w, 0 ≤ w → w < n → hI h 78 (2 + w) = kd w ∧ 0 ≤ kd w ∧ kd w ≤ 6) (hi : 0 ≤ i) (hij : i ≤ j) (hj : j ≤ n) (u0 : spP h kd n (fun t a b => b - a < j - i)) (hd : 4 ≤ d := by omega) : CP l d 0 0 yX7_laysSpan cX7_laysSpan 4 (Option.none : Option Jvm.ClassFile.FieldType) [.ref 77, iv i, iv j] h (pV fun h1 => eqx SDP h h1 ∧ Rg h1 ∧ spP h1 kd n (fun t a b => a = i ∧ b = j) ∧ ∀ q z, z ≠ 13 * i + j → hI h1 q z = hI h q z) := by
  refine CP.ofV (L := [some (.ref 77), some (.int (Int32.ofInt i)), some (.int (Int32.ofInt j)), none]) RX7 (by decide +kernel) rfl (Nat.le_of_ble_eq_true rfl) rfl (fun X hX G E => ?_)
  subst hX
  have b0 := dp_r (kd := kd) (t := 0) (by decide) hij (by omega)
  have b1 := dp_r (kd := kd) (t := 1) (by decide) hij (by omega)
  have b2 := dp_r (kd := kd) (t := 2) (by decide) hij (by omega)
  have b3 := dp_r (kd := kd) (t := 3) (by decide) hij (by omega)
  have b4 := dp_r (kd := kd) (t := 4) (by decide) hij (by omega)
  have b5 := dp_r (kd := kd) (t := 5) (by decide) hij (by omega)
  have tail : V X 0 0 41 [some (.ref 77), some (.int (Int32.ofInt i)), some (.int (Int32.ofInt j)), some (.int (Int32.ofInt (13 * i + j)))] [.int (Int32.ofInt (dp kd 0 i j)), .int (Int32.ofInt (13 * i + j)), .ref 94] h := by
    refine V_iast G dX7_laysSpan_41 (by first | decide | assumption) (by first | rfl | assumption) (by decide) ⟨by omega, by omega⟩ ?_
    have u1 : spP (sI _ (plc 0) (13 * i + j) (dp kd 0 i j)) kd n (fun t a b => b - a < j - i ∨ (a = i ∧ b = j ∧ (t = 0))) := u0.put 0 (by decide) hn0.2 hi hij hj (fun t ht a b h1 h2 h3 q => by omega)
    refine V_aload0 G dX7_laysSpan_42 ?_
    refine V_getR G fl_X7_50 dX7_laysSpan_43 (by first | decide | assumption) (by first | rfl | assumption) rfl (by first | rfl | assumption) ?_
    refine V_iload3 G dX7_laysSpan_46 ?_
    refine V_aload0 G dX7_laysSpan_47 ?_
    refine V_iload1 G dX7_laysSpan_48 ?_
    refine V_iload2 G dX7_laysSpan_49 ?_
    refine V_iconst G dX7_laysSpan_50 ?_
    refine V_cV3i (d1 := 2) G m_X7_167 dX7_laysSpan_51 (by first | decide | assumption) (by first | rfl | assumption) (c_X7_rowsOf hn0 (hkst hk (by decide)) hi hij hj (b := 0) (Or.inl rfl) (fun k k1 k2 => u1 0 (by decide) i k hi (by omega) (by omega) (by omega)) (fun _ k k1 k2 => u1 1 (by decide) k j (by omega) k2 hj (by omega)) (fun z => absurd z (by decide))) (by omega) (by omega) (by omega) (Nat.le_of_ble_eq_true rfl) (fun x_51 h_51 hp_51 => ?_)
    rw [show x_51 = dp kd 1 i j from hp_51.1, hp_51.2]
    refine V_iast G dX7_laysSpan_54 (by first | decide | assumption) (by first | rfl | assumption) (by decide) ⟨by omega, by omega⟩ ?_
    have u2 : spP (sI _ (plc 1) (13 * i + j) (dp kd 1 i j)) kd n (fun t a b => b - a < j - i ∨ (a = i ∧ b = j ∧ (t = 0 ∨ t = 1))) := u1.put 1 (by decide) hn0.2 hi hij hj (fun t ht a b h1 h2 h3 q => by omega)
    refine V_aload0 G dX7_laysSpan_55 ?_
    refine V_getR G fl_X7_62 dX7_laysSpan_56 (by first | decide | assumption) (by first | rfl | assumption) rfl (by first | rfl | assumption) ?_
    refine V_iload3 G dX7_laysSpan_59 ?_
    refine V_aload0 G dX7_laysSpan_60 ?_
    refine V_iload1 G dX7_laysSpan_61 ?_
    refine V_iload2 G dX7_laysSpan_62 ?_
    refine V_iconst G dX7_laysSpan_63 ?_
    refine V_cV3i (d1 := 2) G m_X7_167 dX7_laysSpan_64 (by first | decide | assumption) (by first | rfl | assumption) (c_X7_rowsOf hn0 (hkst (hkst hk (by decide)) (by decide)) hi hij hj (b := 1) (Or.inr rfl) (fun k k1 k2 => u2 0 (by decide) i k hi (by omega) (by omega) (by omega)) (fun z => absurd z (by decide)) (fun _ k k1 k2 => u2 2 (by decide) k j (by omega) k2 hj (by omega))) (by omega) (by omega) (by omega) (Nat.le_of_ble_eq_true rfl) (fun x_64 h_64 hp_64 => ?_)
    rw [show x_64 = dp kd 2 i j from hp_64.1, hp_64.2]
    refine V_iast G dX7_laysSpan_67 (by first | decide | assumption) (by first | rfl | assumption) (by decide) ⟨by omega, by omega⟩ ?_
    have u3 : spP (sI _ (plc 2) (13 * i + j) (dp kd 2 i j)) kd n (fun t a b => b - a < j - i ∨ (a = i ∧ b = j ∧ (t = 0 ∨ t = 1 ∨ t = 2))) := u2.put 2 (by decide) hn0.2 hi hij hj (fun t ht a b h1 h2 h3 q => by omega)
    refine V_aload0 G dX7_laysSpan_68 ?_
    refine V_getR G fl_X7_53 dX7_laysSpan_69 (by first | decide | assumption) (by first | rfl | assumption) rfl (by first | rfl | assumption) ?_
    refine V_iload3 G dX7_laysSpan_72 ?_
    refine V_aload0 G dX7_laysSpan_73 ?_
    refine V_iload1 G dX7_laysSpan_74 ?_
    refine V_iload2 G dX7_laysSpan_75 ?_
    refine V_cV2i (d1 := 2) G m_X7_171 dX7_laysSpan_76 (by first | decide | assumption) (by first | rfl | assumption) (c_X7_namesOf hn0 (hkst (hkst (hkst hk (by decide)) (by decide)) (by decide)) hi hij hj (fun z => u3 1 (by decide) (i + 1) j (by omega) (by omega) hj (by omega)) (fun z => u3 3 (by decide) (i + 1) j (by omega) (by omega) hj (by omega))) (by omega) (by omega) (by omega) (Nat.le_of_ble_eq_true rfl) (fun x_76 h_76 hp_76 => ?_)
    rw [hp_76.1, hp_76.2]
    refine V_iast G dX7_laysSpan_79 (by first | decide | assumption) (by first | rfl | assumption) (by decide) ⟨by omega, by omega⟩ ?_
    have u4 : spP (sI _ (plc 3) (13 * i + j) (dp kd 3 i j)) kd n (fun t a b => b - a < j - i ∨ (a = i ∧ b = j ∧ (t = 0 ∨ t = 1 ∨ t = 2 ∨ t = 3))) := u3.put 3 (by decide) hn0.2 hi hij hj (fun t ht a b h1 h2 h3 q => by omega)
    refine V_aload0 G dX7_laysSpan_80 ?_
    refine V_getR G fl_X7_56 dX7_laysSpan_81 (by first | decide | assumption) (by first | rfl | assumption) rfl (by first | rfl | assumption) ?_
    refine V_iload3 G dX7_laysSpan_84 ?_
    refine V_aload0 G dX7_laysSpan_85 ?_
    refine V_iload1 G dX7_laysSpan_86 ?_
    refine V_iload2 G dX7_laysSpan_87 ?_
    refine V_cV2i (d1 := 2) G m_X7_174 dX7_laysSpan_88 (by first | decide | assumption) (by first | rfl | assumption) (c_X7_groupsOf hn0 (hkst (hkst (hkst (hkst hk (by decide)) (by decide)) (by decide)) (by decide)) hi hij hj (fun a b h1 h2 h3 => u4 3 (by decide) a b (by omega) h2 (by omega) (by omega))) (by omega) (by omega) (by omega) (Nat.le_of_ble_eq_true rfl) (fun x_88 h_88 hp_88 => ?_)
    rw [hp_88.1, hp_88.2]
    refine V_iast G dX7_laysSpan_91 (by first | decide | assumption) (by first | rfl | assumption) (by decide) ⟨by omega, by omega⟩ ?_
    have u5 : spP (sI _ (plc 4) (13 * i + j) (dp kd 4 i j)) kd n (fun t a b => b - a < j - i ∨ (a = i ∧ b = j ∧ (t = 0 ∨ t = 1 ∨ t = 2 ∨ t = 3 ∨ t = 4))) := u4.put 4 (by decide) hn0.2 hi hij hj (fun t ht a b h1 h2 h3 q => by omega)
    refine V_aload0 G dX7_laysSpan_92 ?_
    refine V_getR G fl_X7_65 dX7_laysSpan_93 (by first | decide | assumption) (by first | rfl | assumption) rfl (by first | rfl | assumption) ?_
    refine V_iload3 G dX7_laysSpan_96 ?_
    refine V_aload0 G dX7_laysSpan_97 ?_
    refine V_iload1 G dX7_laysSpan_98 ?_
    refine V_iload2 G dX7_laysSpan_99 ?_
    refine V_cV2i (d1 := 3) G m_X7_177 dX7_laysSpan_100 (by first | decide | assumption) (by first | rfl | assumption) (c_X7_clausesOf hn0 (hkst (hkst (hkst (hkst (hkst hk (by decide)) (by decide)) (by decide)) (by decide)) (by decide)) hi hij hj (fun a b h1 h2 h3 => u5 2 (by decide) a b (by omega) h2 (by omega) (by omega)) (fun a b h1 h2 h3 => u5 4 (by decide) a b (by omega) h2 (by omega) (by omega)) (fun a b h1 h2 h3 => u5 5 (by decide) a b (by omega) h2 (by omega) (by omega))) (by omega) (by omega) (by omega) (Nat.le_of_ble_eq_true rfl) (fun x_100 h_100 hp_100 => ?_)
    rw [hp_100.1, hp_100.2]
    refine V_iast G dX7_laysSpan_103 (by first | decide | assumption) (by first | rfl | assumption) (by decide) ⟨by omega, by omega⟩ ?_
    have u6 : spP (sI _ (plc 5) (13 * i + j) (dp kd 5 i j)) kd n (fun t a b => b - a < j - i ∨ (a = i ∧ b = j ∧ (t = 0 ∨ t = 1 ∨ t = 2 ∨ t = 3 ∨ t = 4 ∨ t = 5))) := u5.put 5 (by decide) hn0.2 hi hij hj (fun t ht a b h1 h2 h3 q => by omega)
    exact V_retv E dX7_laysSpan_104 rfl ⟨rfl, ⟨(((((eqx.rf.st rfl).st rfl).st rfl).st rfl).st rfl).st rfl, (((((r.sI ⟨by omega, by omega⟩).sI ⟨by omega, by omega⟩).sI ⟨by omega, by omega⟩).sI ⟨by omega, by omega⟩).sI ⟨by omega, by omega⟩).sI ⟨by omega, by omega⟩, fun t ht a b h1 h2 h3 q => u6 t ht a b h1 h2 h3 (by omega), fun q z hz => by simp only [hI_sI]; rw [if_neg (fun y => hz y.2), if_neg (fun y => hz y.2), if_neg (fun y => hz y.2), if_neg (fun y => hz y.2), if_neg (fun y => hz y.2), if_neg (fun y => hz y.2)]⟩⟩
  refine V_iload1 G dX7_laysSpan_0 ?_
  refine V_iload2 G dX7_laysSpan_1 ?_
  refine V_cS2i (d1 := 1) G m_X7_161 dX7_laysSpan_2 (c_X7_span (a := i) (b := j)) (by omega) (by omega) (by omega) (Nat.le_of_ble_eq_true rfl) (fun x_2 h_2 hp_2 => ?_)
  rw [hp_2.1, hp_2.2]
  refine V_istore3 G dX7_laysSpan_5 rfl ?_
  refine V_aload0 G dX7_laysSpan_6 ?_
  refine V_getR G fl_X7_59 dX7_laysSpan_7 (by first | decide | assumption) (by first | rfl | assumption) rfl (by first | rfl | assumption) ?_
  refine V_iload3 G dX7_laysSpan_10 ?_
  refine V_iload1 G dX7_laysSpan_11 ?_
  refine V_iload2 G dX7_laysSpan_12 ?_
  refine V_icmpge G dX7_laysSpan_13 (tgt := 40) (by decide) (by first | exact r _ _ | assumption | exact ⟨by omega, by omega⟩) (by first | exact r _ _ | assumption | exact ⟨by omega, by omega⟩) (fun c_13 => ?_) (fun c_13 => ?_)
  ·
    refine V_iconst G dX7_laysSpan_40 ?_
    first
    | (have q := tail; rw [dp_0 hij, if_pos (by omega)] at q; exact q)
    | (have q := tail; rw [dp_0 hij, if_neg (by omega)] at q; exact q)
  ·
    refine V_aload0 G dX7_laysSpan_16 ?_
    refine V_iload1 G dX7_laysSpan_17 ?_
    refine V_cV1i (d1 := 1) G m_X7_86 dX7_laysSpan_18 (by first | decide | assumption) (by first | rfl | assumption) (c_X7_kind (w := i) (by omega)) (by omega) (by omega) (by omega) (Nat.le_of_ble_eq_true rfl) (fun x_18 h_18 hp_18 => ?_)
    rw [hp_18.1, hp_18.2, (hk i (by omega) (by omega)).1]
    have kr_18 := (hk i (by omega) (by omega)).2
    refine V_iconst G dX7_laysSpan_21 ?_
    refine V_icmpne G dX7_laysSpan_22 (tgt := 40) (by decide) (by first | exact r _ _ | assumption | exact ⟨by omega, by omega⟩) (by first | exact r _ _ | assumption | exact ⟨by omega, by omega⟩) (fun c_22 => ?_) (fun c_22 => ?_)
    ·
      refine V_iconst G dX7_laysSpan_40 ?_
      first
      | (have q := tail; rw [dp_0 hij, if_pos (by omega)] at q; exact q)
      | (have q := tail; rw [dp_0 hij, if_neg (by omega)] at q; exact q)
    ·
      refine V_aload0 G dX7_laysSpan_25 ?_
      refine V_getR G fl_X7_56 dX7_laysSpan_26 (by first | decide | assumption) (by first | rfl | assumption) rfl (by first | rfl | assumption) ?_
      refine V_iload1 G dX7_laysSpan_29 ?_
      refine V_iconst G dX7_laysSpan_30 ?_
      refine V_iadd G dX7_laysSpan_31 ?_
      refine V_iload2 G dX7_laysSpan_32 ?_
      refine V_cS2i (d1 := 1) G m_X7_161 dX7_laysSpan_33 (c_X7_span (a := i + 1) (b := j)) (by omega) (by omega) (by omega) (Nat.le_of_ble_eq_true rfl) (fun x_33 h_33 hp_33 => ?_)
      rw [hp_33.1, hp_33.2]
      refine V_ialde G dX7_laysSpan_36 (by first | decide | assumption) (by first | rfl | assumption) (by decide) ⟨by omega, by omega⟩ (u0 4 (by decide) (i + 1) j (by omega) (by omega) hj (by omega)) ?_
      refine V_goto G dX7_laysSpan_37 (tgt := 41) (by decide) ?_
      first
      | (have q := tail; rw [dp_0 hij, if_pos (by omega)] at q; exact q)
      | (have q := tail; rw [dp_0 hij, if_neg (by omega)] at q; exact q)

set_option maxRecDepth 100000 in
set_option maxHeartbeats 1000000 in
theorem c_X7_laysSpans {l : Launch} {d : Nat} {h : Hp} (r : Rg h) {kd : Int → Int} {n : Int} (hn : hI h 78 0 = n) (hn0 : 0 ≤ n ∧ n ≤ 12) (hk : ∀ w, 0 ≤ w → w < n → hI h 78 (2 + w) = kd w ∧ 0 ≤ kd w ∧ kd w ≤ 6) (hd : 5 ≤ d := by omega) : CP l d 0 0 yX7_laysSpans cX7_laysSpans 3 (Option.none : Option Jvm.ClassFile.FieldType) [.ref 77] h (pV fun h1 => eqx SDP h h1 ∧ Rg h1 ∧ spP h1 kd n (fun _ _ _ => True)) := by
  refine CP.ofV (L := [some (.ref 77), none, none]) RX7 (by decide +kernel) rfl (Nat.le_of_ble_eq_true rfl) rfl (fun X hX G E => ?_)
  subst hX
  have inn : ∀ (mO : Nat) (_ : ∀ (k : Int) (f : Hp) (a2 : Option Value), k + mO = n + 1 → 0 ≤ k → Rg f → eqx SDP h f → spP f kd n (fun _ a b => b - a < k) → V X 0 0 2 [some (.ref 77), some (.int (Int32.ofInt k)), a2] [] f) (many : Int), many + (mO + 1 : Nat) = n + 1 → 0 ≤ many → ∀ (m : Nat) (k : Int) (f : Hp), k + m = n + 1 - many → 0 ≤ k → Rg f → eqx SDP h f → spP f kd n (fun _ a b => b - a < many ∨ (b - a = many ∧ a < k)) → V X 0 0 14 [some (.ref 77), some (.int (Int32.ofInt many)), some (.int (Int32.ofInt k))] [] f := by
    intro mO ihO many hmO hm0
    have inn : ∀ (m : Nat) (k : Int) (f : Hp), k + m = n + 1 - many → 0 ≤ k → Rg f → eqx SDP h f → spP f kd n (fun _ a b => b - a < many ∨ (b - a = many ∧ a < k)) → V X 0 0 14 [some (.ref 77), some (.int (Int32.ofInt many)), some (.int (Int32.ofInt k))] [] f := by
      intro m
      induction m with
      | zero =>
        intro k f hm_ hk0 r1 ef uf
        have hfn : hI f 78 0 = n := (ef.1 _ _ rfl).trans hn
        have r := r1
        refine V_iload2 G dX7_laysSpans_14 ?_
        refine V_iload1 G dX7_laysSpans_15 ?_
        refine V_iadd G dX7_laysSpans_16 ?_
        refine V_aload0 G dX7_laysSpans_17 ?_
        refine V_getR G fl_X7_7 dX7_laysSpans_18 (by first | decide | assumption) (by first | rfl | assumption) rfl (by first | rfl | assumption) ?_
        refine V_iconst G dX7_laysSpans_21 ?_
        refine V_ialde G dX7_laysSpans_22 (by first | decide | assumption) (by first | rfl | assumption) (by decide) ⟨by omega, by omega⟩ (by first | (simp only [hI_sI, hI_sL, hL_sI, hL_sL, false_and, true_and, and_false, and_true, and_self, if_false, if_true, hfn]; first | done | rfl) | rfl) ?_
        refine V_icmpgt G dX7_laysSpans_23 (tgt := 40) (by decide) (by first | exact r _ _ | assumption | exact ⟨by omega, by omega⟩) (by first | exact r _ _ | assumption | exact ⟨by omega, by omega⟩) (fun c_23 => ?_) (fun c_23 => ?_)
        ·
          skip
          refine V_iinc1 G dX7_laysSpans_40 rfl ?_
          refine V_goto G dX7_laysSpans_43 (tgt := 2) (by decide) ?_
          exact ihO (many + 1) f _ (by omega) (by omega) r1 ef (fun t ht a b h1 h2 h3 q => uf t ht a b h1 h2 h3 (by omega))
        · omega
      | succ m ih =>
        intro k f hm_ hk0 r1 ef uf
        have hfn : hI f 78 0 = n := (ef.1 _ _ rfl).trans hn
        have r := r1
        refine V_iload2 G dX7_laysSpans_14 ?_
        refine V_iload1 G dX7_laysSpans_15 ?_
        refine V_iadd G dX7_laysSpans_16 ?_
        refine V_aload0 G dX7_laysSpans_17 ?_
        refine V_getR G fl_X7_7 dX7_laysSpans_18 (by first | decide | assumption) (by first | rfl | assumption) rfl (by first | rfl | assumption) ?_
        refine V_iconst G dX7_laysSpans_21 ?_
        refine V_ialde G dX7_laysSpans_22 (by first | decide | assumption) (by first | rfl | assumption) (by decide) ⟨by omega, by omega⟩ (by first | (simp only [hI_sI, hI_sL, hL_sI, hL_sL, false_and, true_and, and_false, and_true, and_self, if_false, if_true, hfn]; first | done | rfl) | rfl) ?_
        refine V_icmpgt G dX7_laysSpans_23 (tgt := 40) (by decide) (by first | exact r _ _ | assumption | exact ⟨by omega, by omega⟩) (by first | exact r _ _ | assumption | exact ⟨by omega, by omega⟩) (fun c_23 => ?_) (fun c_23 => ?_)
        · omega
        ·
          refine V_aload0 G dX7_laysSpans_26 ?_
          refine V_iload2 G dX7_laysSpans_27 ?_
          refine V_iload2 G dX7_laysSpans_28 ?_
          refine V_iload1 G dX7_laysSpans_29 ?_
          refine V_iadd G dX7_laysSpans_30 ?_
          refine V_cV2v (d1 := 4) G m_X7_180 dX7_laysSpans_31 (by first | decide | assumption) (by first | rfl | assumption) (c_X7_laysSpan r1 hn0 (fun w h1 h2 => by rw [ef.1 78 _ rfl]; exact hk w h1 h2) (i := k) (j := k + many) (by omega) (by omega) (by omega) (uf.mono (fun t a b q => by omega))) (by omega) (by omega) (by omega) (Nat.le_of_ble_eq_true rfl) (fun h_31 hp_31 => ?_)
          obtain ⟨v1, v2, v3, v4⟩ := hp_31
          refine V_iinc2 G dX7_laysSpans_34 rfl ?_
          refine V_goto G dX7_laysSpans_37 (tgt := 14) (by decide) ?_
          exact ih (k + 1) _ (by omega) (by omega) v2 (ef.tr v1) (fun t ht a b h1 h2 h3 q => by
            by_cases e : a = k ∧ b = k + many
            · exact v3 t ht a b h1 h2 h3 e
            · rw [v4 _ _ (by omega)]
              exact uf t ht a b h1 h2 h3 (by omega))
    exact inn
  have out : ∀ (m : Nat) (k : Int) (f : Hp) (a2 : Option Value), k + m = n + 1 → 0 ≤ k → Rg f → eqx SDP h f → spP f kd n (fun _ a b => b - a < k) → V X 0 0 2 [some (.ref 77), some (.int (Int32.ofInt k)), a2] [] f := by
    intro m
    induction m with
    | zero =>
      intro k f a2 hm_ hk0 r1 ef uf
      have hfn : hI f 78 0 = n := (ef.1 _ _ rfl).trans hn
      have r := r1
      refine V_iload1 G dX7_laysSpans_2 ?_
      refine V_aload0 G dX7_laysSpans_3 ?_
      refine V_getR G fl_X7_7 dX7_laysSpans_4 (by first | decide | assumption) (by first | rfl | assumption) rfl (by first | rfl | assumption) ?_
      refine V_iconst G dX7_laysSpans_7 ?_
      refine V_ialde G dX7_laysSpans_8 (by first | decide | assumption) (by first | rfl | assumption) (by decide) ⟨by omega, by omega⟩ (by first | (simp only [hI_sI, hI_sL, hL_sI, hL_sL, false_and, true_and, and_false, and_true, and_self, if_false, if_true, hfn]; first | done | rfl) | rfl) ?_
      refine V_icmpgt G dX7_laysSpans_9 (tgt := 46) (by decide) (by first | exact r _ _ | assumption | exact ⟨by omega, by omega⟩) (by first | exact r _ _ | assumption | exact ⟨by omega, by omega⟩) (fun c_9 => ?_) (fun c_9 => ?_)
      ·
        exact V_retv E dX7_laysSpans_46 rfl ⟨rfl, ⟨ef, r1, fun t ht a b h1 h2 h3 _ => uf t ht a b h1 h2 h3 (by omega)⟩⟩
      · omega
    | succ m ih =>
      intro k f a2 hm_ hk0 r1 ef uf
      have hfn : hI f 78 0 = n := (ef.1 _ _ rfl).trans hn
      have r := r1
      refine V_iload1 G dX7_laysSpans_2 ?_
      refine V_aload0 G dX7_laysSpans_3 ?_
      refine V_getR G fl_X7_7 dX7_laysSpans_4 (by first | decide | assumption) (by first | rfl | assumption) rfl (by first | rfl | assumption) ?_
      refine V_iconst G dX7_laysSpans_7 ?_
      refine V_ialde G dX7_laysSpans_8 (by first | decide | assumption) (by first | rfl | assumption) (by decide) ⟨by omega, by omega⟩ (by first | (simp only [hI_sI, hI_sL, hL_sI, hL_sL, false_and, true_and, and_false, and_true, and_self, if_false, if_true, hfn]; first | done | rfl) | rfl) ?_
      refine V_icmpgt G dX7_laysSpans_9 (tgt := 46) (by decide) (by first | exact r _ _ | assumption | exact ⟨by omega, by omega⟩) (by first | exact r _ _ | assumption | exact ⟨by omega, by omega⟩) (fun c_9 => ?_) (fun c_9 => ?_)
      · omega
      ·
        refine V_iconst G dX7_laysSpans_12 ?_
        refine V_istore2 G dX7_laysSpans_13 rfl ?_
        exact inn m ih k hm_ hk0 (n + 1 - k).toNat 0 f (by omega) (by omega) r1 ef (fun t ht a b h1 h2 h3 q => uf t ht a b h1 h2 h3 (by omega))
  refine V_iconst G dX7_laysSpans_0 ?_
  refine V_istore1 G dX7_laysSpans_1 rfl ?_
  exact out (n + 1).toNat 0 h _ (by omega) (by omega) r eqx.rf (fun t ht a b h1 h2 h3 q => by omega)

set_option maxRecDepth 100000 in
set_option maxHeartbeats 1000000 in
theorem c_X7_allByParts {l : Launch} {d : Nat} {h : Hp} (r : Rg h) {kd : Int → Int} {n : Int} (hn : hI h 78 0 = n) (hn0 : 0 ≤ n ∧ n ≤ 12) (hk : ∀ w, 0 ≤ w → w < n → hI h 78 (2 + w) = kd w ∧ 0 ≤ kd w ∧ kd w ≤ 6) (hd : 6 ≤ d := by omega) : CP l d 0 0 yX7_allByParts cX7_allByParts 1 (Option.some Jvm.ClassFile.FieldType.int) [.ref 77] h (pI fun x h1 => x = dp kd 5 0 n ∧ eqx SDP h h1 ∧ Rg h1) := by
  refine CP.ofV (L := [some (.ref 77)]) RX7 (by decide +kernel) rfl (Nat.le_of_ble_eq_true rfl) rfl (fun X hX G E => ?_)
  subst hX
  refine V_aload0 G dX7_allByParts_0 ?_
  refine V_cV0v (d1 := 5) G m_X7_184 dX7_allByParts_1 (by first | decide | assumption) (by first | rfl | assumption) (c_X7_laysSpans r hn hn0 hk) (by omega) (by omega) (by omega) (Nat.le_of_ble_eq_true rfl) (fun h_1 hp_1 => ?_)
  obtain ⟨v1, v2, v3⟩ := hp_1
  have hfn : hI h_1 78 0 = n := (v1.1 _ _ rfl).trans hn
  have r := v2
  refine V_aload0 G dX7_allByParts_4 ?_
  refine V_getR G fl_X7_7 dX7_allByParts_5 (by first | decide | assumption) (by first | rfl | assumption) rfl (by first | rfl | assumption) ?_
  refine V_iconst G dX7_allByParts_8 ?_
  refine V_ialde G dX7_allByParts_9 (by first | decide | assumption) (by first | rfl | assumption) (by decide) ⟨by omega, by omega⟩ (by first | (simp only [hI_sI, hI_sL, hL_sI, hL_sL, false_and, true_and, and_false, and_true, and_self, if_false, if_true, hfn]; first | done | rfl) | rfl) ?_
  refine V_ifne G dX7_allByParts_10 (tgt := 17) (by decide) (by first | exact r _ _ | assumption | exact ⟨by omega, by omega⟩) (fun c_10 => ?_) (fun c_10 => ?_)
  ·
    refine V_aload0 G dX7_allByParts_17 ?_
    refine V_getR G fl_X7_65 dX7_allByParts_18 (by first | decide | assumption) (by first | rfl | assumption) rfl (by first | rfl | assumption) ?_
    refine V_iconst G dX7_allByParts_21 ?_
    refine V_aload0 G dX7_allByParts_22 ?_
    refine V_getR G fl_X7_7 dX7_allByParts_23 (by first | decide | assumption) (by first | rfl | assumption) rfl (by first | rfl | assumption) ?_
    refine V_iconst G dX7_allByParts_26 ?_
    refine V_ialde G dX7_allByParts_27 (by first | decide | assumption) (by first | rfl | assumption) (by decide) ⟨by omega, by omega⟩ (by first | (simp only [hI_sI, hI_sL, hL_sI, hL_sL, false_and, true_and, and_false, and_true, and_self, if_false, if_true, hfn]; first | done | rfl) | rfl) ?_
    refine V_cS2i (d1 := 1) G m_X7_161 dX7_allByParts_28 (c_X7_span (a := 0) (b := n)) (by omega) (by omega) (by omega) (Nat.le_of_ble_eq_true rfl) (fun x_28 h_28 hp_28 => ?_)
    rw [hp_28.1, hp_28.2]
    refine V_ialde G dX7_allByParts_31 (by first | decide | assumption) (by first | rfl | assumption) (by decide) ⟨by omega, by omega⟩ (v3 5 (by decide) 0 n (by omega) (by omega) (by omega) trivial) ?_
    exact V_reti E dX7_allByParts_32 rfl rfl ⟨_, rfl, ⟨by first | exact dp50 (by omega) | rfl, v1, v2⟩⟩
  ·
    refine V_iconst G dX7_allByParts_13 ?_
    refine V_goto G dX7_allByParts_14 (tgt := 32) (by decide) ?_
    exact V_reti E dX7_allByParts_32 rfl rfl ⟨_, rfl, ⟨by first | exact dp50 (by omega) | rfl, v1, v2⟩⟩


def ptT (q : Int) : Nat := if q = 0 then 3 else if q = 1 then 4 else if q = 2 then 0 else if q = 3 then 5 else 2
def partS (c : Cs) (i j q : Int) : Int := dp (kdS c) (ptT q) i j
def opPart (g : Sg) (i j q : Int) : Rs := if ¬ (0 ≤ i ∧ i < j ∧ j ≤ nS g.1) then (1, 0, g) else if ¬ (0 ≤ q ∧ q ≤ 4) then (2, 0, g) else (0, partS g.1 i j q, g)

set_option maxRecDepth 100000 in
set_option maxHeartbeats 1000000 in
theorem c_X7_partOf {l : Launch} {d : Nat} {h : Hp} {kd : Int → Int} {n i j q : Int} (hn0 : 0 ≤ n ∧ n ≤ 12) (u : spP h kd n (fun _ _ _ => True)) (hi : 0 ≤ i) (hij : i ≤ j) (hj : j ≤ n) (hq : 0 ≤ q ∧ q ≤ 4) (hd : 2 ≤ d := by omega) : CP l d 0 0 yX7_partOf cX7_partOf 5 (Option.some Jvm.ClassFile.FieldType.int) [.ref 77, iv i, iv j, iv q] h (pI fun x h1 => x = dp kd (ptT q) i j ∧ h1 = h) := by
  refine CP.ofV (L := [some (.ref 77), some (.int (Int32.ofInt i)), some (.int (Int32.ofInt j)), some (.int (Int32.ofInt q)), none]) RX7 (by decide +kernel) rfl (Nat.le_of_ble_eq_true rfl) rfl (fun X hX G E => ?_)
  subst hX
  refine V_iload1 G dX7_partOf_0 ?_
  refine V_iload2 G dX7_partOf_1 ?_
  refine V_cS2i (d1 := 1) G m_X7_161 dX7_partOf_2 (c_X7_span (a := i) (b := j)) (by omega) (by omega) (by omega) (Nat.le_of_ble_eq_true rfl) (fun x_2 h_2 hp_2 => ?_)
  rw [hp_2.1, hp_2.2]
  refine V_istore4 G dX7_partOf_5 rfl ?_
  refine V_iload3 G dX7_partOf_7 ?_
  rcases (show q = 0 ∨ q = 1 ∨ q = 2 ∨ q = 3 ∨ (q < 0 ∨ 3 < q) by omega) with e_8 | e_8 | e_8 | e_8 | e_8
  · rw [e_8]
    refine V_tableIn G dX7_partOf_8 (tgt := 40) ⟨by decide, by decide⟩ (by decide) (by decide) rfl (by decide) ?_
    refine V_aload0 G dX7_partOf_40 ?_
    refine V_getR G fl_X7_53 dX7_partOf_41 (by first | decide | assumption) (by first | rfl | assumption) rfl (by first | rfl | assumption) ?_
    refine V_iload4 G dX7_partOf_44 ?_
    refine V_ialde G dX7_partOf_46 (by first | decide | assumption) (by first | rfl | assumption) (by decide) ⟨by omega, by omega⟩ (u 3 (by decide) i j hi hij hj trivial) ?_
    exact V_reti E dX7_partOf_47 rfl rfl ⟨_, rfl, ⟨by rw [e_8]; rfl, rfl⟩⟩
  · rw [e_8]
    refine V_tableIn G dX7_partOf_8 (tgt := 48) ⟨by decide, by decide⟩ (by decide) (by decide) rfl (by decide) ?_
    refine V_aload0 G dX7_partOf_48 ?_
    refine V_getR G fl_X7_56 dX7_partOf_49 (by first | decide | assumption) (by first | rfl | assumption) rfl (by first | rfl | assumption) ?_
    refine V_iload4 G dX7_partOf_52 ?_
    refine V_ialde G dX7_partOf_54 (by first | decide | assumption) (by first | rfl | assumption) (by decide) ⟨by omega, by omega⟩ (u 4 (by decide) i j hi hij hj trivial) ?_
    exact V_reti E dX7_partOf_55 rfl rfl ⟨_, rfl, ⟨by rw [e_8]; rfl, rfl⟩⟩
  · rw [e_8]
    refine V_tableIn G dX7_partOf_8 (tgt := 56) ⟨by decide, by decide⟩ (by decide) (by decide) rfl (by decide) ?_
    refine V_aload0 G dX7_partOf_56 ?_
    refine V_getR G fl_X7_59 dX7_partOf_57 (by first | decide | assumption) (by first | rfl | assumption) rfl (by first | rfl | assumption) ?_
    refine V_iload4 G dX7_partOf_60 ?_
    refine V_ialde G dX7_partOf_62 (by first | decide | assumption) (by first | rfl | assumption) (by decide) ⟨by omega, by omega⟩ (u 0 (by decide) i j hi hij hj trivial) ?_
    exact V_reti E dX7_partOf_63 rfl rfl ⟨_, rfl, ⟨by rw [e_8]; rfl, rfl⟩⟩
  · rw [e_8]
    refine V_tableIn G dX7_partOf_8 (tgt := 64) ⟨by decide, by decide⟩ (by decide) (by decide) rfl (by decide) ?_
    refine V_aload0 G dX7_partOf_64 ?_
    refine V_getR G fl_X7_65 dX7_partOf_65 (by first | decide | assumption) (by first | rfl | assumption) rfl (by first | rfl | assumption) ?_
    refine V_iload4 G dX7_partOf_68 ?_
    refine V_ialde G dX7_partOf_70 (by first | decide | assumption) (by first | rfl | assumption) (by decide) ⟨by omega, by omega⟩ (u 5 (by decide) i j hi hij hj trivial) ?_
    exact V_reti E dX7_partOf_71 rfl rfl ⟨_, rfl, ⟨by rw [e_8]; rfl, rfl⟩⟩
  ·
    refine V_tableOut G dX7_partOf_8 (tgt := 72) ⟨by omega, by omega⟩ (by omega) (by decide) ?_
    refine V_aload0 G dX7_partOf_72 ?_
    refine V_getR G fl_X7_62 dX7_partOf_73 (by first | decide | assumption) (by first | rfl | assumption) rfl (by first | rfl | assumption) ?_
    refine V_iload4 G dX7_partOf_76 ?_
    refine V_ialde G dX7_partOf_78 (by first | decide | assumption) (by first | rfl | assumption) (by decide) ⟨by omega, by omega⟩ (u 2 (by decide) i j hi hij hj trivial) ?_
    exact V_reti E dX7_partOf_79 rfl rfl ⟨_, rfl, ⟨by unfold ptT; rw [if_neg (by omega), if_neg (by omega), if_neg (by omega), if_neg (by omega)], rfl⟩⟩


theorem RepM.hk {g : Sg} {h : Hp} (R : RepM g h) (I : okS g.1) : ∀ w, 0 ≤ w → w < nS g.1 → hI h 78 (2 + w) = kdS g.1 w ∧ 0 ≤ kdS g.1 w ∧ kdS g.1 w ≤ 6 := fun w h1 h2 => ⟨R.kd I w h1 h2, I.2.1 w h1 h2⟩
theorem RepM.sdp {g : Sg} {h h1 : Hp} (R : RepM g h) (e : eqx SDP h h1) : RepM g h1 := R.eq (fun q j z => e.1 q j (by unfold SDP; simp; omega))

set_option maxRecDepth 100000 in
set_option maxHeartbeats 1000000 in
theorem c_X7_part {l : Launch} {d : Nat} {h : Hp} (r : Rg h) {g : Sg} (R : RepM g h) (I : okS g.1) {i j q : Int} (hi : inr i) (hj : inr j) (hq : inr q) (hd : 6 ≤ d := by omega) : CP l d 0 0 yX7_part cX7_part 4 (Option.some Jvm.ClassFile.FieldType.int) [.ref 77, iv i, iv j, iv q] h (pI fun x h1 => aft (opPart g i j q) x h h1) := by
  refine CP.ofV (L := [some (.ref 77), some (.int (Int32.ofInt i)), some (.int (Int32.ofInt j)), some (.int (Int32.ofInt q))]) RX7 (by decide +kernel) rfl (Nat.le_of_ble_eq_true rfl) rfl (fun X hX G E => ?_)
  subst hX
  have r0 : Rg (sI h 77 0 0) := r.sI ⟨by decide, by decide⟩
  have R0 : RepM g (sI h 77 0 0) := R.thr
  have e0 : eqx SM h (sI h 77 0 0) := eqx.rf.st rfl
  have hn := R0.n
  have hn0 := I.1
  refine V_aload0 G dX7_part_0 ?_
  refine V_iconst G dX7_part_1 ?_
  refine V_putI (jz := 0) G fw_X7_68 dX7_part_2 (by first | decide | assumption) (by first | rfl | assumption) rfl rfl ?_
  refine V_iload1 G dX7_part_5 ?_
  refine V_iflt G dX7_part_6 (tgt := 24) (by decide) (by first | exact r _ _ | assumption | exact ⟨by omega, by omega⟩) (fun c_6 => ?_) (fun c_6 => ?_)
  ·
    refine V_aload0 G dX7_part_24 ?_
    refine V_iconst G dX7_part_25 ?_
    refine V_cV1i (d1 := 1) G m_X7_190 dX7_part_26 (by first | decide | assumption) (by first | rfl | assumption) (c_X7_fails) (by omega) (by omega) (by omega) (Nat.le_of_ble_eq_true rfl) (fun x_26 h_26 hp_26 => ?_)
    rw [hp_26.1, hp_26.2]
    exact V_reti E dX7_part_29 rfl rfl ⟨_, rfl, by unfold opPart; rw [if_pos (by omega)]; exact aft_fail e0 r0 R0 (by decide) ⟨by decide, by decide⟩⟩
  ·
    refine V_iload2 G dX7_part_9 ?_
    refine V_iload1 G dX7_part_10 ?_
    refine V_icmple G dX7_part_11 (tgt := 24) (by decide) (by first | exact r _ _ | assumption | exact ⟨by omega, by omega⟩) (by first | exact r _ _ | assumption | exact ⟨by omega, by omega⟩) (fun c_11 => ?_) (fun c_11 => ?_)
    ·
      refine V_aload0 G dX7_part_24 ?_
      refine V_iconst G dX7_part_25 ?_
      refine V_cV1i (d1 := 1) G m_X7_190 dX7_part_26 (by first | decide | assumption) (by first | rfl | assumption) (c_X7_fails) (by omega) (by omega) (by omega) (Nat.le_of_ble_eq_true rfl) (fun x_26 h_26 hp_26 => ?_)
      rw [hp_26.1, hp_26.2]
      exact V_reti E dX7_part_29 rfl rfl ⟨_, rfl, by unfold opPart; rw [if_pos (by omega)]; exact aft_fail e0 r0 R0 (by decide) ⟨by decide, by decide⟩⟩
    ·
      refine V_iload2 G dX7_part_14 ?_
      refine V_aload0 G dX7_part_15 ?_
      refine V_getR G fl_X7_7 dX7_part_16 (by first | decide | assumption) (by first | rfl | assumption) rfl (by first | rfl | assumption) ?_
      refine V_iconst G dX7_part_19 ?_
      refine V_ialde G dX7_part_20 (by first | decide | assumption) (by first | rfl | assumption) (by decide) ⟨by omega, by omega⟩ (by first | (simp only [hI_sI, hI_sL, hL_sI, hL_sL, false_and, true_and, and_false, and_true, and_self, if_false, if_true, hn]; first | done | rfl) | rfl) ?_
      refine V_icmple G dX7_part_21 (tgt := 30) (by decide) (by first | exact r _ _ | assumption | exact ⟨by omega, by omega⟩) (by first | exact r _ _ | assumption | exact ⟨by omega, by omega⟩) (fun c_21 => ?_) (fun c_21 => ?_)
      ·
        refine V_aload0 G dX7_part_30 ?_
        refine V_cV0v (d1 := 5) G m_X7_184 dX7_part_31 (by first | decide | assumption) (by first | rfl | assumption) (c_X7_laysSpans r0 hn hn0 (R0.hk I)) (by omega) (by omega) (by omega) (Nat.le_of_ble_eq_true rfl) (fun h_31 hp_31 => ?_)
        obtain ⟨v1, v2, v3⟩ := hp_31
        have e1 := e0.tr (SDP_SM v1)
        have R1 := R0.sdp v1
        have v77 : hI h_31 77 0 = 0 := (v1.1 77 0 rfl).trans (by simp [hI_sI])
        refine V_iload3 G dX7_part_34 ?_
        refine V_iconst G dX7_part_35 ?_
        refine V_iconst G dX7_part_36 ?_
        refine V_cS3i (d1 := 1) G m_X7_72 dX7_part_37 (c_X7_in (v := q) (a := 0) (b := 4) hq ⟨by decide, by decide⟩ ⟨by decide, by decide⟩) (by omega) (by omega) (by omega) (Nat.le_of_ble_eq_true rfl) (fun x_37 h_37 hp_37 => ?_)
        rw [hp_37.1, hp_37.2]
        refine V_ifeqB G dX7_part_40 (tgt := 53) (by decide)  (fun c_40 => ?_) (fun c_40 => ?_)
        ·
          refine V_aload0 G dX7_part_53 ?_
          refine V_iconst G dX7_part_54 ?_
          refine V_cV1i (d1 := 1) G m_X7_190 dX7_part_55 (by first | decide | assumption) (by first | rfl | assumption) (c_X7_fails) (by omega) (by omega) (by omega) (Nat.le_of_ble_eq_true rfl) (fun x_55 h_55 hp_55 => ?_)
          rw [hp_55.1, hp_55.2]
          exact V_reti E dX7_part_58 rfl rfl ⟨_, rfl, by
    unfold opPart
    first
    | (rw [if_neg (by omega), if_neg (by omega)]; exact ⟨e1, v2, v77, R1, fun _ => rfl⟩)
    | (rw [if_neg (by omega), if_pos (by omega)]; exact aft_fail e1 v2 R1 (by decide) ⟨by decide, by decide⟩)⟩
        ·
          refine V_aload0 G dX7_part_43 ?_
          refine V_iload1 G dX7_part_44 ?_
          refine V_iload2 G dX7_part_45 ?_
          refine V_iload3 G dX7_part_46 ?_
          refine V_cV3i (d1 := 2) G m_X7_265 dX7_part_47 (by first | decide | assumption) (by first | rfl | assumption) (c_X7_partOf hn0 v3 (by omega) (by omega) (by omega) c_40) (by omega) (by omega) (by omega) (Nat.le_of_ble_eq_true rfl) (fun x_47 h_47 hp_47 => ?_)
          rw [hp_47.1, hp_47.2]
          refine V_goto G dX7_part_50 (tgt := 58) (by decide) ?_
          exact V_reti E dX7_part_58 rfl rfl ⟨_, rfl, by
    unfold opPart
    first
    | (rw [if_neg (by omega), if_neg (by omega)]; exact ⟨e1, v2, v77, R1, fun _ => rfl⟩)
    | (rw [if_neg (by omega), if_pos (by omega)]; exact aft_fail e1 v2 R1 (by decide) ⟨by decide, by decide⟩)⟩
      ·
        refine V_aload0 G dX7_part_24 ?_
        refine V_iconst G dX7_part_25 ?_
        refine V_cV1i (d1 := 1) G m_X7_190 dX7_part_26 (by first | decide | assumption) (by first | rfl | assumption) (c_X7_fails) (by omega) (by omega) (by omega) (Nat.le_of_ble_eq_true rfl) (fun x_26 h_26 hp_26 => ?_)
        rw [hp_26.1, hp_26.2]
        exact V_reti E dX7_part_29 rfl rfl ⟨_, rfl, by unfold opPart; rw [if_pos (by omega)]; exact aft_fail e0 r0 R0 (by decide) ⟨by decide, by decide⟩⟩


noncomputable def fwS (c : Cs) : Int := sumF (fun k => if 0 < fxS c k then 1 else 0) (nS c).toNat 0
noncomputable def cntS (g : Sg) (q : Int) : Int :=
  if q = 0 then nS g.1 else if q = 1 then (AS g.1).length else if q = 2 then dp (kdS g.1) 5 0 (nS g.1) else if q = 3 then (lfS g.1).length
  else if q = 4 then (if (lfS g.1).length = 0 then -1 else g.1 1) else if q = 5 then fwS g.1 else if q = 6 then wwS g.1 1 else if q = 7 then (if (lfS g.1).length = 0 then 0 else hgtS g.1 (drS g.1)) else g.2.1.length
noncomputable def opCount (g : Sg) (q : Int) : Rs := if ¬ (0 ≤ q ∧ q ≤ 8) then (1, 0, g) else (0, cntS g q, g)
theorem c_fw {l : Launch} {d : Nat} {h : Hp} (r : Rg h) {g : Sg} (R : RepM g h) (I : okS g.1) (hd : 1 ≤ d := by omega) : CP l d 0 0 yX7_fixedWords cX7_fixedWords 3 (Option.some Jvm.ClassFile.FieldType.int) [.ref 77] h (pI fun x h1 => x = fwS g.1 ∧ h1 = h) := by
  refine (c_X7_fixedWords r R.n I.1 (by omega)).mono ?_
  rintro rr q ⟨x, q1, q2, q3⟩
  exact ⟨x, q1, q2.trans (sumF_congr _ _ (fun k k1 k2 => by rw [R.fx k k1 (by have := I.1; omega)])), q3⟩

set_option maxRecDepth 100000 in
set_option maxHeartbeats 1000000 in
theorem c_X7_tellsCount {l : Launch} {d : Nat} {h : Hp} (r : Rg h) {g : Sg} (T : RdsOk) (R : RepM g h) (I : okS g.1) (L : LaidM g.1 h) {q : Int} (hq : 0 ≤ q ∧ q ≤ 8) (hd : 7 ≤ d := by omega) : CP l d 0 0 yX7_tellsCount cX7_tellsCount 2 (Option.some Jvm.ClassFile.FieldType.int) [.ref 77, iv q] h (pI fun x h1 => x = cntS g q ∧ eqx SDP h h1 ∧ Rg h1) := by
  refine CP.ofV (L := [some (.ref 77), some (.int (Int32.ofInt q))]) RX7 (by decide +kernel) rfl (Nat.le_of_ble_eq_true rfl) rfl (fun X hX G E => ?_)
  subst hX
  have hA := AS_le T I
  have hn := R.n
  have hn0 := I.1
  obtain ⟨w1, w2, w3⟩ := lfS_at T I L
  have hd1 : hI h 78 1 = g.1 1 := R.at' (by omega) (by omega)
  have hdr := I.2.2.2.1
  have hcond : ((lfS g.1).length : Int) ≠ 0 → 0 ≤ drS g.1 ∧ drS g.1 < (AS g.1).length ∧ hI h 90 (g.1 1) = drS g.1 := fun z => by
    have := w3 (g.1 1) hdr.1 (by omega)
    exact ⟨this.2.1, this.2.2, this.1⟩
  have hLA := L.1
  refine V_iload1 G dX7_tellsCount_0 ?_
  rcases (show q = 0 ∨ q = 1 ∨ q = 2 ∨ q = 3 ∨ q = 4 ∨ q = 5 ∨ q = 6 ∨ q = 7 ∨ (q < 0 ∨ 7 < q) by omega) with e_1 | e_1 | e_1 | e_1 | e_1 | e_1 | e_1 | e_1 | e_1
  · rw [e_1]
    refine V_tableIn G dX7_tellsCount_1 (tgt := 48) ⟨by decide, by decide⟩ (by decide) (by decide) rfl (by decide) ?_
    refine V_aload0 G dX7_tellsCount_48 ?_
    refine V_getR G fl_X7_7 dX7_tellsCount_49 (by first | decide | assumption) (by first | rfl | assumption) rfl (by first | rfl | assumption) ?_
    refine V_iconst G dX7_tellsCount_52 ?_
    refine V_ialde G dX7_tellsCount_53 (by first | decide | assumption) (by first | rfl | assumption) (by decide) ⟨by omega, by omega⟩ (by first | (simp only [hI_sI, hI_sL, hL_sI, hL_sL, false_and, true_and, and_false, and_true, and_self, if_false, if_true, hn, hLA, w2, hd1, R.2.1]; first | done | rfl) | rfl) ?_
    exact V_reti E dX7_tellsCount_54 rfl rfl ⟨_, rfl, ⟨by unfold cntS; rw [if_pos e_1], eqx.rf, r⟩⟩
  · rw [e_1]
    refine V_tableIn G dX7_tellsCount_1 (tgt := 55) ⟨by decide, by decide⟩ (by decide) (by decide) rfl (by decide) ?_
    refine V_aload0 G dX7_tellsCount_55 ?_
    refine V_getIe (jz := 16) G fl_X7_123 dX7_tellsCount_56 (by first | decide | assumption) (by first | rfl | assumption) rfl rfl (by first | (simp only [hI_sI, hI_sL, hL_sI, hL_sL, false_and, true_and, and_false, and_true, and_self, if_false, if_true, hn, hLA, w2, hd1, R.2.1]; first | done | rfl) | rfl) ?_
    exact V_reti E dX7_tellsCount_59 rfl rfl ⟨_, rfl, ⟨by unfold cntS; rw [if_neg (by omega), if_pos e_1], eqx.rf, r⟩⟩
  · rw [e_1]
    refine V_tableIn G dX7_tellsCount_1 (tgt := 60) ⟨by decide, by decide⟩ (by decide) (by decide) rfl (by decide) ?_
    refine V_aload0 G dX7_tellsCount_60 ?_
    refine V_cV0i (d1 := 6) G m_X7_252 dX7_tellsCount_61 (by first | decide | assumption) (by first | rfl | assumption) (c_X7_allByParts r hn hn0 (R.hk I)) (by omega) (by omega) (by omega) (Nat.le_of_ble_eq_true rfl) (fun x_61 h_61 hp_61 => ?_)
    obtain ⟨v1, v2, v3⟩ := hp_61
    rw [v1]
    exact V_reti E dX7_tellsCount_64 rfl rfl ⟨_, rfl, ⟨by unfold cntS; rw [if_neg (by omega), if_neg (by omega), if_pos e_1], v2, v3⟩⟩
  · rw [e_1]
    refine V_tableIn G dX7_tellsCount_1 (tgt := 65) ⟨by decide, by decide⟩ (by decide) (by decide) rfl (by decide) ?_
    refine V_aload0 G dX7_tellsCount_65 ?_
    refine V_getIe (jz := 18) G fl_X7_142 dX7_tellsCount_66 (by first | decide | assumption) (by first | rfl | assumption) rfl rfl (by first | (simp only [hI_sI, hI_sL, hL_sI, hL_sL, false_and, true_and, and_false, and_true, and_self, if_false, if_true, hn, hLA, w2, hd1, R.2.1]; first | done | rfl) | rfl) ?_
    exact V_reti E dX7_tellsCount_69 rfl rfl ⟨_, rfl, ⟨by unfold cntS; rw [if_neg (by omega), if_neg (by omega), if_neg (by omega), if_pos e_1], eqx.rf, r⟩⟩
  · rw [e_1]
    refine V_tableIn G dX7_tellsCount_1 (tgt := 70) ⟨by decide, by decide⟩ (by decide) (by decide) rfl (by decide) ?_
    refine V_aload0 G dX7_tellsCount_70 ?_
    refine V_getIe (jz := 18) G fl_X7_142 dX7_tellsCount_71 (by first | decide | assumption) (by first | rfl | assumption) rfl rfl (by first | (simp only [hI_sI, hI_sL, hL_sI, hL_sL, false_and, true_and, and_false, and_true, and_self, if_false, if_true, hn, hLA, w2, hd1, R.2.1]; first | done | rfl) | rfl) ?_
    refine V_ifne G dX7_tellsCount_74 (tgt := 81) (by decide) (by first | exact r _ _ | assumption | exact ⟨by omega, by omega⟩) (fun c_74 => ?_) (fun c_74 => ?_)
    ·
      refine V_aload0 G dX7_tellsCount_81 ?_
      refine V_getR G fl_X7_7 dX7_tellsCount_82 (by first | decide | assumption) (by first | rfl | assumption) rfl (by first | rfl | assumption) ?_
      refine V_iconst G dX7_tellsCount_85 ?_
      refine V_ialde G dX7_tellsCount_86 (by first | decide | assumption) (by first | rfl | assumption) (by decide) ⟨by omega, by omega⟩ (by first | (simp only [hI_sI, hI_sL, hL_sI, hL_sL, false_and, true_and, and_false, and_true, and_self, if_false, if_true, hn, hLA, w2, hd1, R.2.1]; first | done | rfl) | rfl) ?_
      exact V_reti E dX7_tellsCount_87 rfl rfl ⟨_, rfl, ⟨by unfold cntS; rw [if_neg (by omega), if_neg (by omega), if_neg (by omega), if_neg (by omega), if_pos e_1]; first | (rw [if_pos (by omega)]; done) | (rw [if_neg (by omega)]; done), eqx.rf, r⟩⟩
    ·
      refine V_iconst G dX7_tellsCount_77 ?_
      refine V_goto G dX7_tellsCount_78 (tgt := 87) (by decide) ?_
      exact V_reti E dX7_tellsCount_87 rfl rfl ⟨_, rfl, ⟨by unfold cntS; rw [if_neg (by omega), if_neg (by omega), if_neg (by omega), if_neg (by omega), if_pos e_1]; first | (rw [if_pos (by omega)]; done) | (rw [if_neg (by omega)]; done), eqx.rf, r⟩⟩
  · rw [e_1]
    refine V_tableIn G dX7_tellsCount_1 (tgt := 88) ⟨by decide, by decide⟩ (by decide) (by decide) rfl (by decide) ?_
    refine V_aload0 G dX7_tellsCount_88 ?_
    refine V_cV0i (d1 := 1) G m_X7_255 dX7_tellsCount_89 (by first | decide | assumption) (by first | rfl | assumption) (c_fw r R I) (by omega) (by omega) (by omega) (Nat.le_of_ble_eq_true rfl) (fun x_89 h_89 hp_89 => ?_)
    rw [hp_89.1, hp_89.2]
    exact V_reti E dX7_tellsCount_92 rfl rfl ⟨_, rfl, ⟨by unfold cntS; rw [if_neg (by omega), if_neg (by omega), if_neg (by omega), if_neg (by omega), if_neg (by omega), if_pos e_1], eqx.rf, r⟩⟩
  · rw [e_1]
    refine V_tableIn G dX7_tellsCount_1 (tgt := 93) ⟨by decide, by decide⟩ (by decide) (by decide) rfl (by decide) ?_
    refine V_aload0 G dX7_tellsCount_93 ?_
    refine V_iconst G dX7_tellsCount_94 ?_
    refine V_cV1i (d1 := 4) G m_X7_258 dX7_tellsCount_95 (by first | decide | assumption) (by first | rfl | assumption) (c_X7_wordsWith r T R I L (ms := 1) (Or.inr rfl)) (by omega) (by omega) (by omega) (Nat.le_of_ble_eq_true rfl) (fun x_95 h_95 hp_95 => ?_)
    rw [hp_95.1, hp_95.2]
    exact V_reti E dX7_tellsCount_98 rfl rfl ⟨_, rfl, ⟨by unfold cntS; rw [if_neg (by omega), if_neg (by omega), if_neg (by omega), if_neg (by omega), if_neg (by omega), if_neg (by omega), if_pos e_1], eqx.rf, r⟩⟩
  · rw [e_1]
    refine V_tableIn G dX7_tellsCount_1 (tgt := 99) ⟨by decide, by decide⟩ (by decide) (by decide) rfl (by decide) ?_
    refine V_aload0 G dX7_tellsCount_99 ?_
    refine V_getIe (jz := 18) G fl_X7_142 dX7_tellsCount_100 (by first | decide | assumption) (by first | rfl | assumption) rfl rfl (by first | (simp only [hI_sI, hI_sL, hL_sI, hL_sL, false_and, true_and, and_false, and_true, and_self, if_false, if_true, hn, hLA, w2, hd1, R.2.1]; first | done | rfl) | rfl) ?_
    refine V_ifne G dX7_tellsCount_103 (tgt := 110) (by decide) (by first | exact r _ _ | assumption | exact ⟨by omega, by omega⟩) (fun c_103 => ?_) (fun c_103 => ?_)
    ·
      refine V_aload0 G dX7_tellsCount_110 ?_
      refine V_aload0 G dX7_tellsCount_111 ?_
      refine V_cV0i (d1 := 1) G m_X7_226 dX7_tellsCount_112 (by first | decide | assumption) (by first | rfl | assumption) (c_X7_drawn r (lm := (lfS g.1).length) w2 (by omega) (by omega)) (by omega) (by omega) (by omega) (Nat.le_of_ble_eq_true rfl) (fun x_112 h_112 hp_112 => ?_)
      obtain ⟨u1, u2, u3⟩ := hcond (by omega)
      rw [show x_112 = drS g.1 by rw [hp_112.1, if_neg (by omega), hd1, u3], hp_112.2]
      refine V_cV1i (d1 := 5) G m_X7_208 dX7_tellsCount_115 (by first | decide | assumption) (by first | rfl | assumption) (c_hgt r T R I L u1 u2) (by omega) (by omega) (by omega) (Nat.le_of_ble_eq_true rfl) (fun x_115 h_115 hp_115 => ?_)
      rw [hp_115.1, hp_115.2]
      exact V_reti E dX7_tellsCount_118 rfl rfl ⟨_, rfl, ⟨by unfold cntS; rw [if_neg (by omega), if_neg (by omega), if_neg (by omega), if_neg (by omega), if_neg (by omega), if_neg (by omega), if_neg (by omega), if_pos e_1]; first | (rw [if_pos (by omega)]; done) | (rw [if_neg (by omega)]; done), eqx.rf, r⟩⟩
    ·
      refine V_iconst G dX7_tellsCount_106 ?_
      refine V_goto G dX7_tellsCount_107 (tgt := 118) (by decide) ?_
      exact V_reti E dX7_tellsCount_118 rfl rfl ⟨_, rfl, ⟨by unfold cntS; rw [if_neg (by omega), if_neg (by omega), if_neg (by omega), if_neg (by omega), if_neg (by omega), if_neg (by omega), if_neg (by omega), if_pos e_1]; first | (rw [if_pos (by omega)]; done) | (rw [if_neg (by omega)]; done), eqx.rf, r⟩⟩
  ·
    refine V_tableOut G dX7_tellsCount_1 (tgt := 119) ⟨by omega, by omega⟩ (by omega) (by decide) ?_
    refine V_aload0 G dX7_tellsCount_119 ?_
    refine V_getIe (jz := 3) G fl_X7_76 dX7_tellsCount_120 (by first | decide | assumption) (by first | rfl | assumption) rfl rfl (by first | (simp only [hI_sI, hI_sL, hL_sI, hL_sL, false_and, true_and, and_false, and_true, and_self, if_false, if_true, hn, hLA, w2, hd1, R.2.1]; first | done | rfl) | rfl) ?_
    exact V_reti E dX7_tellsCount_123 rfl rfl ⟨_, rfl, ⟨by unfold cntS; rw [if_neg (by omega), if_neg (by omega), if_neg (by omega), if_neg (by omega), if_neg (by omega), if_neg (by omega), if_neg (by omega), if_neg (by omega)], eqx.rf, r⟩⟩

set_option maxRecDepth 100000 in
set_option maxHeartbeats 1000000 in
theorem c_X7_count {l : Launch} {d : Nat} {h : Hp} (r : Rg h) {g : Sg} (T : RdsOk) (R : RepM g h) (I : okS g.1) {q : Int} (hq : inr q) (hd : 8 ≤ d := by omega) : CP l d 0 0 yX7_count cX7_count 2 (Option.some Jvm.ClassFile.FieldType.int) [.ref 77, iv q] h (pI fun x h1 => aft (opCount g q) x h h1) := by
  refine CP.ofV (L := [some (.ref 77), some (.int (Int32.ofInt q))]) RX7 (by decide +kernel) rfl (Nat.le_of_ble_eq_true rfl) rfl (fun X hX G E => ?_)
  subst hX
  have r0 : Rg (sI h 77 0 0) := r.sI ⟨by decide, by decide⟩
  have R0 : RepM g (sI h 77 0 0) := R.thr
  have e0 : eqx SM h (sI h 77 0 0) := eqx.rf.st rfl
  have hn := R0.n
  have hn0 := I.1
  refine V_aload0 G dX7_count_0 ?_
  refine V_iconst G dX7_count_1 ?_
  refine V_putI (jz := 0) G fw_X7_68 dX7_count_2 (by first | decide | assumption) (by first | rfl | assumption) rfl rfl ?_
  refine V_aload0 G dX7_count_5 ?_
  refine V_cV0v (d1 := 6) G m_X7_187 dX7_count_6 (by first | decide | assumption) (by first | rfl | assumption) (c_lays r0 T R0 hn0 I.2.1) (by omega) (by omega) (by omega) (Nat.le_of_ble_eq_true rfl) (fun h_6 hp_6 => ?_)
  obtain ⟨v1, v2, v3, v4⟩ := hp_6
  have e1 := e0.tr (Sl_SM v1)
  have r := v2
  have v77 : hI h_6 77 0 = 0 := (v1.1 77 0 rfl).trans (by simp [hI_sI])
  refine V_iload1 G dX7_count_9 ?_
  refine V_iconst G dX7_count_10 ?_
  refine V_bipush G dX7_count_11 (by decide) ?_
  refine V_cS3i (d1 := 1) G m_X7_72 dX7_count_13 (c_X7_in (v := q) (a := 0) (b := 8) hq ⟨by decide, by decide⟩ ⟨by decide, by decide⟩) (by omega) (by omega) (by omega) (Nat.le_of_ble_eq_true rfl) (fun x_13 h_13 hp_13 => ?_)
  rw [hp_13.1, hp_13.2]
  refine V_ifeqB G dX7_count_16 (tgt := 27) (by decide)  (fun c_16 => ?_) (fun c_16 => ?_)
  ·
    refine V_aload0 G dX7_count_27 ?_
    refine V_iconst G dX7_count_28 ?_
    refine V_cV1i (d1 := 1) G m_X7_190 dX7_count_29 (by first | decide | assumption) (by first | rfl | assumption) (c_X7_fails) (by omega) (by omega) (by omega) (Nat.le_of_ble_eq_true rfl) (fun x_29 h_29 hp_29 => ?_)
    rw [hp_29.1, hp_29.2]
    exact V_reti E dX7_count_32 rfl rfl ⟨_, rfl, by
    unfold opCount
    first
    | (rw [if_neg (by omega)]; exact ⟨e1.tr (SDP_SM f1), f2, (f1.1 77 0 rfl).trans v77, v4.sdp f1, fun _ => rfl⟩)
    | (rw [if_pos (by omega)]; exact aft_fail e1 v2 v4 (by decide) ⟨by decide, by decide⟩)⟩
  ·
    refine V_aload0 G dX7_count_19 ?_
    refine V_iload1 G dX7_count_20 ?_
    refine V_cV1i (d1 := 7) G m_X7_262 dX7_count_21 (by first | decide | assumption) (by first | rfl | assumption) (c_X7_tellsCount v2 T v4 I v3 c_16) (by omega) (by omega) (by omega) (Nat.le_of_ble_eq_true rfl) (fun x_21 h_21 hp_21 => ?_)
    obtain ⟨f0, f1, f2⟩ := hp_21
    rw [f0]
    refine V_goto G dX7_count_24 (tgt := 32) (by decide) ?_
    exact V_reti E dX7_count_32 rfl rfl ⟨_, rfl, by
    unfold opCount
    first
    | (rw [if_neg (by omega)]; exact ⟨e1.tr (SDP_SM f1), f2, (f1.1 77 0 rfl).trans v77, v4.sdp f1, fun _ => rfl⟩)
    | (rw [if_pos (by omega)]; exact aft_fail e1 v2 v4 (by decide) ⟨by decide, by decide⟩)⟩

end M20
