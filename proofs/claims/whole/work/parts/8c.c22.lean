section C22

theorem body_31 {h h1 : Hp} {c : Cs} (B : BodyC h c) (e : eqx (S7 31) h h1) : BodyC h1 c := B.eq (fun z j q => e.1 z j (S7_31 (by omega))) (fun j => by rw [e.2.1])

set_option maxRecDepth 100000 in
set_option maxHeartbeats 2000000 in
theorem c_X6_digestReadings {l : Launch} {d : Nat} {h : Hp} (r : Rg h) {c : Cs} (I : okS c) (B : BodyC h c) {start : Int64} (hd : 30 ≤ d := by omega) : CP l d 0 0 yX6_digestReadings cX6_digestReadings 7 (Option.some Jvm.ClassFile.FieldType.long) [.ref 0, .long start] h (pL fun x h1 => x = hF (fun k => z2l (readS c (k / 6) (k % 6))) (min (6 * ((lfS c).length : Int)) 60).toNat 0 start ∧ eqx (S7 31) h h1 ∧ Rg h1) := by
  refine CP.ofV (L := [some (.ref 0), some (.long start), none, none, none, none, none]) RX6 (by decide +kernel) rfl (Nat.le_of_ble_eq_true rfl) rfl (fun X hX G E => ?_)
  subst hX
  have ll := lfS_len I
  have out : ∀ (mO : Nat) (w : Int) (a : Int64) (a6 : Option Value) (f : Hp), w + mO = min ((lfS c).length : Int) 10 → 0 ≤ w → eqx (S7 31) h f → Rg f → hF (fun k => z2l (readS c (k / 6) (k % 6))) (6 * mO) (6 * w) a = hF (fun k => z2l (readS c (k / 6) (k % 6))) (min (6 * ((lfS c).length : Int)) 60).toNat 0 start → V X 0 0 5 [some (.ref 0), some (.long start), none, some (.long a), none, some (.int (Int32.ofInt w)), a6] [] f := by
    intro mO
    induction mO with
    | zero =>
      intro w a a6 f hmO hw0 ef rf hsO
      have B2 := body_31 B ef
      have lf := B2.2.2.2.1.1
      refine V_iload5 G dX6_digestReadings_5 ?_
      refine V_aload0 G dX6_digestReadings_7 ?_
      refine V_getIe (jz := 4) G fl_X6_34 dX6_digestReadings_8 (by first | decide | assumption) (by first | rfl | assumption) rfl rfl lf ?_
      refine V_icmpge G dX6_digestReadings_11 (tgt := 58) (by decide) (by first | exact r _ _ | assumption | exact ⟨by omega, by omega⟩) (by first | exact r _ _ | assumption | exact ⟨by omega, by omega⟩) (fun c_11 => ?_) (fun c_11 => ?_)
      ·
        refine V_lload3 G dX6_digestReadings_58 ?_
        exact V_retl E dX6_digestReadings_59 rfl ⟨_, rfl, ⟨hsO, ef, rf⟩⟩
      ·
        refine V_iload5 G dX6_digestReadings_14 ?_
        refine V_bipush G dX6_digestReadings_16 (by decide) ?_
        refine V_icmpge G dX6_digestReadings_18 (tgt := 58) (by decide) (by first | exact r _ _ | assumption | exact ⟨by omega, by omega⟩) (by first | exact r _ _ | assumption | exact ⟨by omega, by omega⟩) (fun c_18 => ?_) (fun c_18 => ?_)
        ·
          refine V_lload3 G dX6_digestReadings_58 ?_
          exact V_retl E dX6_digestReadings_59 rfl ⟨_, rfl, ⟨hsO, ef, rf⟩⟩
        · omega
    | succ mO ihO =>
      intro w a0 a6_ f hmO hw0 ef rf hsO
      have B2 := body_31 B ef
      have lf := B2.2.2.2.1.1
      have inn : ∀ (m : Nat) (k : Int) (a : Int64) (f : Hp), k + m = 6 → 0 ≤ k → eqx (S7 31) h f → Rg f → hF (fun k => z2l (readS c (k / 6) (k % 6))) (6 * mO + m) (6 * w + k) a = hF (fun k => z2l (readS c (k / 6) (k % 6))) (min (6 * ((lfS c).length : Int)) 60).toNat 0 start → V X 0 0 24 [some (.ref 0), some (.long start), none, some (.long a), none, some (.int (Int32.ofInt w)), some (.int (Int32.ofInt k))] [] f := by
        intro m
        induction m with
        | zero =>
          intro k a f hm hk ef rf hs
          refine V_iload6 G dX6_digestReadings_24 ?_
          refine V_iconst G dX6_digestReadings_26 ?_
          refine V_icmpgt G dX6_digestReadings_27 (tgt := 52) (by decide) (by first | exact r _ _ | assumption | exact ⟨by omega, by omega⟩) (by first | exact r _ _ | assumption | exact ⟨by omega, by omega⟩) (fun c_27 => ?_) (fun c_27 => ?_)
          ·
            refine V_iinc5 G dX6_digestReadings_52 rfl ?_
            refine V_goto G dX6_digestReadings_55 (tgt := 5) (by decide) ?_
            exact ihO (w + 1) _ _ _ (by omega) (by omega) ef rf (by rw [← hs, show 6 * mO + 0 = 6 * mO by omega, show 6 * (w + 1) = 6 * w + k by omega])
          · omega
        | succ m ih =>
          intro k a f hm hk ef rf hs
          have B2 := body_31 B ef
          refine V_iload6 G dX6_digestReadings_24 ?_
          refine V_iconst G dX6_digestReadings_26 ?_
          refine V_icmpgt G dX6_digestReadings_27 (tgt := 52) (by decide) (by first | exact r _ _ | assumption | exact ⟨by omega, by omega⟩) (by first | exact r _ _ | assumption | exact ⟨by omega, by omega⟩) (fun c_27 => ?_) (fun c_27 => ?_)
          · omega
          ·
            refine V_ldc2 G dX6_digestReadings_30 k_X6_230 ?_
            refine V_lload3 G dX6_digestReadings_33 ?_
            refine V_lmul G dX6_digestReadings_34 ?_
            refine V_aload0 G dX6_digestReadings_35 ?_
            refine V_iload5 G dX6_digestReadings_36 ?_
            refine V_iload6 G dX6_digestReadings_38 ?_
            refine V_cV2i (d1 := 22) G m_X6_203 dX6_digestReadings_40 (by first | decide | assumption) (by first | rfl | assumption) (c_X6_readingProperty rf I B2 (p := w) (q := k) ⟨by omega, by omega⟩ ⟨by omega, by omega⟩) (by omega) (by omega) (by omega) (Nat.le_of_ble_eq_true rfl) (fun x_40 h_40 hp_40 => ?_)
            obtain ⟨x0, x1, x2⟩ := hp_40
            rw [x0]
            refine V_i2l_ G dX6_digestReadings_43 ?_
            refine V_ladd G dX6_digestReadings_44 ?_
            refine V_lstore3 G dX6_digestReadings_45 rfl ?_
            refine V_iinc6 G dX6_digestReadings_46 rfl ?_
            refine V_goto G dX6_digestReadings_49 (tgt := 24) (by decide) ?_
            exact ih (k + 1) _ _ (by omega) (by omega) (ef.tr x1) x2 (by
              have e1 : (6 * w + k) / 6 = w := by omega
              have e2 : (6 * w + k) % 6 = k := by omega
              rw [← hs, show 6 * mO + (m + 1) = 6 * mO + m + 1 by omega, hF, show 6 * w + (k + 1) = 6 * w + k + 1 by omega]
              simp only [e1, e2]
              rfl)
      refine V_iload5 G dX6_digestReadings_5 ?_
      refine V_aload0 G dX6_digestReadings_7 ?_
      refine V_getIe (jz := 4) G fl_X6_34 dX6_digestReadings_8 (by first | decide | assumption) (by first | rfl | assumption) rfl rfl lf ?_
      refine V_icmpge G dX6_digestReadings_11 (tgt := 58) (by decide) (by first | exact r _ _ | assumption | exact ⟨by omega, by omega⟩) (by first | exact r _ _ | assumption | exact ⟨by omega, by omega⟩) (fun c_11 => ?_) (fun c_11 => ?_)
      · omega
      ·
        refine V_iload5 G dX6_digestReadings_14 ?_
        refine V_bipush G dX6_digestReadings_16 (by decide) ?_
        refine V_icmpge G dX6_digestReadings_18 (tgt := 58) (by decide) (by first | exact r _ _ | assumption | exact ⟨by omega, by omega⟩) (by first | exact r _ _ | assumption | exact ⟨by omega, by omega⟩) (fun c_18 => ?_) (fun c_18 => ?_)
        · omega
        ·
          refine V_iconst G dX6_digestReadings_21 ?_
          refine V_istore6 G dX6_digestReadings_22 rfl ?_
          exact inn 6 0 _ _ (by omega) (by omega) ef rf (by rw [← hsO, show 6 * mO + 6 = 6 * (mO + 1) by omega, Int.add_zero])
  refine V_lload1 G dX6_digestReadings_0 ?_
  refine V_lstore3 G dX6_digestReadings_1 rfl ?_
  refine V_iconst G dX6_digestReadings_2 ?_
  refine V_istore5 G dX6_digestReadings_3 rfl ?_
  exact out (min ((lfS c).length : Int) 10).toNat 0 _ _ h (by omega) (by omega) eqx.rf r (by rw [show 6 * (min ((lfS c).length : Int) 10).toNat = (min (6 * ((lfS c).length : Int)) 60).toNat by omega]; rfl)

theorem slB_c {h : Hp} {k : Int} {q : Nat} {s : Option Cs} (a : slC h k q s) : (hI h 75 k = 0 ∧ slB s = 0) ∨ (hI h 75 k = 1 ∧ slB s = 1) := by
  cases s with
  | none => exact Or.inl ⟨a, rfl⟩
  | some c => exact Or.inr ⟨a.1, rfl⟩

set_option maxRecDepth 100000 in
set_option maxHeartbeats 2000000 in
theorem c_X6_digest {l : Launch} {d : Nat} {h : Hp} (r : Rg h) {g : Sg} (R : RepC g h) (I : InvS g) (hd : 40 ≤ d := by omega) : CP l d 0 0 yX6_digest cX6_digest 4 (Option.some Jvm.ClassFile.FieldType.long) [.ref 0] h (pL fun x h1 => x = digS g ∧ RepC g h1 ∧ Rg h1 ∧ eqC h h1) := by
  refine CP.ofV (L := [some (.ref 0), none, none, none]) RX6 (by decide +kernel) rfl (Nat.le_of_ble_eq_true rfl) rfl (fun X hX G E => ?_)
  subst hX
  have hsv : hI h 0 10 = (g.2.1.length : Int) := R.2.1.elim (fun _ W => W.2.2.1)
  have b20 := I.2.2.2.2.2.1
  have i1 := I.1
  have hn0 := i1.1
  have st5 : ∀ (m : Nat) (k : Int) (a : Int64) (f : Hp), k + m = (g.2.2.2.2.length : Int) → 0 ≤ k → RepC g f → Rg f → eqC h f → hF (fun k => z2l (lfA g.2.2.2.2 k)) m k a = digS g → V X 0 0 136 [some (.ref 0), some (.long a), none, some (.int (Int32.ofInt k))] [] f := by
    intro m
    induction m with
    | zero =>
      intro k a f hm hk Rf rf ef hs
      have B0 := Rf.2.2.2.1
      refine V_iload3 G dX6_digest_136 ?_
      refine V_aload0 G dX6_digest_137 ?_
      refine V_getIe (jz := 14) G fl_X6_76 dX6_digest_138 (by first | decide | assumption) (by first | rfl | assumption) rfl rfl B0 ?_
      refine V_icmpge G dX6_digest_141 (tgt := 163) (by decide) (by first | exact r _ _ | assumption | exact ⟨by omega, by omega⟩) (by first | exact r _ _ | assumption | exact ⟨by omega, by omega⟩) (fun c_141 => ?_) (fun c_141 => ?_)
      ·
        refine V_lload1 G dX6_digest_163 ?_
        exact V_retl E dX6_digest_164 rfl ⟨_, rfl, ⟨hs, Rf, rf, ef⟩⟩
      · omega
    | succ m ih =>
      intro k a f hm hk Rf rf ef hs
      have B0 := Rf.2.2.2.1
      have gb := Rf.2.2.2.at hk (by omega)
      refine V_iload3 G dX6_digest_136 ?_
      refine V_aload0 G dX6_digest_137 ?_
      refine V_getIe (jz := 14) G fl_X6_76 dX6_digest_138 (by first | decide | assumption) (by first | rfl | assumption) rfl rfl B0 ?_
      refine V_icmpge G dX6_digest_141 (tgt := 163) (by decide) (by first | exact r _ _ | assumption | exact ⟨by omega, by omega⟩) (by first | exact r _ _ | assumption | exact ⟨by omega, by omega⟩) (fun c_141 => ?_) (fun c_141 => ?_)
      · omega
      ·
        refine V_ldc2 G dX6_digest_144 k_X6_230 ?_
        refine V_lload1 G dX6_digest_147 ?_
        refine V_lmul G dX6_digest_148 ?_
        refine V_aload0 G dX6_digest_149 ?_
        refine V_iload3 G dX6_digest_150 ?_
        refine V_cV1i (d1 := 1) G m_X6_162 dX6_digest_151 (by first | decide | assumption) (by first | rfl | assumption) (c_X6_codeAt (w := k) (by omega)) (by omega) (by omega) (by omega) (Nat.le_of_ble_eq_true rfl) (fun x_151 h_151 hp_151 => ?_)
        rw [hp_151.1, hp_151.2, gb]
        refine V_i2l_ G dX6_digest_154 ?_
        refine V_ladd G dX6_digest_155 ?_
        refine V_lstore1 G dX6_digest_156 rfl ?_
        refine V_iinc3 G dX6_digest_157 rfl ?_
        refine V_goto G dX6_digest_160 (tgt := 136) (by decide) ?_
        exact ih (k + 1) _ f (by omega) (by omega) Rf rf ef (by rw [← hs, hF]; rfl)
  have st4c : ∀ (f : Hp), RepC g f → Rg f → eqC h f → V X 0 0 89 [some (.ref 0), some (.long (31 * (31 * dg5 g + slB g.2.2.1) + slB g.2.2.2.1)), none, some (.int (Int32.ofInt 2))] [] f := by
    intro f Rf rf ef
    have B0 := Rf.2.2.2.1
    refine V_iload3 G dX6_digest_89 ?_
    refine V_iconst G dX6_digest_90 ?_
    refine V_icmpge G dX6_digest_91 (tgt := 122) (by decide) (by first | exact r _ _ | assumption | exact ⟨by omega, by omega⟩) (by first | exact r _ _ | assumption | exact ⟨by omega, by omega⟩) (fun c_91 => ?_) (fun c_91 => ?_)
    ·
      refine V_ldc2 G dX6_digest_122 k_X6_230 ?_
      refine V_lload1 G dX6_digest_125 ?_
      refine V_lmul G dX6_digest_126 ?_
      refine V_aload0 G dX6_digest_127 ?_
      refine V_getIe (jz := 14) G fl_X6_76 dX6_digest_128 (by first | decide | assumption) (by first | rfl | assumption) rfl rfl B0 ?_
      refine V_i2l_ G dX6_digest_131 ?_
      refine V_ladd G dX6_digest_132 ?_
      refine V_lstore1 G dX6_digest_133 rfl ?_
      refine V_iconst G dX6_digest_134 ?_
      refine V_istore3 G dX6_digest_135 rfl ?_
      exact st5 g.2.2.2.2.length 0 _ f (by omega) (by omega) Rf rf ef rfl
    · omega
  have st4 : ∀ (f : Hp), RepC g f → Rg f → eqC h f → V X 0 0 89 [some (.ref 0), some (.long (31 * dg5 g + slB g.2.2.1)), none, some (.int (Int32.ofInt 1))] [] f := by
    intro f Rf rf ef
    rcases slB_c Rf.2.2.1.2.2 with ⟨z1, z2⟩ | ⟨z1, z2⟩
    ·
      refine V_iload3 G dX6_digest_89 ?_
      refine V_iconst G dX6_digest_90 ?_
      refine V_icmpge G dX6_digest_91 (tgt := 122) (by decide) (by first | exact r _ _ | assumption | exact ⟨by omega, by omega⟩) (by first | exact r _ _ | assumption | exact ⟨by omega, by omega⟩) (fun c_91 => ?_) (fun c_91 => ?_)
      · omega
      ·
        refine V_ldc2 G dX6_digest_94 k_X6_230 ?_
        refine V_lload1 G dX6_digest_97 ?_
        refine V_lmul G dX6_digest_98 ?_
        refine V_aload0 G dX6_digest_99 ?_
        refine V_getR G fl_X6_69 dX6_digest_100 (by first | decide | assumption) (by first | rfl | assumption) rfl (by first | rfl | assumption) ?_
        refine V_iload3 G dX6_digest_103 ?_
        refine V_zalde G dX6_digest_104 (by first | decide | assumption) (by first | rfl | assumption) (by decide) ⟨by omega, by omega⟩ z1 ?_
        refine V_ifeq G dX6_digest_105 (tgt := 112) (by decide) (by first | exact r _ _ | assumption | exact ⟨by omega, by omega⟩) (fun c_105 => ?_) (fun c_105 => ?_)
        ·
          refine V_iconst G dX6_digest_112 ?_
          refine V_i2l_ G dX6_digest_113 ?_
          refine V_ladd G dX6_digest_114 ?_
          refine V_lstore1 G dX6_digest_115 rfl ?_
          refine V_iinc3 G dX6_digest_116 rfl ?_
          refine V_goto G dX6_digest_119 (tgt := 89) (by decide) ?_
          have q4 := st4c f Rf rf ef
          rw [z2] at q4
          exact q4
        · exact absurd rfl c_105
    ·
      refine V_iload3 G dX6_digest_89 ?_
      refine V_iconst G dX6_digest_90 ?_
      refine V_icmpge G dX6_digest_91 (tgt := 122) (by decide) (by first | exact r _ _ | assumption | exact ⟨by omega, by omega⟩) (by first | exact r _ _ | assumption | exact ⟨by omega, by omega⟩) (fun c_91 => ?_) (fun c_91 => ?_)
      · omega
      ·
        refine V_ldc2 G dX6_digest_94 k_X6_230 ?_
        refine V_lload1 G dX6_digest_97 ?_
        refine V_lmul G dX6_digest_98 ?_
        refine V_aload0 G dX6_digest_99 ?_
        refine V_getR G fl_X6_69 dX6_digest_100 (by first | decide | assumption) (by first | rfl | assumption) rfl (by first | rfl | assumption) ?_
        refine V_iload3 G dX6_digest_103 ?_
        refine V_zalde G dX6_digest_104 (by first | decide | assumption) (by first | rfl | assumption) (by decide) ⟨by omega, by omega⟩ z1 ?_
        refine V_ifeq G dX6_digest_105 (tgt := 112) (by decide) (by first | exact r _ _ | assumption | exact ⟨by omega, by omega⟩) (fun c_105 => ?_) (fun c_105 => ?_)
        · exact absurd c_105 (by decide)
        ·
          refine V_iconst G dX6_digest_108 ?_
          refine V_goto G dX6_digest_109 (tgt := 113) (by decide) ?_
          refine V_i2l_ G dX6_digest_113 ?_
          refine V_ladd G dX6_digest_114 ?_
          refine V_lstore1 G dX6_digest_115 rfl ?_
          refine V_iinc3 G dX6_digest_116 rfl ?_
          refine V_goto G dX6_digest_119 (tgt := 89) (by decide) ?_
          have q4 := st4c f Rf rf ef
          rw [z2] at q4
          exact q4
  have st4a : ∀ (f : Hp) (a3 : Option Value), RepC g f → Rg f → eqC h f → V X 0 0 87 [some (.ref 0), some (.long (dg5 g)), none, a3] [] f := by
    intro f a3 Rf rf ef
    rcases slB_c Rf.2.2.1.2.1 with ⟨z1, z2⟩ | ⟨z1, z2⟩
    ·
      refine V_iconst G dX6_digest_87 ?_
      refine V_istore3 G dX6_digest_88 rfl ?_
      refine V_iload3 G dX6_digest_89 ?_
      refine V_iconst G dX6_digest_90 ?_
      refine V_icmpge G dX6_digest_91 (tgt := 122) (by decide) (by first | exact r _ _ | assumption | exact ⟨by omega, by omega⟩) (by first | exact r _ _ | assumption | exact ⟨by omega, by omega⟩) (fun c_91 => ?_) (fun c_91 => ?_)
      · omega
      ·
        refine V_ldc2 G dX6_digest_94 k_X6_230 ?_
        refine V_lload1 G dX6_digest_97 ?_
        refine V_lmul G dX6_digest_98 ?_
        refine V_aload0 G dX6_digest_99 ?_
        refine V_getR G fl_X6_69 dX6_digest_100 (by first | decide | assumption) (by first | rfl | assumption) rfl (by first | rfl | assumption) ?_
        refine V_iload3 G dX6_digest_103 ?_
        refine V_zalde G dX6_digest_104 (by first | decide | assumption) (by first | rfl | assumption) (by decide) ⟨by omega, by omega⟩ z1 ?_
        refine V_ifeq G dX6_digest_105 (tgt := 112) (by decide) (by first | exact r _ _ | assumption | exact ⟨by omega, by omega⟩) (fun c_105 => ?_) (fun c_105 => ?_)
        ·
          refine V_iconst G dX6_digest_112 ?_
          refine V_i2l_ G dX6_digest_113 ?_
          refine V_ladd G dX6_digest_114 ?_
          refine V_lstore1 G dX6_digest_115 rfl ?_
          refine V_iinc3 G dX6_digest_116 rfl ?_
          refine V_goto G dX6_digest_119 (tgt := 89) (by decide) ?_
          have q4 := st4 f Rf rf ef
          rw [z2] at q4
          exact q4
        · exact absurd rfl c_105
    ·
      refine V_iconst G dX6_digest_87 ?_
      refine V_istore3 G dX6_digest_88 rfl ?_
      refine V_iload3 G dX6_digest_89 ?_
      refine V_iconst G dX6_digest_90 ?_
      refine V_icmpge G dX6_digest_91 (tgt := 122) (by decide) (by first | exact r _ _ | assumption | exact ⟨by omega, by omega⟩) (by first | exact r _ _ | assumption | exact ⟨by omega, by omega⟩) (fun c_91 => ?_) (fun c_91 => ?_)
      · omega
      ·
        refine V_ldc2 G dX6_digest_94 k_X6_230 ?_
        refine V_lload1 G dX6_digest_97 ?_
        refine V_lmul G dX6_digest_98 ?_
        refine V_aload0 G dX6_digest_99 ?_
        refine V_getR G fl_X6_69 dX6_digest_100 (by first | decide | assumption) (by first | rfl | assumption) rfl (by first | rfl | assumption) ?_
        refine V_iload3 G dX6_digest_103 ?_
        refine V_zalde G dX6_digest_104 (by first | decide | assumption) (by first | rfl | assumption) (by decide) ⟨by omega, by omega⟩ z1 ?_
        refine V_ifeq G dX6_digest_105 (tgt := 112) (by decide) (by first | exact r _ _ | assumption | exact ⟨by omega, by omega⟩) (fun c_105 => ?_) (fun c_105 => ?_)
        · exact absurd c_105 (by decide)
        ·
          refine V_iconst G dX6_digest_108 ?_
          refine V_goto G dX6_digest_109 (tgt := 113) (by decide) ?_
          refine V_i2l_ G dX6_digest_113 ?_
          refine V_ladd G dX6_digest_114 ?_
          refine V_lstore1 G dX6_digest_115 rfl ?_
          refine V_iinc3 G dX6_digest_116 rfl ?_
          refine V_goto G dX6_digest_119 (tgt := 89) (by decide) ?_
          have q4 := st4 f Rf rf ef
          rw [z2] at q4
          exact q4
  have st1 : ∀ (m : Nat) (k : Int) (a : Int64), k + m = 9 → 0 ≤ k → hF (fun q => z2l (cntS g q)) m k a = dg1 g → V X 0 0 6 [some (.ref 0), some (.long a), none, some (.int (Int32.ofInt k))] [] h := by
    intro m
    induction m with
    | zero =>
      intro k a hm hk hs
      have ha : a = dg1 g := hs
      subst ha
      refine V_iload3 G dX6_digest_6 ?_
      refine V_bipush G dX6_digest_7 (by decide) ?_
      refine V_icmpgt G dX6_digest_9 (tgt := 31) (by decide) (by first | exact r _ _ | assumption | exact ⟨by omega, by omega⟩) (by first | exact r _ _ | assumption | exact ⟨by omega, by omega⟩) (fun c_9 => ?_) (fun c_9 => ?_)
      ·
        refine V_aload0 G dX6_digest_31 ?_
        refine V_lload1 G dX6_digest_32 ?_
        refine V_cV1l (d1 := 5) G m_X6_232 dX6_digest_33 (by first | decide | assumption) (by first | rfl | assumption) (c_X6_digestWords i1 R.1 (start := dg1 g)) (by omega) (by omega) (by omega) (Nat.le_of_ble_eq_true rfl) (fun x_33 h_33 hp_33 => ?_)
        rw [hp_33.1, hp_33.2]
        refine V_lstore1 G dX6_digest_36 rfl ?_
        refine V_aload0 G dX6_digest_37 ?_
        refine V_lload1 G dX6_digest_38 ?_
        refine V_cV1l (d1 := 30) G m_X6_236 dX6_digest_39 (by first | decide | assumption) (by first | rfl | assumption) (c_X6_digestReadings r i1 R.1) (by omega) (by omega) (by omega) (Nat.le_of_ble_eq_true rfl) (fun x_39 h_39 hp_39 => ?_)
        obtain ⟨x0, x1, x2⟩ := hp_39
        have f1 := rep_oth R x1
        rw [x0]
        refine V_lstore1 G dX6_digest_42 rfl ?_
        refine V_aload0 G dX6_digest_43 ?_
        refine V_lload1 G dX6_digest_44 ?_
        refine V_cV1l (d1 := 3) G m_X6_239 dX6_digest_45 (by first | decide | assumption) (by first | rfl | assumption) (c_X6_digestParts x2 i1 f1.1.1) (by omega) (by omega) (by omega) (Nat.le_of_ble_eq_true rfl) (fun x_45 h_45 hp_45 => ?_)
        rw [hp_45.1, hp_45.2]
        refine V_lstore1 G dX6_digest_48 rfl ?_
        refine V_ldc2 G dX6_digest_49 k_X6_230 ?_
        refine V_lload1 G dX6_digest_52 ?_
        refine V_lmul G dX6_digest_53 ?_
        refine V_aload0 G dX6_digest_54 ?_
        refine V_cV0i (d1 := 6) G m_X6_218 dX6_digest_55 (by first | decide | assumption) (by first | rfl | assumption) (c_X6_bestQuestion i1 f1.1.1) (by omega) (by omega) (by omega) (Nat.le_of_ble_eq_true rfl) (fun x_55 h_55 hp_55 => ?_)
        rw [hp_55.1, hp_55.2]
        refine V_i2l_ G dX6_digest_58 ?_
        refine V_ladd G dX6_digest_59 ?_
        refine V_lstore1 G dX6_digest_60 rfl ?_
        refine V_ldc2 G dX6_digest_61 k_X6_230 ?_
        refine V_lload1 G dX6_digest_64 ?_
        refine V_lmul G dX6_digest_65 ?_
        refine V_aload0 G dX6_digest_66 ?_
        refine V_cV0i (d1 := 22) G m_X6_221 dX6_digest_67 (by first | decide | assumption) (by first | rfl | assumption) (c_X6_kindsToAdd x2 i1 f1.1.1.1) (by omega) (by omega) (by omega) (Nat.le_of_ble_eq_true rfl) (fun x_67 h_67 hp_67 => ?_)
        obtain ⟨y0, y1, y2⟩ := hp_67
        have f2 := rep_nx f1.1 y1
        rw [y0]
        refine V_i2l_ G dX6_digest_70 ?_
        refine V_ladd G dX6_digest_71 ?_
        refine V_lstore1 G dX6_digest_72 rfl ?_
        refine V_ldc2 G dX6_digest_73 k_X6_230 ?_
        refine V_lload1 G dX6_digest_76 ?_
        refine V_lmul G dX6_digest_77 ?_
        refine V_aload0 G dX6_digest_78 ?_
        refine V_cV0d (d1 := 4) G m_X6_224 dX6_digest_79 (by first | decide | assumption) (by first | rfl | assumption) (c_X6_share i1 f2.1.1.1 f2.1.1.2.1 f2.1.1.2.2.2.1) (by omega) (by omega) (by omega) (Nat.le_of_ble_eq_true rfl) (fun x_79 h_79 hp_79 => ?_)
        rw [hp_79.1, hp_79.2]
        refine V_cS1l (d1 := 2) G m_X6_242 dX6_digest_82 (c_X6_bitsOfShare (bs_sh hn0)) (by omega) (by omega) (by omega) (Nat.le_of_ble_eq_true rfl) (fun x_82 h_82 hp_82 => ?_)
        rw [hp_82.1, hp_82.2]
        refine V_ladd G dX6_digest_85 ?_
        refine V_lstore1 G dX6_digest_86 rfl ?_
        exact st4a h_67 _ f2.1 y2 (f1.2.tr f2.2)
      · omega
    | succ m ih =>
      intro k a hm hk hs
      refine V_iload3 G dX6_digest_6 ?_
      refine V_bipush G dX6_digest_7 (by decide) ?_
      refine V_icmpgt G dX6_digest_9 (tgt := 31) (by decide) (by first | exact r _ _ | assumption | exact ⟨by omega, by omega⟩) (by first | exact r _ _ | assumption | exact ⟨by omega, by omega⟩) (fun c_9 => ?_) (fun c_9 => ?_)
      · omega
      ·
        refine V_ldc2 G dX6_digest_12 k_X6_230 ?_
        refine V_lload1 G dX6_digest_15 ?_
        refine V_lmul G dX6_digest_16 ?_
        refine V_aload0 G dX6_digest_17 ?_
        refine V_iload3 G dX6_digest_18 ?_
        refine V_cV1i (d1 := 5) G m_X6_206 dX6_digest_19 (by first | decide | assumption) (by first | rfl | assumption) (c_X6_number r i1 R.1 hsv (q := k) ⟨by omega, by omega⟩) (by omega) (by omega) (by omega) (Nat.le_of_ble_eq_true rfl) (fun x_19 h_19 hp_19 => ?_)
        rw [hp_19.1, hp_19.2]
        refine V_i2l_ G dX6_digest_22 ?_
        refine V_ladd G dX6_digest_23 ?_
        refine V_lstore1 G dX6_digest_24 rfl ?_
        refine V_iinc3 G dX6_digest_25 rfl ?_
        refine V_goto G dX6_digest_28 (tgt := 6) (by decide) ?_
        exact ih (k + 1) _ (by omega) (by omega) (by rw [← hs, hF]; rfl)
  refine V_ldc2 G dX6_digest_0 k_X6_228 ?_
  refine V_lstore1 G dX6_digest_3 rfl ?_
  refine V_iconst G dX6_digest_4 ?_
  refine V_istore3 G dX6_digest_5 rfl ?_
  exact st1 9 0 _ (by omega) (by omega) rfl

end C22
