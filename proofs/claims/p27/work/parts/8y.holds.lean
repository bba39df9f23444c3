section L3
variable {c : Cs} {w : Int}
theorem wo0 : wordS c w 0 = kdS c w := if_pos rfl
theorem wo6 : wordS c w 6 = if 0 < fxS c w then 1 else 0 := by
  unfold wordS
  rw [if_neg (by omega), if_pos rfl]
theorem wo7 : wordS c w 7 = hdsS c w := by
  unfold wordS
  rw [if_neg (by omega), if_neg (by omega), if_pos rfl]
theorem woz (h : (lfS c).length = 0) {q : Int} (hq : 1 ≤ q ∧ q ≤ 5) : wordS c w q = -1 := by
  unfold wordS
  rw [if_neg (by omega), if_neg (by omega), if_neg (by omega), if_pos h]
theorem woq (h : 0 < (lfS c).length) {q : Int} (hq : 1 ≤ q ∧ q ≤ 5) : wordS c w q = tdF (nS c) (kdS c) (fD c) w q := by
  unfold wordS
  rw [if_neg (by omega), if_neg (by omega), if_neg (by omega), if_neg (by omega)]
  rfl
theorem wo1 (h : 0 < (lfS c).length) : wordS c w 1 = fD c w := (woq h (by omega)).trans (if_pos rfl)
theorem wo2 (h : 0 < (lfS c).length) : wordS c w 2 = heldF (kdS c) (fD c) w := (woq h (by omega)).trans (by unfold tdF; rw [if_neg (by omega), if_pos rfl])
theorem wo3 (h : 0 < (lfS c).length) : wordS c w 3 = levF (kdS c) (fD c) 12 w + 20 := (woq h (by omega)).trans (by unfold tdF; rw [if_neg (by omega), if_neg (by omega), if_pos rfl])
theorem wo4 (h : 0 < (lfS c).length) : wordS c w 4 = hldF (nS c) (fD c) w := (woq h (by omega)).trans (by unfold tdF; rw [if_neg (by omega), if_neg (by omega), if_neg (by omega), if_pos rfl])
theorem wo5 (h : 0 < (lfS c).length) : wordS c w 5 = w := (woq h (by omega)).trans (by unfold tdF; rw [if_neg (by omega), if_neg (by omega), if_neg (by omega), if_neg (by omega)])
theorem cnt2 {g : Sg} (I : InvS g) : cntS g 2 = ((AS g.1).length : Int) := by
  rw [cnt_12 I.1]
  unfold cntS
  rw [if_neg (by omega), if_neg (by omega), if_pos rfl]
theorem cnt4z {g : Sg} (h : (lfS g.1).length = 0) : cntS g 4 = -1 := by
  unfold cntS
  rw [if_neg (by omega), if_neg (by omega), if_neg (by omega), if_neg (by omega), if_pos rfl, if_pos h]
theorem cnt4 {g : Sg} (h : 0 < (lfS g.1).length) : cntS g 4 = g.1 1 := by
  unfold cntS
  rw [if_neg (by omega), if_neg (by omega), if_neg (by omega), if_neg (by omega), if_pos rfl, if_neg (by omega)]
theorem cnt5 {g : Sg} : cntS g 5 = fwS g.1 := by
  unfold cntS
  rw [if_neg (by omega), if_neg (by omega), if_neg (by omega), if_neg (by omega), if_neg (by omega), if_pos rfl]
theorem cnt6 {g : Sg} : cntS g 6 = wwS g.1 1 := by
  unfold cntS
  rw [if_neg (by omega), if_neg (by omega), if_neg (by omega), if_neg (by omega), if_neg (by omega), if_neg (by omega), if_pos rfl]
theorem cnt7z {g : Sg} (h : (lfS g.1).length = 0) : cntS g 7 = 0 := by
  unfold cntS
  rw [if_neg (by omega), if_neg (by omega), if_neg (by omega), if_neg (by omega), if_neg (by omega), if_neg (by omega), if_neg (by omega), if_pos rfl, if_pos h]
theorem cnt7 {g : Sg} (h : 0 < (lfS g.1).length) : cntS g 7 = hgtS g.1 (drS g.1) := by
  unfold cntS
  rw [if_neg (by omega), if_neg (by omega), if_neg (by omega), if_neg (by omega), if_neg (by omega), if_neg (by omega), if_neg (by omega), if_pos rfl, if_neg (by omega)]
theorem rea0 {p : Int} : readS c p 0 = hgtS c (lfA (lfS c) p) := if_pos rfl
theorem hld_r (n : Int) (f : Int → Int) (w : Int) : 0 ≤ hldF n f w ∧ hldF n f w ≤ n.toNat := by
  have := sumF_le (f := fun k => if f k = w then 1 else 0) (b := 1) (by omega) n.toNat 0 (fun j => by split <;> omega)
  unfold hldF
  omega
theorem hel_r (kd hd : Int → Int) (w : Int) : 0 ≤ heldF kd hd w ∧ heldF kd hd w ≤ 6 := by
  unfold heldF
  repeat' split
  all_goals omega
theorem fw_r (hn : nS c ≤ 12) : 0 ≤ fwS c ∧ fwS c ≤ 12 := by
  have := sumF_le (f := fun k => if 0 < fxS c k then 1 else 0) (b := 1) (by omega) (nS c).toNat 0 (fun j => by split <;> omega)
  unfold fwS
  omega
noncomputable def fS1 (c : Cs) (k : Int) : Int := if hdsS c k = 1 then 1 else 0
noncomputable def fU1 (c : Cs) (k : Int) : Int := if 1 < hdsS c k then 1 else 0
def fF1 (c : Cs) (k : Int) : Int := if 0 < fxS c k then 1 else 0
noncomputable def fR1 (c : Cs) (k : Int) : Int := if fD c k = -1 then 1 else 0
theorem ww_s : sumF (fS1 c) (nS c).toNat 0 = wwS c 0 := sumF_congr _ _ fun k _ _ => by simp [fS1]
theorem ww_u : sumF (fU1 c) (nS c).toNat 0 = wwS c 1 := sumF_congr _ _ fun k _ _ => by simp [fU1]
theorem sumF_1 {f : Int → Int} {m : Nat} {k : Int} : sumF f (m + 1) k = f k + sumF f m (k + 1) := rfl
theorem sh_self (h : 0 ≤ nS c ∧ nS c ≤ 12) : Op.cmpValue (FP.dcmp (shS c) (shS c)) .l = 0 := by
  unfold shS
  split
  · decide +kernel
  · rw [sh_e (wwS_r h.2 0) (by omega)]
    rfl

set_option maxRecDepth 100000 in
set_option maxHeartbeats 16000000 in
theorem c_holds {l : Launch} {d : Nat} {h : Hp} (hlt : l.stackTraces = false) (r : Rg h) {g : Sg} (R : RepC g h) (I : InvS g) (hd : 45 ≤ d := by omega) : CP l d 600 3600 yL_holds cL_holds 13 (Option.some Jvm.ClassFile.FieldType.boolean) [.ref 0] h (pI fun x h1 => x = 1 ∧ RepC g h1 ∧ Rg h1) := by
  refine CP.ofV (L := [some (.ref 0), none, none, none, none, none, none, none, none, none, none, none, none]) RL (by decide +kernel) rfl (Nat.le_of_ble_eq_true rfl) rfl (fun X hX G E => ?_)
  subst hX
  have hn12 := I.1.1
  have h42 := lfS_len I.1
  have hA42 := rds_len I.1
  have hfw := fw_r (c := g.1) hn12.2
  have hw0 := wwS_r (c := g.1) hn12.2 0
  have hw1 := wwS_r (c := g.1) hn12.2 1
  have hask := askS_r (c := g.1) hn12.1
  have hask2 := ask_ww (c := g.1) hn12.1
  have hle := lf_le (c := g.1)
  have hall : fwS g.1 = 0 → (lfS g.1).length = (AS g.1).length := fun z => lf_all z hn12.1
  rcases Nat.eq_zero_or_pos (lfS g.1).length with hl | hl
  · skip
    have lp : ∀ (m : Nat) (w r3 h4 s5 f6 u7 : Int) (h : Hp) (k n : Nat) (a9 a10 a11 a12 : Option Value), w + m = nS g.1 → 0 ≤ w → RepC g h → Rg h → k ≤ 6 + 39 * w → n ≤ 36 + 234 * w → (s5 + sumF (fS1 g.1) m w = wwS g.1 0 ∧ u7 + sumF (fU1 g.1) m w = wwS g.1 1 ∧ f6 + sumF (fF1 g.1) m w = fwS g.1 ) → (∀ (r3 h4 s5 f6 u7 : Int) (h : Hp) (k n : Nat) (a9 a10 a11 a12 : Option Value), RepC g h → Rg h → k ≤ 480 → n ≤ 2880 → s5 = wwS g.1 0 ∧ u7 = wwS g.1 1 ∧ f6 = fwS g.1  → V X k n 342 [some (.ref 0), some (.int (Int32.ofInt (nS g.1))), some (.int (Int32.ofInt ((lfS g.1).length : Int))), some (.int (Int32.ofInt r3)), some (.int (Int32.ofInt h4)), some (.int (Int32.ofInt s5)), some (.int (Int32.ofInt f6)), some (.int (Int32.ofInt u7)), some (.int (Int32.ofInt (nS g.1))), a9, a10, a11, a12] [] h) → V X k n 29 [some (.ref 0), some (.int (Int32.ofInt (nS g.1))), some (.int (Int32.ofInt ((lfS g.1).length : Int))), some (.int (Int32.ofInt r3)), some (.int (Int32.ofInt h4)), some (.int (Int32.ofInt s5)), some (.int (Int32.ofInt f6)), some (.int (Int32.ofInt u7)), some (.int (Int32.ofInt w)), a9, a10, a11, a12] [] h := by
      intro m
      induction m with
      | zero =>
        intro w r3 h4 s5 f6 u7 h k n a9 a10 a11 a12 hm hw R r hk hn hv kk
        obtain rfl : w = nS g.1 := by omega
        simp only [sumF, Int.add_zero] at hv
        refine V_iload8 G dL_holds_29 ?_
        refine V_iload1 G dL_holds_31 ?_
        refine V_icmpge G dL_holds_32 (tgt := 342) (by decide) ⟨by omega, by omega⟩ ⟨by omega, by omega⟩ (fun c_32 => ?_) (fun c_32 => ?_)
        ·
          exact kk _ _ _ _ _ h k n _ _ _ _ R r (by omega) (by omega) hv
        · omega
      | succ m ih =>
        intro w r3 h4 s5 f6 u7 h k n a9 a10 a11 a12 hm hw R r hk hn hv kk
        rw [sumF_1, sumF_1, sumF_1] at hv
        have hds := hdsS_r (c := g.1) w hn12.2
        have hkd := I.1.2.1 w hw (by omega)
        have vF : (0 < fxS g.1 w ∧ fF1 g.1 w = 1 ∧ wordS g.1 w 6 = 1) ∨ (¬ 0 < fxS g.1 w ∧ fF1 g.1 w = 0 ∧ wordS g.1 w 6 = 0) := by
          rw [wo6]
          unfold fF1
          by_cases z : 0 < fxS g.1 w
          · rw [if_pos z]; exact Or.inl ⟨z, rfl, rfl⟩
          · rw [if_neg z]; exact Or.inr ⟨z, rfl, rfl⟩
        have hd0 := hds_0 hl w
        have vS : (hdsS g.1 w = 1 ∧ fS1 g.1 w = 1) ∨ (hdsS g.1 w ≠ 1 ∧ fS1 g.1 w = 0) := by
          unfold fS1
          by_cases z : hdsS g.1 w = 1
          · rw [if_pos z]; exact Or.inl ⟨z, rfl⟩
          · rw [if_neg z]; exact Or.inr ⟨z, rfl⟩
        have vU : (1 < hdsS g.1 w ∧ fU1 g.1 w = 1) ∨ (¬ 1 < hdsS g.1 w ∧ fU1 g.1 w = 0) := by
          unfold fU1
          by_cases z : 1 < hdsS g.1 w
          · rw [if_pos z]; exact Or.inl ⟨z, rfl⟩
          · rw [if_neg z]; exact Or.inr ⟨z, rfl⟩
        have j83 : ∀ (z s5 f6 : Int) (h : Hp) (k n : Nat), z = fU1 g.1 w → s5 + sumF (fS1 g.1) m (w + 1) = wwS g.1 0 → f6 + (fF1 g.1 w + sumF (fF1 g.1) m (w + 1)) = fwS g.1 → RepC g h → Rg h → k ≤ 12 + 39 * w → n ≤ 72 + 234 * w → V X k n 83 [some (.ref 0), some (.int (Int32.ofInt (nS g.1))), some (.int (Int32.ofInt ((lfS g.1).length : Int))), some (.int (Int32.ofInt r3)), some (.int (Int32.ofInt h4)), some (.int (Int32.ofInt s5)), some (.int (Int32.ofInt f6)), some (.int (Int32.ofInt u7)), some (.int (Int32.ofInt w)), (some (.int (Int32.ofInt (-1)))), (some (.int (Int32.ofInt (hdsS g.1 w)))), a11, a12] [.int (Int32.ofInt z), .int (Int32.ofInt u7)] h := by
          intro z s5 f6 h k n hz hs hf R r hk hn
          refine V_iadd G dL_holds_83 ?_
          refine V_istore7 G dL_holds_84 rfl ?_
          refine V_iload6 G dL_holds_86 ?_
          refine V_aload0 G dL_holds_88 ?_
          refine V_iload8 G dL_holds_89 ?_
          refine V_bipush G dL_holds_91 (by decide) ?_
          refine Q_wordv G hlt I R r wo6 ⟨by omega, by omega⟩ ⟨by omega, by omega⟩ dL_holds_93 (by omega) (by omega) (by omega) (Nat.le_of_ble_eq_true rfl) (fun h R r => ?_)
          refine V_iadd G dL_holds_96 ?_
          refine V_istore6 G dL_holds_97 rfl ?_
          refine V_iload2 G dL_holds_99 ?_
          refine V_ifne G dL_holds_100 (tgt := 127) (by decide) ⟨by omega, by omega⟩ (fun c_100 => ?_) (fun c_100 => ?_)
          · omega
          ·
            refine V_iload9 G dL_holds_103 ?_
            refine V_iconst G dL_holds_105 ?_
            refine V_icmpne G dL_holds_106 (tgt := 125) (by decide) ⟨by omega, by omega⟩ ⟨by omega, by omega⟩ (fun c_106 => ?_) (fun c_106 => ?_)
            · omega
            ·
              refine V_aload0 G dL_holds_109 ?_
              refine V_iload8 G dL_holds_110 ?_
              refine V_iconst G dL_holds_112 ?_
              refine Q_wordv G hlt I R r (woz hl (by omega)) ⟨by omega, by omega⟩ ⟨by omega, by omega⟩ dL_holds_113 (by omega) (by omega) (by omega) (Nat.le_of_ble_eq_true rfl) (fun h R r => ?_)
              refine V_iconst G dL_holds_116 ?_
              refine V_icmpne G dL_holds_117 (tgt := 125) (by decide) ⟨by omega, by omega⟩ ⟨by omega, by omega⟩ (fun c_117 => ?_) (fun c_117 => ?_)
              · omega
              ·
                refine V_iload10 G dL_holds_120 ?_
                refine V_ifeq G dL_holds_122 (tgt := 336) (by decide) ⟨by omega, by omega⟩ (fun c_122 => ?_) (fun c_122 => ?_)
                ·
                  refine V_iinc8 G dL_holds_336 rfl ?_
                  refine V_goto G dL_holds_339 (tgt := 29) (by decide) ?_
                  exact ih (w + 1) _ _ _ _ _ h _ _ _ _ _ _ (by omega) (by omega) R r (by omega) (by omega) (by omega) kk
                · omega
        have j67 : ∀ (z : Int) (h : Hp) (k n : Nat), z = fS1 g.1 w → RepC g h → Rg h → k ≤ 12 + 39 * w → n ≤ 72 + 234 * w → V X k n 67 [some (.ref 0), some (.int (Int32.ofInt (nS g.1))), some (.int (Int32.ofInt ((lfS g.1).length : Int))), some (.int (Int32.ofInt r3)), some (.int (Int32.ofInt h4)), some (.int (Int32.ofInt s5)), some (.int (Int32.ofInt f6)), some (.int (Int32.ofInt u7)), some (.int (Int32.ofInt w)), (some (.int (Int32.ofInt (-1)))), (some (.int (Int32.ofInt (hdsS g.1 w)))), a11, a12] [.int (Int32.ofInt z), .int (Int32.ofInt s5)] h := by
          intro z h k n hz R r hk hn
          refine V_iadd G dL_holds_67 ?_
          refine V_istore5 G dL_holds_68 rfl ?_
          refine V_iload7 G dL_holds_70 ?_
          refine V_iload10 G dL_holds_72 ?_
          refine V_iconst G dL_holds_74 ?_
          refine V_icmple G dL_holds_75 (tgt := 82) (by decide) ⟨by omega, by omega⟩ ⟨by omega, by omega⟩ (fun c_75 => ?_) (fun c_75 => ?_)
          ·
            refine V_iconst G dL_holds_82 ?_
            exact j83 _ _ _ h _ _ (by omega) (by omega) (by omega) R r (by omega) (by omega)
          ·
            refine V_iconst G dL_holds_78 ?_
            refine V_goto G dL_holds_79 (tgt := 83) (by decide) ?_
            exact j83 _ _ _ h _ _ (by omega) (by omega) (by omega) R r (by omega) (by omega)
        refine V_iload8 G dL_holds_29 ?_
        refine V_iload1 G dL_holds_31 ?_
        refine V_icmpge G dL_holds_32 (tgt := 342) (by decide) ⟨by omega, by omega⟩ ⟨by omega, by omega⟩ (fun c_32 => ?_) (fun c_32 => ?_)
        · omega
        ·
          refine V_aload0 G dL_holds_35 ?_
          refine V_iload8 G dL_holds_36 ?_
          refine V_iconst G dL_holds_38 ?_
          refine Q_wordv G hlt I R r (woz hl (by omega)) ⟨by omega, by omega⟩ ⟨by omega, by omega⟩ dL_holds_39 (by omega) (by omega) (by omega) (Nat.le_of_ble_eq_true rfl) (fun h R r => ?_)
          refine V_istore9 G dL_holds_42 rfl ?_
          refine V_aload0 G dL_holds_44 ?_
          refine V_iload8 G dL_holds_45 ?_
          refine V_bipush G dL_holds_47 (by decide) ?_
          refine Q_wordv G hlt I R r wo7 ⟨by omega, by omega⟩ ⟨by omega, by omega⟩ dL_holds_49 (by omega) (by omega) (by omega) (Nat.le_of_ble_eq_true rfl) (fun h R r => ?_)
          refine V_istore10 G dL_holds_52 rfl ?_
          refine V_iload5 G dL_holds_54 ?_
          refine V_iload10 G dL_holds_56 ?_
          refine V_iconst G dL_holds_58 ?_
          refine V_icmpne G dL_holds_59 (tgt := 66) (by decide) ⟨by omega, by omega⟩ ⟨by omega, by omega⟩ (fun c_59 => ?_) (fun c_59 => ?_)
          ·
            refine V_iconst G dL_holds_66 ?_
            exact j67 _ h _ _ (by omega) R r (by omega) (by omega)
          ·
            refine V_iconst G dL_holds_62 ?_
            refine V_goto G dL_holds_63 (tgt := 67) (by decide) ?_
            exact j67 _ h _ _ (by omega) R r (by omega) (by omega)
    refine V_aload0 G dL_holds_0 ?_
    refine V_iconst G dL_holds_1 ?_
    refine Q_cntv G hlt I R r cnt0 ⟨by omega, by omega⟩ dL_holds_2 (by omega) (by omega) (by omega) (Nat.le_of_ble_eq_true rfl) (fun h R r => ?_)
    refine V_istore1 G dL_holds_5 rfl ?_
    refine V_aload0 G dL_holds_6 ?_
    refine V_iconst G dL_holds_7 ?_
    refine Q_cntv G hlt I R r cnt3 ⟨by omega, by omega⟩ dL_holds_8 (by omega) (by omega) (by omega) (Nat.le_of_ble_eq_true rfl) (fun h R r => ?_)
    refine V_istore2 G dL_holds_11 rfl ?_
    refine V_iconst G dL_holds_12 ?_
    refine V_istore3 G dL_holds_13 rfl ?_
    refine V_iconst G dL_holds_14 ?_
    refine V_istore4 G dL_holds_15 rfl ?_
    refine V_iconst G dL_holds_17 ?_
    refine V_istore5 G dL_holds_18 rfl ?_
    refine V_iconst G dL_holds_20 ?_
    refine V_istore6 G dL_holds_21 rfl ?_
    refine V_iconst G dL_holds_23 ?_
    refine V_istore7 G dL_holds_24 rfl ?_
    refine V_iconst G dL_holds_26 ?_
    refine V_istore8 G dL_holds_27 rfl ?_
    refine lp (nS g.1).toNat 0 0 0 0 0 0 h _ _ _ _ _ _ (by omega) (by omega) R r (by omega) (by omega) ⟨by rw [Int.zero_add]; exact ww_s, by rw [Int.zero_add]; exact ww_u, by rw [Int.zero_add]; rfl⟩ (fun r3 h4 s5 f6 u7 h k n a9 a10 a11 a12 R r hk hn hv => ?_)
    obtain ⟨rfl, rfl, rfl⟩ := hv
    refine V_iload2 G dL_holds_342 ?_
    refine V_ifne G dL_holds_343 (tgt := 372) (by decide) ⟨by omega, by omega⟩ (fun c_343 => ?_) (fun c_343 => ?_)
    · omega
    ·
      refine V_aload0 G dL_holds_346 ?_
      refine V_iconst G dL_holds_347 ?_
      refine Q_cntv G hlt I R r (cnt4z hl) ⟨by omega, by omega⟩ dL_holds_348 (by omega) (by omega) (by omega) (Nat.le_of_ble_eq_true rfl) (fun h R r => ?_)
      refine V_iconst G dL_holds_351 ?_
      refine V_icmpne G dL_holds_352 (tgt := 368) (by decide) ⟨by omega, by omega⟩ ⟨by omega, by omega⟩ (fun c_352 => ?_) (fun c_352 => ?_)
      · omega
      ·
        refine V_aload0 G dL_holds_355 ?_
        refine V_bipush G dL_holds_356 (by decide) ?_
        refine Q_cntv G hlt I R r (cnt7z hl) ⟨by omega, by omega⟩ dL_holds_358 (by omega) (by omega) (by omega) (Nat.le_of_ble_eq_true rfl) (fun h R r => ?_)
        refine V_ifne G dL_holds_361 (tgt := 368) (by decide) ⟨by omega, by omega⟩ (fun c_361 => ?_) (fun c_361 => ?_)
        · omega
        ·
          refine V_iconst G dL_holds_364 ?_
          refine V_goto G dL_holds_365 (tgt := 418) (by decide) ?_
          refine V_istore8 G dL_holds_418 rfl ?_
          refine V_aload0 G dL_holds_420 ?_
          refine V_iconst G dL_holds_421 ?_
          refine Q_cntv G hlt I R r cnt1 ⟨by omega, by omega⟩ dL_holds_422 (by omega) (by omega) (by omega) (Nat.le_of_ble_eq_true rfl) (fun h R r => ?_)
          refine V_aload0 G dL_holds_425 ?_
          refine V_iconst G dL_holds_426 ?_
          refine Q_cntv G hlt I R r (cnt2 I) ⟨by omega, by omega⟩ dL_holds_427 (by omega) (by omega) (by omega) (Nat.le_of_ble_eq_true rfl) (fun h R r => ?_)
          refine V_icmpne G dL_holds_430 (tgt := 481) (by decide) ⟨by omega, by omega⟩ ⟨by omega, by omega⟩ (fun c_430 => ?_) (fun c_430 => ?_)
          · omega
          ·
            refine V_iload2 G dL_holds_433 ?_
            refine V_aload0 G dL_holds_434 ?_
            refine V_iconst G dL_holds_435 ?_
            refine Q_cntv G hlt I R r cnt1 ⟨by omega, by omega⟩ dL_holds_436 (by omega) (by omega) (by omega) (Nat.le_of_ble_eq_true rfl) (fun h R r => ?_)
            refine V_icmpgt G dL_holds_439 (tgt := 481) (by decide) ⟨by omega, by omega⟩ ⟨by omega, by omega⟩ (fun c_439 => ?_) (fun c_439 => ?_)
            · omega
            ·
              refine V_iload6 G dL_holds_442 ?_
              refine V_ifgt G dL_holds_444 (tgt := 456) (by decide) ⟨by omega, by omega⟩ (fun c_444 => ?_) (fun c_444 => ?_)
              ·
                refine V_aload0 G dL_holds_456 ?_
                refine V_iconst G dL_holds_457 ?_
                refine Q_cntv G hlt I R r cnt5 ⟨by omega, by omega⟩ dL_holds_458 (by omega) (by omega) (by omega) (Nat.le_of_ble_eq_true rfl) (fun h R r => ?_)
                refine V_iload6 G dL_holds_461 ?_
                refine V_icmpne G dL_holds_463 (tgt := 481) (by decide) ⟨by omega, by omega⟩ ⟨by omega, by omega⟩ (fun c_463 => ?_) (fun c_463 => ?_)
                · omega
                ·
                  refine V_aload0 G dL_holds_466 ?_
                  refine V_bipush G dL_holds_467 (by decide) ?_
                  refine Q_cntv G hlt I R r cnt6 ⟨by omega, by omega⟩ dL_holds_469 (by omega) (by omega) (by omega) (Nat.le_of_ble_eq_true rfl) (fun h R r => ?_)
                  refine V_iload7 G dL_holds_472 ?_
                  refine V_icmpne G dL_holds_474 (tgt := 481) (by decide) ⟨by omega, by omega⟩ ⟨by omega, by omega⟩ (fun c_474 => ?_) (fun c_474 => ?_)
                  · omega
                  ·
                    refine V_iconst G dL_holds_477 ?_
                    refine V_goto G dL_holds_478 (tgt := 482) (by decide) ?_
                    refine V_istore9 G dL_holds_482 rfl ?_
                    refine V_iload8 G dL_holds_484 ?_
                    refine V_ifeq G dL_holds_486 (tgt := 546) (by decide) ⟨by omega, by omega⟩ (fun c_486 => ?_) (fun c_486 => ?_)
                    · omega
                    ·
                      refine V_iload9 G dL_holds_489 ?_
                      refine V_ifeq G dL_holds_491 (tgt := 546) (by decide) ⟨by omega, by omega⟩ (fun c_491 => ?_) (fun c_491 => ?_)
                      · omega
                      ·
                        refine V_aload0 G dL_holds_494 ?_
                        refine Q_ask G I R r dL_holds_495 (by omega) (by omega) (by omega) (Nat.le_of_ble_eq_true rfl) (fun h R r => ?_)
                        refine V_iconst G dL_holds_498 ?_
                        refine V_icmpne G dL_holds_499 (tgt := 506) (by decide) ⟨by omega, by omega⟩ ⟨by omega, by omega⟩ (fun c_499 => ?_) (fun c_499 => ?_)
                        ·
                          refine V_iconst G dL_holds_506 ?_
                          refine V_iload7 G dL_holds_507 ?_
                          refine V_ifne G dL_holds_509 (tgt := 516) (by decide) ⟨by omega, by omega⟩ (fun c_509 => ?_) (fun c_509 => ?_)
                          ·
                            refine V_iconst G dL_holds_516 ?_
                            refine V_icmpne G dL_holds_517 (tgt := 546) (by decide) ⟨by omega, by omega⟩ ⟨by omega, by omega⟩ (fun c_517 => ?_) (fun c_517 => ?_)
                            · omega
                            ·
                              refine V_aload0 G dL_holds_520 ?_
                              refine Q_share G I R r dL_holds_521 (by omega) (by omega) (by omega) (Nat.le_of_ble_eq_true rfl) ?_
                              refine V_iload1 G dL_holds_524 ?_
                              refine V_ifne G dL_holds_525 (tgt := 532) (by decide) ⟨by omega, by omega⟩ (fun c_525 => ?_) (fun c_525 => ?_)
                              ·
                                refine V_iload5 G dL_holds_532 ?_
                                refine V_i2d_ G dL_holds_534 ?_
                                refine V_iload1 G dL_holds_535 ?_
                                refine V_i2d_ G dL_holds_536 ?_
                                refine V_ddiv G dL_holds_537 (sh_n (wwS_r hn12.2 0) (by omega)) ?_
                                have hshare : FP.ddiv (FP.i2d (Int32.ofInt (wwS g.1 0))) (FP.i2d (Int32.ofInt (nS g.1))) = shS g.1 := by unfold shS; rw [if_neg (by omega)]
                                rw [hshare]
                                refine V_dcmp G dL_holds_538 ?_
                                rw [sh_self hn12]
                                refine V_ifne_ G dL_holds_539 (tgt := 546) (by decide) (fun z => absurd rfl z) (fun _ => ?_)
                                refine V_iconst G dL_holds_542 ?_
                                refine V_goto G dL_holds_543 (tgt := 547) (by decide) ?_
                                exact V_reti E dL_holds_547 rfl rfl ⟨_, rfl, rfl, R, r⟩
                              ·
                                refine V_dconst1 G dL_holds_528 ?_
                                have hshare : FP.dconst1 = shS g.1 := by unfold shS; rw [if_pos (by omega)]
                                refine V_goto G dL_holds_529 (tgt := 538) (by decide) ?_
                                rw [hshare]
                                refine V_dcmp G dL_holds_538 ?_
                                rw [sh_self hn12]
                                refine V_ifne_ G dL_holds_539 (tgt := 546) (by decide) (fun z => absurd rfl z) (fun _ => ?_)
                                refine V_iconst G dL_holds_542 ?_
                                refine V_goto G dL_holds_543 (tgt := 547) (by decide) ?_
                                exact V_reti E dL_holds_547 rfl rfl ⟨_, rfl, rfl, R, r⟩
                          ·
                            refine V_iconst G dL_holds_512 ?_
                            refine V_goto G dL_holds_513 (tgt := 517) (by decide) ?_
                            refine V_icmpne G dL_holds_517 (tgt := 546) (by decide) ⟨by omega, by omega⟩ ⟨by omega, by omega⟩ (fun c_517 => ?_) (fun c_517 => ?_)
                            · omega
                            ·
                              refine V_aload0 G dL_holds_520 ?_
                              refine Q_share G I R r dL_holds_521 (by omega) (by omega) (by omega) (Nat.le_of_ble_eq_true rfl) ?_
                              refine V_iload1 G dL_holds_524 ?_
                              refine V_ifne G dL_holds_525 (tgt := 532) (by decide) ⟨by omega, by omega⟩ (fun c_525 => ?_) (fun c_525 => ?_)
                              ·
                                refine V_iload5 G dL_holds_532 ?_
                                refine V_i2d_ G dL_holds_534 ?_
                                refine V_iload1 G dL_holds_535 ?_
                                refine V_i2d_ G dL_holds_536 ?_
                                refine V_ddiv G dL_holds_537 (sh_n (wwS_r hn12.2 0) (by omega)) ?_
                                have hshare : FP.ddiv (FP.i2d (Int32.ofInt (wwS g.1 0))) (FP.i2d (Int32.ofInt (nS g.1))) = shS g.1 := by unfold shS; rw [if_neg (by omega)]
                                rw [hshare]
                                refine V_dcmp G dL_holds_538 ?_
                                rw [sh_self hn12]
                                refine V_ifne_ G dL_holds_539 (tgt := 546) (by decide) (fun z => absurd rfl z) (fun _ => ?_)
                                refine V_iconst G dL_holds_542 ?_
                                refine V_goto G dL_holds_543 (tgt := 547) (by decide) ?_
                                exact V_reti E dL_holds_547 rfl rfl ⟨_, rfl, rfl, R, r⟩
                              ·
                                refine V_dconst1 G dL_holds_528 ?_
                                have hshare : FP.dconst1 = shS g.1 := by unfold shS; rw [if_pos (by omega)]
                                refine V_goto G dL_holds_529 (tgt := 538) (by decide) ?_
                                rw [hshare]
                                refine V_dcmp G dL_holds_538 ?_
                                rw [sh_self hn12]
                                refine V_ifne_ G dL_holds_539 (tgt := 546) (by decide) (fun z => absurd rfl z) (fun _ => ?_)
                                refine V_iconst G dL_holds_542 ?_
                                refine V_goto G dL_holds_543 (tgt := 547) (by decide) ?_
                                exact V_reti E dL_holds_547 rfl rfl ⟨_, rfl, rfl, R, r⟩
                        ·
                          refine V_iconst G dL_holds_502 ?_
                          refine V_goto G dL_holds_503 (tgt := 507) (by decide) ?_
                          refine V_iload7 G dL_holds_507 ?_
                          refine V_ifne G dL_holds_509 (tgt := 516) (by decide) ⟨by omega, by omega⟩ (fun c_509 => ?_) (fun c_509 => ?_)
                          ·
                            refine V_iconst G dL_holds_516 ?_
                            refine V_icmpne G dL_holds_517 (tgt := 546) (by decide) ⟨by omega, by omega⟩ ⟨by omega, by omega⟩ (fun c_517 => ?_) (fun c_517 => ?_)
                            · omega
                            ·
                              refine V_aload0 G dL_holds_520 ?_
                              refine Q_share G I R r dL_holds_521 (by omega) (by omega) (by omega) (Nat.le_of_ble_eq_true rfl) ?_
                              refine V_iload1 G dL_holds_524 ?_
                              refine V_ifne G dL_holds_525 (tgt := 532) (by decide) ⟨by omega, by omega⟩ (fun c_525 => ?_) (fun c_525 => ?_)
                              ·
                                refine V_iload5 G dL_holds_532 ?_
                                refine V_i2d_ G dL_holds_534 ?_
                                refine V_iload1 G dL_holds_535 ?_
                                refine V_i2d_ G dL_holds_536 ?_
                                refine V_ddiv G dL_holds_537 (sh_n (wwS_r hn12.2 0) (by omega)) ?_
                                have hshare : FP.ddiv (FP.i2d (Int32.ofInt (wwS g.1 0))) (FP.i2d (Int32.ofInt (nS g.1))) = shS g.1 := by unfold shS; rw [if_neg (by omega)]
                                rw [hshare]
                                refine V_dcmp G dL_holds_538 ?_
                                rw [sh_self hn12]
                                refine V_ifne_ G dL_holds_539 (tgt := 546) (by decide) (fun z => absurd rfl z) (fun _ => ?_)
                                refine V_iconst G dL_holds_542 ?_
                                refine V_goto G dL_holds_543 (tgt := 547) (by decide) ?_
                                exact V_reti E dL_holds_547 rfl rfl ⟨_, rfl, rfl, R, r⟩
                              ·
                                refine V_dconst1 G dL_holds_528 ?_
                                have hshare : FP.dconst1 = shS g.1 := by unfold shS; rw [if_pos (by omega)]
                                refine V_goto G dL_holds_529 (tgt := 538) (by decide) ?_
                                rw [hshare]
                                refine V_dcmp G dL_holds_538 ?_
                                rw [sh_self hn12]
                                refine V_ifne_ G dL_holds_539 (tgt := 546) (by decide) (fun z => absurd rfl z) (fun _ => ?_)
                                refine V_iconst G dL_holds_542 ?_
                                refine V_goto G dL_holds_543 (tgt := 547) (by decide) ?_
                                exact V_reti E dL_holds_547 rfl rfl ⟨_, rfl, rfl, R, r⟩
                          ·
                            refine V_iconst G dL_holds_512 ?_
                            refine V_goto G dL_holds_513 (tgt := 517) (by decide) ?_
                            refine V_icmpne G dL_holds_517 (tgt := 546) (by decide) ⟨by omega, by omega⟩ ⟨by omega, by omega⟩ (fun c_517 => ?_) (fun c_517 => ?_)
                            · omega
                            ·
                              refine V_aload0 G dL_holds_520 ?_
                              refine Q_share G I R r dL_holds_521 (by omega) (by omega) (by omega) (Nat.le_of_ble_eq_true rfl) ?_
                              refine V_iload1 G dL_holds_524 ?_
                              refine V_ifne G dL_holds_525 (tgt := 532) (by decide) ⟨by omega, by omega⟩ (fun c_525 => ?_) (fun c_525 => ?_)
                              ·
                                refine V_iload5 G dL_holds_532 ?_
                                refine V_i2d_ G dL_holds_534 ?_
                                refine V_iload1 G dL_holds_535 ?_
                                refine V_i2d_ G dL_holds_536 ?_
                                refine V_ddiv G dL_holds_537 (sh_n (wwS_r hn12.2 0) (by omega)) ?_
                                have hshare : FP.ddiv (FP.i2d (Int32.ofInt (wwS g.1 0))) (FP.i2d (Int32.ofInt (nS g.1))) = shS g.1 := by unfold shS; rw [if_neg (by omega)]
                                rw [hshare]
                                refine V_dcmp G dL_holds_538 ?_
                                rw [sh_self hn12]
                                refine V_ifne_ G dL_holds_539 (tgt := 546) (by decide) (fun z => absurd rfl z) (fun _ => ?_)
                                refine V_iconst G dL_holds_542 ?_
                                refine V_goto G dL_holds_543 (tgt := 547) (by decide) ?_
                                exact V_reti E dL_holds_547 rfl rfl ⟨_, rfl, rfl, R, r⟩
                              ·
                                refine V_dconst1 G dL_holds_528 ?_
                                have hshare : FP.dconst1 = shS g.1 := by unfold shS; rw [if_pos (by omega)]
                                refine V_goto G dL_holds_529 (tgt := 538) (by decide) ?_
                                rw [hshare]
                                refine V_dcmp G dL_holds_538 ?_
                                rw [sh_self hn12]
                                refine V_ifne_ G dL_holds_539 (tgt := 546) (by decide) (fun z => absurd rfl z) (fun _ => ?_)
                                refine V_iconst G dL_holds_542 ?_
                                refine V_goto G dL_holds_543 (tgt := 547) (by decide) ?_
                                exact V_reti E dL_holds_547 rfl rfl ⟨_, rfl, rfl, R, r⟩
              ·
                refine V_iload2 G dL_holds_447 ?_
                refine V_aload0 G dL_holds_448 ?_
                refine V_iconst G dL_holds_449 ?_
                refine Q_cntv G hlt I R r cnt1 ⟨by omega, by omega⟩ dL_holds_450 (by omega) (by omega) (by omega) (Nat.le_of_ble_eq_true rfl) (fun h R r => ?_)
                refine V_icmpne G dL_holds_453 (tgt := 481) (by decide) ⟨by omega, by omega⟩ ⟨by omega, by omega⟩ (fun c_453 => ?_) (fun c_453 => ?_)
                · omega
                ·
                  refine V_aload0 G dL_holds_456 ?_
                  refine V_iconst G dL_holds_457 ?_
                  refine Q_cntv G hlt I R r cnt5 ⟨by omega, by omega⟩ dL_holds_458 (by omega) (by omega) (by omega) (Nat.le_of_ble_eq_true rfl) (fun h R r => ?_)
                  refine V_iload6 G dL_holds_461 ?_
                  refine V_icmpne G dL_holds_463 (tgt := 481) (by decide) ⟨by omega, by omega⟩ ⟨by omega, by omega⟩ (fun c_463 => ?_) (fun c_463 => ?_)
                  · omega
                  ·
                    refine V_aload0 G dL_holds_466 ?_
                    refine V_bipush G dL_holds_467 (by decide) ?_
                    refine Q_cntv G hlt I R r cnt6 ⟨by omega, by omega⟩ dL_holds_469 (by omega) (by omega) (by omega) (Nat.le_of_ble_eq_true rfl) (fun h R r => ?_)
                    refine V_iload7 G dL_holds_472 ?_
                    refine V_icmpne G dL_holds_474 (tgt := 481) (by decide) ⟨by omega, by omega⟩ ⟨by omega, by omega⟩ (fun c_474 => ?_) (fun c_474 => ?_)
                    · omega
                    ·
                      refine V_iconst G dL_holds_477 ?_
                      refine V_goto G dL_holds_478 (tgt := 482) (by decide) ?_
                      refine V_istore9 G dL_holds_482 rfl ?_
                      refine V_iload8 G dL_holds_484 ?_
                      refine V_ifeq G dL_holds_486 (tgt := 546) (by decide) ⟨by omega, by omega⟩ (fun c_486 => ?_) (fun c_486 => ?_)
                      · omega
                      ·
                        refine V_iload9 G dL_holds_489 ?_
                        refine V_ifeq G dL_holds_491 (tgt := 546) (by decide) ⟨by omega, by omega⟩ (fun c_491 => ?_) (fun c_491 => ?_)
                        · omega
                        ·
                          refine V_aload0 G dL_holds_494 ?_
                          refine Q_ask G I R r dL_holds_495 (by omega) (by omega) (by omega) (Nat.le_of_ble_eq_true rfl) (fun h R r => ?_)
                          refine V_iconst G dL_holds_498 ?_
                          refine V_icmpne G dL_holds_499 (tgt := 506) (by decide) ⟨by omega, by omega⟩ ⟨by omega, by omega⟩ (fun c_499 => ?_) (fun c_499 => ?_)
                          ·
                            refine V_iconst G dL_holds_506 ?_
                            refine V_iload7 G dL_holds_507 ?_
                            refine V_ifne G dL_holds_509 (tgt := 516) (by decide) ⟨by omega, by omega⟩ (fun c_509 => ?_) (fun c_509 => ?_)
                            ·
                              refine V_iconst G dL_holds_516 ?_
                              refine V_icmpne G dL_holds_517 (tgt := 546) (by decide) ⟨by omega, by omega⟩ ⟨by omega, by omega⟩ (fun c_517 => ?_) (fun c_517 => ?_)
                              · omega
                              ·
                                refine V_aload0 G dL_holds_520 ?_
                                refine Q_share G I R r dL_holds_521 (by omega) (by omega) (by omega) (Nat.le_of_ble_eq_true rfl) ?_
                                refine V_iload1 G dL_holds_524 ?_
                                refine V_ifne G dL_holds_525 (tgt := 532) (by decide) ⟨by omega, by omega⟩ (fun c_525 => ?_) (fun c_525 => ?_)
                                ·
                                  refine V_iload5 G dL_holds_532 ?_
                                  refine V_i2d_ G dL_holds_534 ?_
                                  refine V_iload1 G dL_holds_535 ?_
                                  refine V_i2d_ G dL_holds_536 ?_
                                  refine V_ddiv G dL_holds_537 (sh_n (wwS_r hn12.2 0) (by omega)) ?_
                                  have hshare : FP.ddiv (FP.i2d (Int32.ofInt (wwS g.1 0))) (FP.i2d (Int32.ofInt (nS g.1))) = shS g.1 := by unfold shS; rw [if_neg (by omega)]
                                  rw [hshare]
                                  refine V_dcmp G dL_holds_538 ?_
                                  rw [sh_self hn12]
                                  refine V_ifne_ G dL_holds_539 (tgt := 546) (by decide) (fun z => absurd rfl z) (fun _ => ?_)
                                  refine V_iconst G dL_holds_542 ?_
                                  refine V_goto G dL_holds_543 (tgt := 547) (by decide) ?_
                                  exact V_reti E dL_holds_547 rfl rfl ⟨_, rfl, rfl, R, r⟩
                                ·
                                  refine V_dconst1 G dL_holds_528 ?_
                                  have hshare : FP.dconst1 = shS g.1 := by unfold shS; rw [if_pos (by omega)]
                                  refine V_goto G dL_holds_529 (tgt := 538) (by decide) ?_
                                  rw [hshare]
                                  refine V_dcmp G dL_holds_538 ?_
                                  rw [sh_self hn12]
                                  refine V_ifne_ G dL_holds_539 (tgt := 546) (by decide) (fun z => absurd rfl z) (fun _ => ?_)
                                  refine V_iconst G dL_holds_542 ?_
                                  refine V_goto G dL_holds_543 (tgt := 547) (by decide) ?_
                                  exact V_reti E dL_holds_547 rfl rfl ⟨_, rfl, rfl, R, r⟩
                            ·
                              refine V_iconst G dL_holds_512 ?_
                              refine V_goto G dL_holds_513 (tgt := 517) (by decide) ?_
                              refine V_icmpne G dL_holds_517 (tgt := 546) (by decide) ⟨by omega, by omega⟩ ⟨by omega, by omega⟩ (fun c_517 => ?_) (fun c_517 => ?_)
                              · omega
                              ·
                                refine V_aload0 G dL_holds_520 ?_
                                refine Q_share G I R r dL_holds_521 (by omega) (by omega) (by omega) (Nat.le_of_ble_eq_true rfl) ?_
                                refine V_iload1 G dL_holds_524 ?_
                                refine V_ifne G dL_holds_525 (tgt := 532) (by decide) ⟨by omega, by omega⟩ (fun c_525 => ?_) (fun c_525 => ?_)
                                ·
                                  refine V_iload5 G dL_holds_532 ?_
                                  refine V_i2d_ G dL_holds_534 ?_
                                  refine V_iload1 G dL_holds_535 ?_
                                  refine V_i2d_ G dL_holds_536 ?_
                                  refine V_ddiv G dL_holds_537 (sh_n (wwS_r hn12.2 0) (by omega)) ?_
                                  have hshare : FP.ddiv (FP.i2d (Int32.ofInt (wwS g.1 0))) (FP.i2d (Int32.ofInt (nS g.1))) = shS g.1 := by unfold shS; rw [if_neg (by omega)]
                                  rw [hshare]
                                  refine V_dcmp G dL_holds_538 ?_
                                  rw [sh_self hn12]
                                  refine V_ifne_ G dL_holds_539 (tgt := 546) (by decide) (fun z => absurd rfl z) (fun _ => ?_)
                                  refine V_iconst G dL_holds_542 ?_
                                  refine V_goto G dL_holds_543 (tgt := 547) (by decide) ?_
                                  exact V_reti E dL_holds_547 rfl rfl ⟨_, rfl, rfl, R, r⟩
                                ·
                                  refine V_dconst1 G dL_holds_528 ?_
                                  have hshare : FP.dconst1 = shS g.1 := by unfold shS; rw [if_pos (by omega)]
                                  refine V_goto G dL_holds_529 (tgt := 538) (by decide) ?_
                                  rw [hshare]
                                  refine V_dcmp G dL_holds_538 ?_
                                  rw [sh_self hn12]
                                  refine V_ifne_ G dL_holds_539 (tgt := 546) (by decide) (fun z => absurd rfl z) (fun _ => ?_)
                                  refine V_iconst G dL_holds_542 ?_
                                  refine V_goto G dL_holds_543 (tgt := 547) (by decide) ?_
                                  exact V_reti E dL_holds_547 rfl rfl ⟨_, rfl, rfl, R, r⟩
                          ·
                            refine V_iconst G dL_holds_502 ?_
                            refine V_goto G dL_holds_503 (tgt := 507) (by decide) ?_
                            refine V_iload7 G dL_holds_507 ?_
                            refine V_ifne G dL_holds_509 (tgt := 516) (by decide) ⟨by omega, by omega⟩ (fun c_509 => ?_) (fun c_509 => ?_)
                            ·
                              refine V_iconst G dL_holds_516 ?_
                              refine V_icmpne G dL_holds_517 (tgt := 546) (by decide) ⟨by omega, by omega⟩ ⟨by omega, by omega⟩ (fun c_517 => ?_) (fun c_517 => ?_)
                              · omega
                              ·
                                refine V_aload0 G dL_holds_520 ?_
                                refine Q_share G I R r dL_holds_521 (by omega) (by omega) (by omega) (Nat.le_of_ble_eq_true rfl) ?_
                                refine V_iload1 G dL_holds_524 ?_
                                refine V_ifne G dL_holds_525 (tgt := 532) (by decide) ⟨by omega, by omega⟩ (fun c_525 => ?_) (fun c_525 => ?_)
                                ·
                                  refine V_iload5 G dL_holds_532 ?_
                                  refine V_i2d_ G dL_holds_534 ?_
                                  refine V_iload1 G dL_holds_535 ?_
                                  refine V_i2d_ G dL_holds_536 ?_
                                  refine V_ddiv G dL_holds_537 (sh_n (wwS_r hn12.2 0) (by omega)) ?_
                                  have hshare : FP.ddiv (FP.i2d (Int32.ofInt (wwS g.1 0))) (FP.i2d (Int32.ofInt (nS g.1))) = shS g.1 := by unfold shS; rw [if_neg (by omega)]
                                  rw [hshare]
                                  refine V_dcmp G dL_holds_538 ?_
                                  rw [sh_self hn12]
                                  refine V_ifne_ G dL_holds_539 (tgt := 546) (by decide) (fun z => absurd rfl z) (fun _ => ?_)
                                  refine V_iconst G dL_holds_542 ?_
                                  refine V_goto G dL_holds_543 (tgt := 547) (by decide) ?_
                                  exact V_reti E dL_holds_547 rfl rfl ⟨_, rfl, rfl, R, r⟩
                                ·
                                  refine V_dconst1 G dL_holds_528 ?_
                                  have hshare : FP.dconst1 = shS g.1 := by unfold shS; rw [if_pos (by omega)]
                                  refine V_goto G dL_holds_529 (tgt := 538) (by decide) ?_
                                  rw [hshare]
                                  refine V_dcmp G dL_holds_538 ?_
                                  rw [sh_self hn12]
                                  refine V_ifne_ G dL_holds_539 (tgt := 546) (by decide) (fun z => absurd rfl z) (fun _ => ?_)
                                  refine V_iconst G dL_holds_542 ?_
                                  refine V_goto G dL_holds_543 (tgt := 547) (by decide) ?_
                                  exact V_reti E dL_holds_547 rfl rfl ⟨_, rfl, rfl, R, r⟩
                            ·
                              refine V_iconst G dL_holds_512 ?_
                              refine V_goto G dL_holds_513 (tgt := 517) (by decide) ?_
                              refine V_icmpne G dL_holds_517 (tgt := 546) (by decide) ⟨by omega, by omega⟩ ⟨by omega, by omega⟩ (fun c_517 => ?_) (fun c_517 => ?_)
                              · omega
                              ·
                                refine V_aload0 G dL_holds_520 ?_
                                refine Q_share G I R r dL_holds_521 (by omega) (by omega) (by omega) (Nat.le_of_ble_eq_true rfl) ?_
                                refine V_iload1 G dL_holds_524 ?_
                                refine V_ifne G dL_holds_525 (tgt := 532) (by decide) ⟨by omega, by omega⟩ (fun c_525 => ?_) (fun c_525 => ?_)
                                ·
                                  refine V_iload5 G dL_holds_532 ?_
                                  refine V_i2d_ G dL_holds_534 ?_
                                  refine V_iload1 G dL_holds_535 ?_
                                  refine V_i2d_ G dL_holds_536 ?_
                                  refine V_ddiv G dL_holds_537 (sh_n (wwS_r hn12.2 0) (by omega)) ?_
                                  have hshare : FP.ddiv (FP.i2d (Int32.ofInt (wwS g.1 0))) (FP.i2d (Int32.ofInt (nS g.1))) = shS g.1 := by unfold shS; rw [if_neg (by omega)]
                                  rw [hshare]
                                  refine V_dcmp G dL_holds_538 ?_
                                  rw [sh_self hn12]
                                  refine V_ifne_ G dL_holds_539 (tgt := 546) (by decide) (fun z => absurd rfl z) (fun _ => ?_)
                                  refine V_iconst G dL_holds_542 ?_
                                  refine V_goto G dL_holds_543 (tgt := 547) (by decide) ?_
                                  exact V_reti E dL_holds_547 rfl rfl ⟨_, rfl, rfl, R, r⟩
                                ·
                                  refine V_dconst1 G dL_holds_528 ?_
                                  have hshare : FP.dconst1 = shS g.1 := by unfold shS; rw [if_pos (by omega)]
                                  refine V_goto G dL_holds_529 (tgt := 538) (by decide) ?_
                                  rw [hshare]
                                  refine V_dcmp G dL_holds_538 ?_
                                  rw [sh_self hn12]
                                  refine V_ifne_ G dL_holds_539 (tgt := 546) (by decide) (fun z => absurd rfl z) (fun _ => ?_)
                                  refine V_iconst G dL_holds_542 ?_
                                  refine V_goto G dL_holds_543 (tgt := 547) (by decide) ?_
                                  exact V_reti E dL_holds_547 rfl rfl ⟨_, rfl, rfl, R, r⟩
  · obtain ⟨hrok, hrtd, hroot, -⟩ := fD_ok I.1 hl
    obtain ⟨dr1, dr2, dr3, dr4⟩ := drS_r I.1 hl
    have hgt := hgtS_12 I.1 dr3 dr4
    have lp : ∀ (m : Nat) (w r3 h4 s5 f6 u7 : Int) (h : Hp) (k n : Nat) (a9 a10 a11 a12 : Option Value), w + m = nS g.1 → 0 ≤ w → RepC g h → Rg h → k ≤ 6 + 39 * w → n ≤ 36 + 234 * w → (s5 + sumF (fS1 g.1) m w = wwS g.1 0 ∧ u7 + sumF (fU1 g.1) m w = wwS g.1 1 ∧ f6 + sumF (fF1 g.1) m w = fwS g.1 ∧ r3 + sumF (fR1 g.1) m w = 1 ∧ h4 + sumF (fun w => hldF (nS g.1) (fD g.1) w) m w = nS g.1 - 1) → (∀ (r3 h4 s5 f6 u7 : Int) (h : Hp) (k n : Nat) (a9 a10 a11 a12 : Option Value), RepC g h → Rg h → k ≤ 480 → n ≤ 2880 → s5 = wwS g.1 0 ∧ u7 = wwS g.1 1 ∧ f6 = fwS g.1 ∧ r3 = 1 ∧ h4 = nS g.1 - 1 → V X k n 342 [some (.ref 0), some (.int (Int32.ofInt (nS g.1))), some (.int (Int32.ofInt ((lfS g.1).length : Int))), some (.int (Int32.ofInt r3)), some (.int (Int32.ofInt h4)), some (.int (Int32.ofInt s5)), some (.int (Int32.ofInt f6)), some (.int (Int32.ofInt u7)), some (.int (Int32.ofInt (nS g.1))), a9, a10, a11, a12] [] h) → V X k n 29 [some (.ref 0), some (.int (Int32.ofInt (nS g.1))), some (.int (Int32.ofInt ((lfS g.1).length : Int))), some (.int (Int32.ofInt r3)), some (.int (Int32.ofInt h4)), some (.int (Int32.ofInt s5)), some (.int (Int32.ofInt f6)), some (.int (Int32.ofInt u7)), some (.int (Int32.ofInt w)), a9, a10, a11, a12] [] h := by
      intro m
      induction m with
      | zero =>
        intro w r3 h4 s5 f6 u7 h k n a9 a10 a11 a12 hm hw R r hk hn hv kk
        obtain rfl : w = nS g.1 := by omega
        simp only [sumF, Int.add_zero] at hv
        refine V_iload8 G dL_holds_29 ?_
        refine V_iload1 G dL_holds_31 ?_
        refine V_icmpge G dL_holds_32 (tgt := 342) (by decide) ⟨by omega, by omega⟩ ⟨by omega, by omega⟩ (fun c_32 => ?_) (fun c_32 => ?_)
        ·
          exact kk _ _ _ _ _ h k n _ _ _ _ R r (by omega) (by omega) hv
        · omega
      | succ m ih =>
        intro w r3 h4 s5 f6 u7 h k n a9 a10 a11 a12 hm hw R r hk hn hv kk
        rw [sumF_1, sumF_1, sumF_1, sumF_1, sumF_1] at hv
        have hds := hdsS_r (c := g.1) w hn12.2
        have hkd := I.1.2.1 w hw (by omega)
        have vF : (0 < fxS g.1 w ∧ fF1 g.1 w = 1 ∧ wordS g.1 w 6 = 1) ∨ (¬ 0 < fxS g.1 w ∧ fF1 g.1 w = 0 ∧ wordS g.1 w 6 = 0) := by
          rw [wo6]
          unfold fF1
          by_cases z : 0 < fxS g.1 w
          · rw [if_pos z]; exact Or.inl ⟨z, rfl, rfl⟩
          · rw [if_neg z]; exact Or.inr ⟨z, rfl, rfl⟩
        have hr := hrok w hw (by omega)
        have hne := reach_ne 11 w hw (hrtd w hw (by omega))
        have h30 := held_0 (kdS g.1) (fD g.1) w
        have hrt := hroot w hw (by omega)
        have h33 := held_3 (kd := kdS g.1) (hd := fD g.1) (w := w) hkd hrt
        have hhe := hel_r (kdS g.1) (fD g.1) w
        have hle := levF_r (kdS g.1) (fD g.1) 12 w
        have hle2 := levF_r (kdS g.1) (fD g.1) 12 (fD g.1 w)
        have hst : fD g.1 w ≠ -1 → -1 ≤ levF (kdS g.1) (fD g.1) 12 w - levF (kdS g.1) (fD g.1) 12 (fD g.1 w) ∧ levF (kdS g.1) (fD g.1) 12 w - levF (kdS g.1) (fD g.1) 12 (fD g.1 w) ≤ 1 := fun z => by
          rw [lev_step I.1 hl hw (by omega) z]
          exact stepF_1 _ _ _
        have hl0 : fD g.1 w = -1 → levF (kdS g.1) (fD g.1) 12 w = 0 := fun z => by rw [levF, if_pos z]
        have hfx : 0 < fxS g.1 w → hdsS g.1 w = 1 := hds_fix I.1 hl hw (by omega)
        have hhl := hld_r (nS g.1) (fD g.1) w
        have vR : (fD g.1 w = -1 ∧ fR1 g.1 w = 1) ∨ (fD g.1 w ≠ -1 ∧ fR1 g.1 w = 0) := by
          unfold fR1
          by_cases z : fD g.1 w = -1
          · rw [if_pos z]; exact Or.inl ⟨z, rfl⟩
          · rw [if_neg z]; exact Or.inr ⟨z, rfl⟩
        have vS : (hdsS g.1 w = 1 ∧ fS1 g.1 w = 1) ∨ (hdsS g.1 w ≠ 1 ∧ fS1 g.1 w = 0) := by
          unfold fS1
          by_cases z : hdsS g.1 w = 1
          · rw [if_pos z]; exact Or.inl ⟨z, rfl⟩
          · rw [if_neg z]; exact Or.inr ⟨z, rfl⟩
        have vU : (1 < hdsS g.1 w ∧ fU1 g.1 w = 1) ∨ (¬ 1 < hdsS g.1 w ∧ fU1 g.1 w = 0) := by
          unfold fU1
          by_cases z : 1 < hdsS g.1 w
          · rw [if_pos z]; exact Or.inl ⟨z, rfl⟩
          · rw [if_neg z]; exact Or.inr ⟨z, rfl⟩
        have j83 : ∀ (z s5 f6 : Int) (h : Hp) (k n : Nat), z = fU1 g.1 w → s5 + sumF (fS1 g.1) m (w + 1) = wwS g.1 0 → f6 + (fF1 g.1 w + sumF (fF1 g.1) m (w + 1)) = fwS g.1 → RepC g h → Rg h → k ≤ 12 + 39 * w → n ≤ 72 + 234 * w → V X k n 83 [some (.ref 0), some (.int (Int32.ofInt (nS g.1))), some (.int (Int32.ofInt ((lfS g.1).length : Int))), some (.int (Int32.ofInt r3)), some (.int (Int32.ofInt h4)), some (.int (Int32.ofInt s5)), some (.int (Int32.ofInt f6)), some (.int (Int32.ofInt u7)), some (.int (Int32.ofInt w)), (some (.int (Int32.ofInt (fD g.1 w)))), (some (.int (Int32.ofInt (hdsS g.1 w)))), a11, a12] [.int (Int32.ofInt z), .int (Int32.ofInt u7)] h := by
          intro z s5 f6 h k n hz hs hf R r hk hn
          have j289 : ∀ (z11 r3 h4 f6 u7 : Int) (h : Hp) (k n : Nat), RepC g h → Rg h → k ≤ 12 + 39 * w + 27 → n ≤ 72 + 234 * w + 162 → f6 + sumF (fF1 g.1) m (w + 1) = fwS g.1 → u7 + sumF (fU1 g.1) m (w + 1) = wwS g.1 1 → r3 + sumF (fR1 g.1) m (w + 1) = 1 → h4 + sumF (fun w => hldF (nS g.1) (fD g.1) w) m (w + 1) = nS g.1 - 1 → V X k n 289 [some (.ref 0), some (.int (Int32.ofInt (nS g.1))), some (.int (Int32.ofInt ((lfS g.1).length : Int))), some (.int (Int32.ofInt r3)), some (.int (Int32.ofInt h4)), some (.int (Int32.ofInt s5)), some (.int (Int32.ofInt f6)), some (.int (Int32.ofInt u7)), some (.int (Int32.ofInt w)), (some (.int (Int32.ofInt (fD g.1 w)))), (some (.int (Int32.ofInt (hdsS g.1 w)))), (some (.int (Int32.ofInt z11))), a12] [] h := by
            intro z11 r3 h4 f6 u7 h k n R r hk hn i1 i2 i3 i4
            refine V_aload0 G dL_holds_289 ?_
            refine V_iload8 G dL_holds_290 ?_
            refine V_iconst G dL_holds_292 ?_
            refine Q_wordv G hlt I R r wo0 ⟨by omega, by omega⟩ ⟨by omega, by omega⟩ dL_holds_293 (by omega) (by omega) (by omega) (Nat.le_of_ble_eq_true rfl) (fun h R r => ?_)
            refine V_istore12 G dL_holds_296 rfl ?_
            refine V_aload0 G dL_holds_298 ?_
            refine V_iload8 G dL_holds_299 ?_
            refine V_iconst G dL_holds_301 ?_
            refine Q_wordv G hlt I R r (wo2 hl) ⟨by omega, by omega⟩ ⟨by omega, by omega⟩ dL_holds_302 (by omega) (by omega) (by omega) (Nat.le_of_ble_eq_true rfl) (fun h R r => ?_)
            refine V_iconst G dL_holds_305 ?_
            refine V_icmpne G dL_holds_306 (tgt := 313) (by decide) ⟨by omega, by omega⟩ ⟨by omega, by omega⟩ (fun c_306 => ?_) (fun c_306 => ?_)
            ·
              refine V_iconst G dL_holds_313 ?_
              refine V_iload12 G dL_holds_314 ?_
              refine V_iconst G dL_holds_316 ?_
              refine V_icmple G dL_holds_317 (tgt := 330) (by decide) ⟨by omega, by omega⟩ ⟨by omega, by omega⟩ (fun c_317 => ?_) (fun c_317 => ?_)
              ·
                refine V_iconst G dL_holds_330 ?_
                refine V_icmpeq G dL_holds_331 (tgt := 336) (by decide) ⟨by omega, by omega⟩ ⟨by omega, by omega⟩ (fun c_331 => ?_) (fun c_331 => ?_)
                ·
                  refine V_iinc8 G dL_holds_336 rfl ?_
                  refine V_goto G dL_holds_339 (tgt := 29) (by decide) ?_
                  exact ih (w + 1) _ _ _ _ _ h _ _ _ _ _ _ (by omega) (by omega) R r (by omega) (by omega) (by omega) kk
                · omega
              ·
                refine V_iload12 G dL_holds_320 ?_
                refine V_iconst G dL_holds_322 ?_
                refine V_icmpge G dL_holds_323 (tgt := 330) (by decide) ⟨by omega, by omega⟩ ⟨by omega, by omega⟩ (fun c_323 => ?_) (fun c_323 => ?_)
                ·
                  refine V_iconst G dL_holds_330 ?_
                  refine V_icmpeq G dL_holds_331 (tgt := 336) (by decide) ⟨by omega, by omega⟩ ⟨by omega, by omega⟩ (fun c_331 => ?_) (fun c_331 => ?_)
                  ·
                    refine V_iinc8 G dL_holds_336 rfl ?_
                    refine V_goto G dL_holds_339 (tgt := 29) (by decide) ?_
                    exact ih (w + 1) _ _ _ _ _ h _ _ _ _ _ _ (by omega) (by omega) R r (by omega) (by omega) (by omega) kk
                  · omega
                ·
                  refine V_iconst G dL_holds_326 ?_
                  refine V_goto G dL_holds_327 (tgt := 331) (by decide) ?_
                  refine V_icmpeq G dL_holds_331 (tgt := 336) (by decide) ⟨by omega, by omega⟩ ⟨by omega, by omega⟩ (fun c_331 => ?_) (fun c_331 => ?_)
                  ·
                    refine V_iinc8 G dL_holds_336 rfl ?_
                    refine V_goto G dL_holds_339 (tgt := 29) (by decide) ?_
                    exact ih (w + 1) _ _ _ _ _ h _ _ _ _ _ _ (by omega) (by omega) R r (by omega) (by omega) (by omega) kk
                  · omega
            ·
              refine V_iconst G dL_holds_309 ?_
              refine V_goto G dL_holds_310 (tgt := 314) (by decide) ?_
              refine V_iload12 G dL_holds_314 ?_
              refine V_iconst G dL_holds_316 ?_
              refine V_icmple G dL_holds_317 (tgt := 330) (by decide) ⟨by omega, by omega⟩ ⟨by omega, by omega⟩ (fun c_317 => ?_) (fun c_317 => ?_)
              ·
                refine V_iconst G dL_holds_330 ?_
                refine V_icmpeq G dL_holds_331 (tgt := 336) (by decide) ⟨by omega, by omega⟩ ⟨by omega, by omega⟩ (fun c_331 => ?_) (fun c_331 => ?_)
                ·
                  refine V_iinc8 G dL_holds_336 rfl ?_
                  refine V_goto G dL_holds_339 (tgt := 29) (by decide) ?_
                  exact ih (w + 1) _ _ _ _ _ h _ _ _ _ _ _ (by omega) (by omega) R r (by omega) (by omega) (by omega) kk
                · omega
              ·
                refine V_iload12 G dL_holds_320 ?_
                refine V_iconst G dL_holds_322 ?_
                refine V_icmpge G dL_holds_323 (tgt := 330) (by decide) ⟨by omega, by omega⟩ ⟨by omega, by omega⟩ (fun c_323 => ?_) (fun c_323 => ?_)
                ·
                  refine V_iconst G dL_holds_330 ?_
                  refine V_icmpeq G dL_holds_331 (tgt := 336) (by decide) ⟨by omega, by omega⟩ ⟨by omega, by omega⟩ (fun c_331 => ?_) (fun c_331 => ?_)
                  ·
                    refine V_iinc8 G dL_holds_336 rfl ?_
                    refine V_goto G dL_holds_339 (tgt := 29) (by decide) ?_
                    exact ih (w + 1) _ _ _ _ _ h _ _ _ _ _ _ (by omega) (by omega) R r (by omega) (by omega) (by omega) kk
                  · omega
                ·
                  refine V_iconst G dL_holds_326 ?_
                  refine V_goto G dL_holds_327 (tgt := 331) (by decide) ?_
                  refine V_icmpeq G dL_holds_331 (tgt := 336) (by decide) ⟨by omega, by omega⟩ ⟨by omega, by omega⟩ (fun c_331 => ?_) (fun c_331 => ?_)
                  ·
                    refine V_iinc8 G dL_holds_336 rfl ?_
                    refine V_goto G dL_holds_339 (tgt := 29) (by decide) ?_
                    exact ih (w + 1) _ _ _ _ _ h _ _ _ _ _ _ (by omega) (by omega) R r (by omega) (by omega) (by omega) kk
                  · omega
          refine V_iadd G dL_holds_83 ?_
          refine V_istore7 G dL_holds_84 rfl ?_
          refine V_iload6 G dL_holds_86 ?_
          refine V_aload0 G dL_holds_88 ?_
          refine V_iload8 G dL_holds_89 ?_
          refine V_bipush G dL_holds_91 (by decide) ?_
          refine Q_wordv G hlt I R r wo6 ⟨by omega, by omega⟩ ⟨by omega, by omega⟩ dL_holds_93 (by omega) (by omega) (by omega) (Nat.le_of_ble_eq_true rfl) (fun h R r => ?_)
          refine V_iadd G dL_holds_96 ?_
          refine V_istore6 G dL_holds_97 rfl ?_
          refine V_iload2 G dL_holds_99 ?_
          refine V_ifne G dL_holds_100 (tgt := 127) (by decide) ⟨by omega, by omega⟩ (fun c_100 => ?_) (fun c_100 => ?_)
          ·
            refine V_iload3 G dL_holds_127 ?_
            refine V_iload9 G dL_holds_128 ?_
            refine V_iconst G dL_holds_130 ?_
            refine V_icmpne G dL_holds_131 (tgt := 138) (by decide) ⟨by omega, by omega⟩ ⟨by omega, by omega⟩ (fun c_131 => ?_) (fun c_131 => ?_)
            ·
              refine V_iconst G dL_holds_138 ?_
              refine V_iadd G dL_holds_139 ?_
              refine V_istore3 G dL_holds_140 rfl ?_
              refine V_iload4 G dL_holds_141 ?_
              refine V_aload0 G dL_holds_143 ?_
              refine V_iload8 G dL_holds_144 ?_
              refine V_iconst G dL_holds_146 ?_
              refine Q_wordv G hlt I R r (wo4 hl) ⟨by omega, by omega⟩ ⟨by omega, by omega⟩ dL_holds_147 (by omega) (by omega) (by omega) (Nat.le_of_ble_eq_true rfl) (fun h R r => ?_)
              refine V_iadd G dL_holds_150 ?_
              refine V_istore4 G dL_holds_151 rfl ?_
              refine V_iload9 G dL_holds_153 ?_
              refine V_iconst G dL_holds_155 ?_
              refine V_icmpne G dL_holds_156 (tgt := 163) (by decide) ⟨by omega, by omega⟩ ⟨by omega, by omega⟩ (fun c_156 => ?_) (fun c_156 => ?_)
              ·
                refine V_aload0 G dL_holds_163 ?_
                refine V_iload8 G dL_holds_164 ?_
                refine V_iconst G dL_holds_166 ?_
                refine Q_wordv G hlt I R r (wo3 hl) ⟨by omega, by omega⟩ ⟨by omega, by omega⟩ dL_holds_167 (by omega) (by omega) (by omega) (Nat.le_of_ble_eq_true rfl) (fun h R r => ?_)
                refine V_aload0 G dL_holds_170 ?_
                refine V_iload9 G dL_holds_171 ?_
                refine V_iconst G dL_holds_173 ?_
                refine Q_wordv G hlt I R r (wo3 hl) ⟨by omega, by omega⟩ ⟨by omega, by omega⟩ dL_holds_174 (by omega) (by omega) (by omega) (Nat.le_of_ble_eq_true rfl) (fun h R r => ?_)
                refine V_isub G dL_holds_177 ?_
                refine V_istore11 G dL_holds_178 rfl ?_
                refine V_iload9 G dL_holds_180 ?_
                refine V_iload8 G dL_holds_182 ?_
                refine V_icmpeq G dL_holds_184 (tgt := 287) (by decide) ⟨by omega, by omega⟩ ⟨by omega, by omega⟩ (fun c_184 => ?_) (fun c_184 => ?_)
                ·
                  omega
                ·
                  refine V_aload0 G dL_holds_187 ?_
                  refine V_iload8 G dL_holds_188 ?_
                  refine V_iconst G dL_holds_190 ?_
                  refine Q_wordv G hlt I R r (wo5 hl) ⟨by omega, by omega⟩ ⟨by omega, by omega⟩ dL_holds_191 (by omega) (by omega) (by omega) (Nat.le_of_ble_eq_true rfl) (fun h R r => ?_)
                  refine V_iload8 G dL_holds_194 ?_
                  refine V_icmpne G dL_holds_196 (tgt := 287) (by decide) ⟨by omega, by omega⟩ ⟨by omega, by omega⟩ (fun c_196 => ?_) (fun c_196 => ?_)
                  · omega
                  ·
                    refine V_iload9 G dL_holds_199 ?_
                    refine V_iconst G dL_holds_201 ?_
                    refine V_icmpne G dL_holds_202 (tgt := 209) (by decide) ⟨by omega, by omega⟩ ⟨by omega, by omega⟩ (fun c_202 => ?_) (fun c_202 => ?_)
                    ·
                      refine V_iconst G dL_holds_209 ?_
                      refine V_aload0 G dL_holds_210 ?_
                      refine V_iload8 G dL_holds_211 ?_
                      refine V_iconst G dL_holds_213 ?_
                      refine Q_wordv G hlt I R r (wo2 hl) ⟨by omega, by omega⟩ ⟨by omega, by omega⟩ dL_holds_214 (by omega) (by omega) (by omega) (Nat.le_of_ble_eq_true rfl) (fun h R r => ?_)
                      refine V_ifne G dL_holds_217 (tgt := 224) (by decide) ⟨by omega, by omega⟩ (fun c_217 => ?_) (fun c_217 => ?_)
                      ·
                        refine V_iconst G dL_holds_224 ?_
                        refine V_icmpne G dL_holds_225 (tgt := 287) (by decide) ⟨by omega, by omega⟩ ⟨by omega, by omega⟩ (fun c_225 => ?_) (fun c_225 => ?_)
                        · omega
                        ·
                          refine V_iload9 G dL_holds_228 ?_
                          refine V_iconst G dL_holds_230 ?_
                          refine V_icmpne G dL_holds_231 (tgt := 257) (by decide) ⟨by omega, by omega⟩ ⟨by omega, by omega⟩ (fun c_231 => ?_) (fun c_231 => ?_)
                          ·
                            refine V_iload11 G dL_holds_257 ?_
                            refine V_iconst G dL_holds_259 ?_
                            refine V_icmpgt G dL_holds_260 (tgt := 287) (by decide) ⟨by omega, by omega⟩ ⟨by omega, by omega⟩ (fun c_260 => ?_) (fun c_260 => ?_)
                            · omega
                            ·
                              refine V_iload11 G dL_holds_263 ?_
                              refine V_iconst G dL_holds_265 ?_
                              refine V_icmplt G dL_holds_266 (tgt := 287) (by decide) ⟨by omega, by omega⟩ ⟨by omega, by omega⟩ (fun c_266 => ?_) (fun c_266 => ?_)
                              · omega
                              ·
                                refine V_aload0 G dL_holds_269 ?_
                                refine V_iload8 G dL_holds_270 ?_
                                refine V_bipush G dL_holds_272 (by decide) ?_
                                refine Q_wordv G hlt I R r rfl ⟨by omega, by omega⟩ ⟨by omega, by omega⟩ dL_holds_274 (by omega) (by omega) (by omega) (Nat.le_of_ble_eq_true rfl) (fun h R r => ?_)
                                refine V_iconst G dL_holds_277 ?_
                                refine V_icmpne G dL_holds_278 (tgt := 289) (by decide) ⟨by omega, by omega⟩ ⟨by omega, by omega⟩ (fun c_278 => ?_) (fun c_278 => ?_)
                                ·
                                  exact j289 _ _ _ _ _ h _ _ R r (by omega) (by omega) (by omega) (by omega) (by omega) (by omega)
                                ·
                                  refine V_iload10 G dL_holds_281 ?_
                                  refine V_iconst G dL_holds_283 ?_
                                  refine V_icmpeq G dL_holds_284 (tgt := 289) (by decide) ⟨by omega, by omega⟩ ⟨by omega, by omega⟩ (fun c_284 => ?_) (fun c_284 => ?_)
                                  ·
                                    exact j289 _ _ _ _ _ h _ _ R r (by omega) (by omega) (by omega) (by omega) (by omega) (by omega)
                                  · omega
                          ·
                            refine V_aload0 G dL_holds_234 ?_
                            refine V_iload8 G dL_holds_235 ?_
                            refine V_iconst G dL_holds_237 ?_
                            refine Q_wordv G hlt I R r (wo3 hl) ⟨by omega, by omega⟩ ⟨by omega, by omega⟩ dL_holds_238 (by omega) (by omega) (by omega) (Nat.le_of_ble_eq_true rfl) (fun h R r => ?_)
                            refine V_bipush G dL_holds_241 (by decide) ?_
                            refine V_icmpne G dL_holds_243 (tgt := 287) (by decide) ⟨by omega, by omega⟩ ⟨by omega, by omega⟩ (fun c_243 => ?_) (fun c_243 => ?_)
                            · omega
                            ·
                              refine V_aload0 G dL_holds_246 ?_
                              refine V_iload8 G dL_holds_247 ?_
                              refine V_iconst G dL_holds_249 ?_
                              refine Q_wordv G hlt I R r wo0 ⟨by omega, by omega⟩ ⟨by omega, by omega⟩ dL_holds_250 (by omega) (by omega) (by omega) (Nat.le_of_ble_eq_true rfl) (fun h R r => ?_)
                              refine V_iconst G dL_holds_253 ?_
                              refine V_icmpne G dL_holds_254 (tgt := 287) (by decide) ⟨by omega, by omega⟩ ⟨by omega, by omega⟩ (fun c_254 => ?_) (fun c_254 => ?_)
                              · omega
                              ·
                                refine V_iload11 G dL_holds_257 ?_
                                refine V_iconst G dL_holds_259 ?_
                                refine V_icmpgt G dL_holds_260 (tgt := 287) (by decide) ⟨by omega, by omega⟩ ⟨by omega, by omega⟩ (fun c_260 => ?_) (fun c_260 => ?_)
                                · omega
                                ·
                                  refine V_iload11 G dL_holds_263 ?_
                                  refine V_iconst G dL_holds_265 ?_
                                  refine V_icmplt G dL_holds_266 (tgt := 287) (by decide) ⟨by omega, by omega⟩ ⟨by omega, by omega⟩ (fun c_266 => ?_) (fun c_266 => ?_)
                                  · omega
                                  ·
                                    refine V_aload0 G dL_holds_269 ?_
                                    refine V_iload8 G dL_holds_270 ?_
                                    refine V_bipush G dL_holds_272 (by decide) ?_
                                    refine Q_wordv G hlt I R r rfl ⟨by omega, by omega⟩ ⟨by omega, by omega⟩ dL_holds_274 (by omega) (by omega) (by omega) (Nat.le_of_ble_eq_true rfl) (fun h R r => ?_)
                                    refine V_iconst G dL_holds_277 ?_
                                    refine V_icmpne G dL_holds_278 (tgt := 289) (by decide) ⟨by omega, by omega⟩ ⟨by omega, by omega⟩ (fun c_278 => ?_) (fun c_278 => ?_)
                                    ·
                                      exact j289 _ _ _ _ _ h _ _ R r (by omega) (by omega) (by omega) (by omega) (by omega) (by omega)
                                    ·
                                      refine V_iload10 G dL_holds_281 ?_
                                      refine V_iconst G dL_holds_283 ?_
                                      refine V_icmpeq G dL_holds_284 (tgt := 289) (by decide) ⟨by omega, by omega⟩ ⟨by omega, by omega⟩ (fun c_284 => ?_) (fun c_284 => ?_)
                                      ·
                                        exact j289 _ _ _ _ _ h _ _ R r (by omega) (by omega) (by omega) (by omega) (by omega) (by omega)
                                      · omega
                      ·
                        refine V_iconst G dL_holds_220 ?_
                        refine V_goto G dL_holds_221 (tgt := 225) (by decide) ?_
                        refine V_icmpne G dL_holds_225 (tgt := 287) (by decide) ⟨by omega, by omega⟩ ⟨by omega, by omega⟩ (fun c_225 => ?_) (fun c_225 => ?_)
                        · omega
                        ·
                          refine V_iload9 G dL_holds_228 ?_
                          refine V_iconst G dL_holds_230 ?_
                          refine V_icmpne G dL_holds_231 (tgt := 257) (by decide) ⟨by omega, by omega⟩ ⟨by omega, by omega⟩ (fun c_231 => ?_) (fun c_231 => ?_)
                          ·
                            refine V_iload11 G dL_holds_257 ?_
                            refine V_iconst G dL_holds_259 ?_
                            refine V_icmpgt G dL_holds_260 (tgt := 287) (by decide) ⟨by omega, by omega⟩ ⟨by omega, by omega⟩ (fun c_260 => ?_) (fun c_260 => ?_)
                            · omega
                            ·
                              refine V_iload11 G dL_holds_263 ?_
                              refine V_iconst G dL_holds_265 ?_
                              refine V_icmplt G dL_holds_266 (tgt := 287) (by decide) ⟨by omega, by omega⟩ ⟨by omega, by omega⟩ (fun c_266 => ?_) (fun c_266 => ?_)
                              · omega
                              ·
                                refine V_aload0 G dL_holds_269 ?_
                                refine V_iload8 G dL_holds_270 ?_
                                refine V_bipush G dL_holds_272 (by decide) ?_
                                refine Q_wordv G hlt I R r rfl ⟨by omega, by omega⟩ ⟨by omega, by omega⟩ dL_holds_274 (by omega) (by omega) (by omega) (Nat.le_of_ble_eq_true rfl) (fun h R r => ?_)
                                refine V_iconst G dL_holds_277 ?_
                                refine V_icmpne G dL_holds_278 (tgt := 289) (by decide) ⟨by omega, by omega⟩ ⟨by omega, by omega⟩ (fun c_278 => ?_) (fun c_278 => ?_)
                                ·
                                  exact j289 _ _ _ _ _ h _ _ R r (by omega) (by omega) (by omega) (by omega) (by omega) (by omega)
                                ·
                                  refine V_iload10 G dL_holds_281 ?_
                                  refine V_iconst G dL_holds_283 ?_
                                  refine V_icmpeq G dL_holds_284 (tgt := 289) (by decide) ⟨by omega, by omega⟩ ⟨by omega, by omega⟩ (fun c_284 => ?_) (fun c_284 => ?_)
                                  ·
                                    exact j289 _ _ _ _ _ h _ _ R r (by omega) (by omega) (by omega) (by omega) (by omega) (by omega)
                                  · omega
                          ·
                            refine V_aload0 G dL_holds_234 ?_
                            refine V_iload8 G dL_holds_235 ?_
                            refine V_iconst G dL_holds_237 ?_
                            refine Q_wordv G hlt I R r (wo3 hl) ⟨by omega, by omega⟩ ⟨by omega, by omega⟩ dL_holds_238 (by omega) (by omega) (by omega) (Nat.le_of_ble_eq_true rfl) (fun h R r => ?_)
                            refine V_bipush G dL_holds_241 (by decide) ?_
                            refine V_icmpne G dL_holds_243 (tgt := 287) (by decide) ⟨by omega, by omega⟩ ⟨by omega, by omega⟩ (fun c_243 => ?_) (fun c_243 => ?_)
                            · omega
                            ·
                              refine V_aload0 G dL_holds_246 ?_
                              refine V_iload8 G dL_holds_247 ?_
                              refine V_iconst G dL_holds_249 ?_
                              refine Q_wordv G hlt I R r wo0 ⟨by omega, by omega⟩ ⟨by omega, by omega⟩ dL_holds_250 (by omega) (by omega) (by omega) (Nat.le_of_ble_eq_true rfl) (fun h R r => ?_)
                              refine V_iconst G dL_holds_253 ?_
                              refine V_icmpne G dL_holds_254 (tgt := 287) (by decide) ⟨by omega, by omega⟩ ⟨by omega, by omega⟩ (fun c_254 => ?_) (fun c_254 => ?_)
                              · omega
                              ·
                                refine V_iload11 G dL_holds_257 ?_
                                refine V_iconst G dL_holds_259 ?_
                                refine V_icmpgt G dL_holds_260 (tgt := 287) (by decide) ⟨by omega, by omega⟩ ⟨by omega, by omega⟩ (fun c_260 => ?_) (fun c_260 => ?_)
                                · omega
                                ·
                                  refine V_iload11 G dL_holds_263 ?_
                                  refine V_iconst G dL_holds_265 ?_
                                  refine V_icmplt G dL_holds_266 (tgt := 287) (by decide) ⟨by omega, by omega⟩ ⟨by omega, by omega⟩ (fun c_266 => ?_) (fun c_266 => ?_)
                                  · omega
                                  ·
                                    refine V_aload0 G dL_holds_269 ?_
                                    refine V_iload8 G dL_holds_270 ?_
                                    refine V_bipush G dL_holds_272 (by decide) ?_
                                    refine Q_wordv G hlt I R r rfl ⟨by omega, by omega⟩ ⟨by omega, by omega⟩ dL_holds_274 (by omega) (by omega) (by omega) (Nat.le_of_ble_eq_true rfl) (fun h R r => ?_)
                                    refine V_iconst G dL_holds_277 ?_
                                    refine V_icmpne G dL_holds_278 (tgt := 289) (by decide) ⟨by omega, by omega⟩ ⟨by omega, by omega⟩ (fun c_278 => ?_) (fun c_278 => ?_)
                                    ·
                                      exact j289 _ _ _ _ _ h _ _ R r (by omega) (by omega) (by omega) (by omega) (by omega) (by omega)
                                    ·
                                      refine V_iload10 G dL_holds_281 ?_
                                      refine V_iconst G dL_holds_283 ?_
                                      refine V_icmpeq G dL_holds_284 (tgt := 289) (by decide) ⟨by omega, by omega⟩ ⟨by omega, by omega⟩ (fun c_284 => ?_) (fun c_284 => ?_)
                                      ·
                                        exact j289 _ _ _ _ _ h _ _ R r (by omega) (by omega) (by omega) (by omega) (by omega) (by omega)
                                      · omega
                    ·
                      refine V_iconst G dL_holds_205 ?_
                      refine V_goto G dL_holds_206 (tgt := 210) (by decide) ?_
                      refine V_aload0 G dL_holds_210 ?_
                      refine V_iload8 G dL_holds_211 ?_
                      refine V_iconst G dL_holds_213 ?_
                      refine Q_wordv G hlt I R r (wo2 hl) ⟨by omega, by omega⟩ ⟨by omega, by omega⟩ dL_holds_214 (by omega) (by omega) (by omega) (Nat.le_of_ble_eq_true rfl) (fun h R r => ?_)
                      refine V_ifne G dL_holds_217 (tgt := 224) (by decide) ⟨by omega, by omega⟩ (fun c_217 => ?_) (fun c_217 => ?_)
                      ·
                        refine V_iconst G dL_holds_224 ?_
                        refine V_icmpne G dL_holds_225 (tgt := 287) (by decide) ⟨by omega, by omega⟩ ⟨by omega, by omega⟩ (fun c_225 => ?_) (fun c_225 => ?_)
                        · omega
                        ·
                          refine V_iload9 G dL_holds_228 ?_
                          refine V_iconst G dL_holds_230 ?_
                          refine V_icmpne G dL_holds_231 (tgt := 257) (by decide) ⟨by omega, by omega⟩ ⟨by omega, by omega⟩ (fun c_231 => ?_) (fun c_231 => ?_)
                          ·
                            refine V_iload11 G dL_holds_257 ?_
                            refine V_iconst G dL_holds_259 ?_
                            refine V_icmpgt G dL_holds_260 (tgt := 287) (by decide) ⟨by omega, by omega⟩ ⟨by omega, by omega⟩ (fun c_260 => ?_) (fun c_260 => ?_)
                            · omega
                            ·
                              refine V_iload11 G dL_holds_263 ?_
                              refine V_iconst G dL_holds_265 ?_
                              refine V_icmplt G dL_holds_266 (tgt := 287) (by decide) ⟨by omega, by omega⟩ ⟨by omega, by omega⟩ (fun c_266 => ?_) (fun c_266 => ?_)
                              · omega
                              ·
                                refine V_aload0 G dL_holds_269 ?_
                                refine V_iload8 G dL_holds_270 ?_
                                refine V_bipush G dL_holds_272 (by decide) ?_
                                refine Q_wordv G hlt I R r rfl ⟨by omega, by omega⟩ ⟨by omega, by omega⟩ dL_holds_274 (by omega) (by omega) (by omega) (Nat.le_of_ble_eq_true rfl) (fun h R r => ?_)
                                refine V_iconst G dL_holds_277 ?_
                                refine V_icmpne G dL_holds_278 (tgt := 289) (by decide) ⟨by omega, by omega⟩ ⟨by omega, by omega⟩ (fun c_278 => ?_) (fun c_278 => ?_)
                                ·
                                  exact j289 _ _ _ _ _ h _ _ R r (by omega) (by omega) (by omega) (by omega) (by omega) (by omega)
                                ·
                                  refine V_iload10 G dL_holds_281 ?_
                                  refine V_iconst G dL_holds_283 ?_
                                  refine V_icmpeq G dL_holds_284 (tgt := 289) (by decide) ⟨by omega, by omega⟩ ⟨by omega, by omega⟩ (fun c_284 => ?_) (fun c_284 => ?_)
                                  ·
                                    exact j289 _ _ _ _ _ h _ _ R r (by omega) (by omega) (by omega) (by omega) (by omega) (by omega)
                                  · omega
                          ·
                            refine V_aload0 G dL_holds_234 ?_
                            refine V_iload8 G dL_holds_235 ?_
                            refine V_iconst G dL_holds_237 ?_
                            refine Q_wordv G hlt I R r (wo3 hl) ⟨by omega, by omega⟩ ⟨by omega, by omega⟩ dL_holds_238 (by omega) (by omega) (by omega) (Nat.le_of_ble_eq_true rfl) (fun h R r => ?_)
                            refine V_bipush G dL_holds_241 (by decide) ?_
                            refine V_icmpne G dL_holds_243 (tgt := 287) (by decide) ⟨by omega, by omega⟩ ⟨by omega, by omega⟩ (fun c_243 => ?_) (fun c_243 => ?_)
                            · omega
                            ·
                              refine V_aload0 G dL_holds_246 ?_
                              refine V_iload8 G dL_holds_247 ?_
                              refine V_iconst G dL_holds_249 ?_
                              refine Q_wordv G hlt I R r wo0 ⟨by omega, by omega⟩ ⟨by omega, by omega⟩ dL_holds_250 (by omega) (by omega) (by omega) (Nat.le_of_ble_eq_true rfl) (fun h R r => ?_)
                              refine V_iconst G dL_holds_253 ?_
                              refine V_icmpne G dL_holds_254 (tgt := 287) (by decide) ⟨by omega, by omega⟩ ⟨by omega, by omega⟩ (fun c_254 => ?_) (fun c_254 => ?_)
                              · omega
                              ·
                                refine V_iload11 G dL_holds_257 ?_
                                refine V_iconst G dL_holds_259 ?_
                                refine V_icmpgt G dL_holds_260 (tgt := 287) (by decide) ⟨by omega, by omega⟩ ⟨by omega, by omega⟩ (fun c_260 => ?_) (fun c_260 => ?_)
                                · omega
                                ·
                                  refine V_iload11 G dL_holds_263 ?_
                                  refine V_iconst G dL_holds_265 ?_
                                  refine V_icmplt G dL_holds_266 (tgt := 287) (by decide) ⟨by omega, by omega⟩ ⟨by omega, by omega⟩ (fun c_266 => ?_) (fun c_266 => ?_)
                                  · omega
                                  ·
                                    refine V_aload0 G dL_holds_269 ?_
                                    refine V_iload8 G dL_holds_270 ?_
                                    refine V_bipush G dL_holds_272 (by decide) ?_
                                    refine Q_wordv G hlt I R r rfl ⟨by omega, by omega⟩ ⟨by omega, by omega⟩ dL_holds_274 (by omega) (by omega) (by omega) (Nat.le_of_ble_eq_true rfl) (fun h R r => ?_)
                                    refine V_iconst G dL_holds_277 ?_
                                    refine V_icmpne G dL_holds_278 (tgt := 289) (by decide) ⟨by omega, by omega⟩ ⟨by omega, by omega⟩ (fun c_278 => ?_) (fun c_278 => ?_)
                                    ·
                                      exact j289 _ _ _ _ _ h _ _ R r (by omega) (by omega) (by omega) (by omega) (by omega) (by omega)
                                    ·
                                      refine V_iload10 G dL_holds_281 ?_
                                      refine V_iconst G dL_holds_283 ?_
                                      refine V_icmpeq G dL_holds_284 (tgt := 289) (by decide) ⟨by omega, by omega⟩ ⟨by omega, by omega⟩ (fun c_284 => ?_) (fun c_284 => ?_)
                                      ·
                                        exact j289 _ _ _ _ _ h _ _ R r (by omega) (by omega) (by omega) (by omega) (by omega) (by omega)
                                      · omega
                      ·
                        refine V_iconst G dL_holds_220 ?_
                        refine V_goto G dL_holds_221 (tgt := 225) (by decide) ?_
                        refine V_icmpne G dL_holds_225 (tgt := 287) (by decide) ⟨by omega, by omega⟩ ⟨by omega, by omega⟩ (fun c_225 => ?_) (fun c_225 => ?_)
                        · omega
                        ·
                          refine V_iload9 G dL_holds_228 ?_
                          refine V_iconst G dL_holds_230 ?_
                          refine V_icmpne G dL_holds_231 (tgt := 257) (by decide) ⟨by omega, by omega⟩ ⟨by omega, by omega⟩ (fun c_231 => ?_) (fun c_231 => ?_)
                          ·
                            refine V_iload11 G dL_holds_257 ?_
                            refine V_iconst G dL_holds_259 ?_
                            refine V_icmpgt G dL_holds_260 (tgt := 287) (by decide) ⟨by omega, by omega⟩ ⟨by omega, by omega⟩ (fun c_260 => ?_) (fun c_260 => ?_)
                            · omega
                            ·
                              refine V_iload11 G dL_holds_263 ?_
                              refine V_iconst G dL_holds_265 ?_
                              refine V_icmplt G dL_holds_266 (tgt := 287) (by decide) ⟨by omega, by omega⟩ ⟨by omega, by omega⟩ (fun c_266 => ?_) (fun c_266 => ?_)
                              · omega
                              ·
                                refine V_aload0 G dL_holds_269 ?_
                                refine V_iload8 G dL_holds_270 ?_
                                refine V_bipush G dL_holds_272 (by decide) ?_
                                refine Q_wordv G hlt I R r rfl ⟨by omega, by omega⟩ ⟨by omega, by omega⟩ dL_holds_274 (by omega) (by omega) (by omega) (Nat.le_of_ble_eq_true rfl) (fun h R r => ?_)
                                refine V_iconst G dL_holds_277 ?_
                                refine V_icmpne G dL_holds_278 (tgt := 289) (by decide) ⟨by omega, by omega⟩ ⟨by omega, by omega⟩ (fun c_278 => ?_) (fun c_278 => ?_)
                                ·
                                  exact j289 _ _ _ _ _ h _ _ R r (by omega) (by omega) (by omega) (by omega) (by omega) (by omega)
                                ·
                                  refine V_iload10 G dL_holds_281 ?_
                                  refine V_iconst G dL_holds_283 ?_
                                  refine V_icmpeq G dL_holds_284 (tgt := 289) (by decide) ⟨by omega, by omega⟩ ⟨by omega, by omega⟩ (fun c_284 => ?_) (fun c_284 => ?_)
                                  ·
                                    exact j289 _ _ _ _ _ h _ _ R r (by omega) (by omega) (by omega) (by omega) (by omega) (by omega)
                                  · omega
                          ·
                            refine V_aload0 G dL_holds_234 ?_
                            refine V_iload8 G dL_holds_235 ?_
                            refine V_iconst G dL_holds_237 ?_
                            refine Q_wordv G hlt I R r (wo3 hl) ⟨by omega, by omega⟩ ⟨by omega, by omega⟩ dL_holds_238 (by omega) (by omega) (by omega) (Nat.le_of_ble_eq_true rfl) (fun h R r => ?_)
                            refine V_bipush G dL_holds_241 (by decide) ?_
                            refine V_icmpne G dL_holds_243 (tgt := 287) (by decide) ⟨by omega, by omega⟩ ⟨by omega, by omega⟩ (fun c_243 => ?_) (fun c_243 => ?_)
                            · omega
                            ·
                              refine V_aload0 G dL_holds_246 ?_
                              refine V_iload8 G dL_holds_247 ?_
                              refine V_iconst G dL_holds_249 ?_
                              refine Q_wordv G hlt I R r wo0 ⟨by omega, by omega⟩ ⟨by omega, by omega⟩ dL_holds_250 (by omega) (by omega) (by omega) (Nat.le_of_ble_eq_true rfl) (fun h R r => ?_)
                              refine V_iconst G dL_holds_253 ?_
                              refine V_icmpne G dL_holds_254 (tgt := 287) (by decide) ⟨by omega, by omega⟩ ⟨by omega, by omega⟩ (fun c_254 => ?_) (fun c_254 => ?_)
                              · omega
                              ·
                                refine V_iload11 G dL_holds_257 ?_
                                refine V_iconst G dL_holds_259 ?_
                                refine V_icmpgt G dL_holds_260 (tgt := 287) (by decide) ⟨by omega, by omega⟩ ⟨by omega, by omega⟩ (fun c_260 => ?_) (fun c_260 => ?_)
                                · omega
                                ·
                                  refine V_iload11 G dL_holds_263 ?_
                                  refine V_iconst G dL_holds_265 ?_
                                  refine V_icmplt G dL_holds_266 (tgt := 287) (by decide) ⟨by omega, by omega⟩ ⟨by omega, by omega⟩ (fun c_266 => ?_) (fun c_266 => ?_)
                                  · omega
                                  ·
                                    refine V_aload0 G dL_holds_269 ?_
                                    refine V_iload8 G dL_holds_270 ?_
                                    refine V_bipush G dL_holds_272 (by decide) ?_
                                    refine Q_wordv G hlt I R r rfl ⟨by omega, by omega⟩ ⟨by omega, by omega⟩ dL_holds_274 (by omega) (by omega) (by omega) (Nat.le_of_ble_eq_true rfl) (fun h R r => ?_)
                                    refine V_iconst G dL_holds_277 ?_
                                    refine V_icmpne G dL_holds_278 (tgt := 289) (by decide) ⟨by omega, by omega⟩ ⟨by omega, by omega⟩ (fun c_278 => ?_) (fun c_278 => ?_)
                                    ·
                                      exact j289 _ _ _ _ _ h _ _ R r (by omega) (by omega) (by omega) (by omega) (by omega) (by omega)
                                    ·
                                      refine V_iload10 G dL_holds_281 ?_
                                      refine V_iconst G dL_holds_283 ?_
                                      refine V_icmpeq G dL_holds_284 (tgt := 289) (by decide) ⟨by omega, by omega⟩ ⟨by omega, by omega⟩ (fun c_284 => ?_) (fun c_284 => ?_)
                                      ·
                                        exact j289 _ _ _ _ _ h _ _ R r (by omega) (by omega) (by omega) (by omega) (by omega) (by omega)
                                      · omega
              ·
                refine V_iconst G dL_holds_159 ?_
                refine V_goto G dL_holds_160 (tgt := 178) (by decide) ?_
                refine V_istore11 G dL_holds_178 rfl ?_
                refine V_iload9 G dL_holds_180 ?_
                refine V_iload8 G dL_holds_182 ?_
                refine V_icmpeq G dL_holds_184 (tgt := 287) (by decide) ⟨by omega, by omega⟩ ⟨by omega, by omega⟩ (fun c_184 => ?_) (fun c_184 => ?_)
                ·
                  omega
                ·
                  refine V_aload0 G dL_holds_187 ?_
                  refine V_iload8 G dL_holds_188 ?_
                  refine V_iconst G dL_holds_190 ?_
                  refine Q_wordv G hlt I R r (wo5 hl) ⟨by omega, by omega⟩ ⟨by omega, by omega⟩ dL_holds_191 (by omega) (by omega) (by omega) (Nat.le_of_ble_eq_true rfl) (fun h R r => ?_)
                  refine V_iload8 G dL_holds_194 ?_
                  refine V_icmpne G dL_holds_196 (tgt := 287) (by decide) ⟨by omega, by omega⟩ ⟨by omega, by omega⟩ (fun c_196 => ?_) (fun c_196 => ?_)
                  · omega
                  ·
                    refine V_iload9 G dL_holds_199 ?_
                    refine V_iconst G dL_holds_201 ?_
                    refine V_icmpne G dL_holds_202 (tgt := 209) (by decide) ⟨by omega, by omega⟩ ⟨by omega, by omega⟩ (fun c_202 => ?_) (fun c_202 => ?_)
                    ·
                      refine V_iconst G dL_holds_209 ?_
                      refine V_aload0 G dL_holds_210 ?_
                      refine V_iload8 G dL_holds_211 ?_
                      refine V_iconst G dL_holds_213 ?_
                      refine Q_wordv G hlt I R r (wo2 hl) ⟨by omega, by omega⟩ ⟨by omega, by omega⟩ dL_holds_214 (by omega) (by omega) (by omega) (Nat.le_of_ble_eq_true rfl) (fun h R r => ?_)
                      refine V_ifne G dL_holds_217 (tgt := 224) (by decide) ⟨by omega, by omega⟩ (fun c_217 => ?_) (fun c_217 => ?_)
                      ·
                        refine V_iconst G dL_holds_224 ?_
                        refine V_icmpne G dL_holds_225 (tgt := 287) (by decide) ⟨by omega, by omega⟩ ⟨by omega, by omega⟩ (fun c_225 => ?_) (fun c_225 => ?_)
                        · omega
                        ·
                          refine V_iload9 G dL_holds_228 ?_
                          refine V_iconst G dL_holds_230 ?_
                          refine V_icmpne G dL_holds_231 (tgt := 257) (by decide) ⟨by omega, by omega⟩ ⟨by omega, by omega⟩ (fun c_231 => ?_) (fun c_231 => ?_)
                          ·
                            refine V_iload11 G dL_holds_257 ?_
                            refine V_iconst G dL_holds_259 ?_
                            refine V_icmpgt G dL_holds_260 (tgt := 287) (by decide) ⟨by omega, by omega⟩ ⟨by omega, by omega⟩ (fun c_260 => ?_) (fun c_260 => ?_)
                            · omega
                            ·
                              refine V_iload11 G dL_holds_263 ?_
                              refine V_iconst G dL_holds_265 ?_
                              refine V_icmplt G dL_holds_266 (tgt := 287) (by decide) ⟨by omega, by omega⟩ ⟨by omega, by omega⟩ (fun c_266 => ?_) (fun c_266 => ?_)
                              · omega
                              ·
                                refine V_aload0 G dL_holds_269 ?_
                                refine V_iload8 G dL_holds_270 ?_
                                refine V_bipush G dL_holds_272 (by decide) ?_
                                refine Q_wordv G hlt I R r rfl ⟨by omega, by omega⟩ ⟨by omega, by omega⟩ dL_holds_274 (by omega) (by omega) (by omega) (Nat.le_of_ble_eq_true rfl) (fun h R r => ?_)
                                refine V_iconst G dL_holds_277 ?_
                                refine V_icmpne G dL_holds_278 (tgt := 289) (by decide) ⟨by omega, by omega⟩ ⟨by omega, by omega⟩ (fun c_278 => ?_) (fun c_278 => ?_)
                                ·
                                  exact j289 _ _ _ _ _ h _ _ R r (by omega) (by omega) (by omega) (by omega) (by omega) (by omega)
                                ·
                                  refine V_iload10 G dL_holds_281 ?_
                                  refine V_iconst G dL_holds_283 ?_
                                  refine V_icmpeq G dL_holds_284 (tgt := 289) (by decide) ⟨by omega, by omega⟩ ⟨by omega, by omega⟩ (fun c_284 => ?_) (fun c_284 => ?_)
                                  ·
                                    exact j289 _ _ _ _ _ h _ _ R r (by omega) (by omega) (by omega) (by omega) (by omega) (by omega)
                                  · omega
                          ·
                            refine V_aload0 G dL_holds_234 ?_
                            refine V_iload8 G dL_holds_235 ?_
                            refine V_iconst G dL_holds_237 ?_
                            refine Q_wordv G hlt I R r (wo3 hl) ⟨by omega, by omega⟩ ⟨by omega, by omega⟩ dL_holds_238 (by omega) (by omega) (by omega) (Nat.le_of_ble_eq_true rfl) (fun h R r => ?_)
                            refine V_bipush G dL_holds_241 (by decide) ?_
                            refine V_icmpne G dL_holds_243 (tgt := 287) (by decide) ⟨by omega, by omega⟩ ⟨by omega, by omega⟩ (fun c_243 => ?_) (fun c_243 => ?_)
                            · omega
                            ·
                              refine V_aload0 G dL_holds_246 ?_
                              refine V_iload8 G dL_holds_247 ?_
                              refine V_iconst G dL_holds_249 ?_
                              refine Q_wordv G hlt I R r wo0 ⟨by omega, by omega⟩ ⟨by omega, by omega⟩ dL_holds_250 (by omega) (by omega) (by omega) (Nat.le_of_ble_eq_true rfl) (fun h R r => ?_)
                              refine V_iconst G dL_holds_253 ?_
                              refine V_icmpne G dL_holds_254 (tgt := 287) (by decide) ⟨by omega, by omega⟩ ⟨by omega, by omega⟩ (fun c_254 => ?_) (fun c_254 => ?_)
                              · omega
                              ·
                                refine V_iload11 G dL_holds_257 ?_
                                refine V_iconst G dL_holds_259 ?_
                                refine V_icmpgt G dL_holds_260 (tgt := 287) (by decide) ⟨by omega, by omega⟩ ⟨by omega, by omega⟩ (fun c_260 => ?_) (fun c_260 => ?_)
                                · omega
                                ·
                                  refine V_iload11 G dL_holds_263 ?_
                                  refine V_iconst G dL_holds_265 ?_
                                  refine V_icmplt G dL_holds_266 (tgt := 287) (by decide) ⟨by omega, by omega⟩ ⟨by omega, by omega⟩ (fun c_266 => ?_) (fun c_266 => ?_)
                                  · omega
                                  ·
                                    refine V_aload0 G dL_holds_269 ?_
                                    refine V_iload8 G dL_holds_270 ?_
                                    refine V_bipush G dL_holds_272 (by decide) ?_
                                    refine Q_wordv G hlt I R r rfl ⟨by omega, by omega⟩ ⟨by omega, by omega⟩ dL_holds_274 (by omega) (by omega) (by omega) (Nat.le_of_ble_eq_true rfl) (fun h R r => ?_)
                                    refine V_iconst G dL_holds_277 ?_
                                    refine V_icmpne G dL_holds_278 (tgt := 289) (by decide) ⟨by omega, by omega⟩ ⟨by omega, by omega⟩ (fun c_278 => ?_) (fun c_278 => ?_)
                                    ·
                                      exact j289 _ _ _ _ _ h _ _ R r (by omega) (by omega) (by omega) (by omega) (by omega) (by omega)
                                    ·
                                      refine V_iload10 G dL_holds_281 ?_
                                      refine V_iconst G dL_holds_283 ?_
                                      refine V_icmpeq G dL_holds_284 (tgt := 289) (by decide) ⟨by omega, by omega⟩ ⟨by omega, by omega⟩ (fun c_284 => ?_) (fun c_284 => ?_)
                                      ·
                                        exact j289 _ _ _ _ _ h _ _ R r (by omega) (by omega) (by omega) (by omega) (by omega) (by omega)
                                      · omega
                      ·
                        refine V_iconst G dL_holds_220 ?_
                        refine V_goto G dL_holds_221 (tgt := 225) (by decide) ?_
                        refine V_icmpne G dL_holds_225 (tgt := 287) (by decide) ⟨by omega, by omega⟩ ⟨by omega, by omega⟩ (fun c_225 => ?_) (fun c_225 => ?_)
                        · omega
                        ·
                          refine V_iload9 G dL_holds_228 ?_
                          refine V_iconst G dL_holds_230 ?_
                          refine V_icmpne G dL_holds_231 (tgt := 257) (by decide) ⟨by omega, by omega⟩ ⟨by omega, by omega⟩ (fun c_231 => ?_) (fun c_231 => ?_)
                          ·
                            refine V_iload11 G dL_holds_257 ?_
                            refine V_iconst G dL_holds_259 ?_
                            refine V_icmpgt G dL_holds_260 (tgt := 287) (by decide) ⟨by omega, by omega⟩ ⟨by omega, by omega⟩ (fun c_260 => ?_) (fun c_260 => ?_)
                            · omega
                            ·
                              refine V_iload11 G dL_holds_263 ?_
                              refine V_iconst G dL_holds_265 ?_
                              refine V_icmplt G dL_holds_266 (tgt := 287) (by decide) ⟨by omega, by omega⟩ ⟨by omega, by omega⟩ (fun c_266 => ?_) (fun c_266 => ?_)
                              · omega
                              ·
                                refine V_aload0 G dL_holds_269 ?_
                                refine V_iload8 G dL_holds_270 ?_
                                refine V_bipush G dL_holds_272 (by decide) ?_
                                refine Q_wordv G hlt I R r rfl ⟨by omega, by omega⟩ ⟨by omega, by omega⟩ dL_holds_274 (by omega) (by omega) (by omega) (Nat.le_of_ble_eq_true rfl) (fun h R r => ?_)
                                refine V_iconst G dL_holds_277 ?_
                                refine V_icmpne G dL_holds_278 (tgt := 289) (by decide) ⟨by omega, by omega⟩ ⟨by omega, by omega⟩ (fun c_278 => ?_) (fun c_278 => ?_)
                                ·
                                  exact j289 _ _ _ _ _ h _ _ R r (by omega) (by omega) (by omega) (by omega) (by omega) (by omega)
                                ·
                                  refine V_iload10 G dL_holds_281 ?_
                                  refine V_iconst G dL_holds_283 ?_
                                  refine V_icmpeq G dL_holds_284 (tgt := 289) (by decide) ⟨by omega, by omega⟩ ⟨by omega, by omega⟩ (fun c_284 => ?_) (fun c_284 => ?_)
                                  ·
                                    exact j289 _ _ _ _ _ h _ _ R r (by omega) (by omega) (by omega) (by omega) (by omega) (by omega)
                                  · omega
                          ·
                            refine V_aload0 G dL_holds_234 ?_
                            refine V_iload8 G dL_holds_235 ?_
                            refine V_iconst G dL_holds_237 ?_
                            refine Q_wordv G hlt I R r (wo3 hl) ⟨by omega, by omega⟩ ⟨by omega, by omega⟩ dL_holds_238 (by omega) (by omega) (by omega) (Nat.le_of_ble_eq_true rfl) (fun h R r => ?_)
                            refine V_bipush G dL_holds_241 (by decide) ?_
                            refine V_icmpne G dL_holds_243 (tgt := 287) (by decide) ⟨by omega, by omega⟩ ⟨by omega, by omega⟩ (fun c_243 => ?_) (fun c_243 => ?_)
                            · omega
                            ·
                              refine V_aload0 G dL_holds_246 ?_
                              refine V_iload8 G dL_holds_247 ?_
                              refine V_iconst G dL_holds_249 ?_
                              refine Q_wordv G hlt I R r wo0 ⟨by omega, by omega⟩ ⟨by omega, by omega⟩ dL_holds_250 (by omega) (by omega) (by omega) (Nat.le_of_ble_eq_true rfl) (fun h R r => ?_)
                              refine V_iconst G dL_holds_253 ?_
                              refine V_icmpne G dL_holds_254 (tgt := 287) (by decide) ⟨by omega, by omega⟩ ⟨by omega, by omega⟩ (fun c_254 => ?_) (fun c_254 => ?_)
                              · omega
                              ·
                                refine V_iload11 G dL_holds_257 ?_
                                refine V_iconst G dL_holds_259 ?_
                                refine V_icmpgt G dL_holds_260 (tgt := 287) (by decide) ⟨by omega, by omega⟩ ⟨by omega, by omega⟩ (fun c_260 => ?_) (fun c_260 => ?_)
                                · omega
                                ·
                                  refine V_iload11 G dL_holds_263 ?_
                                  refine V_iconst G dL_holds_265 ?_
                                  refine V_icmplt G dL_holds_266 (tgt := 287) (by decide) ⟨by omega, by omega⟩ ⟨by omega, by omega⟩ (fun c_266 => ?_) (fun c_266 => ?_)
                                  · omega
                                  ·
                                    refine V_aload0 G dL_holds_269 ?_
                                    refine V_iload8 G dL_holds_270 ?_
                                    refine V_bipush G dL_holds_272 (by decide) ?_
                                    refine Q_wordv G hlt I R r rfl ⟨by omega, by omega⟩ ⟨by omega, by omega⟩ dL_holds_274 (by omega) (by omega) (by omega) (Nat.le_of_ble_eq_true rfl) (fun h R r => ?_)
                                    refine V_iconst G dL_holds_277 ?_
                                    refine V_icmpne G dL_holds_278 (tgt := 289) (by decide) ⟨by omega, by omega⟩ ⟨by omega, by omega⟩ (fun c_278 => ?_) (fun c_278 => ?_)
                                    ·
                                      exact j289 _ _ _ _ _ h _ _ R r (by omega) (by omega) (by omega) (by omega) (by omega) (by omega)
                                    ·
                                      refine V_iload10 G dL_holds_281 ?_
                                      refine V_iconst G dL_holds_283 ?_
                                      refine V_icmpeq G dL_holds_284 (tgt := 289) (by decide) ⟨by omega, by omega⟩ ⟨by omega, by omega⟩ (fun c_284 => ?_) (fun c_284 => ?_)
                                      ·
                                        exact j289 _ _ _ _ _ h _ _ R r (by omega) (by omega) (by omega) (by omega) (by omega) (by omega)
                                      · omega
                    ·
                      refine V_iconst G dL_holds_205 ?_
                      refine V_goto G dL_holds_206 (tgt := 210) (by decide) ?_
                      refine V_aload0 G dL_holds_210 ?_
                      refine V_iload8 G dL_holds_211 ?_
                      refine V_iconst G dL_holds_213 ?_
                      refine Q_wordv G hlt I R r (wo2 hl) ⟨by omega, by omega⟩ ⟨by omega, by omega⟩ dL_holds_214 (by omega) (by omega) (by omega) (Nat.le_of_ble_eq_true rfl) (fun h R r => ?_)
                      refine V_ifne G dL_holds_217 (tgt := 224) (by decide) ⟨by omega, by omega⟩ (fun c_217 => ?_) (fun c_217 => ?_)
                      ·
                        refine V_iconst G dL_holds_224 ?_
                        refine V_icmpne G dL_holds_225 (tgt := 287) (by decide) ⟨by omega, by omega⟩ ⟨by omega, by omega⟩ (fun c_225 => ?_) (fun c_225 => ?_)
                        · omega
                        ·
                          refine V_iload9 G dL_holds_228 ?_
                          refine V_iconst G dL_holds_230 ?_
                          refine V_icmpne G dL_holds_231 (tgt := 257) (by decide) ⟨by omega, by omega⟩ ⟨by omega, by omega⟩ (fun c_231 => ?_) (fun c_231 => ?_)
                          ·
                            refine V_iload11 G dL_holds_257 ?_
                            refine V_iconst G dL_holds_259 ?_
                            refine V_icmpgt G dL_holds_260 (tgt := 287) (by decide) ⟨by omega, by omega⟩ ⟨by omega, by omega⟩ (fun c_260 => ?_) (fun c_260 => ?_)
                            · omega
                            ·
                              refine V_iload11 G dL_holds_263 ?_
                              refine V_iconst G dL_holds_265 ?_
                              refine V_icmplt G dL_holds_266 (tgt := 287) (by decide) ⟨by omega, by omega⟩ ⟨by omega, by omega⟩ (fun c_266 => ?_) (fun c_266 => ?_)
                              · omega
                              ·
                                refine V_aload0 G dL_holds_269 ?_
                                refine V_iload8 G dL_holds_270 ?_
                                refine V_bipush G dL_holds_272 (by decide) ?_
                                refine Q_wordv G hlt I R r rfl ⟨by omega, by omega⟩ ⟨by omega, by omega⟩ dL_holds_274 (by omega) (by omega) (by omega) (Nat.le_of_ble_eq_true rfl) (fun h R r => ?_)
                                refine V_iconst G dL_holds_277 ?_
                                refine V_icmpne G dL_holds_278 (tgt := 289) (by decide) ⟨by omega, by omega⟩ ⟨by omega, by omega⟩ (fun c_278 => ?_) (fun c_278 => ?_)
                                ·
                                  exact j289 _ _ _ _ _ h _ _ R r (by omega) (by omega) (by omega) (by omega) (by omega) (by omega)
                                ·
                                  refine V_iload10 G dL_holds_281 ?_
                                  refine V_iconst G dL_holds_283 ?_
                                  refine V_icmpeq G dL_holds_284 (tgt := 289) (by decide) ⟨by omega, by omega⟩ ⟨by omega, by omega⟩ (fun c_284 => ?_) (fun c_284 => ?_)
                                  ·
                                    exact j289 _ _ _ _ _ h _ _ R r (by omega) (by omega) (by omega) (by omega) (by omega) (by omega)
                                  · omega
                          ·
                            refine V_aload0 G dL_holds_234 ?_
                            refine V_iload8 G dL_holds_235 ?_
                            refine V_iconst G dL_holds_237 ?_
                            refine Q_wordv G hlt I R r (wo3 hl) ⟨by omega, by omega⟩ ⟨by omega, by omega⟩ dL_holds_238 (by omega) (by omega) (by omega) (Nat.le_of_ble_eq_true rfl) (fun h R r => ?_)
                            refine V_bipush G dL_holds_241 (by decide) ?_
                            refine V_icmpne G dL_holds_243 (tgt := 287) (by decide) ⟨by omega, by omega⟩ ⟨by omega, by omega⟩ (fun c_243 => ?_) (fun c_243 => ?_)
                            · omega
                            ·
                              refine V_aload0 G dL_holds_246 ?_
                              refine V_iload8 G dL_holds_247 ?_
                              refine V_iconst G dL_holds_249 ?_
                              refine Q_wordv G hlt I R r wo0 ⟨by omega, by omega⟩ ⟨by omega, by omega⟩ dL_holds_250 (by omega) (by omega) (by omega) (Nat.le_of_ble_eq_true rfl) (fun h R r => ?_)
                              refine V_iconst G dL_holds_253 ?_
                              refine V_icmpne G dL_holds_254 (tgt := 287) (by decide) ⟨by omega, by omega⟩ ⟨by omega, by omega⟩ (fun c_254 => ?_) (fun c_254 => ?_)
                              · omega
                              ·
                                refine V_iload11 G dL_holds_257 ?_
                                refine V_iconst G dL_holds_259 ?_
                                refine V_icmpgt G dL_holds_260 (tgt := 287) (by decide) ⟨by omega, by omega⟩ ⟨by omega, by omega⟩ (fun c_260 => ?_) (fun c_260 => ?_)
                                · omega
                                ·
                                  refine V_iload11 G dL_holds_263 ?_
                                  refine V_iconst G dL_holds_265 ?_
                                  refine V_icmplt G dL_holds_266 (tgt := 287) (by decide) ⟨by omega, by omega⟩ ⟨by omega, by omega⟩ (fun c_266 => ?_) (fun c_266 => ?_)
                                  · omega
                                  ·
                                    refine V_aload0 G dL_holds_269 ?_
                                    refine V_iload8 G dL_holds_270 ?_
                                    refine V_bipush G dL_holds_272 (by decide) ?_
                                    refine Q_wordv G hlt I R r rfl ⟨by omega, by omega⟩ ⟨by omega, by omega⟩ dL_holds_274 (by omega) (by omega) (by omega) (Nat.le_of_ble_eq_true rfl) (fun h R r => ?_)
                                    refine V_iconst G dL_holds_277 ?_
                                    refine V_icmpne G dL_holds_278 (tgt := 289) (by decide) ⟨by omega, by omega⟩ ⟨by omega, by omega⟩ (fun c_278 => ?_) (fun c_278 => ?_)
                                    ·
                                      exact j289 _ _ _ _ _ h _ _ R r (by omega) (by omega) (by omega) (by omega) (by omega) (by omega)
                                    ·
                                      refine V_iload10 G dL_holds_281 ?_
                                      refine V_iconst G dL_holds_283 ?_
                                      refine V_icmpeq G dL_holds_284 (tgt := 289) (by decide) ⟨by omega, by omega⟩ ⟨by omega, by omega⟩ (fun c_284 => ?_) (fun c_284 => ?_)
                                      ·
                                        exact j289 _ _ _ _ _ h _ _ R r (by omega) (by omega) (by omega) (by omega) (by omega) (by omega)
                                      · omega
                      ·
                        refine V_iconst G dL_holds_220 ?_
                        refine V_goto G dL_holds_221 (tgt := 225) (by decide) ?_
                        refine V_icmpne G dL_holds_225 (tgt := 287) (by decide) ⟨by omega, by omega⟩ ⟨by omega, by omega⟩ (fun c_225 => ?_) (fun c_225 => ?_)
                        · omega
                        ·
                          refine V_iload9 G dL_holds_228 ?_
                          refine V_iconst G dL_holds_230 ?_
                          refine V_icmpne G dL_holds_231 (tgt := 257) (by decide) ⟨by omega, by omega⟩ ⟨by omega, by omega⟩ (fun c_231 => ?_) (fun c_231 => ?_)
                          ·
                            refine V_iload11 G dL_holds_257 ?_
                            refine V_iconst G dL_holds_259 ?_
                            refine V_icmpgt G dL_holds_260 (tgt := 287) (by decide) ⟨by omega, by omega⟩ ⟨by omega, by omega⟩ (fun c_260 => ?_) (fun c_260 => ?_)
                            · omega
                            ·
                              refine V_iload11 G dL_holds_263 ?_
                              refine V_iconst G dL_holds_265 ?_
                              refine V_icmplt G dL_holds_266 (tgt := 287) (by decide) ⟨by omega, by omega⟩ ⟨by omega, by omega⟩ (fun c_266 => ?_) (fun c_266 => ?_)
                              · omega
                              ·
                                refine V_aload0 G dL_holds_269 ?_
                                refine V_iload8 G dL_holds_270 ?_
                                refine V_bipush G dL_holds_272 (by decide) ?_
                                refine Q_wordv G hlt I R r rfl ⟨by omega, by omega⟩ ⟨by omega, by omega⟩ dL_holds_274 (by omega) (by omega) (by omega) (Nat.le_of_ble_eq_true rfl) (fun h R r => ?_)
                                refine V_iconst G dL_holds_277 ?_
                                refine V_icmpne G dL_holds_278 (tgt := 289) (by decide) ⟨by omega, by omega⟩ ⟨by omega, by omega⟩ (fun c_278 => ?_) (fun c_278 => ?_)
                                ·
                                  exact j289 _ _ _ _ _ h _ _ R r (by omega) (by omega) (by omega) (by omega) (by omega) (by omega)
                                ·
                                  refine V_iload10 G dL_holds_281 ?_
                                  refine V_iconst G dL_holds_283 ?_
                                  refine V_icmpeq G dL_holds_284 (tgt := 289) (by decide) ⟨by omega, by omega⟩ ⟨by omega, by omega⟩ (fun c_284 => ?_) (fun c_284 => ?_)
                                  ·
                                    exact j289 _ _ _ _ _ h _ _ R r (by omega) (by omega) (by omega) (by omega) (by omega) (by omega)
                                  · omega
                          ·
                            refine V_aload0 G dL_holds_234 ?_
                            refine V_iload8 G dL_holds_235 ?_
                            refine V_iconst G dL_holds_237 ?_
                            refine Q_wordv G hlt I R r (wo3 hl) ⟨by omega, by omega⟩ ⟨by omega, by omega⟩ dL_holds_238 (by omega) (by omega) (by omega) (Nat.le_of_ble_eq_true rfl) (fun h R r => ?_)
                            refine V_bipush G dL_holds_241 (by decide) ?_
                            refine V_icmpne G dL_holds_243 (tgt := 287) (by decide) ⟨by omega, by omega⟩ ⟨by omega, by omega⟩ (fun c_243 => ?_) (fun c_243 => ?_)
                            · omega
                            ·
                              refine V_aload0 G dL_holds_246 ?_
                              refine V_iload8 G dL_holds_247 ?_
                              refine V_iconst G dL_holds_249 ?_
                              refine Q_wordv G hlt I R r wo0 ⟨by omega, by omega⟩ ⟨by omega, by omega⟩ dL_holds_250 (by omega) (by omega) (by omega) (Nat.le_of_ble_eq_true rfl) (fun h R r => ?_)
                              refine V_iconst G dL_holds_253 ?_
                              refine V_icmpne G dL_holds_254 (tgt := 287) (by decide) ⟨by omega, by omega⟩ ⟨by omega, by omega⟩ (fun c_254 => ?_) (fun c_254 => ?_)
                              · omega
                              ·
                                refine V_iload11 G dL_holds_257 ?_
                                refine V_iconst G dL_holds_259 ?_
                                refine V_icmpgt G dL_holds_260 (tgt := 287) (by decide) ⟨by omega, by omega⟩ ⟨by omega, by omega⟩ (fun c_260 => ?_) (fun c_260 => ?_)
                                · omega
                                ·
                                  refine V_iload11 G dL_holds_263 ?_
                                  refine V_iconst G dL_holds_265 ?_
                                  refine V_icmplt G dL_holds_266 (tgt := 287) (by decide) ⟨by omega, by omega⟩ ⟨by omega, by omega⟩ (fun c_266 => ?_) (fun c_266 => ?_)
                                  · omega
                                  ·
                                    refine V_aload0 G dL_holds_269 ?_
                                    refine V_iload8 G dL_holds_270 ?_
                                    refine V_bipush G dL_holds_272 (by decide) ?_
                                    refine Q_wordv G hlt I R r rfl ⟨by omega, by omega⟩ ⟨by omega, by omega⟩ dL_holds_274 (by omega) (by omega) (by omega) (Nat.le_of_ble_eq_true rfl) (fun h R r => ?_)
                                    refine V_iconst G dL_holds_277 ?_
                                    refine V_icmpne G dL_holds_278 (tgt := 289) (by decide) ⟨by omega, by omega⟩ ⟨by omega, by omega⟩ (fun c_278 => ?_) (fun c_278 => ?_)
                                    ·
                                      exact j289 _ _ _ _ _ h _ _ R r (by omega) (by omega) (by omega) (by omega) (by omega) (by omega)
                                    ·
                                      refine V_iload10 G dL_holds_281 ?_
                                      refine V_iconst G dL_holds_283 ?_
                                      refine V_icmpeq G dL_holds_284 (tgt := 289) (by decide) ⟨by omega, by omega⟩ ⟨by omega, by omega⟩ (fun c_284 => ?_) (fun c_284 => ?_)
                                      ·
                                        exact j289 _ _ _ _ _ h _ _ R r (by omega) (by omega) (by omega) (by omega) (by omega) (by omega)
                                      · omega
            ·
              refine V_iconst G dL_holds_134 ?_
              refine V_goto G dL_holds_135 (tgt := 139) (by decide) ?_
              refine V_iadd G dL_holds_139 ?_
              refine V_istore3 G dL_holds_140 rfl ?_
              refine V_iload4 G dL_holds_141 ?_
              refine V_aload0 G dL_holds_143 ?_
              refine V_iload8 G dL_holds_144 ?_
              refine V_iconst G dL_holds_146 ?_
              refine Q_wordv G hlt I R r (wo4 hl) ⟨by omega, by omega⟩ ⟨by omega, by omega⟩ dL_holds_147 (by omega) (by omega) (by omega) (Nat.le_of_ble_eq_true rfl) (fun h R r => ?_)
              refine V_iadd G dL_holds_150 ?_
              refine V_istore4 G dL_holds_151 rfl ?_
              refine V_iload9 G dL_holds_153 ?_
              refine V_iconst G dL_holds_155 ?_
              refine V_icmpne G dL_holds_156 (tgt := 163) (by decide) ⟨by omega, by omega⟩ ⟨by omega, by omega⟩ (fun c_156 => ?_) (fun c_156 => ?_)
              ·
                refine V_aload0 G dL_holds_163 ?_
                refine V_iload8 G dL_holds_164 ?_
                refine V_iconst G dL_holds_166 ?_
                refine Q_wordv G hlt I R r (wo3 hl) ⟨by omega, by omega⟩ ⟨by omega, by omega⟩ dL_holds_167 (by omega) (by omega) (by omega) (Nat.le_of_ble_eq_true rfl) (fun h R r => ?_)
                refine V_aload0 G dL_holds_170 ?_
                refine V_iload9 G dL_holds_171 ?_
                refine V_iconst G dL_holds_173 ?_
                refine Q_wordv G hlt I R r (wo3 hl) ⟨by omega, by omega⟩ ⟨by omega, by omega⟩ dL_holds_174 (by omega) (by omega) (by omega) (Nat.le_of_ble_eq_true rfl) (fun h R r => ?_)
                refine V_isub G dL_holds_177 ?_
                refine V_istore11 G dL_holds_178 rfl ?_
                refine V_iload9 G dL_holds_180 ?_
                refine V_iload8 G dL_holds_182 ?_
                refine V_icmpeq G dL_holds_184 (tgt := 287) (by decide) ⟨by omega, by omega⟩ ⟨by omega, by omega⟩ (fun c_184 => ?_) (fun c_184 => ?_)
                ·
                  omega
                ·
                  refine V_aload0 G dL_holds_187 ?_
                  refine V_iload8 G dL_holds_188 ?_
                  refine V_iconst G dL_holds_190 ?_
                  refine Q_wordv G hlt I R r (wo5 hl) ⟨by omega, by omega⟩ ⟨by omega, by omega⟩ dL_holds_191 (by omega) (by omega) (by omega) (Nat.le_of_ble_eq_true rfl) (fun h R r => ?_)
                  refine V_iload8 G dL_holds_194 ?_
                  refine V_icmpne G dL_holds_196 (tgt := 287) (by decide) ⟨by omega, by omega⟩ ⟨by omega, by omega⟩ (fun c_196 => ?_) (fun c_196 => ?_)
                  · omega
                  ·
                    refine V_iload9 G dL_holds_199 ?_
                    refine V_iconst G dL_holds_201 ?_
                    refine V_icmpne G dL_holds_202 (tgt := 209) (by decide) ⟨by omega, by omega⟩ ⟨by omega, by omega⟩ (fun c_202 => ?_) (fun c_202 => ?_)
                    ·
                      refine V_iconst G dL_holds_209 ?_
                      refine V_aload0 G dL_holds_210 ?_
                      refine V_iload8 G dL_holds_211 ?_
                      refine V_iconst G dL_holds_213 ?_
                      refine Q_wordv G hlt I R r (wo2 hl) ⟨by omega, by omega⟩ ⟨by omega, by omega⟩ dL_holds_214 (by omega) (by omega) (by omega) (Nat.le_of_ble_eq_true rfl) (fun h R r => ?_)
                      refine V_ifne G dL_holds_217 (tgt := 224) (by decide) ⟨by omega, by omega⟩ (fun c_217 => ?_) (fun c_217 => ?_)
                      ·
                        refine V_iconst G dL_holds_224 ?_
                        refine V_icmpne G dL_holds_225 (tgt := 287) (by decide) ⟨by omega, by omega⟩ ⟨by omega, by omega⟩ (fun c_225 => ?_) (fun c_225 => ?_)
                        · omega
                        ·
                          refine V_iload9 G dL_holds_228 ?_
                          refine V_iconst G dL_holds_230 ?_
                          refine V_icmpne G dL_holds_231 (tgt := 257) (by decide) ⟨by omega, by omega⟩ ⟨by omega, by omega⟩ (fun c_231 => ?_) (fun c_231 => ?_)
                          ·
                            refine V_iload11 G dL_holds_257 ?_
                            refine V_iconst G dL_holds_259 ?_
                            refine V_icmpgt G dL_holds_260 (tgt := 287) (by decide) ⟨by omega, by omega⟩ ⟨by omega, by omega⟩ (fun c_260 => ?_) (fun c_260 => ?_)
                            · omega
                            ·
                              refine V_iload11 G dL_holds_263 ?_
                              refine V_iconst G dL_holds_265 ?_
                              refine V_icmplt G dL_holds_266 (tgt := 287) (by decide) ⟨by omega, by omega⟩ ⟨by omega, by omega⟩ (fun c_266 => ?_) (fun c_266 => ?_)
                              · omega
                              ·
                                refine V_aload0 G dL_holds_269 ?_
                                refine V_iload8 G dL_holds_270 ?_
                                refine V_bipush G dL_holds_272 (by decide) ?_
                                refine Q_wordv G hlt I R r rfl ⟨by omega, by omega⟩ ⟨by omega, by omega⟩ dL_holds_274 (by omega) (by omega) (by omega) (Nat.le_of_ble_eq_true rfl) (fun h R r => ?_)
                                refine V_iconst G dL_holds_277 ?_
                                refine V_icmpne G dL_holds_278 (tgt := 289) (by decide) ⟨by omega, by omega⟩ ⟨by omega, by omega⟩ (fun c_278 => ?_) (fun c_278 => ?_)
                                ·
                                  exact j289 _ _ _ _ _ h _ _ R r (by omega) (by omega) (by omega) (by omega) (by omega) (by omega)
                                ·
                                  refine V_iload10 G dL_holds_281 ?_
                                  refine V_iconst G dL_holds_283 ?_
                                  refine V_icmpeq G dL_holds_284 (tgt := 289) (by decide) ⟨by omega, by omega⟩ ⟨by omega, by omega⟩ (fun c_284 => ?_) (fun c_284 => ?_)
                                  ·
                                    exact j289 _ _ _ _ _ h _ _ R r (by omega) (by omega) (by omega) (by omega) (by omega) (by omega)
                                  · omega
                          ·
                            refine V_aload0 G dL_holds_234 ?_
                            refine V_iload8 G dL_holds_235 ?_
                            refine V_iconst G dL_holds_237 ?_
                            refine Q_wordv G hlt I R r (wo3 hl) ⟨by omega, by omega⟩ ⟨by omega, by omega⟩ dL_holds_238 (by omega) (by omega) (by omega) (Nat.le_of_ble_eq_true rfl) (fun h R r => ?_)
                            refine V_bipush G dL_holds_241 (by decide) ?_
                            refine V_icmpne G dL_holds_243 (tgt := 287) (by decide) ⟨by omega, by omega⟩ ⟨by omega, by omega⟩ (fun c_243 => ?_) (fun c_243 => ?_)
                            · omega
                            ·
                              refine V_aload0 G dL_holds_246 ?_
                              refine V_iload8 G dL_holds_247 ?_
                              refine V_iconst G dL_holds_249 ?_
                              refine Q_wordv G hlt I R r wo0 ⟨by omega, by omega⟩ ⟨by omega, by omega⟩ dL_holds_250 (by omega) (by omega) (by omega) (Nat.le_of_ble_eq_true rfl) (fun h R r => ?_)
                              refine V_iconst G dL_holds_253 ?_
                              refine V_icmpne G dL_holds_254 (tgt := 287) (by decide) ⟨by omega, by omega⟩ ⟨by omega, by omega⟩ (fun c_254 => ?_) (fun c_254 => ?_)
                              · omega
                              ·
                                refine V_iload11 G dL_holds_257 ?_
                                refine V_iconst G dL_holds_259 ?_
                                refine V_icmpgt G dL_holds_260 (tgt := 287) (by decide) ⟨by omega, by omega⟩ ⟨by omega, by omega⟩ (fun c_260 => ?_) (fun c_260 => ?_)
                                · omega
                                ·
                                  refine V_iload11 G dL_holds_263 ?_
                                  refine V_iconst G dL_holds_265 ?_
                                  refine V_icmplt G dL_holds_266 (tgt := 287) (by decide) ⟨by omega, by omega⟩ ⟨by omega, by omega⟩ (fun c_266 => ?_) (fun c_266 => ?_)
                                  · omega
                                  ·
                                    refine V_aload0 G dL_holds_269 ?_
                                    refine V_iload8 G dL_holds_270 ?_
                                    refine V_bipush G dL_holds_272 (by decide) ?_
                                    refine Q_wordv G hlt I R r rfl ⟨by omega, by omega⟩ ⟨by omega, by omega⟩ dL_holds_274 (by omega) (by omega) (by omega) (Nat.le_of_ble_eq_true rfl) (fun h R r => ?_)
                                    refine V_iconst G dL_holds_277 ?_
                                    refine V_icmpne G dL_holds_278 (tgt := 289) (by decide) ⟨by omega, by omega⟩ ⟨by omega, by omega⟩ (fun c_278 => ?_) (fun c_278 => ?_)
                                    ·
                                      exact j289 _ _ _ _ _ h _ _ R r (by omega) (by omega) (by omega) (by omega) (by omega) (by omega)
                                    ·
                                      refine V_iload10 G dL_holds_281 ?_
                                      refine V_iconst G dL_holds_283 ?_
                                      refine V_icmpeq G dL_holds_284 (tgt := 289) (by decide) ⟨by omega, by omega⟩ ⟨by omega, by omega⟩ (fun c_284 => ?_) (fun c_284 => ?_)
                                      ·
                                        exact j289 _ _ _ _ _ h _ _ R r (by omega) (by omega) (by omega) (by omega) (by omega) (by omega)
                                      · omega
                      ·
                        refine V_iconst G dL_holds_220 ?_
                        refine V_goto G dL_holds_221 (tgt := 225) (by decide) ?_
                        refine V_icmpne G dL_holds_225 (tgt := 287) (by decide) ⟨by omega, by omega⟩ ⟨by omega, by omega⟩ (fun c_225 => ?_) (fun c_225 => ?_)
                        · omega
                        ·
                          refine V_iload9 G dL_holds_228 ?_
                          refine V_iconst G dL_holds_230 ?_
                          refine V_icmpne G dL_holds_231 (tgt := 257) (by decide) ⟨by omega, by omega⟩ ⟨by omega, by omega⟩ (fun c_231 => ?_) (fun c_231 => ?_)
                          ·
                            refine V_iload11 G dL_holds_257 ?_
                            refine V_iconst G dL_holds_259 ?_
                            refine V_icmpgt G dL_holds_260 (tgt := 287) (by decide) ⟨by omega, by omega⟩ ⟨by omega, by omega⟩ (fun c_260 => ?_) (fun c_260 => ?_)
                            · omega
                            ·
                              refine V_iload11 G dL_holds_263 ?_
                              refine V_iconst G dL_holds_265 ?_
                              refine V_icmplt G dL_holds_266 (tgt := 287) (by decide) ⟨by omega, by omega⟩ ⟨by omega, by omega⟩ (fun c_266 => ?_) (fun c_266 => ?_)
                              · omega
                              ·
                                refine V_aload0 G dL_holds_269 ?_
                                refine V_iload8 G dL_holds_270 ?_
                                refine V_bipush G dL_holds_272 (by decide) ?_
                                refine Q_wordv G hlt I R r rfl ⟨by omega, by omega⟩ ⟨by omega, by omega⟩ dL_holds_274 (by omega) (by omega) (by omega) (Nat.le_of_ble_eq_true rfl) (fun h R r => ?_)
                                refine V_iconst G dL_holds_277 ?_
                                refine V_icmpne G dL_holds_278 (tgt := 289) (by decide) ⟨by omega, by omega⟩ ⟨by omega, by omega⟩ (fun c_278 => ?_) (fun c_278 => ?_)
                                ·
                                  exact j289 _ _ _ _ _ h _ _ R r (by omega) (by omega) (by omega) (by omega) (by omega) (by omega)
                                ·
                                  refine V_iload10 G dL_holds_281 ?_
                                  refine V_iconst G dL_holds_283 ?_
                                  refine V_icmpeq G dL_holds_284 (tgt := 289) (by decide) ⟨by omega, by omega⟩ ⟨by omega, by omega⟩ (fun c_284 => ?_) (fun c_284 => ?_)
                                  ·
                                    exact j289 _ _ _ _ _ h _ _ R r (by omega) (by omega) (by omega) (by omega) (by omega) (by omega)
                                  · omega
                          ·
                            refine V_aload0 G dL_holds_234 ?_
                            refine V_iload8 G dL_holds_235 ?_
                            refine V_iconst G dL_holds_237 ?_
                            refine Q_wordv G hlt I R r (wo3 hl) ⟨by omega, by omega⟩ ⟨by omega, by omega⟩ dL_holds_238 (by omega) (by omega) (by omega) (Nat.le_of_ble_eq_true rfl) (fun h R r => ?_)
                            refine V_bipush G dL_holds_241 (by decide) ?_
                            refine V_icmpne G dL_holds_243 (tgt := 287) (by decide) ⟨by omega, by omega⟩ ⟨by omega, by omega⟩ (fun c_243 => ?_) (fun c_243 => ?_)
                            · omega
                            ·
                              refine V_aload0 G dL_holds_246 ?_
                              refine V_iload8 G dL_holds_247 ?_
                              refine V_iconst G dL_holds_249 ?_
                              refine Q_wordv G hlt I R r wo0 ⟨by omega, by omega⟩ ⟨by omega, by omega⟩ dL_holds_250 (by omega) (by omega) (by omega) (Nat.le_of_ble_eq_true rfl) (fun h R r => ?_)
                              refine V_iconst G dL_holds_253 ?_
                              refine V_icmpne G dL_holds_254 (tgt := 287) (by decide) ⟨by omega, by omega⟩ ⟨by omega, by omega⟩ (fun c_254 => ?_) (fun c_254 => ?_)
                              · omega
                              ·
                                refine V_iload11 G dL_holds_257 ?_
                                refine V_iconst G dL_holds_259 ?_
                                refine V_icmpgt G dL_holds_260 (tgt := 287) (by decide) ⟨by omega, by omega⟩ ⟨by omega, by omega⟩ (fun c_260 => ?_) (fun c_260 => ?_)
                                · omega
                                ·
                                  refine V_iload11 G dL_holds_263 ?_
                                  refine V_iconst G dL_holds_265 ?_
                                  refine V_icmplt G dL_holds_266 (tgt := 287) (by decide) ⟨by omega, by omega⟩ ⟨by omega, by omega⟩ (fun c_266 => ?_) (fun c_266 => ?_)
                                  · omega
                                  ·
                                    refine V_aload0 G dL_holds_269 ?_
                                    refine V_iload8 G dL_holds_270 ?_
                                    refine V_bipush G dL_holds_272 (by decide) ?_
                                    refine Q_wordv G hlt I R r rfl ⟨by omega, by omega⟩ ⟨by omega, by omega⟩ dL_holds_274 (by omega) (by omega) (by omega) (Nat.le_of_ble_eq_true rfl) (fun h R r => ?_)
                                    refine V_iconst G dL_holds_277 ?_
                                    refine V_icmpne G dL_holds_278 (tgt := 289) (by decide) ⟨by omega, by omega⟩ ⟨by omega, by omega⟩ (fun c_278 => ?_) (fun c_278 => ?_)
                                    ·
                                      exact j289 _ _ _ _ _ h _ _ R r (by omega) (by omega) (by omega) (by omega) (by omega) (by omega)
                                    ·
                                      refine V_iload10 G dL_holds_281 ?_
                                      refine V_iconst G dL_holds_283 ?_
                                      refine V_icmpeq G dL_holds_284 (tgt := 289) (by decide) ⟨by omega, by omega⟩ ⟨by omega, by omega⟩ (fun c_284 => ?_) (fun c_284 => ?_)
                                      ·
                                        exact j289 _ _ _ _ _ h _ _ R r (by omega) (by omega) (by omega) (by omega) (by omega) (by omega)
                                      · omega
                    ·
                      refine V_iconst G dL_holds_205 ?_
                      refine V_goto G dL_holds_206 (tgt := 210) (by decide) ?_
                      refine V_aload0 G dL_holds_210 ?_
                      refine V_iload8 G dL_holds_211 ?_
                      refine V_iconst G dL_holds_213 ?_
                      refine Q_wordv G hlt I R r (wo2 hl) ⟨by omega, by omega⟩ ⟨by omega, by omega⟩ dL_holds_214 (by omega) (by omega) (by omega) (Nat.le_of_ble_eq_true rfl) (fun h R r => ?_)
                      refine V_ifne G dL_holds_217 (tgt := 224) (by decide) ⟨by omega, by omega⟩ (fun c_217 => ?_) (fun c_217 => ?_)
                      ·
                        refine V_iconst G dL_holds_224 ?_
                        refine V_icmpne G dL_holds_225 (tgt := 287) (by decide) ⟨by omega, by omega⟩ ⟨by omega, by omega⟩ (fun c_225 => ?_) (fun c_225 => ?_)
                        · omega
                        ·
                          refine V_iload9 G dL_holds_228 ?_
                          refine V_iconst G dL_holds_230 ?_
                          refine V_icmpne G dL_holds_231 (tgt := 257) (by decide) ⟨by omega, by omega⟩ ⟨by omega, by omega⟩ (fun c_231 => ?_) (fun c_231 => ?_)
                          ·
                            refine V_iload11 G dL_holds_257 ?_
                            refine V_iconst G dL_holds_259 ?_
                            refine V_icmpgt G dL_holds_260 (tgt := 287) (by decide) ⟨by omega, by omega⟩ ⟨by omega, by omega⟩ (fun c_260 => ?_) (fun c_260 => ?_)
                            · omega
                            ·
                              refine V_iload11 G dL_holds_263 ?_
                              refine V_iconst G dL_holds_265 ?_
                              refine V_icmplt G dL_holds_266 (tgt := 287) (by decide) ⟨by omega, by omega⟩ ⟨by omega, by omega⟩ (fun c_266 => ?_) (fun c_266 => ?_)
                              · omega
                              ·
                                refine V_aload0 G dL_holds_269 ?_
                                refine V_iload8 G dL_holds_270 ?_
                                refine V_bipush G dL_holds_272 (by decide) ?_
                                refine Q_wordv G hlt I R r rfl ⟨by omega, by omega⟩ ⟨by omega, by omega⟩ dL_holds_274 (by omega) (by omega) (by omega) (Nat.le_of_ble_eq_true rfl) (fun h R r => ?_)
                                refine V_iconst G dL_holds_277 ?_
                                refine V_icmpne G dL_holds_278 (tgt := 289) (by decide) ⟨by omega, by omega⟩ ⟨by omega, by omega⟩ (fun c_278 => ?_) (fun c_278 => ?_)
                                ·
                                  exact j289 _ _ _ _ _ h _ _ R r (by omega) (by omega) (by omega) (by omega) (by omega) (by omega)
                                ·
                                  refine V_iload10 G dL_holds_281 ?_
                                  refine V_iconst G dL_holds_283 ?_
                                  refine V_icmpeq G dL_holds_284 (tgt := 289) (by decide) ⟨by omega, by omega⟩ ⟨by omega, by omega⟩ (fun c_284 => ?_) (fun c_284 => ?_)
                                  ·
                                    exact j289 _ _ _ _ _ h _ _ R r (by omega) (by omega) (by omega) (by omega) (by omega) (by omega)
                                  · omega
                          ·
                            refine V_aload0 G dL_holds_234 ?_
                            refine V_iload8 G dL_holds_235 ?_
                            refine V_iconst G dL_holds_237 ?_
                            refine Q_wordv G hlt I R r (wo3 hl) ⟨by omega, by omega⟩ ⟨by omega, by omega⟩ dL_holds_238 (by omega) (by omega) (by omega) (Nat.le_of_ble_eq_true rfl) (fun h R r => ?_)
                            refine V_bipush G dL_holds_241 (by decide) ?_
                            refine V_icmpne G dL_holds_243 (tgt := 287) (by decide) ⟨by omega, by omega⟩ ⟨by omega, by omega⟩ (fun c_243 => ?_) (fun c_243 => ?_)
                            · omega
                            ·
                              refine V_aload0 G dL_holds_246 ?_
                              refine V_iload8 G dL_holds_247 ?_
                              refine V_iconst G dL_holds_249 ?_
                              refine Q_wordv G hlt I R r wo0 ⟨by omega, by omega⟩ ⟨by omega, by omega⟩ dL_holds_250 (by omega) (by omega) (by omega) (Nat.le_of_ble_eq_true rfl) (fun h R r => ?_)
                              refine V_iconst G dL_holds_253 ?_
                              refine V_icmpne G dL_holds_254 (tgt := 287) (by decide) ⟨by omega, by omega⟩ ⟨by omega, by omega⟩ (fun c_254 => ?_) (fun c_254 => ?_)
                              · omega
                              ·
                                refine V_iload11 G dL_holds_257 ?_
                                refine V_iconst G dL_holds_259 ?_
                                refine V_icmpgt G dL_holds_260 (tgt := 287) (by decide) ⟨by omega, by omega⟩ ⟨by omega, by omega⟩ (fun c_260 => ?_) (fun c_260 => ?_)
                                · omega
                                ·
                                  refine V_iload11 G dL_holds_263 ?_
                                  refine V_iconst G dL_holds_265 ?_
                                  refine V_icmplt G dL_holds_266 (tgt := 287) (by decide) ⟨by omega, by omega⟩ ⟨by omega, by omega⟩ (fun c_266 => ?_) (fun c_266 => ?_)
                                  · omega
                                  ·
                                    refine V_aload0 G dL_holds_269 ?_
                                    refine V_iload8 G dL_holds_270 ?_
                                    refine V_bipush G dL_holds_272 (by decide) ?_
                                    refine Q_wordv G hlt I R r rfl ⟨by omega, by omega⟩ ⟨by omega, by omega⟩ dL_holds_274 (by omega) (by omega) (by omega) (Nat.le_of_ble_eq_true rfl) (fun h R r => ?_)
                                    refine V_iconst G dL_holds_277 ?_
                                    refine V_icmpne G dL_holds_278 (tgt := 289) (by decide) ⟨by omega, by omega⟩ ⟨by omega, by omega⟩ (fun c_278 => ?_) (fun c_278 => ?_)
                                    ·
                                      exact j289 _ _ _ _ _ h _ _ R r (by omega) (by omega) (by omega) (by omega) (by omega) (by omega)
                                    ·
                                      refine V_iload10 G dL_holds_281 ?_
                                      refine V_iconst G dL_holds_283 ?_
                                      refine V_icmpeq G dL_holds_284 (tgt := 289) (by decide) ⟨by omega, by omega⟩ ⟨by omega, by omega⟩ (fun c_284 => ?_) (fun c_284 => ?_)
                                      ·
                                        exact j289 _ _ _ _ _ h _ _ R r (by omega) (by omega) (by omega) (by omega) (by omega) (by omega)
                                      · omega
                      ·
                        refine V_iconst G dL_holds_220 ?_
                        refine V_goto G dL_holds_221 (tgt := 225) (by decide) ?_
                        refine V_icmpne G dL_holds_225 (tgt := 287) (by decide) ⟨by omega, by omega⟩ ⟨by omega, by omega⟩ (fun c_225 => ?_) (fun c_225 => ?_)
                        · omega
                        ·
                          refine V_iload9 G dL_holds_228 ?_
                          refine V_iconst G dL_holds_230 ?_
                          refine V_icmpne G dL_holds_231 (tgt := 257) (by decide) ⟨by omega, by omega⟩ ⟨by omega, by omega⟩ (fun c_231 => ?_) (fun c_231 => ?_)
                          ·
                            refine V_iload11 G dL_holds_257 ?_
                            refine V_iconst G dL_holds_259 ?_
                            refine V_icmpgt G dL_holds_260 (tgt := 287) (by decide) ⟨by omega, by omega⟩ ⟨by omega, by omega⟩ (fun c_260 => ?_) (fun c_260 => ?_)
                            · omega
                            ·
                              refine V_iload11 G dL_holds_263 ?_
                              refine V_iconst G dL_holds_265 ?_
                              refine V_icmplt G dL_holds_266 (tgt := 287) (by decide) ⟨by omega, by omega⟩ ⟨by omega, by omega⟩ (fun c_266 => ?_) (fun c_266 => ?_)
                              · omega
                              ·
                                refine V_aload0 G dL_holds_269 ?_
                                refine V_iload8 G dL_holds_270 ?_
                                refine V_bipush G dL_holds_272 (by decide) ?_
                                refine Q_wordv G hlt I R r rfl ⟨by omega, by omega⟩ ⟨by omega, by omega⟩ dL_holds_274 (by omega) (by omega) (by omega) (Nat.le_of_ble_eq_true rfl) (fun h R r => ?_)
                                refine V_iconst G dL_holds_277 ?_
                                refine V_icmpne G dL_holds_278 (tgt := 289) (by decide) ⟨by omega, by omega⟩ ⟨by omega, by omega⟩ (fun c_278 => ?_) (fun c_278 => ?_)
                                ·
                                  exact j289 _ _ _ _ _ h _ _ R r (by omega) (by omega) (by omega) (by omega) (by omega) (by omega)
                                ·
                                  refine V_iload10 G dL_holds_281 ?_
                                  refine V_iconst G dL_holds_283 ?_
                                  refine V_icmpeq G dL_holds_284 (tgt := 289) (by decide) ⟨by omega, by omega⟩ ⟨by omega, by omega⟩ (fun c_284 => ?_) (fun c_284 => ?_)
                                  ·
                                    exact j289 _ _ _ _ _ h _ _ R r (by omega) (by omega) (by omega) (by omega) (by omega) (by omega)
                                  · omega
                          ·
                            refine V_aload0 G dL_holds_234 ?_
                            refine V_iload8 G dL_holds_235 ?_
                            refine V_iconst G dL_holds_237 ?_
                            refine Q_wordv G hlt I R r (wo3 hl) ⟨by omega, by omega⟩ ⟨by omega, by omega⟩ dL_holds_238 (by omega) (by omega) (by omega) (Nat.le_of_ble_eq_true rfl) (fun h R r => ?_)
                            refine V_bipush G dL_holds_241 (by decide) ?_
                            refine V_icmpne G dL_holds_243 (tgt := 287) (by decide) ⟨by omega, by omega⟩ ⟨by omega, by omega⟩ (fun c_243 => ?_) (fun c_243 => ?_)
                            · omega
                            ·
                              refine V_aload0 G dL_holds_246 ?_
                              refine V_iload8 G dL_holds_247 ?_
                              refine V_iconst G dL_holds_249 ?_
                              refine Q_wordv G hlt I R r wo0 ⟨by omega, by omega⟩ ⟨by omega, by omega⟩ dL_holds_250 (by omega) (by omega) (by omega) (Nat.le_of_ble_eq_true rfl) (fun h R r => ?_)
                              refine V_iconst G dL_holds_253 ?_
                              refine V_icmpne G dL_holds_254 (tgt := 287) (by decide) ⟨by omega, by omega⟩ ⟨by omega, by omega⟩ (fun c_254 => ?_) (fun c_254 => ?_)
                              · omega
                              ·
                                refine V_iload11 G dL_holds_257 ?_
                                refine V_iconst G dL_holds_259 ?_
                                refine V_icmpgt G dL_holds_260 (tgt := 287) (by decide) ⟨by omega, by omega⟩ ⟨by omega, by omega⟩ (fun c_260 => ?_) (fun c_260 => ?_)
                                · omega
                                ·
                                  refine V_iload11 G dL_holds_263 ?_
                                  refine V_iconst G dL_holds_265 ?_
                                  refine V_icmplt G dL_holds_266 (tgt := 287) (by decide) ⟨by omega, by omega⟩ ⟨by omega, by omega⟩ (fun c_266 => ?_) (fun c_266 => ?_)
                                  · omega
                                  ·
                                    refine V_aload0 G dL_holds_269 ?_
                                    refine V_iload8 G dL_holds_270 ?_
                                    refine V_bipush G dL_holds_272 (by decide) ?_
                                    refine Q_wordv G hlt I R r rfl ⟨by omega, by omega⟩ ⟨by omega, by omega⟩ dL_holds_274 (by omega) (by omega) (by omega) (Nat.le_of_ble_eq_true rfl) (fun h R r => ?_)
                                    refine V_iconst G dL_holds_277 ?_
                                    refine V_icmpne G dL_holds_278 (tgt := 289) (by decide) ⟨by omega, by omega⟩ ⟨by omega, by omega⟩ (fun c_278 => ?_) (fun c_278 => ?_)
                                    ·
                                      exact j289 _ _ _ _ _ h _ _ R r (by omega) (by omega) (by omega) (by omega) (by omega) (by omega)
                                    ·
                                      refine V_iload10 G dL_holds_281 ?_
                                      refine V_iconst G dL_holds_283 ?_
                                      refine V_icmpeq G dL_holds_284 (tgt := 289) (by decide) ⟨by omega, by omega⟩ ⟨by omega, by omega⟩ (fun c_284 => ?_) (fun c_284 => ?_)
                                      ·
                                        exact j289 _ _ _ _ _ h _ _ R r (by omega) (by omega) (by omega) (by omega) (by omega) (by omega)
                                      · omega
              ·
                refine V_iconst G dL_holds_159 ?_
                refine V_goto G dL_holds_160 (tgt := 178) (by decide) ?_
                refine V_istore11 G dL_holds_178 rfl ?_
                refine V_iload9 G dL_holds_180 ?_
                refine V_iload8 G dL_holds_182 ?_
                refine V_icmpeq G dL_holds_184 (tgt := 287) (by decide) ⟨by omega, by omega⟩ ⟨by omega, by omega⟩ (fun c_184 => ?_) (fun c_184 => ?_)
                ·
                  omega
                ·
                  refine V_aload0 G dL_holds_187 ?_
                  refine V_iload8 G dL_holds_188 ?_
                  refine V_iconst G dL_holds_190 ?_
                  refine Q_wordv G hlt I R r (wo5 hl) ⟨by omega, by omega⟩ ⟨by omega, by omega⟩ dL_holds_191 (by omega) (by omega) (by omega) (Nat.le_of_ble_eq_true rfl) (fun h R r => ?_)
                  refine V_iload8 G dL_holds_194 ?_
                  refine V_icmpne G dL_holds_196 (tgt := 287) (by decide) ⟨by omega, by omega⟩ ⟨by omega, by omega⟩ (fun c_196 => ?_) (fun c_196 => ?_)
                  · omega
                  ·
                    refine V_iload9 G dL_holds_199 ?_
                    refine V_iconst G dL_holds_201 ?_
                    refine V_icmpne G dL_holds_202 (tgt := 209) (by decide) ⟨by omega, by omega⟩ ⟨by omega, by omega⟩ (fun c_202 => ?_) (fun c_202 => ?_)
                    ·
                      refine V_iconst G dL_holds_209 ?_
                      refine V_aload0 G dL_holds_210 ?_
                      refine V_iload8 G dL_holds_211 ?_
                      refine V_iconst G dL_holds_213 ?_
                      refine Q_wordv G hlt I R r (wo2 hl) ⟨by omega, by omega⟩ ⟨by omega, by omega⟩ dL_holds_214 (by omega) (by omega) (by omega) (Nat.le_of_ble_eq_true rfl) (fun h R r => ?_)
                      refine V_ifne G dL_holds_217 (tgt := 224) (by decide) ⟨by omega, by omega⟩ (fun c_217 => ?_) (fun c_217 => ?_)
                      ·
                        refine V_iconst G dL_holds_224 ?_
                        refine V_icmpne G dL_holds_225 (tgt := 287) (by decide) ⟨by omega, by omega⟩ ⟨by omega, by omega⟩ (fun c_225 => ?_) (fun c_225 => ?_)
                        · omega
                        ·
                          refine V_iload9 G dL_holds_228 ?_
                          refine V_iconst G dL_holds_230 ?_
                          refine V_icmpne G dL_holds_231 (tgt := 257) (by decide) ⟨by omega, by omega⟩ ⟨by omega, by omega⟩ (fun c_231 => ?_) (fun c_231 => ?_)
                          ·
                            refine V_iload11 G dL_holds_257 ?_
                            refine V_iconst G dL_holds_259 ?_
                            refine V_icmpgt G dL_holds_260 (tgt := 287) (by decide) ⟨by omega, by omega⟩ ⟨by omega, by omega⟩ (fun c_260 => ?_) (fun c_260 => ?_)
                            · omega
                            ·
                              refine V_iload11 G dL_holds_263 ?_
                              refine V_iconst G dL_holds_265 ?_
                              refine V_icmplt G dL_holds_266 (tgt := 287) (by decide) ⟨by omega, by omega⟩ ⟨by omega, by omega⟩ (fun c_266 => ?_) (fun c_266 => ?_)
                              · omega
                              ·
                                refine V_aload0 G dL_holds_269 ?_
                                refine V_iload8 G dL_holds_270 ?_
                                refine V_bipush G dL_holds_272 (by decide) ?_
                                refine Q_wordv G hlt I R r rfl ⟨by omega, by omega⟩ ⟨by omega, by omega⟩ dL_holds_274 (by omega) (by omega) (by omega) (Nat.le_of_ble_eq_true rfl) (fun h R r => ?_)
                                refine V_iconst G dL_holds_277 ?_
                                refine V_icmpne G dL_holds_278 (tgt := 289) (by decide) ⟨by omega, by omega⟩ ⟨by omega, by omega⟩ (fun c_278 => ?_) (fun c_278 => ?_)
                                ·
                                  exact j289 _ _ _ _ _ h _ _ R r (by omega) (by omega) (by omega) (by omega) (by omega) (by omega)
                                ·
                                  refine V_iload10 G dL_holds_281 ?_
                                  refine V_iconst G dL_holds_283 ?_
                                  refine V_icmpeq G dL_holds_284 (tgt := 289) (by decide) ⟨by omega, by omega⟩ ⟨by omega, by omega⟩ (fun c_284 => ?_) (fun c_284 => ?_)
                                  ·
                                    exact j289 _ _ _ _ _ h _ _ R r (by omega) (by omega) (by omega) (by omega) (by omega) (by omega)
                                  · omega
                          ·
                            refine V_aload0 G dL_holds_234 ?_
                            refine V_iload8 G dL_holds_235 ?_
                            refine V_iconst G dL_holds_237 ?_
                            refine Q_wordv G hlt I R r (wo3 hl) ⟨by omega, by omega⟩ ⟨by omega, by omega⟩ dL_holds_238 (by omega) (by omega) (by omega) (Nat.le_of_ble_eq_true rfl) (fun h R r => ?_)
                            refine V_bipush G dL_holds_241 (by decide) ?_
                            refine V_icmpne G dL_holds_243 (tgt := 287) (by decide) ⟨by omega, by omega⟩ ⟨by omega, by omega⟩ (fun c_243 => ?_) (fun c_243 => ?_)
                            · omega
                            ·
                              refine V_aload0 G dL_holds_246 ?_
                              refine V_iload8 G dL_holds_247 ?_
                              refine V_iconst G dL_holds_249 ?_
                              refine Q_wordv G hlt I R r wo0 ⟨by omega, by omega⟩ ⟨by omega, by omega⟩ dL_holds_250 (by omega) (by omega) (by omega) (Nat.le_of_ble_eq_true rfl) (fun h R r => ?_)
                              refine V_iconst G dL_holds_253 ?_
                              refine V_icmpne G dL_holds_254 (tgt := 287) (by decide) ⟨by omega, by omega⟩ ⟨by omega, by omega⟩ (fun c_254 => ?_) (fun c_254 => ?_)
                              · omega
                              ·
                                refine V_iload11 G dL_holds_257 ?_
                                refine V_iconst G dL_holds_259 ?_
                                refine V_icmpgt G dL_holds_260 (tgt := 287) (by decide) ⟨by omega, by omega⟩ ⟨by omega, by omega⟩ (fun c_260 => ?_) (fun c_260 => ?_)
                                · omega
                                ·
                                  refine V_iload11 G dL_holds_263 ?_
                                  refine V_iconst G dL_holds_265 ?_
                                  refine V_icmplt G dL_holds_266 (tgt := 287) (by decide) ⟨by omega, by omega⟩ ⟨by omega, by omega⟩ (fun c_266 => ?_) (fun c_266 => ?_)
                                  · omega
                                  ·
                                    refine V_aload0 G dL_holds_269 ?_
                                    refine V_iload8 G dL_holds_270 ?_
                                    refine V_bipush G dL_holds_272 (by decide) ?_
                                    refine Q_wordv G hlt I R r rfl ⟨by omega, by omega⟩ ⟨by omega, by omega⟩ dL_holds_274 (by omega) (by omega) (by omega) (Nat.le_of_ble_eq_true rfl) (fun h R r => ?_)
                                    refine V_iconst G dL_holds_277 ?_
                                    refine V_icmpne G dL_holds_278 (tgt := 289) (by decide) ⟨by omega, by omega⟩ ⟨by omega, by omega⟩ (fun c_278 => ?_) (fun c_278 => ?_)
                                    ·
                                      exact j289 _ _ _ _ _ h _ _ R r (by omega) (by omega) (by omega) (by omega) (by omega) (by omega)
                                    ·
                                      refine V_iload10 G dL_holds_281 ?_
                                      refine V_iconst G dL_holds_283 ?_
                                      refine V_icmpeq G dL_holds_284 (tgt := 289) (by decide) ⟨by omega, by omega⟩ ⟨by omega, by omega⟩ (fun c_284 => ?_) (fun c_284 => ?_)
                                      ·
                                        exact j289 _ _ _ _ _ h _ _ R r (by omega) (by omega) (by omega) (by omega) (by omega) (by omega)
                                      · omega
                      ·
                        refine V_iconst G dL_holds_220 ?_
                        refine V_goto G dL_holds_221 (tgt := 225) (by decide) ?_
                        refine V_icmpne G dL_holds_225 (tgt := 287) (by decide) ⟨by omega, by omega⟩ ⟨by omega, by omega⟩ (fun c_225 => ?_) (fun c_225 => ?_)
                        · omega
                        ·
                          refine V_iload9 G dL_holds_228 ?_
                          refine V_iconst G dL_holds_230 ?_
                          refine V_icmpne G dL_holds_231 (tgt := 257) (by decide) ⟨by omega, by omega⟩ ⟨by omega, by omega⟩ (fun c_231 => ?_) (fun c_231 => ?_)
                          ·
                            refine V_iload11 G dL_holds_257 ?_
                            refine V_iconst G dL_holds_259 ?_
                            refine V_icmpgt G dL_holds_260 (tgt := 287) (by decide) ⟨by omega, by omega⟩ ⟨by omega, by omega⟩ (fun c_260 => ?_) (fun c_260 => ?_)
                            · omega
                            ·
                              refine V_iload11 G dL_holds_263 ?_
                              refine V_iconst G dL_holds_265 ?_
                              refine V_icmplt G dL_holds_266 (tgt := 287) (by decide) ⟨by omega, by omega⟩ ⟨by omega, by omega⟩ (fun c_266 => ?_) (fun c_266 => ?_)
                              · omega
                              ·
                                refine V_aload0 G dL_holds_269 ?_
                                refine V_iload8 G dL_holds_270 ?_
                                refine V_bipush G dL_holds_272 (by decide) ?_
                                refine Q_wordv G hlt I R r rfl ⟨by omega, by omega⟩ ⟨by omega, by omega⟩ dL_holds_274 (by omega) (by omega) (by omega) (Nat.le_of_ble_eq_true rfl) (fun h R r => ?_)
                                refine V_iconst G dL_holds_277 ?_
                                refine V_icmpne G dL_holds_278 (tgt := 289) (by decide) ⟨by omega, by omega⟩ ⟨by omega, by omega⟩ (fun c_278 => ?_) (fun c_278 => ?_)
                                ·
                                  exact j289 _ _ _ _ _ h _ _ R r (by omega) (by omega) (by omega) (by omega) (by omega) (by omega)
                                ·
                                  refine V_iload10 G dL_holds_281 ?_
                                  refine V_iconst G dL_holds_283 ?_
                                  refine V_icmpeq G dL_holds_284 (tgt := 289) (by decide) ⟨by omega, by omega⟩ ⟨by omega, by omega⟩ (fun c_284 => ?_) (fun c_284 => ?_)
                                  ·
                                    exact j289 _ _ _ _ _ h _ _ R r (by omega) (by omega) (by omega) (by omega) (by omega) (by omega)
                                  · omega
                          ·
                            refine V_aload0 G dL_holds_234 ?_
                            refine V_iload8 G dL_holds_235 ?_
                            refine V_iconst G dL_holds_237 ?_
                            refine Q_wordv G hlt I R r (wo3 hl) ⟨by omega, by omega⟩ ⟨by omega, by omega⟩ dL_holds_238 (by omega) (by omega) (by omega) (Nat.le_of_ble_eq_true rfl) (fun h R r => ?_)
                            refine V_bipush G dL_holds_241 (by decide) ?_
                            refine V_icmpne G dL_holds_243 (tgt := 287) (by decide) ⟨by omega, by omega⟩ ⟨by omega, by omega⟩ (fun c_243 => ?_) (fun c_243 => ?_)
                            · omega
                            ·
                              refine V_aload0 G dL_holds_246 ?_
                              refine V_iload8 G dL_holds_247 ?_
                              refine V_iconst G dL_holds_249 ?_
                              refine Q_wordv G hlt I R r wo0 ⟨by omega, by omega⟩ ⟨by omega, by omega⟩ dL_holds_250 (by omega) (by omega) (by omega) (Nat.le_of_ble_eq_true rfl) (fun h R r => ?_)
                              refine V_iconst G dL_holds_253 ?_
                              refine V_icmpne G dL_holds_254 (tgt := 287) (by decide) ⟨by omega, by omega⟩ ⟨by omega, by omega⟩ (fun c_254 => ?_) (fun c_254 => ?_)
                              · omega
                              ·
                                refine V_iload11 G dL_holds_257 ?_
                                refine V_iconst G dL_holds_259 ?_
                                refine V_icmpgt G dL_holds_260 (tgt := 287) (by decide) ⟨by omega, by omega⟩ ⟨by omega, by omega⟩ (fun c_260 => ?_) (fun c_260 => ?_)
                                · omega
                                ·
                                  refine V_iload11 G dL_holds_263 ?_
                                  refine V_iconst G dL_holds_265 ?_
                                  refine V_icmplt G dL_holds_266 (tgt := 287) (by decide) ⟨by omega, by omega⟩ ⟨by omega, by omega⟩ (fun c_266 => ?_) (fun c_266 => ?_)
                                  · omega
                                  ·
                                    refine V_aload0 G dL_holds_269 ?_
                                    refine V_iload8 G dL_holds_270 ?_
                                    refine V_bipush G dL_holds_272 (by decide) ?_
                                    refine Q_wordv G hlt I R r rfl ⟨by omega, by omega⟩ ⟨by omega, by omega⟩ dL_holds_274 (by omega) (by omega) (by omega) (Nat.le_of_ble_eq_true rfl) (fun h R r => ?_)
                                    refine V_iconst G dL_holds_277 ?_
                                    refine V_icmpne G dL_holds_278 (tgt := 289) (by decide) ⟨by omega, by omega⟩ ⟨by omega, by omega⟩ (fun c_278 => ?_) (fun c_278 => ?_)
                                    ·
                                      exact j289 _ _ _ _ _ h _ _ R r (by omega) (by omega) (by omega) (by omega) (by omega) (by omega)
                                    ·
                                      refine V_iload10 G dL_holds_281 ?_
                                      refine V_iconst G dL_holds_283 ?_
                                      refine V_icmpeq G dL_holds_284 (tgt := 289) (by decide) ⟨by omega, by omega⟩ ⟨by omega, by omega⟩ (fun c_284 => ?_) (fun c_284 => ?_)
                                      ·
                                        exact j289 _ _ _ _ _ h _ _ R r (by omega) (by omega) (by omega) (by omega) (by omega) (by omega)
                                      · omega
                    ·
                      refine V_iconst G dL_holds_205 ?_
                      refine V_goto G dL_holds_206 (tgt := 210) (by decide) ?_
                      refine V_aload0 G dL_holds_210 ?_
                      refine V_iload8 G dL_holds_211 ?_
                      refine V_iconst G dL_holds_213 ?_
                      refine Q_wordv G hlt I R r (wo2 hl) ⟨by omega, by omega⟩ ⟨by omega, by omega⟩ dL_holds_214 (by omega) (by omega) (by omega) (Nat.le_of_ble_eq_true rfl) (fun h R r => ?_)
                      refine V_ifne G dL_holds_217 (tgt := 224) (by decide) ⟨by omega, by omega⟩ (fun c_217 => ?_) (fun c_217 => ?_)
                      ·
                        refine V_iconst G dL_holds_224 ?_
                        refine V_icmpne G dL_holds_225 (tgt := 287) (by decide) ⟨by omega, by omega⟩ ⟨by omega, by omega⟩ (fun c_225 => ?_) (fun c_225 => ?_)
                        · omega
                        ·
                          refine V_iload9 G dL_holds_228 ?_
                          refine V_iconst G dL_holds_230 ?_
                          refine V_icmpne G dL_holds_231 (tgt := 257) (by decide) ⟨by omega, by omega⟩ ⟨by omega, by omega⟩ (fun c_231 => ?_) (fun c_231 => ?_)
                          ·
                            refine V_iload11 G dL_holds_257 ?_
                            refine V_iconst G dL_holds_259 ?_
                            refine V_icmpgt G dL_holds_260 (tgt := 287) (by decide) ⟨by omega, by omega⟩ ⟨by omega, by omega⟩ (fun c_260 => ?_) (fun c_260 => ?_)
                            · omega
                            ·
                              refine V_iload11 G dL_holds_263 ?_
                              refine V_iconst G dL_holds_265 ?_
                              refine V_icmplt G dL_holds_266 (tgt := 287) (by decide) ⟨by omega, by omega⟩ ⟨by omega, by omega⟩ (fun c_266 => ?_) (fun c_266 => ?_)
                              · omega
                              ·
                                refine V_aload0 G dL_holds_269 ?_
                                refine V_iload8 G dL_holds_270 ?_
                                refine V_bipush G dL_holds_272 (by decide) ?_
                                refine Q_wordv G hlt I R r rfl ⟨by omega, by omega⟩ ⟨by omega, by omega⟩ dL_holds_274 (by omega) (by omega) (by omega) (Nat.le_of_ble_eq_true rfl) (fun h R r => ?_)
                                refine V_iconst G dL_holds_277 ?_
                                refine V_icmpne G dL_holds_278 (tgt := 289) (by decide) ⟨by omega, by omega⟩ ⟨by omega, by omega⟩ (fun c_278 => ?_) (fun c_278 => ?_)
                                ·
                                  exact j289 _ _ _ _ _ h _ _ R r (by omega) (by omega) (by omega) (by omega) (by omega) (by omega)
                                ·
                                  refine V_iload10 G dL_holds_281 ?_
                                  refine V_iconst G dL_holds_283 ?_
                                  refine V_icmpeq G dL_holds_284 (tgt := 289) (by decide) ⟨by omega, by omega⟩ ⟨by omega, by omega⟩ (fun c_284 => ?_) (fun c_284 => ?_)
                                  ·
                                    exact j289 _ _ _ _ _ h _ _ R r (by omega) (by omega) (by omega) (by omega) (by omega) (by omega)
                                  · omega
                          ·
                            refine V_aload0 G dL_holds_234 ?_
                            refine V_iload8 G dL_holds_235 ?_
                            refine V_iconst G dL_holds_237 ?_
                            refine Q_wordv G hlt I R r (wo3 hl) ⟨by omega, by omega⟩ ⟨by omega, by omega⟩ dL_holds_238 (by omega) (by omega) (by omega) (Nat.le_of_ble_eq_true rfl) (fun h R r => ?_)
                            refine V_bipush G dL_holds_241 (by decide) ?_
                            refine V_icmpne G dL_holds_243 (tgt := 287) (by decide) ⟨by omega, by omega⟩ ⟨by omega, by omega⟩ (fun c_243 => ?_) (fun c_243 => ?_)
                            · omega
                            ·
                              refine V_aload0 G dL_holds_246 ?_
                              refine V_iload8 G dL_holds_247 ?_
                              refine V_iconst G dL_holds_249 ?_
                              refine Q_wordv G hlt I R r wo0 ⟨by omega, by omega⟩ ⟨by omega, by omega⟩ dL_holds_250 (by omega) (by omega) (by omega) (Nat.le_of_ble_eq_true rfl) (fun h R r => ?_)
                              refine V_iconst G dL_holds_253 ?_
                              refine V_icmpne G dL_holds_254 (tgt := 287) (by decide) ⟨by omega, by omega⟩ ⟨by omega, by omega⟩ (fun c_254 => ?_) (fun c_254 => ?_)
                              · omega
                              ·
                                refine V_iload11 G dL_holds_257 ?_
                                refine V_iconst G dL_holds_259 ?_
                                refine V_icmpgt G dL_holds_260 (tgt := 287) (by decide) ⟨by omega, by omega⟩ ⟨by omega, by omega⟩ (fun c_260 => ?_) (fun c_260 => ?_)
                                · omega
                                ·
                                  refine V_iload11 G dL_holds_263 ?_
                                  refine V_iconst G dL_holds_265 ?_
                                  refine V_icmplt G dL_holds_266 (tgt := 287) (by decide) ⟨by omega, by omega⟩ ⟨by omega, by omega⟩ (fun c_266 => ?_) (fun c_266 => ?_)
                                  · omega
                                  ·
                                    refine V_aload0 G dL_holds_269 ?_
                                    refine V_iload8 G dL_holds_270 ?_
                                    refine V_bipush G dL_holds_272 (by decide) ?_
                                    refine Q_wordv G hlt I R r rfl ⟨by omega, by omega⟩ ⟨by omega, by omega⟩ dL_holds_274 (by omega) (by omega) (by omega) (Nat.le_of_ble_eq_true rfl) (fun h R r => ?_)
                                    refine V_iconst G dL_holds_277 ?_
                                    refine V_icmpne G dL_holds_278 (tgt := 289) (by decide) ⟨by omega, by omega⟩ ⟨by omega, by omega⟩ (fun c_278 => ?_) (fun c_278 => ?_)
                                    ·
                                      exact j289 _ _ _ _ _ h _ _ R r (by omega) (by omega) (by omega) (by omega) (by omega) (by omega)
                                    ·
                                      refine V_iload10 G dL_holds_281 ?_
                                      refine V_iconst G dL_holds_283 ?_
                                      refine V_icmpeq G dL_holds_284 (tgt := 289) (by decide) ⟨by omega, by omega⟩ ⟨by omega, by omega⟩ (fun c_284 => ?_) (fun c_284 => ?_)
                                      ·
                                        exact j289 _ _ _ _ _ h _ _ R r (by omega) (by omega) (by omega) (by omega) (by omega) (by omega)
                                      · omega
                      ·
                        refine V_iconst G dL_holds_220 ?_
                        refine V_goto G dL_holds_221 (tgt := 225) (by decide) ?_
                        refine V_icmpne G dL_holds_225 (tgt := 287) (by decide) ⟨by omega, by omega⟩ ⟨by omega, by omega⟩ (fun c_225 => ?_) (fun c_225 => ?_)
                        · omega
                        ·
                          refine V_iload9 G dL_holds_228 ?_
                          refine V_iconst G dL_holds_230 ?_
                          refine V_icmpne G dL_holds_231 (tgt := 257) (by decide) ⟨by omega, by omega⟩ ⟨by omega, by omega⟩ (fun c_231 => ?_) (fun c_231 => ?_)
                          ·
                            refine V_iload11 G dL_holds_257 ?_
                            refine V_iconst G dL_holds_259 ?_
                            refine V_icmpgt G dL_holds_260 (tgt := 287) (by decide) ⟨by omega, by omega⟩ ⟨by omega, by omega⟩ (fun c_260 => ?_) (fun c_260 => ?_)
                            · omega
                            ·
                              refine V_iload11 G dL_holds_263 ?_
                              refine V_iconst G dL_holds_265 ?_
                              refine V_icmplt G dL_holds_266 (tgt := 287) (by decide) ⟨by omega, by omega⟩ ⟨by omega, by omega⟩ (fun c_266 => ?_) (fun c_266 => ?_)
                              · omega
                              ·
                                refine V_aload0 G dL_holds_269 ?_
                                refine V_iload8 G dL_holds_270 ?_
                                refine V_bipush G dL_holds_272 (by decide) ?_
                                refine Q_wordv G hlt I R r rfl ⟨by omega, by omega⟩ ⟨by omega, by omega⟩ dL_holds_274 (by omega) (by omega) (by omega) (Nat.le_of_ble_eq_true rfl) (fun h R r => ?_)
                                refine V_iconst G dL_holds_277 ?_
                                refine V_icmpne G dL_holds_278 (tgt := 289) (by decide) ⟨by omega, by omega⟩ ⟨by omega, by omega⟩ (fun c_278 => ?_) (fun c_278 => ?_)
                                ·
                                  exact j289 _ _ _ _ _ h _ _ R r (by omega) (by omega) (by omega) (by omega) (by omega) (by omega)
                                ·
                                  refine V_iload10 G dL_holds_281 ?_
                                  refine V_iconst G dL_holds_283 ?_
                                  refine V_icmpeq G dL_holds_284 (tgt := 289) (by decide) ⟨by omega, by omega⟩ ⟨by omega, by omega⟩ (fun c_284 => ?_) (fun c_284 => ?_)
                                  ·
                                    exact j289 _ _ _ _ _ h _ _ R r (by omega) (by omega) (by omega) (by omega) (by omega) (by omega)
                                  · omega
                          ·
                            refine V_aload0 G dL_holds_234 ?_
                            refine V_iload8 G dL_holds_235 ?_
                            refine V_iconst G dL_holds_237 ?_
                            refine Q_wordv G hlt I R r (wo3 hl) ⟨by omega, by omega⟩ ⟨by omega, by omega⟩ dL_holds_238 (by omega) (by omega) (by omega) (Nat.le_of_ble_eq_true rfl) (fun h R r => ?_)
                            refine V_bipush G dL_holds_241 (by decide) ?_
                            refine V_icmpne G dL_holds_243 (tgt := 287) (by decide) ⟨by omega, by omega⟩ ⟨by omega, by omega⟩ (fun c_243 => ?_) (fun c_243 => ?_)
                            · omega
                            ·
                              refine V_aload0 G dL_holds_246 ?_
                              refine V_iload8 G dL_holds_247 ?_
                              refine V_iconst G dL_holds_249 ?_
                              refine Q_wordv G hlt I R r wo0 ⟨by omega, by omega⟩ ⟨by omega, by omega⟩ dL_holds_250 (by omega) (by omega) (by omega) (Nat.le_of_ble_eq_true rfl) (fun h R r => ?_)
                              refine V_iconst G dL_holds_253 ?_
                              refine V_icmpne G dL_holds_254 (tgt := 287) (by decide) ⟨by omega, by omega⟩ ⟨by omega, by omega⟩ (fun c_254 => ?_) (fun c_254 => ?_)
                              · omega
                              ·
                                refine V_iload11 G dL_holds_257 ?_
                                refine V_iconst G dL_holds_259 ?_
                                refine V_icmpgt G dL_holds_260 (tgt := 287) (by decide) ⟨by omega, by omega⟩ ⟨by omega, by omega⟩ (fun c_260 => ?_) (fun c_260 => ?_)
                                · omega
                                ·
                                  refine V_iload11 G dL_holds_263 ?_
                                  refine V_iconst G dL_holds_265 ?_
                                  refine V_icmplt G dL_holds_266 (tgt := 287) (by decide) ⟨by omega, by omega⟩ ⟨by omega, by omega⟩ (fun c_266 => ?_) (fun c_266 => ?_)
                                  · omega
                                  ·
                                    refine V_aload0 G dL_holds_269 ?_
                                    refine V_iload8 G dL_holds_270 ?_
                                    refine V_bipush G dL_holds_272 (by decide) ?_
                                    refine Q_wordv G hlt I R r rfl ⟨by omega, by omega⟩ ⟨by omega, by omega⟩ dL_holds_274 (by omega) (by omega) (by omega) (Nat.le_of_ble_eq_true rfl) (fun h R r => ?_)
                                    refine V_iconst G dL_holds_277 ?_
                                    refine V_icmpne G dL_holds_278 (tgt := 289) (by decide) ⟨by omega, by omega⟩ ⟨by omega, by omega⟩ (fun c_278 => ?_) (fun c_278 => ?_)
                                    ·
                                      exact j289 _ _ _ _ _ h _ _ R r (by omega) (by omega) (by omega) (by omega) (by omega) (by omega)
                                    ·
                                      refine V_iload10 G dL_holds_281 ?_
                                      refine V_iconst G dL_holds_283 ?_
                                      refine V_icmpeq G dL_holds_284 (tgt := 289) (by decide) ⟨by omega, by omega⟩ ⟨by omega, by omega⟩ (fun c_284 => ?_) (fun c_284 => ?_)
                                      ·
                                        exact j289 _ _ _ _ _ h _ _ R r (by omega) (by omega) (by omega) (by omega) (by omega) (by omega)
                                      · omega
          · omega
        have j67 : ∀ (z : Int) (h : Hp) (k n : Nat), z = fS1 g.1 w → RepC g h → Rg h → k ≤ 12 + 39 * w → n ≤ 72 + 234 * w → V X k n 67 [some (.ref 0), some (.int (Int32.ofInt (nS g.1))), some (.int (Int32.ofInt ((lfS g.1).length : Int))), some (.int (Int32.ofInt r3)), some (.int (Int32.ofInt h4)), some (.int (Int32.ofInt s5)), some (.int (Int32.ofInt f6)), some (.int (Int32.ofInt u7)), some (.int (Int32.ofInt w)), (some (.int (Int32.ofInt (fD g.1 w)))), (some (.int (Int32.ofInt (hdsS g.1 w)))), a11, a12] [.int (Int32.ofInt z), .int (Int32.ofInt s5)] h := by
          intro z h k n hz R r hk hn
          refine V_iadd G dL_holds_67 ?_
          refine V_istore5 G dL_holds_68 rfl ?_
          refine V_iload7 G dL_holds_70 ?_
          refine V_iload10 G dL_holds_72 ?_
          refine V_iconst G dL_holds_74 ?_
          refine V_icmple G dL_holds_75 (tgt := 82) (by decide) ⟨by omega, by omega⟩ ⟨by omega, by omega⟩ (fun c_75 => ?_) (fun c_75 => ?_)
          ·
            refine V_iconst G dL_holds_82 ?_
            exact j83 _ _ _ h _ _ (by omega) (by omega) (by omega) R r (by omega) (by omega)
          ·
            refine V_iconst G dL_holds_78 ?_
            refine V_goto G dL_holds_79 (tgt := 83) (by decide) ?_
            exact j83 _ _ _ h _ _ (by omega) (by omega) (by omega) R r (by omega) (by omega)
        refine V_iload8 G dL_holds_29 ?_
        refine V_iload1 G dL_holds_31 ?_
        refine V_icmpge G dL_holds_32 (tgt := 342) (by decide) ⟨by omega, by omega⟩ ⟨by omega, by omega⟩ (fun c_32 => ?_) (fun c_32 => ?_)
        · omega
        ·
          refine V_aload0 G dL_holds_35 ?_
          refine V_iload8 G dL_holds_36 ?_
          refine V_iconst G dL_holds_38 ?_
          refine Q_wordv G hlt I R r (wo1 hl) ⟨by omega, by omega⟩ ⟨by omega, by omega⟩ dL_holds_39 (by omega) (by omega) (by omega) (Nat.le_of_ble_eq_true rfl) (fun h R r => ?_)
          refine V_istore9 G dL_holds_42 rfl ?_
          refine V_aload0 G dL_holds_44 ?_
          refine V_iload8 G dL_holds_45 ?_
          refine V_bipush G dL_holds_47 (by decide) ?_
          refine Q_wordv G hlt I R r wo7 ⟨by omega, by omega⟩ ⟨by omega, by omega⟩ dL_holds_49 (by omega) (by omega) (by omega) (Nat.le_of_ble_eq_true rfl) (fun h R r => ?_)
          refine V_istore10 G dL_holds_52 rfl ?_
          refine V_iload5 G dL_holds_54 ?_
          refine V_iload10 G dL_holds_56 ?_
          refine V_iconst G dL_holds_58 ?_
          refine V_icmpne G dL_holds_59 (tgt := 66) (by decide) ⟨by omega, by omega⟩ ⟨by omega, by omega⟩ (fun c_59 => ?_) (fun c_59 => ?_)
          ·
            refine V_iconst G dL_holds_66 ?_
            exact j67 _ h _ _ (by omega) R r (by omega) (by omega)
          ·
            refine V_iconst G dL_holds_62 ?_
            refine V_goto G dL_holds_63 (tgt := 67) (by decide) ?_
            exact j67 _ h _ _ (by omega) R r (by omega) (by omega)
    refine V_aload0 G dL_holds_0 ?_
    refine V_iconst G dL_holds_1 ?_
    refine Q_cntv G hlt I R r cnt0 ⟨by omega, by omega⟩ dL_holds_2 (by omega) (by omega) (by omega) (Nat.le_of_ble_eq_true rfl) (fun h R r => ?_)
    refine V_istore1 G dL_holds_5 rfl ?_
    refine V_aload0 G dL_holds_6 ?_
    refine V_iconst G dL_holds_7 ?_
    refine Q_cntv G hlt I R r cnt3 ⟨by omega, by omega⟩ dL_holds_8 (by omega) (by omega) (by omega) (Nat.le_of_ble_eq_true rfl) (fun h R r => ?_)
    refine V_istore2 G dL_holds_11 rfl ?_
    refine V_iconst G dL_holds_12 ?_
    refine V_istore3 G dL_holds_13 rfl ?_
    refine V_iconst G dL_holds_14 ?_
    refine V_istore4 G dL_holds_15 rfl ?_
    refine V_iconst G dL_holds_17 ?_
    refine V_istore5 G dL_holds_18 rfl ?_
    refine V_iconst G dL_holds_20 ?_
    refine V_istore6 G dL_holds_21 rfl ?_
    refine V_iconst G dL_holds_23 ?_
    refine V_istore7 G dL_holds_24 rfl ?_
    refine V_iconst G dL_holds_26 ?_
    refine V_istore8 G dL_holds_27 rfl ?_
    refine lp (nS g.1).toNat 0 0 0 0 0 0 h _ _ _ _ _ _ (by omega) (by omega) R r (by omega) (by omega) ⟨by rw [Int.zero_add]; exact ww_s, by rw [Int.zero_add]; exact ww_u, by rw [Int.zero_add]; rfl, by rw [Int.zero_add]; exact root_sum I.1 hl, by rw [Int.zero_add]; exact held_sum I.1 hl⟩ (fun r3 h4 s5 f6 u7 h k n a9 a10 a11 a12 R r hk hn hv => ?_)
    obtain ⟨rfl, rfl, rfl, rfl, rfl⟩ := hv
    refine V_iload2 G dL_holds_342 ?_
    refine V_ifne G dL_holds_343 (tgt := 372) (by decide) ⟨by omega, by omega⟩ (fun c_343 => ?_) (fun c_343 => ?_)
    ·
      refine V_iload3 G dL_holds_372 ?_
      refine V_iconst G dL_holds_373 ?_
      refine V_icmpne G dL_holds_374 (tgt := 417) (by decide) ⟨by omega, by omega⟩ ⟨by omega, by omega⟩ (fun c_374 => ?_) (fun c_374 => ?_)
      · omega
      ·
        refine V_iload4 G dL_holds_377 ?_
        refine V_iload1 G dL_holds_379 ?_
        refine V_iconst G dL_holds_380 ?_
        refine V_isub G dL_holds_381 ?_
        refine V_icmpne G dL_holds_382 (tgt := 417) (by decide) ⟨by omega, by omega⟩ ⟨by omega, by omega⟩ (fun c_382 => ?_) (fun c_382 => ?_)
        · omega
        ·
          refine V_aload0 G dL_holds_385 ?_
          refine V_iconst G dL_holds_386 ?_
          refine Q_cntv G hlt I R r (cnt4 hl) ⟨by omega, by omega⟩ dL_holds_387 (by omega) (by omega) (by omega) (Nat.le_of_ble_eq_true rfl) (fun h R r => ?_)
          refine V_iload2 G dL_holds_390 ?_
          refine V_icmpge G dL_holds_391 (tgt := 417) (by decide) ⟨by omega, by omega⟩ ⟨by omega, by omega⟩ (fun c_391 => ?_) (fun c_391 => ?_)
          · omega
          ·
            refine V_aload0 G dL_holds_394 ?_
            refine V_aload0 G dL_holds_395 ?_
            refine V_iconst G dL_holds_396 ?_
            refine Q_cntv G hlt I R r (cnt4 hl) ⟨by omega, by omega⟩ dL_holds_397 (by omega) (by omega) (by omega) (Nat.le_of_ble_eq_true rfl) (fun h R r => ?_)
            refine V_iconst G dL_holds_400 ?_
            refine Q_read G hlt I R r ⟨by omega, by omega⟩ ⟨by omega, by omega⟩ dL_holds_401 (by omega) (by omega) (by omega) (Nat.le_of_ble_eq_true rfl) (fun h R r => ?_)
            rw [show readS g.1 (g.1 1) 0 = hgtS g.1 (drS g.1) from rea0]
            refine V_aload0 G dL_holds_404 ?_
            refine V_bipush G dL_holds_405 (by decide) ?_
            refine Q_cntv G hlt I R r (cnt7 hl) ⟨by omega, by omega⟩ dL_holds_407 (by omega) (by omega) (by omega) (Nat.le_of_ble_eq_true rfl) (fun h R r => ?_)
            refine V_icmpne G dL_holds_410 (tgt := 417) (by decide) ⟨by omega, by omega⟩ ⟨by omega, by omega⟩ (fun c_410 => ?_) (fun c_410 => ?_)
            · omega
            ·
              refine V_iconst G dL_holds_413 ?_
              refine V_goto G dL_holds_414 (tgt := 418) (by decide) ?_
              refine V_istore8 G dL_holds_418 rfl ?_
              refine V_aload0 G dL_holds_420 ?_
              refine V_iconst G dL_holds_421 ?_
              refine Q_cntv G hlt I R r cnt1 ⟨by omega, by omega⟩ dL_holds_422 (by omega) (by omega) (by omega) (Nat.le_of_ble_eq_true rfl) (fun h R r => ?_)
              refine V_aload0 G dL_holds_425 ?_
              refine V_iconst G dL_holds_426 ?_
              refine Q_cntv G hlt I R r (cnt2 I) ⟨by omega, by omega⟩ dL_holds_427 (by omega) (by omega) (by omega) (Nat.le_of_ble_eq_true rfl) (fun h R r => ?_)
              refine V_icmpne G dL_holds_430 (tgt := 481) (by decide) ⟨by omega, by omega⟩ ⟨by omega, by omega⟩ (fun c_430 => ?_) (fun c_430 => ?_)
              · omega
              ·
                refine V_iload2 G dL_holds_433 ?_
                refine V_aload0 G dL_holds_434 ?_
                refine V_iconst G dL_holds_435 ?_
                refine Q_cntv G hlt I R r cnt1 ⟨by omega, by omega⟩ dL_holds_436 (by omega) (by omega) (by omega) (Nat.le_of_ble_eq_true rfl) (fun h R r => ?_)
                refine V_icmpgt G dL_holds_439 (tgt := 481) (by decide) ⟨by omega, by omega⟩ ⟨by omega, by omega⟩ (fun c_439 => ?_) (fun c_439 => ?_)
                · omega
                ·
                  refine V_iload6 G dL_holds_442 ?_
                  refine V_ifgt G dL_holds_444 (tgt := 456) (by decide) ⟨by omega, by omega⟩ (fun c_444 => ?_) (fun c_444 => ?_)
                  ·
                    refine V_aload0 G dL_holds_456 ?_
                    refine V_iconst G dL_holds_457 ?_
                    refine Q_cntv G hlt I R r cnt5 ⟨by omega, by omega⟩ dL_holds_458 (by omega) (by omega) (by omega) (Nat.le_of_ble_eq_true rfl) (fun h R r => ?_)
                    refine V_iload6 G dL_holds_461 ?_
                    refine V_icmpne G dL_holds_463 (tgt := 481) (by decide) ⟨by omega, by omega⟩ ⟨by omega, by omega⟩ (fun c_463 => ?_) (fun c_463 => ?_)
                    · omega
                    ·
                      refine V_aload0 G dL_holds_466 ?_
                      refine V_bipush G dL_holds_467 (by decide) ?_
                      refine Q_cntv G hlt I R r cnt6 ⟨by omega, by omega⟩ dL_holds_469 (by omega) (by omega) (by omega) (Nat.le_of_ble_eq_true rfl) (fun h R r => ?_)
                      refine V_iload7 G dL_holds_472 ?_
                      refine V_icmpne G dL_holds_474 (tgt := 481) (by decide) ⟨by omega, by omega⟩ ⟨by omega, by omega⟩ (fun c_474 => ?_) (fun c_474 => ?_)
                      · omega
                      ·
                        refine V_iconst G dL_holds_477 ?_
                        refine V_goto G dL_holds_478 (tgt := 482) (by decide) ?_
                        refine V_istore9 G dL_holds_482 rfl ?_
                        refine V_iload8 G dL_holds_484 ?_
                        refine V_ifeq G dL_holds_486 (tgt := 546) (by decide) ⟨by omega, by omega⟩ (fun c_486 => ?_) (fun c_486 => ?_)
                        · omega
                        ·
                          refine V_iload9 G dL_holds_489 ?_
                          refine V_ifeq G dL_holds_491 (tgt := 546) (by decide) ⟨by omega, by omega⟩ (fun c_491 => ?_) (fun c_491 => ?_)
                          · omega
                          ·
                            refine V_aload0 G dL_holds_494 ?_
                            refine Q_ask G I R r dL_holds_495 (by omega) (by omega) (by omega) (Nat.le_of_ble_eq_true rfl) (fun h R r => ?_)
                            refine V_iconst G dL_holds_498 ?_
                            refine V_icmpne G dL_holds_499 (tgt := 506) (by decide) ⟨by omega, by omega⟩ ⟨by omega, by omega⟩ (fun c_499 => ?_) (fun c_499 => ?_)
                            ·
                              refine V_iconst G dL_holds_506 ?_
                              refine V_iload7 G dL_holds_507 ?_
                              refine V_ifne G dL_holds_509 (tgt := 516) (by decide) ⟨by omega, by omega⟩ (fun c_509 => ?_) (fun c_509 => ?_)
                              ·
                                refine V_iconst G dL_holds_516 ?_
                                refine V_icmpne G dL_holds_517 (tgt := 546) (by decide) ⟨by omega, by omega⟩ ⟨by omega, by omega⟩ (fun c_517 => ?_) (fun c_517 => ?_)
                                · omega
                                ·
                                  refine V_aload0 G dL_holds_520 ?_
                                  refine Q_share G I R r dL_holds_521 (by omega) (by omega) (by omega) (Nat.le_of_ble_eq_true rfl) ?_
                                  refine V_iload1 G dL_holds_524 ?_
                                  refine V_ifne G dL_holds_525 (tgt := 532) (by decide) ⟨by omega, by omega⟩ (fun c_525 => ?_) (fun c_525 => ?_)
                                  ·
                                    refine V_iload5 G dL_holds_532 ?_
                                    refine V_i2d_ G dL_holds_534 ?_
                                    refine V_iload1 G dL_holds_535 ?_
                                    refine V_i2d_ G dL_holds_536 ?_
                                    refine V_ddiv G dL_holds_537 (sh_n (wwS_r hn12.2 0) (by omega)) ?_
                                    have hshare : FP.ddiv (FP.i2d (Int32.ofInt (wwS g.1 0))) (FP.i2d (Int32.ofInt (nS g.1))) = shS g.1 := by unfold shS; rw [if_neg (by omega)]
                                    rw [hshare]
                                    refine V_dcmp G dL_holds_538 ?_
                                    rw [sh_self hn12]
                                    refine V_ifne_ G dL_holds_539 (tgt := 546) (by decide) (fun z => absurd rfl z) (fun _ => ?_)
                                    refine V_iconst G dL_holds_542 ?_
                                    refine V_goto G dL_holds_543 (tgt := 547) (by decide) ?_
                                    exact V_reti E dL_holds_547 rfl rfl ⟨_, rfl, rfl, R, r⟩
                                  ·
                                    refine V_dconst1 G dL_holds_528 ?_
                                    have hshare : FP.dconst1 = shS g.1 := by unfold shS; rw [if_pos (by omega)]
                                    refine V_goto G dL_holds_529 (tgt := 538) (by decide) ?_
                                    rw [hshare]
                                    refine V_dcmp G dL_holds_538 ?_
                                    rw [sh_self hn12]
                                    refine V_ifne_ G dL_holds_539 (tgt := 546) (by decide) (fun z => absurd rfl z) (fun _ => ?_)
                                    refine V_iconst G dL_holds_542 ?_
                                    refine V_goto G dL_holds_543 (tgt := 547) (by decide) ?_
                                    exact V_reti E dL_holds_547 rfl rfl ⟨_, rfl, rfl, R, r⟩
                              ·
                                refine V_iconst G dL_holds_512 ?_
                                refine V_goto G dL_holds_513 (tgt := 517) (by decide) ?_
                                refine V_icmpne G dL_holds_517 (tgt := 546) (by decide) ⟨by omega, by omega⟩ ⟨by omega, by omega⟩ (fun c_517 => ?_) (fun c_517 => ?_)
                                · omega
                                ·
                                  refine V_aload0 G dL_holds_520 ?_
                                  refine Q_share G I R r dL_holds_521 (by omega) (by omega) (by omega) (Nat.le_of_ble_eq_true rfl) ?_
                                  refine V_iload1 G dL_holds_524 ?_
                                  refine V_ifne G dL_holds_525 (tgt := 532) (by decide) ⟨by omega, by omega⟩ (fun c_525 => ?_) (fun c_525 => ?_)
                                  ·
                                    refine V_iload5 G dL_holds_532 ?_
                                    refine V_i2d_ G dL_holds_534 ?_
                                    refine V_iload1 G dL_holds_535 ?_
                                    refine V_i2d_ G dL_holds_536 ?_
                                    refine V_ddiv G dL_holds_537 (sh_n (wwS_r hn12.2 0) (by omega)) ?_
                                    have hshare : FP.ddiv (FP.i2d (Int32.ofInt (wwS g.1 0))) (FP.i2d (Int32.ofInt (nS g.1))) = shS g.1 := by unfold shS; rw [if_neg (by omega)]
                                    rw [hshare]
                                    refine V_dcmp G dL_holds_538 ?_
                                    rw [sh_self hn12]
                                    refine V_ifne_ G dL_holds_539 (tgt := 546) (by decide) (fun z => absurd rfl z) (fun _ => ?_)
                                    refine V_iconst G dL_holds_542 ?_
                                    refine V_goto G dL_holds_543 (tgt := 547) (by decide) ?_
                                    exact V_reti E dL_holds_547 rfl rfl ⟨_, rfl, rfl, R, r⟩
                                  ·
                                    refine V_dconst1 G dL_holds_528 ?_
                                    have hshare : FP.dconst1 = shS g.1 := by unfold shS; rw [if_pos (by omega)]
                                    refine V_goto G dL_holds_529 (tgt := 538) (by decide) ?_
                                    rw [hshare]
                                    refine V_dcmp G dL_holds_538 ?_
                                    rw [sh_self hn12]
                                    refine V_ifne_ G dL_holds_539 (tgt := 546) (by decide) (fun z => absurd rfl z) (fun _ => ?_)
                                    refine V_iconst G dL_holds_542 ?_
                                    refine V_goto G dL_holds_543 (tgt := 547) (by decide) ?_
                                    exact V_reti E dL_holds_547 rfl rfl ⟨_, rfl, rfl, R, r⟩
                            ·
                              refine V_iconst G dL_holds_502 ?_
                              refine V_goto G dL_holds_503 (tgt := 507) (by decide) ?_
                              refine V_iload7 G dL_holds_507 ?_
                              refine V_ifne G dL_holds_509 (tgt := 516) (by decide) ⟨by omega, by omega⟩ (fun c_509 => ?_) (fun c_509 => ?_)
                              ·
                                refine V_iconst G dL_holds_516 ?_
                                refine V_icmpne G dL_holds_517 (tgt := 546) (by decide) ⟨by omega, by omega⟩ ⟨by omega, by omega⟩ (fun c_517 => ?_) (fun c_517 => ?_)
                                · omega
                                ·
                                  refine V_aload0 G dL_holds_520 ?_
                                  refine Q_share G I R r dL_holds_521 (by omega) (by omega) (by omega) (Nat.le_of_ble_eq_true rfl) ?_
                                  refine V_iload1 G dL_holds_524 ?_
                                  refine V_ifne G dL_holds_525 (tgt := 532) (by decide) ⟨by omega, by omega⟩ (fun c_525 => ?_) (fun c_525 => ?_)
                                  ·
                                    refine V_iload5 G dL_holds_532 ?_
                                    refine V_i2d_ G dL_holds_534 ?_
                                    refine V_iload1 G dL_holds_535 ?_
                                    refine V_i2d_ G dL_holds_536 ?_
                                    refine V_ddiv G dL_holds_537 (sh_n (wwS_r hn12.2 0) (by omega)) ?_
                                    have hshare : FP.ddiv (FP.i2d (Int32.ofInt (wwS g.1 0))) (FP.i2d (Int32.ofInt (nS g.1))) = shS g.1 := by unfold shS; rw [if_neg (by omega)]
                                    rw [hshare]
                                    refine V_dcmp G dL_holds_538 ?_
                                    rw [sh_self hn12]
                                    refine V_ifne_ G dL_holds_539 (tgt := 546) (by decide) (fun z => absurd rfl z) (fun _ => ?_)
                                    refine V_iconst G dL_holds_542 ?_
                                    refine V_goto G dL_holds_543 (tgt := 547) (by decide) ?_
                                    exact V_reti E dL_holds_547 rfl rfl ⟨_, rfl, rfl, R, r⟩
                                  ·
                                    refine V_dconst1 G dL_holds_528 ?_
                                    have hshare : FP.dconst1 = shS g.1 := by unfold shS; rw [if_pos (by omega)]
                                    refine V_goto G dL_holds_529 (tgt := 538) (by decide) ?_
                                    rw [hshare]
                                    refine V_dcmp G dL_holds_538 ?_
                                    rw [sh_self hn12]
                                    refine V_ifne_ G dL_holds_539 (tgt := 546) (by decide) (fun z => absurd rfl z) (fun _ => ?_)
                                    refine V_iconst G dL_holds_542 ?_
                                    refine V_goto G dL_holds_543 (tgt := 547) (by decide) ?_
                                    exact V_reti E dL_holds_547 rfl rfl ⟨_, rfl, rfl, R, r⟩
                              ·
                                refine V_iconst G dL_holds_512 ?_
                                refine V_goto G dL_holds_513 (tgt := 517) (by decide) ?_
                                refine V_icmpne G dL_holds_517 (tgt := 546) (by decide) ⟨by omega, by omega⟩ ⟨by omega, by omega⟩ (fun c_517 => ?_) (fun c_517 => ?_)
                                · omega
                                ·
                                  refine V_aload0 G dL_holds_520 ?_
                                  refine Q_share G I R r dL_holds_521 (by omega) (by omega) (by omega) (Nat.le_of_ble_eq_true rfl) ?_
                                  refine V_iload1 G dL_holds_524 ?_
                                  refine V_ifne G dL_holds_525 (tgt := 532) (by decide) ⟨by omega, by omega⟩ (fun c_525 => ?_) (fun c_525 => ?_)
                                  ·
                                    refine V_iload5 G dL_holds_532 ?_
                                    refine V_i2d_ G dL_holds_534 ?_
                                    refine V_iload1 G dL_holds_535 ?_
                                    refine V_i2d_ G dL_holds_536 ?_
                                    refine V_ddiv G dL_holds_537 (sh_n (wwS_r hn12.2 0) (by omega)) ?_
                                    have hshare : FP.ddiv (FP.i2d (Int32.ofInt (wwS g.1 0))) (FP.i2d (Int32.ofInt (nS g.1))) = shS g.1 := by unfold shS; rw [if_neg (by omega)]
                                    rw [hshare]
                                    refine V_dcmp G dL_holds_538 ?_
                                    rw [sh_self hn12]
                                    refine V_ifne_ G dL_holds_539 (tgt := 546) (by decide) (fun z => absurd rfl z) (fun _ => ?_)
                                    refine V_iconst G dL_holds_542 ?_
                                    refine V_goto G dL_holds_543 (tgt := 547) (by decide) ?_
                                    exact V_reti E dL_holds_547 rfl rfl ⟨_, rfl, rfl, R, r⟩
                                  ·
                                    refine V_dconst1 G dL_holds_528 ?_
                                    have hshare : FP.dconst1 = shS g.1 := by unfold shS; rw [if_pos (by omega)]
                                    refine V_goto G dL_holds_529 (tgt := 538) (by decide) ?_
                                    rw [hshare]
                                    refine V_dcmp G dL_holds_538 ?_
                                    rw [sh_self hn12]
                                    refine V_ifne_ G dL_holds_539 (tgt := 546) (by decide) (fun z => absurd rfl z) (fun _ => ?_)
                                    refine V_iconst G dL_holds_542 ?_
                                    refine V_goto G dL_holds_543 (tgt := 547) (by decide) ?_
                                    exact V_reti E dL_holds_547 rfl rfl ⟨_, rfl, rfl, R, r⟩
                  ·
                    refine V_iload2 G dL_holds_447 ?_
                    refine V_aload0 G dL_holds_448 ?_
                    refine V_iconst G dL_holds_449 ?_
                    refine Q_cntv G hlt I R r cnt1 ⟨by omega, by omega⟩ dL_holds_450 (by omega) (by omega) (by omega) (Nat.le_of_ble_eq_true rfl) (fun h R r => ?_)
                    refine V_icmpne G dL_holds_453 (tgt := 481) (by decide) ⟨by omega, by omega⟩ ⟨by omega, by omega⟩ (fun c_453 => ?_) (fun c_453 => ?_)
                    · omega
                    ·
                      refine V_aload0 G dL_holds_456 ?_
                      refine V_iconst G dL_holds_457 ?_
                      refine Q_cntv G hlt I R r cnt5 ⟨by omega, by omega⟩ dL_holds_458 (by omega) (by omega) (by omega) (Nat.le_of_ble_eq_true rfl) (fun h R r => ?_)
                      refine V_iload6 G dL_holds_461 ?_
                      refine V_icmpne G dL_holds_463 (tgt := 481) (by decide) ⟨by omega, by omega⟩ ⟨by omega, by omega⟩ (fun c_463 => ?_) (fun c_463 => ?_)
                      · omega
                      ·
                        refine V_aload0 G dL_holds_466 ?_
                        refine V_bipush G dL_holds_467 (by decide) ?_
                        refine Q_cntv G hlt I R r cnt6 ⟨by omega, by omega⟩ dL_holds_469 (by omega) (by omega) (by omega) (Nat.le_of_ble_eq_true rfl) (fun h R r => ?_)
                        refine V_iload7 G dL_holds_472 ?_
                        refine V_icmpne G dL_holds_474 (tgt := 481) (by decide) ⟨by omega, by omega⟩ ⟨by omega, by omega⟩ (fun c_474 => ?_) (fun c_474 => ?_)
                        · omega
                        ·
                          refine V_iconst G dL_holds_477 ?_
                          refine V_goto G dL_holds_478 (tgt := 482) (by decide) ?_
                          refine V_istore9 G dL_holds_482 rfl ?_
                          refine V_iload8 G dL_holds_484 ?_
                          refine V_ifeq G dL_holds_486 (tgt := 546) (by decide) ⟨by omega, by omega⟩ (fun c_486 => ?_) (fun c_486 => ?_)
                          · omega
                          ·
                            refine V_iload9 G dL_holds_489 ?_
                            refine V_ifeq G dL_holds_491 (tgt := 546) (by decide) ⟨by omega, by omega⟩ (fun c_491 => ?_) (fun c_491 => ?_)
                            · omega
                            ·
                              refine V_aload0 G dL_holds_494 ?_
                              refine Q_ask G I R r dL_holds_495 (by omega) (by omega) (by omega) (Nat.le_of_ble_eq_true rfl) (fun h R r => ?_)
                              refine V_iconst G dL_holds_498 ?_
                              refine V_icmpne G dL_holds_499 (tgt := 506) (by decide) ⟨by omega, by omega⟩ ⟨by omega, by omega⟩ (fun c_499 => ?_) (fun c_499 => ?_)
                              ·
                                refine V_iconst G dL_holds_506 ?_
                                refine V_iload7 G dL_holds_507 ?_
                                refine V_ifne G dL_holds_509 (tgt := 516) (by decide) ⟨by omega, by omega⟩ (fun c_509 => ?_) (fun c_509 => ?_)
                                ·
                                  refine V_iconst G dL_holds_516 ?_
                                  refine V_icmpne G dL_holds_517 (tgt := 546) (by decide) ⟨by omega, by omega⟩ ⟨by omega, by omega⟩ (fun c_517 => ?_) (fun c_517 => ?_)
                                  · omega
                                  ·
                                    refine V_aload0 G dL_holds_520 ?_
                                    refine Q_share G I R r dL_holds_521 (by omega) (by omega) (by omega) (Nat.le_of_ble_eq_true rfl) ?_
                                    refine V_iload1 G dL_holds_524 ?_
                                    refine V_ifne G dL_holds_525 (tgt := 532) (by decide) ⟨by omega, by omega⟩ (fun c_525 => ?_) (fun c_525 => ?_)
                                    ·
                                      refine V_iload5 G dL_holds_532 ?_
                                      refine V_i2d_ G dL_holds_534 ?_
                                      refine V_iload1 G dL_holds_535 ?_
                                      refine V_i2d_ G dL_holds_536 ?_
                                      refine V_ddiv G dL_holds_537 (sh_n (wwS_r hn12.2 0) (by omega)) ?_
                                      have hshare : FP.ddiv (FP.i2d (Int32.ofInt (wwS g.1 0))) (FP.i2d (Int32.ofInt (nS g.1))) = shS g.1 := by unfold shS; rw [if_neg (by omega)]
                                      rw [hshare]
                                      refine V_dcmp G dL_holds_538 ?_
                                      rw [sh_self hn12]
                                      refine V_ifne_ G dL_holds_539 (tgt := 546) (by decide) (fun z => absurd rfl z) (fun _ => ?_)
                                      refine V_iconst G dL_holds_542 ?_
                                      refine V_goto G dL_holds_543 (tgt := 547) (by decide) ?_
                                      exact V_reti E dL_holds_547 rfl rfl ⟨_, rfl, rfl, R, r⟩
                                    ·
                                      refine V_dconst1 G dL_holds_528 ?_
                                      have hshare : FP.dconst1 = shS g.1 := by unfold shS; rw [if_pos (by omega)]
                                      refine V_goto G dL_holds_529 (tgt := 538) (by decide) ?_
                                      rw [hshare]
                                      refine V_dcmp G dL_holds_538 ?_
                                      rw [sh_self hn12]
                                      refine V_ifne_ G dL_holds_539 (tgt := 546) (by decide) (fun z => absurd rfl z) (fun _ => ?_)
                                      refine V_iconst G dL_holds_542 ?_
                                      refine V_goto G dL_holds_543 (tgt := 547) (by decide) ?_
                                      exact V_reti E dL_holds_547 rfl rfl ⟨_, rfl, rfl, R, r⟩
                                ·
                                  refine V_iconst G dL_holds_512 ?_
                                  refine V_goto G dL_holds_513 (tgt := 517) (by decide) ?_
                                  refine V_icmpne G dL_holds_517 (tgt := 546) (by decide) ⟨by omega, by omega⟩ ⟨by omega, by omega⟩ (fun c_517 => ?_) (fun c_517 => ?_)
                                  · omega
                                  ·
                                    refine V_aload0 G dL_holds_520 ?_
                                    refine Q_share G I R r dL_holds_521 (by omega) (by omega) (by omega) (Nat.le_of_ble_eq_true rfl) ?_
                                    refine V_iload1 G dL_holds_524 ?_
                                    refine V_ifne G dL_holds_525 (tgt := 532) (by decide) ⟨by omega, by omega⟩ (fun c_525 => ?_) (fun c_525 => ?_)
                                    ·
                                      refine V_iload5 G dL_holds_532 ?_
                                      refine V_i2d_ G dL_holds_534 ?_
                                      refine V_iload1 G dL_holds_535 ?_
                                      refine V_i2d_ G dL_holds_536 ?_
                                      refine V_ddiv G dL_holds_537 (sh_n (wwS_r hn12.2 0) (by omega)) ?_
                                      have hshare : FP.ddiv (FP.i2d (Int32.ofInt (wwS g.1 0))) (FP.i2d (Int32.ofInt (nS g.1))) = shS g.1 := by unfold shS; rw [if_neg (by omega)]
                                      rw [hshare]
                                      refine V_dcmp G dL_holds_538 ?_
                                      rw [sh_self hn12]
                                      refine V_ifne_ G dL_holds_539 (tgt := 546) (by decide) (fun z => absurd rfl z) (fun _ => ?_)
                                      refine V_iconst G dL_holds_542 ?_
                                      refine V_goto G dL_holds_543 (tgt := 547) (by decide) ?_
                                      exact V_reti E dL_holds_547 rfl rfl ⟨_, rfl, rfl, R, r⟩
                                    ·
                                      refine V_dconst1 G dL_holds_528 ?_
                                      have hshare : FP.dconst1 = shS g.1 := by unfold shS; rw [if_pos (by omega)]
                                      refine V_goto G dL_holds_529 (tgt := 538) (by decide) ?_
                                      rw [hshare]
                                      refine V_dcmp G dL_holds_538 ?_
                                      rw [sh_self hn12]
                                      refine V_ifne_ G dL_holds_539 (tgt := 546) (by decide) (fun z => absurd rfl z) (fun _ => ?_)
                                      refine V_iconst G dL_holds_542 ?_
                                      refine V_goto G dL_holds_543 (tgt := 547) (by decide) ?_
                                      exact V_reti E dL_holds_547 rfl rfl ⟨_, rfl, rfl, R, r⟩
                              ·
                                refine V_iconst G dL_holds_502 ?_
                                refine V_goto G dL_holds_503 (tgt := 507) (by decide) ?_
                                refine V_iload7 G dL_holds_507 ?_
                                refine V_ifne G dL_holds_509 (tgt := 516) (by decide) ⟨by omega, by omega⟩ (fun c_509 => ?_) (fun c_509 => ?_)
                                ·
                                  refine V_iconst G dL_holds_516 ?_
                                  refine V_icmpne G dL_holds_517 (tgt := 546) (by decide) ⟨by omega, by omega⟩ ⟨by omega, by omega⟩ (fun c_517 => ?_) (fun c_517 => ?_)
                                  · omega
                                  ·
                                    refine V_aload0 G dL_holds_520 ?_
                                    refine Q_share G I R r dL_holds_521 (by omega) (by omega) (by omega) (Nat.le_of_ble_eq_true rfl) ?_
                                    refine V_iload1 G dL_holds_524 ?_
                                    refine V_ifne G dL_holds_525 (tgt := 532) (by decide) ⟨by omega, by omega⟩ (fun c_525 => ?_) (fun c_525 => ?_)
                                    ·
                                      refine V_iload5 G dL_holds_532 ?_
                                      refine V_i2d_ G dL_holds_534 ?_
                                      refine V_iload1 G dL_holds_535 ?_
                                      refine V_i2d_ G dL_holds_536 ?_
                                      refine V_ddiv G dL_holds_537 (sh_n (wwS_r hn12.2 0) (by omega)) ?_
                                      have hshare : FP.ddiv (FP.i2d (Int32.ofInt (wwS g.1 0))) (FP.i2d (Int32.ofInt (nS g.1))) = shS g.1 := by unfold shS; rw [if_neg (by omega)]
                                      rw [hshare]
                                      refine V_dcmp G dL_holds_538 ?_
                                      rw [sh_self hn12]
                                      refine V_ifne_ G dL_holds_539 (tgt := 546) (by decide) (fun z => absurd rfl z) (fun _ => ?_)
                                      refine V_iconst G dL_holds_542 ?_
                                      refine V_goto G dL_holds_543 (tgt := 547) (by decide) ?_
                                      exact V_reti E dL_holds_547 rfl rfl ⟨_, rfl, rfl, R, r⟩
                                    ·
                                      refine V_dconst1 G dL_holds_528 ?_
                                      have hshare : FP.dconst1 = shS g.1 := by unfold shS; rw [if_pos (by omega)]
                                      refine V_goto G dL_holds_529 (tgt := 538) (by decide) ?_
                                      rw [hshare]
                                      refine V_dcmp G dL_holds_538 ?_
                                      rw [sh_self hn12]
                                      refine V_ifne_ G dL_holds_539 (tgt := 546) (by decide) (fun z => absurd rfl z) (fun _ => ?_)
                                      refine V_iconst G dL_holds_542 ?_
                                      refine V_goto G dL_holds_543 (tgt := 547) (by decide) ?_
                                      exact V_reti E dL_holds_547 rfl rfl ⟨_, rfl, rfl, R, r⟩
                                ·
                                  refine V_iconst G dL_holds_512 ?_
                                  refine V_goto G dL_holds_513 (tgt := 517) (by decide) ?_
                                  refine V_icmpne G dL_holds_517 (tgt := 546) (by decide) ⟨by omega, by omega⟩ ⟨by omega, by omega⟩ (fun c_517 => ?_) (fun c_517 => ?_)
                                  · omega
                                  ·
                                    refine V_aload0 G dL_holds_520 ?_
                                    refine Q_share G I R r dL_holds_521 (by omega) (by omega) (by omega) (Nat.le_of_ble_eq_true rfl) ?_
                                    refine V_iload1 G dL_holds_524 ?_
                                    refine V_ifne G dL_holds_525 (tgt := 532) (by decide) ⟨by omega, by omega⟩ (fun c_525 => ?_) (fun c_525 => ?_)
                                    ·
                                      refine V_iload5 G dL_holds_532 ?_
                                      refine V_i2d_ G dL_holds_534 ?_
                                      refine V_iload1 G dL_holds_535 ?_
                                      refine V_i2d_ G dL_holds_536 ?_
                                      refine V_ddiv G dL_holds_537 (sh_n (wwS_r hn12.2 0) (by omega)) ?_
                                      have hshare : FP.ddiv (FP.i2d (Int32.ofInt (wwS g.1 0))) (FP.i2d (Int32.ofInt (nS g.1))) = shS g.1 := by unfold shS; rw [if_neg (by omega)]
                                      rw [hshare]
                                      refine V_dcmp G dL_holds_538 ?_
                                      rw [sh_self hn12]
                                      refine V_ifne_ G dL_holds_539 (tgt := 546) (by decide) (fun z => absurd rfl z) (fun _ => ?_)
                                      refine V_iconst G dL_holds_542 ?_
                                      refine V_goto G dL_holds_543 (tgt := 547) (by decide) ?_
                                      exact V_reti E dL_holds_547 rfl rfl ⟨_, rfl, rfl, R, r⟩
                                    ·
                                      refine V_dconst1 G dL_holds_528 ?_
                                      have hshare : FP.dconst1 = shS g.1 := by unfold shS; rw [if_pos (by omega)]
                                      refine V_goto G dL_holds_529 (tgt := 538) (by decide) ?_
                                      rw [hshare]
                                      refine V_dcmp G dL_holds_538 ?_
                                      rw [sh_self hn12]
                                      refine V_ifne_ G dL_holds_539 (tgt := 546) (by decide) (fun z => absurd rfl z) (fun _ => ?_)
                                      refine V_iconst G dL_holds_542 ?_
                                      refine V_goto G dL_holds_543 (tgt := 547) (by decide) ?_
                                      exact V_reti E dL_holds_547 rfl rfl ⟨_, rfl, rfl, R, r⟩
    · omega

end L3
