section C7

theorem kdC_congr {n : Int} {F kd : Int → Int} (h : ∀ w, 0 ≤ w → w < n → F w = kd w) (w : Int) : kdC n F w = kdC n kd w := by
  unfold kdC
  split
  · next z => exact h w z.1 z.2
  · rfl
theorem kdC_r {n : Int} {kd : Int → Int} (hk : ∀ w, 0 ≤ w → w < n → 0 ≤ kd w ∧ kd w ≤ 6) (w : Int) : inr (kdC n kd w) := by
  unfold kdC
  split
  · next z => have := hk w z.1 z.2; exact ⟨by omega, by omega⟩
  · exact ⟨by decide, by decide⟩
def S7 (q a : Nat) (j : Int) : Bool := (a == q && (j == 6 || j == 7)) || (a == q + 1 || a == q + 2 || a == q + 3 || a == q + 4 || a == q + 5 || a == q + 6)
theorem SD_S7 {q : Nat} {h h1 : Hp} (e : eqx (SD q) h h1) : eqx (S7 q) h h1 := e.mono (fun a j z => by
  simp [S7] at z
  simp [SD]
  omega)
def ldF (f : Int → Int) (k : Int) (j : Int) : Int := sumF (fun i => if f i = j then 1 else 0) k.toNat 0
theorem ldF_r (f : Int → Int) (k j : Int) : 0 ≤ ldF f k j ∧ ldF f k j ≤ k.toNat := by
  have := sumF_le (f := fun i => if f i = j then 1 else 0) (b := 1) (by omega) k.toNat 0 (fun j => by split <;> omega)
  unfold ldF
  omega
theorem ldF_s {f : Int → Int} {k : Int} (hk : 0 ≤ k) (j : Int) : ldF f (k + 1) j = ldF f k j + if f k = j then 1 else 0 := by
  unfold ldF
  rw [show (k + 1).toNat = k.toNat + 1 by omega, sumF_snoc, show (0 : Int) + (k.toNat : Int) = k by omega]

set_option maxRecDepth 100000 in
set_option maxHeartbeats 800000 in
theorem c_X0_trace {l : Launch} {d : Nat} {h : Hp} (r : Rg h) {q p : Nat} (hq : isDr q) (hp : isSt p) (hpq : p + 2 < q ∨ q + 6 < p) {n : Int} {kd f : Int → Int} {code : Int64} (hn : hI h p 2 = n) (hn0 : 0 ≤ n ∧ n ≤ 12) (hk : ∀ w, 0 ≤ w → w < n → hI h (p + 1) w = kd w) (hk2 : ∀ w, 0 ≤ w → w < n → 0 ≤ kd w ∧ kd w ≤ 6) (hcode : ∀ w, 0 ≤ w → w < n → hdI code w = f w) (hr : rok n f) (hN : nounOk n kd f) (hR : rdOk n f) (hd : 21 ≤ d := by omega) : CP l d 0 0 yX0_trace cX0_trace 7 (Option.none : Option Jvm.ClassFile.FieldType) [.ref q, .ref p, .long code] h (pV fun h1 => Rg h1 ∧ eqx (S7 q) h h1 ∧ DrC h1 q n kd f) := by
  refine CP.ofV (L := [some (.ref q), some (.ref p), some (.long code), none, none, none, none]) RX0 (by decide +kernel) rfl (Nat.le_of_ble_eq_true rfl) rfl (fun X hX G E => ?_)
  subst hX
  have hq_ := hq
  obtain ⟨⟨hq0, hq1, hq2, hq3, hq4, hq5, hq6⟩, hs0, ⟨hf0, hf1, hf2, hf3, hf4, hf5⟩, hs1, hs2, hs3, hs4, hs5, hs6⟩ := hq
  have hp_ := hp
  obtain ⟨gp0, gp1, gp2, gps0, gpf0, gpf1, gps1, gps2⟩ := hp_
  have lp2 : ∀ (m : Nat) (k : Int) (g : Hp) (root : Int) (a6 : Option Value), k + m = n → 0 ≤ k → Rg g → eqx (S7 q) h g → hI g q 6 = n → (∀ j, 0 ≤ j → j < n → hI g (q + 1) j = kd j ∧ hI g (q + 2) j = f j ∧ hI g (q + 3) j = heldF kd f j) → (∀ j, 0 ≤ j → j < 12 → hI g (q + 5) j = hldF n f j) → (∀ j, 0 ≤ j → j < k → hI g (q + 4) j = levF kd f 12 j) → -1 ≤ root ∧ root < 12 → root = rtF n f n.toNat 0 (-1) → V X 0 0 128 [some (.ref q), some (.ref p), some (.long code), none, some (.int (Int32.ofInt root)), some (.int (Int32.ofInt k)), a6] [] g := by
    intro m
    induction m with
    | zero =>
      intro k g root a6 hm_ hk0 r1 eg hg6 hcl hld hlv hroot hrt
      have r := r1
      refine V_iload5 G dX0_trace_128 ?_
      refine V_aload0 G dX0_trace_130 ?_
      refine V_getIe (jz := 6) G fl_X0_30 dX0_trace_131 (by first | decide | assumption) (by first | rfl | assumption) rfl rfl (by first | (simp only [hI_sI, hI_sL, hL_sI, hL_sL, false_and, true_and, and_false, and_true, and_self, if_false, if_true, hg6]; first | done | rfl) | rfl) ?_
      refine V_icmpge G dX0_trace_134 (tgt := 156) (by decide) (by first | exact r _ _ | assumption | exact ⟨by omega, by omega⟩) (by first | exact r _ _ | assumption | exact ⟨by omega, by omega⟩) (fun c_134 => ?_) (fun c_134 => ?_)
      ·
        refine V_aload0 G dX0_trace_156 ?_
        refine V_iconst G dX0_trace_157 ?_
        refine V_putI (jz := 7) G fw_X0_34 dX0_trace_158 (by first | decide | assumption) (by first | rfl | assumption) rfl rfl ?_
        refine V_aload0 G dX0_trace_161 ?_
        refine V_iload4 G dX0_trace_162 ?_
        refine V_iconst G dX0_trace_164 ?_
        have eg0 : eqx (S7 q) h (sI g q 7 0) := eg.st (by simp [S7])
        have hraf : raF n f 13 root = (List.range n.toNat).map (fun x : Nat => (x : Int)) := by rw [hrt]; exact hR
        refine V_cV2v (d1 := 20) G m_X0_75 dX0_trace_165 (by first | decide | assumption) (by first | rfl | assumption) (c_read hq_ hn0 (f := f) 13 root 0 20 (sI g q 7 0) (by omega) (by omega) (by omega) (r1.sI ⟨by decide, by decide⟩) (by rw [hI_sI, if_neg (by omega)]; exact hg6) (fun j j1 j2 => by rw [hI_sI, if_neg (by omega)]; exact (hcl j j1 j2).2.1) ⟨by omega, by omega⟩ (by rw [hI_sI, if_pos ⟨rfl, rfl⟩]; omega) (by rw [hI_sI, if_pos ⟨rfl, rfl⟩, hraf]; simp; omega)) (by omega) (by omega) (by omega) (Nat.le_of_ble_eq_true rfl) (fun h_165 hp_165 => ?_)
        obtain ⟨v1, v2, v3, v4⟩ := hp_165
        exact V_retv E dX0_trace_168 rfl ⟨rfl, by
            refine ⟨v1, eg0.tr (SD_S7 v2), ⟨(v2.1 q 6 (by simp [SD])).trans (by rw [hI_sI, if_neg (by omega)]; exact hg6), fun w w1 w2 => ?_⟩⟩
            have c := hcl w w1 w2
            have e : ∀ a, a ≠ q → a ≠ q + 6 → hI h_165 a w = hI g a w := fun a a1 a2 => (v2.1 a w (by simp [SD, a1, a2])).trans (by rw [hI_sI, if_neg (fun z => a1 z.1)])
            refine ⟨(e _ (by omega) (by omega)).trans c.1, (e _ (by omega) (by omega)).trans c.2.1, (e _ (by omega) (by omega)).trans c.2.2, (e _ (by omega) (by omega)).trans (hlv w w1 (by omega)), (e _ (by omega) (by omega)).trans (hld w w1 (by omega)), ?_⟩
            rw [v4 w, hraf]
            have q9 := tuF_range (g := fun j => hI (sI g q 7 0) (q + 6) j) n.toNat 0 w.toNat (by omega) (by omega)
            rw [← List.range_eq_range', show ((w.toNat : Nat) : Int) = w by omega] at q9
            rw [show hI (sI g q 7 0) q 7 = ((0 : Nat) : Int) by rw [hI_sI, if_pos ⟨rfl, rfl⟩]; rfl]
            exact q9⟩
      · omega
    | succ m ih =>
      intro k g root a6 hm_ hk0 r1 eg hg6 hcl hld hlv hroot hrt
      have r := r1
      refine V_iload5 G dX0_trace_128 ?_
      refine V_aload0 G dX0_trace_130 ?_
      refine V_getIe (jz := 6) G fl_X0_30 dX0_trace_131 (by first | decide | assumption) (by first | rfl | assumption) rfl rfl (by first | (simp only [hI_sI, hI_sL, hL_sI, hL_sL, false_and, true_and, and_false, and_true, and_self, if_false, if_true, hg6]; first | done | rfl) | rfl) ?_
      refine V_icmpge G dX0_trace_134 (tgt := 156) (by decide) (by first | exact r _ _ | assumption | exact ⟨by omega, by omega⟩) (by first | exact r _ _ | assumption | exact ⟨by omega, by omega⟩) (fun c_134 => ?_) (fun c_134 => ?_)
      · omega
      ·
        refine V_aload0 G dX0_trace_137 ?_
        refine V_getR G fl_X0_21 dX0_trace_138 (by first | decide | assumption) (by first | rfl | assumption) rfl (by first | rfl | assumption) ?_
        refine V_iload5 G dX0_trace_141 ?_
        refine V_aload0 G dX0_trace_143 ?_
        refine V_iload5 G dX0_trace_144 ?_
        refine V_cV1i (d1 := 2) G m_X0_72 dX0_trace_146 (by first | decide | assumption) (by first | rfl | assumption) (c_X0_levelOf r1 hq_ hg6 hn0 hcl (w := k) ⟨by omega, by omega⟩) (by omega) (by omega) (by omega) (Nat.le_of_ble_eq_true rfl) (fun x_146 h_146 hp_146 => ?_)
        rw [show x_146 = levF kd f 12 k from hp_146.1.trans (levC_eq hr hk2 12 k hk0 (by omega)), hp_146.2]
        refine V_iast G dX0_trace_149 (by first | decide | assumption) (by first | rfl | assumption) (by decide) ⟨by omega, by omega⟩ ?_
        refine V_iinc5 G dX0_trace_150 rfl ?_
        refine V_goto G dX0_trace_153 (tgt := 128) (by decide) ?_
        exact ih (k + 1) _ root _ (by omega) (by omega) (r1.sI (by have := levF_r kd f 12 k; exact ⟨by omega, by omega⟩)) (eg.st (by simp [S7])) (by rw [hI_sI, if_neg (by omega)]; exact hg6) (fun j j1 j2 => by
          rw [hI_sI, if_neg (by omega), hI_sI, if_neg (by omega), hI_sI, if_neg (by omega)]
          exact hcl j j1 j2) (fun j j1 j2 => by rw [hI_sI, if_neg (by omega)]; exact hld j j1 j2) (fun j j1 j2 => by
          rw [hI_sI]
          by_cases e : j = k
          · rw [if_pos ⟨rfl, e⟩, e]
          · rw [if_neg (fun z => e z.2)]; exact hlv j j1 (by omega)) hroot hrt
  have lp1 : ∀ (m : Nat) (k : Int) (g : Hp) (root : Int) (a6 : Option Value), k + m = n → 0 ≤ k → Rg g → eqx (S7 q) h g → hI g q 6 = n → (∀ j, 0 ≤ j → j < k → hI g (q + 1) j = kd j ∧ hI g (q + 2) j = f j ∧ hI g (q + 3) j = heldF kd f j) → (∀ j, 0 ≤ j → j < 12 → hI g (q + 5) j = ldF f k j) → rtF n f m k root = rtF n f n.toNat 0 (-1) → -1 ≤ root ∧ root < 12 → V X 0 0 27 [some (.ref q), some (.ref p), some (.long code), none, some (.int (Int32.ofInt root)), some (.int (Int32.ofInt k)), a6] [] g := by
    intro m
    induction m with
    | zero =>
      intro k g root a6 hm_ hk0 r1 eg hg6 hcl hld hrt hroot
      have r := r1
      have hgn : hI g p 2 = n := (eg.1 p 2 (by simp [S7]; omega)).trans hn
      have hgk : ∀ w, 0 ≤ w → w < n → hI g (p + 1) w = kd w := fun w w1 w2 => (eg.1 _ _ (by simp [S7]; omega)).trans (hk w w1 w2)
      refine V_iload5 G dX0_trace_27 ?_
      refine V_aload0 G dX0_trace_29 ?_
      refine V_getIe (jz := 6) G fl_X0_30 dX0_trace_30 (by first | decide | assumption) (by first | rfl | assumption) rfl rfl (by first | (simp only [hI_sI, hI_sL, hL_sI, hL_sL, false_and, true_and, and_false, and_true, and_self, if_false, if_true, hg6]; first | done | rfl) | rfl) ?_
      refine V_icmpge G dX0_trace_33 (tgt := 125) (by decide) (by first | exact r _ _ | assumption | exact ⟨by omega, by omega⟩) (by first | exact r _ _ | assumption | exact ⟨by omega, by omega⟩) (fun c_33 => ?_) (fun c_33 => ?_)
      ·
        refine V_iconst G dX0_trace_125 ?_
        refine V_istore5 G dX0_trace_126 rfl ?_
        exact lp2 n.toNat 0 g root _ (by omega) (by omega) r1 eg hg6 (fun j j1 j2 => hcl j j1 (by omega)) (fun j j1 j2 => by rw [hld j j1 j2, show k = n by omega]; rfl) (fun j j1 j2 => by omega) hroot (by rw [← hrt]; rfl)
      · omega
    | succ m ih =>
      intro k g root a6 hm_ hk0 r1 eg hg6 hcl hld hrt hroot
      have r := r1
      have hgn : hI g p 2 = n := (eg.1 p 2 (by simp [S7]; omega)).trans hn
      have hgk : ∀ w, 0 ≤ w → w < n → hI g (p + 1) w = kd w := fun w w1 w2 => (eg.1 _ _ (by simp [S7]; omega)).trans (hk w w1 w2)
      refine V_iload5 G dX0_trace_27 ?_
      refine V_aload0 G dX0_trace_29 ?_
      refine V_getIe (jz := 6) G fl_X0_30 dX0_trace_30 (by first | decide | assumption) (by first | rfl | assumption) rfl rfl (by first | (simp only [hI_sI, hI_sL, hL_sI, hL_sL, false_and, true_and, and_false, and_true, and_self, if_false, if_true, hg6]; first | done | rfl) | rfl) ?_
      refine V_icmpge G dX0_trace_33 (tgt := 125) (by decide) (by first | exact r _ _ | assumption | exact ⟨by omega, by omega⟩) (by first | exact r _ _ | assumption | exact ⟨by omega, by omega⟩) (fun c_33 => ?_) (fun c_33 => ?_)
      · omega
      ·
        refine V_lload2 G dX0_trace_36 ?_
        refine V_iload5 G dX0_trace_37 ?_
        refine V_cS2i (d1 := 1) G m_X0_54 dX0_trace_39 (c_X3_headIn (c := code) (w := k) (by omega)) (by omega) (by omega) (by omega) (Nat.le_of_ble_eq_true rfl) (fun x_39 h_39 hp_39 => ?_)
        rw [show x_39 = f k from hp_39.1.trans (hcode k hk0 (by omega)), hp_39.2]
        have hv := hr k hk0 (by omega)
        have hkk := hk2 k hk0 (by omega)
        refine V_istore6 G dX0_trace_42 rfl ?_
        refine V_aload0 G dX0_trace_44 ?_
        refine V_getR G fl_X0_9 dX0_trace_45 (by first | decide | assumption) (by first | rfl | assumption) rfl (by first | rfl | assumption) ?_
        refine V_iload5 G dX0_trace_48 ?_
        refine V_aload1 G dX0_trace_50 ?_
        refine V_iload5 G dX0_trace_51 ?_
        refine V_cV1i (d1 := 2) G m_X0_60 dX0_trace_53 (by first | decide | assumption) (by first | rfl | assumption) (c_X4_kindAt hp (n := n) (w := k) hgn hn0 ⟨by omega, by omega⟩) (by omega) (by omega) (by omega) (Nat.le_of_ble_eq_true rfl) (fun x_53 h_53 hp_53 => ?_)
        rw [show x_53 = kd k by rw [hp_53.1, kdC_congr hgk]; exact if_pos ⟨hk0, by omega⟩, hp_53.2]
        refine V_iast G dX0_trace_56 (by first | decide | assumption) (by first | rfl | assumption) (by decide) ⟨by omega, by omega⟩ ?_
        refine V_aload0 G dX0_trace_57 ?_
        refine V_getR G fl_X0_15 dX0_trace_58 (by first | decide | assumption) (by first | rfl | assumption) rfl (by first | rfl | assumption) ?_
        refine V_iload5 G dX0_trace_61 ?_
        refine V_iload6 G dX0_trace_63 ?_
        refine V_iast G dX0_trace_65 (by first | decide | assumption) (by first | rfl | assumption) (by decide) ⟨by omega, by omega⟩ ?_
        refine V_aload0 G dX0_trace_66 ?_
        refine V_getR G fl_X0_18 dX0_trace_67 (by first | decide | assumption) (by first | rfl | assumption) rfl (by first | rfl | assumption) ?_
        refine V_iload5 G dX0_trace_70 ?_
        refine V_iload5 G dX0_trace_72 ?_
        refine V_aload1 G dX0_trace_74 ?_
        refine V_iload5 G dX0_trace_75 ?_
        refine V_cV1i (d1 := 2) G m_X0_60 dX0_trace_77 (by first | decide | assumption) (by first | rfl | assumption) (c_X4_kindAt (h := (sI (sI g (q + 1) k (kd k)) (q + 2) k (f k))) hp (n := n) (w := k) (by rw [hI_sI, if_neg (by omega), hI_sI, if_neg (by omega)]; exact hgn) hn0 ⟨by omega, by omega⟩) (by omega) (by omega) (by omega) (Nat.le_of_ble_eq_true rfl) (fun x_77 h_77 hp_77 => ?_)
        rw [show x_77 = kd k by rw [hp_77.1, kdC_congr (kd := kd) (fun w w1 w2 => by rw [hI_sI, if_neg (by omega), hI_sI, if_neg (by omega)]; exact hgk w w1 w2)]; exact if_pos ⟨hk0, by omega⟩, hp_77.2]
        refine V_iload6 G dX0_trace_80 ?_
        refine V_aload1 G dX0_trace_82 ?_
        refine V_iload6 G dX0_trace_83 ?_
        refine V_cV1i (d1 := 2) G m_X0_60 dX0_trace_85 (by first | decide | assumption) (by first | rfl | assumption) (c_X4_kindAt (h := (sI (sI g (q + 1) k (kd k)) (q + 2) k (f k))) hp (n := n) (w := f k) (by rw [hI_sI, if_neg (by omega), hI_sI, if_neg (by omega)]; exact hgn) hn0 ⟨by omega, by omega⟩) (by omega) (by omega) (by omega) (Nat.le_of_ble_eq_true rfl) (fun x_85 h_85 hp_85 => ?_)
        rw [show x_85 = kdC n kd (f k) by rw [hp_85.1, kdC_congr (kd := kd) (fun w w1 w2 => by rw [hI_sI, if_neg (by omega), hI_sI, if_neg (by omega)]; exact hgk w w1 w2)], hp_85.2]
        refine V_cS4i (d1 := 1) G m_X0_64 dX0_trace_88 (c_X0_wayOf (w := k) (k := kd k) (z := f k) (kh := kdC n kd (f k)) ⟨by omega, by omega⟩ hkk ⟨by omega, by omega⟩ (kdC_r hk2 _)) (by omega) (by omega) (by omega) (Nat.le_of_ble_eq_true rfl) (fun x_88 h_88 hp_88 => ?_)
        rw [show x_88 = heldF kd f k from hp_88.1.trans (wayF_held hr hk2 hN hk0 (by omega)), hp_88.2]
        have hhr := heldF_r kd f k
        refine V_iast G dX0_trace_91 (by first | decide | assumption) (by first | rfl | assumption) (by decide) ⟨by omega, by omega⟩ ?_
        refine V_aload0 G dX0_trace_92 ?_
        refine V_iload6 G dX0_trace_93 ?_
        refine V_cV1i (d1 := 1) G m_X0_68 dX0_trace_95 (by first | decide | assumption) (by first | rfl | assumption) (c_X0_isWord (h := (sI (sI (sI g (q + 1) k (kd k)) (q + 2) k (f k)) (q + 3) k (heldF kd f k))) hq_ (n := n) (by rw [hI_sI, if_neg (by omega), hI_sI, if_neg (by omega), hI_sI, if_neg (by omega)]; exact hg6) hn0 (w := f k) ⟨by omega, by omega⟩) (by omega) (by omega) (by omega) (Nat.le_of_ble_eq_true rfl) (fun x_95 h_95 hp_95 => ?_)
        rw [hp_95.1, hp_95.2]
        refine V_ifeqB G dX0_trace_98 (tgt := 115) (by decide)  (fun c_98 => ?_) (fun c_98 => ?_)
        ·
          refine V_iload5 G dX0_trace_115 ?_
          refine V_istore4 G dX0_trace_117 rfl ?_
          refine V_iinc5 G dX0_trace_119 rfl ?_
          refine V_goto G dX0_trace_122 (tgt := 27) (by decide) ?_
          first
          | (have c9 : 0 ≤ f k ∧ f k < n := c_98
             have hlr := ldF_r f k (f k)
             have hgs4 : hI (sI (sI (sI (sI g (q + 1) k (kd k)) (q + 2) k (f k)) (q + 3) k (heldF kd f k)) (q + 5) (f k) (ldF f k (f k) + 1)) q 6 = n := by
               repeat rw [hI_sI, if_neg (by omega)]
               exact hg6
             exact ih (k + 1) _ root _ (by omega) (by omega) ((((r1.sI ⟨by omega, by omega⟩).sI ⟨by omega, by omega⟩).sI ⟨by omega, by omega⟩).sI ⟨by omega, by omega⟩) ((((eg.st (by simp [S7])).st (by simp [S7])).st (by simp [S7])).st (by simp [S7])) hgs4 (fun j j1 j2 => by
                 by_cases e : j = k
                 · subst e
                   refine ⟨?_, ?_, ?_⟩
                   · repeat rw [hI_sI, if_neg (by omega)]
                     rw [hI_sI, if_pos ⟨rfl, rfl⟩]
                   · repeat rw [hI_sI, if_neg (by omega)]
                     rw [hI_sI, if_pos ⟨rfl, rfl⟩]
                   · repeat rw [hI_sI, if_neg (by omega)]
                     rw [hI_sI, if_pos ⟨rfl, rfl⟩]
                 · have := hcl j j1 (by omega)
                   refine ⟨?_, ?_, ?_⟩
                   · repeat rw [hI_sI, if_neg (by omega)]
                     exact this.1
                   · repeat rw [hI_sI, if_neg (by omega)]
                     exact this.2.1
                   · repeat rw [hI_sI, if_neg (by omega)]
                     exact this.2.2) (fun j j1 j2 => by
               rw [hI_sI, ldF_s hk0]
               by_cases e : j = f k
               · rw [if_pos ⟨rfl, e⟩, if_pos e.symm, e]
               · rw [if_neg (fun z => e z.2), if_neg (fun z => e z.symm)]
                 repeat rw [hI_sI, if_neg (by omega)]
                 rw [hld j j1 j2, Int.add_zero]) (by rw [← hrt, rtF, if_pos c9]) hroot)
          | (have c9 : ¬ (0 ≤ f k ∧ f k < n) := c_98
             have hgs3 : hI (sI (sI (sI g (q + 1) k (kd k)) (q + 2) k (f k)) (q + 3) k (heldF kd f k)) q 6 = n := by
               repeat rw [hI_sI, if_neg (by omega)]
               exact hg6
             exact ih (k + 1) _ k _ (by omega) (by omega) (((r1.sI ⟨by omega, by omega⟩).sI ⟨by omega, by omega⟩).sI ⟨by omega, by omega⟩) (((eg.st (by simp [S7])).st (by simp [S7])).st (by simp [S7])) hgs3 (fun j j1 j2 => by
                 by_cases e : j = k
                 · subst e
                   refine ⟨?_, ?_, ?_⟩
                   · repeat rw [hI_sI, if_neg (by omega)]
                     rw [hI_sI, if_pos ⟨rfl, rfl⟩]
                   · repeat rw [hI_sI, if_neg (by omega)]
                     rw [hI_sI, if_pos ⟨rfl, rfl⟩]
                   · repeat rw [hI_sI, if_neg (by omega)]
                     rw [hI_sI, if_pos ⟨rfl, rfl⟩]
                 · have := hcl j j1 (by omega)
                   refine ⟨?_, ?_, ?_⟩
                   · repeat rw [hI_sI, if_neg (by omega)]
                     exact this.1
                   · repeat rw [hI_sI, if_neg (by omega)]
                     exact this.2.1
                   · repeat rw [hI_sI, if_neg (by omega)]
                     exact this.2.2) (fun j j1 j2 => by
               rw [ldF_s hk0, if_neg (by omega)]
               repeat rw [hI_sI, if_neg (by omega)]
               rw [hld j j1 j2, Int.add_zero]) (by rw [← hrt, rtF, if_neg c9]) ⟨by omega, by omega⟩)
        ·
          refine V_aload0 G dX0_trace_101 ?_
          refine V_getR G fl_X0_24 dX0_trace_102 (by first | decide | assumption) (by first | rfl | assumption) rfl (by first | rfl | assumption) ?_
          refine V_iload6 G dX0_trace_105 ?_
          refine V_dup2 G dX0_trace_107 rfl rfl ?_
          refine V_ialde G dX0_trace_108 (by first | decide | assumption) (by first | rfl | assumption) (by decide) ⟨by omega, by omega⟩ (show hI (sI (sI (sI g (q + 1) k (kd k)) (q + 2) k (f k)) (q + 3) k (heldF kd f k)) (q + 5) (f k) = ldF f k (f k) by rw [hI_sI, if_neg (by omega), hI_sI, if_neg (by omega), hI_sI, if_neg (by omega)]; exact hld (f k) (by omega) (by omega)) ?_
          refine V_iconst G dX0_trace_109 ?_
          refine V_iadd G dX0_trace_110 ?_
          refine V_iast G dX0_trace_111 (by first | decide | assumption) (by first | rfl | assumption) (by decide) ⟨by omega, by omega⟩ ?_
          refine V_goto G dX0_trace_112 (tgt := 119) (by decide) ?_
          refine V_iinc5 G dX0_trace_119 rfl ?_
          refine V_goto G dX0_trace_122 (tgt := 27) (by decide) ?_
          first
          | (have c9 : 0 ≤ f k ∧ f k < n := c_98
             have hlr := ldF_r f k (f k)
             have hgs4 : hI (sI (sI (sI (sI g (q + 1) k (kd k)) (q + 2) k (f k)) (q + 3) k (heldF kd f k)) (q + 5) (f k) (ldF f k (f k) + 1)) q 6 = n := by
               repeat rw [hI_sI, if_neg (by omega)]
               exact hg6
             exact ih (k + 1) _ root _ (by omega) (by omega) ((((r1.sI ⟨by omega, by omega⟩).sI ⟨by omega, by omega⟩).sI ⟨by omega, by omega⟩).sI ⟨by omega, by omega⟩) ((((eg.st (by simp [S7])).st (by simp [S7])).st (by simp [S7])).st (by simp [S7])) hgs4 (fun j j1 j2 => by
                 by_cases e : j = k
                 · subst e
                   refine ⟨?_, ?_, ?_⟩
                   · repeat rw [hI_sI, if_neg (by omega)]
                     rw [hI_sI, if_pos ⟨rfl, rfl⟩]
                   · repeat rw [hI_sI, if_neg (by omega)]
                     rw [hI_sI, if_pos ⟨rfl, rfl⟩]
                   · repeat rw [hI_sI, if_neg (by omega)]
                     rw [hI_sI, if_pos ⟨rfl, rfl⟩]
                 · have := hcl j j1 (by omega)
                   refine ⟨?_, ?_, ?_⟩
                   · repeat rw [hI_sI, if_neg (by omega)]
                     exact this.1
                   · repeat rw [hI_sI, if_neg (by omega)]
                     exact this.2.1
                   · repeat rw [hI_sI, if_neg (by omega)]
                     exact this.2.2) (fun j j1 j2 => by
               rw [hI_sI, ldF_s hk0]
               by_cases e : j = f k
               · rw [if_pos ⟨rfl, e⟩, if_pos e.symm, e]
               · rw [if_neg (fun z => e z.2), if_neg (fun z => e z.symm)]
                 repeat rw [hI_sI, if_neg (by omega)]
                 rw [hld j j1 j2, Int.add_zero]) (by rw [← hrt, rtF, if_pos c9]) hroot)
          | (have c9 : ¬ (0 ≤ f k ∧ f k < n) := c_98
             have hgs3 : hI (sI (sI (sI g (q + 1) k (kd k)) (q + 2) k (f k)) (q + 3) k (heldF kd f k)) q 6 = n := by
               repeat rw [hI_sI, if_neg (by omega)]
               exact hg6
             exact ih (k + 1) _ k _ (by omega) (by omega) (((r1.sI ⟨by omega, by omega⟩).sI ⟨by omega, by omega⟩).sI ⟨by omega, by omega⟩) (((eg.st (by simp [S7])).st (by simp [S7])).st (by simp [S7])) hgs3 (fun j j1 j2 => by
                 by_cases e : j = k
                 · subst e
                   refine ⟨?_, ?_, ?_⟩
                   · repeat rw [hI_sI, if_neg (by omega)]
                     rw [hI_sI, if_pos ⟨rfl, rfl⟩]
                   · repeat rw [hI_sI, if_neg (by omega)]
                     rw [hI_sI, if_pos ⟨rfl, rfl⟩]
                   · repeat rw [hI_sI, if_neg (by omega)]
                     rw [hI_sI, if_pos ⟨rfl, rfl⟩]
                 · have := hcl j j1 (by omega)
                   refine ⟨?_, ?_, ?_⟩
                   · repeat rw [hI_sI, if_neg (by omega)]
                     exact this.1
                   · repeat rw [hI_sI, if_neg (by omega)]
                     exact this.2.1
                   · repeat rw [hI_sI, if_neg (by omega)]
                     exact this.2.2) (fun j j1 j2 => by
               rw [ldF_s hk0, if_neg (by omega)]
               repeat rw [hI_sI, if_neg (by omega)]
               rw [hld j j1 j2, Int.add_zero]) (by rw [← hrt, rtF, if_neg c9]) ⟨by omega, by omega⟩)
  refine V_aload0 G dX0_trace_0 ?_
  refine V_aload1 G dX0_trace_1 ?_
  refine V_cV0i (d1 := 1) G m_X0_37 dX0_trace_2 (by first | decide | assumption) (by first | rfl | assumption) (c_X4_size hp) (by omega) (by omega) (by omega) (Nat.le_of_ble_eq_true rfl) (fun x_2 h_2 hp_2 => ?_)
  rw [show x_2 = n from hp_2.1.trans hn, hp_2.2]
  refine V_bipush G dX0_trace_5 (by decide) ?_
  refine V_mmin G m_X0_42 dX0_trace_7 ⟨by omega, by omega⟩ ⟨by decide, by decide⟩ (by omega) (by omega) (Nat.le_of_ble_eq_true rfl) (by omega) ?_
  rw [if_neg (show ¬ 12 < n by omega)]
  refine V_putI (jz := 6) G fw_X0_30 dX0_trace_10 (by first | decide | assumption) (by first | rfl | assumption) rfl rfl ?_
  refine V_aload0 G dX0_trace_13 ?_
  refine V_getR G fl_X0_24 dX0_trace_14 (by first | decide | assumption) (by first | rfl | assumption) rfl (by first | rfl | assumption) ?_
  refine V_iconst G dX0_trace_17 ?_
  refine V_cS2v (d1 := 1) G m_X0_48 dX0_trace_18 (c_J7_fill_53178 (h := sI h q 6 n) (r.sI ⟨by omega, by omega⟩) hq5 hs5 (v := 0) ⟨by decide, by decide⟩) (by omega) (by omega) (by omega) (Nat.le_of_ble_eq_true rfl) (fun h_18 hp_18 => ?_)
  obtain ⟨v1, v2, v3⟩ := hp_18
  refine V_iconst G dX0_trace_21 ?_
  refine V_istore4 G dX0_trace_22 rfl ?_
  refine V_iconst G dX0_trace_24 ?_
  refine V_istore5 G dX0_trace_25 rfl ?_
  exact lp1 n.toNat 0 h_18 (-1) _ (by omega) (by omega) v2 ((eqx.rf.st (by simp [S7])).tr (v1.mono (fun a j z => by simp [S7] at z; simp; omega))) ((v1.1 q 6 (by simp)).trans (by rw [hI_sI, if_pos ⟨rfl, rfl⟩])) (fun j j1 j2 => by omega) (fun j j1 j2 => by rw [v3 j j1 j2]; rfl) rfl ⟨by omega, by omega⟩

set_option maxRecDepth 100000 in
set_option maxHeartbeats 800000 in
theorem c_X0_property {l : Launch} {d : Nat} {h : Hp} {q : Nat} (hq : isDr q) {n : Int} {kd f : Int → Int} (hn0 : 0 ≤ n ∧ n ≤ 12) (D : DrC h q n kd f) {w v : Int} (hw : 0 ≤ w ∧ w < n) (hv : 1 ≤ v ∧ v ≤ 5) (hd : 2 ≤ d := by omega) : CP l d 0 0 yX0_property cX0_property 3 (Option.some Jvm.ClassFile.FieldType.int) [.ref q, iv w, iv v] h (pI fun x h1 => x = tdF n kd f w v ∧ h1 = h) := by
  refine CP.ofV (L := [some (.ref q), some (.int (Int32.ofInt w)), some (.int (Int32.ofInt v))]) RX0 (by decide +kernel) rfl (Nat.le_of_ble_eq_true rfl) rfl (fun X hX G E => ?_)
  subst hX
  have hq_ := hq
  obtain ⟨⟨hq0, hq1, hq2, hq3, hq4, hq5, hq6⟩, hs0, ⟨hf0, hf1, hf2, hf3, hf4, hf5⟩, hs1, hs2, hs3, hs4, hs5, hs6⟩ := hq
  obtain ⟨hn, hD⟩ := D
  obtain ⟨d1, d2, d3, d4, d5, d6⟩ := hD w hw.1 hw.2
  refine V_aload0 G dX0_property_0 ?_
  refine V_iload1 G dX0_property_1 ?_
  refine V_cV1i (d1 := 1) G m_X0_68 dX0_property_2 (by first | decide | assumption) (by first | rfl | assumption) (c_X0_isWord hq_ hn hn0 (w := w) ⟨by omega, by omega⟩) (by omega) (by omega) (by omega) (Nat.le_of_ble_eq_true rfl) (fun x_2 h_2 hp_2 => ?_)
  rw [hp_2.1, hp_2.2]
  refine V_ifneB G dX0_property_5 (tgt := 10) (by decide)  (fun c_5 => ?_) (fun c_5 => ?_)
  ·
    refine V_iload2 G dX0_property_10 ?_
    rcases (show v = 1 ∨ v = 2 ∨ v = 3 ∨ v = 4 ∨ (v < 1 ∨ 4 < v) by omega) with e_11 | e_11 | e_11 | e_11 | e_11
    · rw [e_11]
      refine V_tableIn G dX0_property_11 (tgt := 40) ⟨by decide, by decide⟩ (by decide) (by decide) rfl (by decide) ?_
      refine V_aload0 G dX0_property_40 ?_
      refine V_getR G fl_X0_15 dX0_property_41 (by first | decide | assumption) (by first | rfl | assumption) rfl (by first | rfl | assumption) ?_
      refine V_iload1 G dX0_property_44 ?_
      refine V_ialde G dX0_property_45 (by first | decide | assumption) (by first | rfl | assumption) (by decide) ⟨by omega, by omega⟩ d2 ?_
      exact V_reti E dX0_property_46 rfl rfl ⟨_, rfl, ⟨by rw [e_11]; rfl, rfl⟩⟩
    · rw [e_11]
      refine V_tableIn G dX0_property_11 (tgt := 47) ⟨by decide, by decide⟩ (by decide) (by decide) rfl (by decide) ?_
      refine V_aload0 G dX0_property_47 ?_
      refine V_getR G fl_X0_18 dX0_property_48 (by first | decide | assumption) (by first | rfl | assumption) rfl (by first | rfl | assumption) ?_
      refine V_iload1 G dX0_property_51 ?_
      refine V_ialde G dX0_property_52 (by first | decide | assumption) (by first | rfl | assumption) (by decide) ⟨by omega, by omega⟩ d3 ?_
      exact V_reti E dX0_property_53 rfl rfl ⟨_, rfl, ⟨by rw [e_11]; rfl, rfl⟩⟩
    · rw [e_11]
      refine V_tableIn G dX0_property_11 (tgt := 54) ⟨by decide, by decide⟩ (by decide) (by decide) rfl (by decide) ?_
      refine V_aload0 G dX0_property_54 ?_
      refine V_getR G fl_X0_21 dX0_property_55 (by first | decide | assumption) (by first | rfl | assumption) rfl (by first | rfl | assumption) ?_
      refine V_iload1 G dX0_property_58 ?_
      refine V_ialde G dX0_property_59 (by first | decide | assumption) (by first | rfl | assumption) (by decide) ⟨by omega, by omega⟩ d4 ?_
      refine V_bipush G dX0_property_60 (by decide) ?_
      refine V_iadd G dX0_property_62 ?_
      exact V_reti E dX0_property_63 rfl rfl ⟨_, rfl, ⟨by rw [e_11]; rfl, rfl⟩⟩
    · rw [e_11]
      refine V_tableIn G dX0_property_11 (tgt := 64) ⟨by decide, by decide⟩ (by decide) (by decide) rfl (by decide) ?_
      refine V_aload0 G dX0_property_64 ?_
      refine V_getR G fl_X0_24 dX0_property_65 (by first | decide | assumption) (by first | rfl | assumption) rfl (by first | rfl | assumption) ?_
      refine V_iload1 G dX0_property_68 ?_
      refine V_ialde G dX0_property_69 (by first | decide | assumption) (by first | rfl | assumption) (by decide) ⟨by omega, by omega⟩ d5 ?_
      exact V_reti E dX0_property_70 rfl rfl ⟨_, rfl, ⟨by rw [e_11]; rfl, rfl⟩⟩
    ·
      refine V_tableOut G dX0_property_11 (tgt := 71) ⟨by omega, by omega⟩ (by omega) (by decide) ?_
      refine V_aload0 G dX0_property_71 ?_
      refine V_getR G fl_X0_27 dX0_property_72 (by first | decide | assumption) (by first | rfl | assumption) rfl (by first | rfl | assumption) ?_
      refine V_iload1 G dX0_property_75 ?_
      refine V_ialde G dX0_property_76 (by first | decide | assumption) (by first | rfl | assumption) (by decide) ⟨by omega, by omega⟩ d6 ?_
      exact V_reti E dX0_property_77 rfl rfl ⟨_, rfl, ⟨by unfold tdF; rw [if_neg (by omega), if_neg (by omega), if_neg (by omega), if_neg (by omega)], rfl⟩⟩
  · exact absurd hw c_5

set_option maxRecDepth 100000 in
set_option maxHeartbeats 800000 in
theorem c_X0_height {l : Launch} {d : Nat} {h : Hp} {q : Nat} (hq : isDr q) {n : Int} {kd f : Int → Int} (hn0 : 0 ≤ n ∧ n ≤ 12) (D : DrC h q n kd f) (hd : 2 ≤ d := by omega) : CP l d 0 0 yX0_height cX0_height 4 (Option.some Jvm.ClassFile.FieldType.int) [.ref q] h (pI fun x h1 => x = hgtF n kd f ∧ h1 = h) := by
  refine CP.ofV (L := [some (.ref q), none, none, none]) RX0 (by decide +kernel) rfl (Nat.le_of_ble_eq_true rfl) rfl (fun X hX G E => ?_)
  subst hX
  have hq_ := hq
  obtain ⟨⟨hq0, hq1, hq2, hq3, hq4, hq5, hq6⟩, hs0, ⟨hf0, hf1, hf2, hf3, hf4, hf5⟩, hs1, hs2, hs3, hs4, hs5, hs6⟩ := hq
  obtain ⟨hn, hD⟩ := D
  have lp : ∀ (m : Nat) (k : Int) (a : Int) (b : Int), k + m = n → 0 ≤ k → -12 ≤ a ∧ a ≤ 12 → -12 ≤ b ∧ b ≤ 12 → mnF (levF kd f 12) m k a = mnF (levF kd f 12) n.toNat 0 0 → mxF (levF kd f 12) m k b = mxF (levF kd f 12) n.toNat 0 0 → V X 0 0 6 [some (.ref q), some (.int (Int32.ofInt a)), some (.int (Int32.ofInt b)), some (.int (Int32.ofInt k))] [] h := by
    intro m
    induction m with
    | zero =>
      intro k a b hm_ hk0 ha hb h1 h2
      have lv := levF_r kd f 12 k
      refine V_iload3 G dX0_height_6 ?_
      refine V_aload0 G dX0_height_7 ?_
      refine V_getIe (jz := 6) G fl_X0_30 dX0_height_8 (by first | decide | assumption) (by first | rfl | assumption) rfl rfl (by first | (simp only [hI_sI, hI_sL, hL_sI, hL_sL, false_and, true_and, and_false, and_true, and_self, if_false, if_true, hn]; first | done | rfl) | rfl) ?_
      refine V_icmpge G dX0_height_11 (tgt := 42) (by decide) (by first | exact r _ _ | assumption | exact ⟨by omega, by omega⟩) (by first | exact r _ _ | assumption | exact ⟨by omega, by omega⟩) (fun c_11 => ?_) (fun c_11 => ?_)
      ·
        refine V_iload2 G dX0_height_42 ?_
        refine V_iload1 G dX0_height_43 ?_
        refine V_isub G dX0_height_44 ?_
        refine V_iconst G dX0_height_45 ?_
        refine V_iadd G dX0_height_46 ?_
        exact V_reti E dX0_height_47 rfl rfl ⟨_, rfl, ⟨by unfold hgtF; rw [← h1, ← h2]; rfl, rfl⟩⟩
      · omega
    | succ m ih =>
      intro k a b hm_ hk0 ha hb h1 h2
      have lv := levF_r kd f 12 k
      refine V_iload3 G dX0_height_6 ?_
      refine V_aload0 G dX0_height_7 ?_
      refine V_getIe (jz := 6) G fl_X0_30 dX0_height_8 (by first | decide | assumption) (by first | rfl | assumption) rfl rfl (by first | (simp only [hI_sI, hI_sL, hL_sI, hL_sL, false_and, true_and, and_false, and_true, and_self, if_false, if_true, hn]; first | done | rfl) | rfl) ?_
      refine V_icmpge G dX0_height_11 (tgt := 42) (by decide) (by first | exact r _ _ | assumption | exact ⟨by omega, by omega⟩) (by first | exact r _ _ | assumption | exact ⟨by omega, by omega⟩) (fun c_11 => ?_) (fun c_11 => ?_)
      · omega
      ·
        refine V_iload1 G dX0_height_14 ?_
        refine V_aload0 G dX0_height_15 ?_
        refine V_getR G fl_X0_21 dX0_height_16 (by first | decide | assumption) (by first | rfl | assumption) rfl (by first | rfl | assumption) ?_
        refine V_iload3 G dX0_height_19 ?_
        refine V_ialde G dX0_height_20 (by first | decide | assumption) (by first | rfl | assumption) (by decide) ⟨by omega, by omega⟩ (hD k hk0 (by omega)).2.2.2.1 ?_
        refine V_mmin G m_X0_42 dX0_height_21 ⟨by omega, by omega⟩ ⟨by omega, by omega⟩ (by omega) (by omega) (Nat.le_of_ble_eq_true rfl) (by omega) ?_
        refine V_istore1 G dX0_height_24 rfl ?_
        refine V_iload2 G dX0_height_25 ?_
        refine V_aload0 G dX0_height_26 ?_
        refine V_getR G fl_X0_21 dX0_height_27 (by first | decide | assumption) (by first | rfl | assumption) rfl (by first | rfl | assumption) ?_
        refine V_iload3 G dX0_height_30 ?_
        refine V_ialde G dX0_height_31 (by first | decide | assumption) (by first | rfl | assumption) (by decide) ⟨by omega, by omega⟩ (hD k hk0 (by omega)).2.2.2.1 ?_
        refine V_mmax G m_X0_79 dX0_height_32 ⟨by omega, by omega⟩ ⟨by omega, by omega⟩ (by omega) (by omega) (Nat.le_of_ble_eq_true rfl) (by omega) ?_
        refine V_istore2 G dX0_height_35 rfl ?_
        refine V_iinc3 G dX0_height_36 rfl ?_
        refine V_goto G dX0_height_39 (tgt := 6) (by decide) ?_
        exact ih (k + 1) _ _ (by omega) (by omega) (by split <;> omega) (by split <;> omega) (by rw [← h1, mnF]) (by rw [← h2, mxF])
  refine V_iconst G dX0_height_0 ?_
  refine V_istore1 G dX0_height_1 rfl ?_
  refine V_iconst G dX0_height_2 ?_
  refine V_istore2 G dX0_height_3 rfl ?_
  refine V_iconst G dX0_height_4 ?_
  refine V_istore3 G dX0_height_5 rfl ?_
  exact lp n.toNat 0 0 0 (by omega) (by omega) (by omega) (by omega) rfl rfl

set_option maxRecDepth 100000 in
set_option maxHeartbeats 800000 in
theorem c_X0_wordsOfKind {l : Launch} {d : Nat} {h : Hp} (r : Rg h) {q : Nat} (hq : isDr q) {n : Int} {kd f : Int → Int} (hn0 : 0 ≤ n ∧ n ≤ 12) (D : DrC h q n kd f) {z : Int} (hz : inr z) (hd : 1 ≤ d := by omega) : CP l d 0 0 yX0_wordsOfKind cX0_wordsOfKind 4 (Option.some Jvm.ClassFile.FieldType.int) [.ref q, iv z] h (pI fun x h1 => x = sumF (fun k => if kd k = z then 1 else 0) n.toNat 0 ∧ h1 = h) := by
  refine CP.ofV (L := [some (.ref q), some (.int (Int32.ofInt z)), none, none]) RX0 (by decide +kernel) rfl (Nat.le_of_ble_eq_true rfl) rfl (fun X hX G E => ?_)
  subst hX
  have hq_ := hq
  obtain ⟨⟨hq0, hq1, hq2, hq3, hq4, hq5, hq6⟩, hs0, ⟨hf0, hf1, hf2, hf3, hf4, hf5⟩, hs1, hs2, hs3, hs4, hs5, hs6⟩ := hq
  obtain ⟨hn, hD⟩ := D
  have lp : ∀ (m : Nat) (k : Int) (acc : Int), k + m = n → 0 ≤ k → acc + sumF (fun k => if kd k = z then 1 else 0) m k = sumF (fun k => if kd k = z then 1 else 0) n.toNat 0 → V X 0 0 4 [some (.ref q), some (.int (Int32.ofInt z)), some (.int (Int32.ofInt acc)), some (.int (Int32.ofInt k))] [] h := by
    intro m
    induction m with
    | zero =>
      intro k acc hm_ hk0 hs
      refine V_iload3 G dX0_wordsOfKind_4 ?_
      refine V_aload0 G dX0_wordsOfKind_5 ?_
      refine V_getIe (jz := 6) G fl_X0_30 dX0_wordsOfKind_6 (by first | decide | assumption) (by first | rfl | assumption) rfl rfl (by first | (simp only [hI_sI, hI_sL, hL_sI, hL_sL, false_and, true_and, and_false, and_true, and_self, if_false, if_true, hn]; first | done | rfl) | rfl) ?_
      refine V_icmpge G dX0_wordsOfKind_9 (tgt := 31) (by decide) (by first | exact r _ _ | assumption | exact ⟨by omega, by omega⟩) (by first | exact r _ _ | assumption | exact ⟨by omega, by omega⟩) (fun c_9 => ?_) (fun c_9 => ?_)
      ·
        refine V_iload2 G dX0_wordsOfKind_31 ?_
        exact V_reti E dX0_wordsOfKind_32 rfl rfl ⟨_, rfl, ⟨by rw [← hs]; simp [sumF], rfl⟩⟩
      · omega
    | succ m ih =>
      intro k acc hm_ hk0 hs
      refine V_iload3 G dX0_wordsOfKind_4 ?_
      refine V_aload0 G dX0_wordsOfKind_5 ?_
      refine V_getIe (jz := 6) G fl_X0_30 dX0_wordsOfKind_6 (by first | decide | assumption) (by first | rfl | assumption) rfl rfl (by first | (simp only [hI_sI, hI_sL, hL_sI, hL_sL, false_and, true_and, and_false, and_true, and_self, if_false, if_true, hn]; first | done | rfl) | rfl) ?_
      refine V_icmpge G dX0_wordsOfKind_9 (tgt := 31) (by decide) (by first | exact r _ _ | assumption | exact ⟨by omega, by omega⟩) (by first | exact r _ _ | assumption | exact ⟨by omega, by omega⟩) (fun c_9 => ?_) (fun c_9 => ?_)
      · omega
      ·
        refine V_aload0 G dX0_wordsOfKind_12 ?_
        refine V_getR G fl_X0_9 dX0_wordsOfKind_13 (by first | decide | assumption) (by first | rfl | assumption) rfl (by first | rfl | assumption) ?_
        refine V_iload3 G dX0_wordsOfKind_16 ?_
        refine V_ialde G dX0_wordsOfKind_17 (by first | decide | assumption) (by first | rfl | assumption) (by decide) ⟨by omega, by omega⟩ (hD k hk0 (by omega)).1 ?_
        refine V_iload1 G dX0_wordsOfKind_18 ?_
        refine V_icmpne G dX0_wordsOfKind_19 (tgt := 25) (by decide) (by have := (hD k hk0 (by omega)).1; rw [← this]; exact r _ _) hz (fun c_19 => ?_) (fun c_19 => ?_)
        ·
          refine V_iinc3 G dX0_wordsOfKind_25 rfl ?_
          refine V_goto G dX0_wordsOfKind_28 (tgt := 4) (by decide) ?_
          exact ih (k + 1) _ (by omega) (by omega) (by
            rw [← hs]
            conv => rhs; rw [sumF]
            first
            | rw [if_pos (by omega)]
            | rw [if_neg (by omega)]
            omega)
        ·
          refine V_iinc2 G dX0_wordsOfKind_22 rfl ?_
          refine V_iinc3 G dX0_wordsOfKind_25 rfl ?_
          refine V_goto G dX0_wordsOfKind_28 (tgt := 4) (by decide) ?_
          exact ih (k + 1) _ (by omega) (by omega) (by
            rw [← hs]
            conv => rhs; rw [sumF]
            first
            | rw [if_pos (by omega)]
            | rw [if_neg (by omega)]
            omega)
  refine V_iconst G dX0_wordsOfKind_0 ?_
  refine V_istore2 G dX0_wordsOfKind_1 rfl ?_
  refine V_iconst G dX0_wordsOfKind_2 ?_
  refine V_istore3 G dX0_wordsOfKind_3 rfl ?_
  exact lp n.toNat 0 0 (by omega) (by omega) (by simp)

set_option maxRecDepth 100000 in
set_option maxHeartbeats 800000 in
theorem c_X0_wordsHeld {l : Launch} {d : Nat} {h : Hp} (r : Rg h) {q : Nat} (hq : isDr q) {n : Int} {kd f : Int → Int} (hn0 : 0 ≤ n ∧ n ≤ 12) (D : DrC h q n kd f) {z : Int} (hz : inr z) (hd : 1 ≤ d := by omega) : CP l d 0 0 yX0_wordsHeld cX0_wordsHeld 4 (Option.some Jvm.ClassFile.FieldType.int) [.ref q, iv z] h (pI fun x h1 => x = sumF (fun k => if heldF kd f k = z then 1 else 0) n.toNat 0 ∧ h1 = h) := by
  refine CP.ofV (L := [some (.ref q), some (.int (Int32.ofInt z)), none, none]) RX0 (by decide +kernel) rfl (Nat.le_of_ble_eq_true rfl) rfl (fun X hX G E => ?_)
  subst hX
  have hq_ := hq
  obtain ⟨⟨hq0, hq1, hq2, hq3, hq4, hq5, hq6⟩, hs0, ⟨hf0, hf1, hf2, hf3, hf4, hf5⟩, hs1, hs2, hs3, hs4, hs5, hs6⟩ := hq
  obtain ⟨hn, hD⟩ := D
  have lp : ∀ (m : Nat) (k : Int) (acc : Int), k + m = n → 0 ≤ k → acc + sumF (fun k => if heldF kd f k = z then 1 else 0) m k = sumF (fun k => if heldF kd f k = z then 1 else 0) n.toNat 0 → V X 0 0 4 [some (.ref q), some (.int (Int32.ofInt z)), some (.int (Int32.ofInt acc)), some (.int (Int32.ofInt k))] [] h := by
    intro m
    induction m with
    | zero =>
      intro k acc hm_ hk0 hs
      refine V_iload3 G dX0_wordsHeld_4 ?_
      refine V_aload0 G dX0_wordsHeld_5 ?_
      refine V_getIe (jz := 6) G fl_X0_30 dX0_wordsHeld_6 (by first | decide | assumption) (by first | rfl | assumption) rfl rfl (by first | (simp only [hI_sI, hI_sL, hL_sI, hL_sL, false_and, true_and, and_false, and_true, and_self, if_false, if_true, hn]; first | done | rfl) | rfl) ?_
      refine V_icmpge G dX0_wordsHeld_9 (tgt := 31) (by decide) (by first | exact r _ _ | assumption | exact ⟨by omega, by omega⟩) (by first | exact r _ _ | assumption | exact ⟨by omega, by omega⟩) (fun c_9 => ?_) (fun c_9 => ?_)
      ·
        refine V_iload2 G dX0_wordsHeld_31 ?_
        exact V_reti E dX0_wordsHeld_32 rfl rfl ⟨_, rfl, ⟨by rw [← hs]; simp [sumF], rfl⟩⟩
      · omega
    | succ m ih =>
      intro k acc hm_ hk0 hs
      refine V_iload3 G dX0_wordsHeld_4 ?_
      refine V_aload0 G dX0_wordsHeld_5 ?_
      refine V_getIe (jz := 6) G fl_X0_30 dX0_wordsHeld_6 (by first | decide | assumption) (by first | rfl | assumption) rfl rfl (by first | (simp only [hI_sI, hI_sL, hL_sI, hL_sL, false_and, true_and, and_false, and_true, and_self, if_false, if_true, hn]; first | done | rfl) | rfl) ?_
      refine V_icmpge G dX0_wordsHeld_9 (tgt := 31) (by decide) (by first | exact r _ _ | assumption | exact ⟨by omega, by omega⟩) (by first | exact r _ _ | assumption | exact ⟨by omega, by omega⟩) (fun c_9 => ?_) (fun c_9 => ?_)
      · omega
      ·
        refine V_aload0 G dX0_wordsHeld_12 ?_
        refine V_getR G fl_X0_18 dX0_wordsHeld_13 (by first | decide | assumption) (by first | rfl | assumption) rfl (by first | rfl | assumption) ?_
        refine V_iload3 G dX0_wordsHeld_16 ?_
        refine V_ialde G dX0_wordsHeld_17 (by first | decide | assumption) (by first | rfl | assumption) (by decide) ⟨by omega, by omega⟩ (hD k hk0 (by omega)).2.2.1 ?_
        refine V_iload1 G dX0_wordsHeld_18 ?_
        refine V_icmpne G dX0_wordsHeld_19 (tgt := 25) (by decide) (by have := (hD k hk0 (by omega)).2.2.1; rw [← this]; exact r _ _) hz (fun c_19 => ?_) (fun c_19 => ?_)
        ·
          refine V_iinc3 G dX0_wordsHeld_25 rfl ?_
          refine V_goto G dX0_wordsHeld_28 (tgt := 4) (by decide) ?_
          exact ih (k + 1) _ (by omega) (by omega) (by
            rw [← hs]
            conv => rhs; rw [sumF]
            first
            | rw [if_pos (by omega)]
            | rw [if_neg (by omega)]
            omega)
        ·
          refine V_iinc2 G dX0_wordsHeld_22 rfl ?_
          refine V_iinc3 G dX0_wordsHeld_25 rfl ?_
          refine V_goto G dX0_wordsHeld_28 (tgt := 4) (by decide) ?_
          exact ih (k + 1) _ (by omega) (by omega) (by
            rw [← hs]
            conv => rhs; rw [sumF]
            first
            | rw [if_pos (by omega)]
            | rw [if_neg (by omega)]
            omega)
  refine V_iconst G dX0_wordsHeld_0 ?_
  refine V_istore2 G dX0_wordsHeld_1 rfl ?_
  refine V_iconst G dX0_wordsHeld_2 ?_
  refine V_istore3 G dX0_wordsHeld_3 rfl ?_
  exact lp n.toNat 0 0 (by omega) (by omega) (by simp)

set_option maxRecDepth 100000 in
set_option maxHeartbeats 800000 in
theorem c_X0_greatestLoad {l : Launch} {d : Nat} {h : Hp} {q : Nat} (hq : isDr q) {n : Int} {kd f : Int → Int} (hn0 : 0 ≤ n ∧ n ≤ 12) (D : DrC h q n kd f) (hd : 2 ≤ d := by omega) : CP l d 0 0 yX0_greatestLoad cX0_greatestLoad 3 (Option.some Jvm.ClassFile.FieldType.int) [.ref q] h (pI fun x h1 => x = mxF (hldF n f) n.toNat 0 0 ∧ h1 = h) := by
  refine CP.ofV (L := [some (.ref q), none, none]) RX0 (by decide +kernel) rfl (Nat.le_of_ble_eq_true rfl) rfl (fun X hX G E => ?_)
  subst hX
  have hq_ := hq
  obtain ⟨⟨hq0, hq1, hq2, hq3, hq4, hq5, hq6⟩, hs0, ⟨hf0, hf1, hf2, hf3, hf4, hf5⟩, hs1, hs2, hs3, hs4, hs5, hs6⟩ := hq
  obtain ⟨hn, hD⟩ := D
  have lp : ∀ (m : Nat) (k : Int) (a : Int), k + m = n → 0 ≤ k → 0 ≤ a ∧ a ≤ 12 → mxF (hldF n f) m k a = mxF (hldF n f) n.toNat 0 0 → V X 0 0 4 [some (.ref q), some (.int (Int32.ofInt a)), some (.int (Int32.ofInt k))] [] h := by
    intro m
    induction m with
    | zero =>
      intro k a hm_ hk0 ha hs
      have lv := hldF_r2 n f k hn0.2
      refine V_iload2 G dX0_greatestLoad_4 ?_
      refine V_aload0 G dX0_greatestLoad_5 ?_
      refine V_getIe (jz := 6) G fl_X0_30 dX0_greatestLoad_6 (by first | decide | assumption) (by first | rfl | assumption) rfl rfl (by first | (simp only [hI_sI, hI_sL, hL_sI, hL_sL, false_and, true_and, and_false, and_true, and_self, if_false, if_true, hn]; first | done | rfl) | rfl) ?_
      refine V_icmpge G dX0_greatestLoad_9 (tgt := 29) (by decide) (by first | exact r _ _ | assumption | exact ⟨by omega, by omega⟩) (by first | exact r _ _ | assumption | exact ⟨by omega, by omega⟩) (fun c_9 => ?_) (fun c_9 => ?_)
      ·
        refine V_iload1 G dX0_greatestLoad_29 ?_
        exact V_reti E dX0_greatestLoad_30 rfl rfl ⟨_, rfl, ⟨by rw [← hs]; rfl, rfl⟩⟩
      · omega
    | succ m ih =>
      intro k a hm_ hk0 ha hs
      have lv := hldF_r2 n f k hn0.2
      refine V_iload2 G dX0_greatestLoad_4 ?_
      refine V_aload0 G dX0_greatestLoad_5 ?_
      refine V_getIe (jz := 6) G fl_X0_30 dX0_greatestLoad_6 (by first | decide | assumption) (by first | rfl | assumption) rfl rfl (by first | (simp only [hI_sI, hI_sL, hL_sI, hL_sL, false_and, true_and, and_false, and_true, and_self, if_false, if_true, hn]; first | done | rfl) | rfl) ?_
      refine V_icmpge G dX0_greatestLoad_9 (tgt := 29) (by decide) (by first | exact r _ _ | assumption | exact ⟨by omega, by omega⟩) (by first | exact r _ _ | assumption | exact ⟨by omega, by omega⟩) (fun c_9 => ?_) (fun c_9 => ?_)
      · omega
      ·
        refine V_iload1 G dX0_greatestLoad_12 ?_
        refine V_aload0 G dX0_greatestLoad_13 ?_
        refine V_getR G fl_X0_24 dX0_greatestLoad_14 (by first | decide | assumption) (by first | rfl | assumption) rfl (by first | rfl | assumption) ?_
        refine V_iload2 G dX0_greatestLoad_17 ?_
        refine V_ialde G dX0_greatestLoad_18 (by first | decide | assumption) (by first | rfl | assumption) (by decide) ⟨by omega, by omega⟩ (hD k hk0 (by omega)).2.2.2.2.1 ?_
        refine V_mmax G m_X0_79 dX0_greatestLoad_19 ⟨by omega, by omega⟩ ⟨by omega, by omega⟩ (by omega) (by omega) (Nat.le_of_ble_eq_true rfl) (by omega) ?_
        refine V_istore1 G dX0_greatestLoad_22 rfl ?_
        refine V_iinc2 G dX0_greatestLoad_23 rfl ?_
        refine V_goto G dX0_greatestLoad_26 (tgt := 4) (by decide) ?_
        exact ih (k + 1) _ (by omega) (by omega) (by split <;> omega) (by rw [← hs, mxF])
  refine V_iconst G dX0_greatestLoad_0 ?_
  refine V_istore1 G dX0_greatestLoad_1 rfl ?_
  refine V_iconst G dX0_greatestLoad_2 ?_
  refine V_istore2 G dX0_greatestLoad_3 rfl ?_
  exact lp n.toNat 0 0 (by omega) (by omega) (by omega) rfl

end C7
