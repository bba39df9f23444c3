
section M7
theorem aheadF_congr2 {f f' g g' : Int → Int} : ∀ (m : Nat) (w : Int), (∀ j, w ≤ j → j < w + m → f j = f' j ∧ g j = g' j) → aheadF f g m w = aheadF f' g' m w
  | 0, _, _ => rfl
  | m + 1, w, h => by
    rw [aheadF, aheadF, (h w (by omega) (by omega)).1, (h w (by omega) (by omega)).2, aheadF_congr2 m (w + 1) (fun j h1 h2 => h j (by omega) (by omega))]
/-- one row comes ahead of another, by the heads of n words -/
def ahd (n : Int) (f g : Int → Int) : Prop := aheadF f g n.toNat 0 = true
/-- the run over all choices from cw on: the readings that it lays, the last one that is found first -/
def erun (kd : Int → Int) (n : Int) : Nat → (Int → Int) → List (Int → Int) → Prop
  | 0, _, _ => False
  | m + 1, cw, out => ∃ (x : Int) (row : Option (Int → Int)) (nx : Option (Int → Int)) (rest : List (Int → Int)),
      (∀ w, 0 ≤ w → w < 12 → 0 ≤ cw w ∧ cw w ≤ 16) ∧
      (∀ hd cn, (rdF kd cw n.toNat 0 [(0, 0, -1)] hd cn).1 = x ∧ nxF cw (rdF kd cw n.toNat 0 [(0, 0, -1)] hd cn).2.2 x.toNat = nx ∧
        (match (rdF kd cw n.toNat 0 [(0, 0, -1)] hd cn).2.1 with
          | some (L, hd2) => ((0 < n ∧ ∀ e ∈ L, compl e.1) → ∃ f, row = some f ∧ ∀ w, 0 ≤ w → w < n → hd2 w = f w) ∧ (¬ (0 < n ∧ ∀ e ∈ L, compl e.1) → row = none)
          | none => row = none)) ∧
      (match nx with
        | none => rest = []
        | some cw' => erun kd n m cw' rest) ∧ out = rest ++ row.toList
def rowsAt (n : Int) (h : Hp) (B : List (Int → Int)) : Prop := ∀ (i : Nat) (f : Int → Int), B[i]? = some f → ∀ w, 0 ≤ w → w < n → hI h 89 (12 * (i : Int) + w) = f w
def Sl (q : Nat) (j : Int) : Bool := q == 83 || q == 84 || q == 85 || q == 86 || q == 87 || q == 88 || q == 89 || q == 90 || (q == 77 && (j == 11 || j == 16 || j == 18))
theorem Sp_Sl {h h1 : Hp} (e : eqx Sp h h1) : eqx Sl h h1 := e.mono (fun q j z => by
  simp [Sl] at z
  simp [Sp]
  omega)
theorem S89_Sl {h h1 : Hp} (e : eqx S89 h h1) : eqx Sl h h1 := e.mono (fun q j z => by
  simp [Sl] at z
  simp [S89]
  omega)
theorem S86_Sl {h h1 : Hp} (e : eqx S86 h h1) : eqx Sl h h1 := e.mono (fun q j z => by
  simp [Sl] at z
  simp [S86]
  omega)
def fitsP (n b1 : Int) (fx : Int → Int) (row : Int → Int) : Prop := ∀ w : Int, 0 ≤ w → w < n → 0 < fx w ∧ w ≠ b1 → row w = fx w - 2
noncomputable def lfF (p : Int → Prop) : Nat → Int → List Int
  | 0, _ => []
  | m + 1, k => (if whI (p k) = 1 then [k] else []) ++ lfF p m (k + 1)
def leftAt (h : Hp) (l : List Int) : Prop := hI h 77 18 = l.length ∧ ∀ (i : Nat) (z : Int), l[i]? = some z → hI h 90 i = z
theorem whI_eq {p q : Prop} (h : p ↔ q) : whI p = whI q := by
  by_cases z : p
  · rw [whI_t z, whI_t (h.mp z)]
  · rw [whI_f z, whI_f (fun y => z (h.mpr y))]

set_option maxRecDepth 100000 in
set_option maxHeartbeats 4000000 in
theorem c_X7_laysAll {l : Launch} {d : Nat} {h : Hp} (r : Rg h) {n : Int} (hn : hI h 78 0 = n) (hn0 : 0 ≤ n ∧ n ≤ 12) (hk : ∀ w, 0 ≤ w → w < n → 0 ≤ hI h 78 (2 + w) ∧ hI h 78 (2 + w) ≤ 6) {out : List (Int → Int)} (hrun : ∀ cw : Int → Int, (∀ w, 0 ≤ w → w < 12 → cw w = 0) → ∃ m, erun (fun w => hI h 78 (2 + w)) n m cw out) (hpw : out.Pairwise (ahd n)) (hlen : out.length < 400) (hd : 6 ≤ d := by omega) : CP l d 0 0 yX7_laysAll cX7_laysAll 3 (Option.none : Option Jvm.ClassFile.FieldType) [.ref 77] h (pV fun h1 => eqx Sl h h1 ∧ Rg h1 ∧ hI h1 77 16 = out.length ∧ rowsAt n h1 out ∧ leftAt h1 (lfF (fun k => fitsP n (-1) (fun w => hI h 78 (14 + w)) (fun w => hI h1 89 (12 * k + w))) out.length 0)) := by
  refine CP.ofV (L := [some (.ref 77), none, none]) RX7 (by decide +kernel) rfl (Nat.le_of_ble_eq_true rfl) rfl (fun X hX G E => ?_)
  subst hX
  have left : ∀ (g : Hp) (a2 : Option Value), Rg g → eqx Sl h g → rowsAt n g out → hI g 77 16 = out.length → V X 0 0 67 [some (.ref 77), some (.int (Int32.ofInt 0)), a2] [] g := by
    intro g a2 r1 eg hB hBl
    have hl400 : (out.length : Int) < 400 := by omega
    have lp : ∀ (m : Nat) (k : Int) (f : Hp) (l0 : List Int), k + m = (out.length : Int) → 0 ≤ k → Rg f → eqx (fun q j => q == 90 || (q == 77 && j == 18)) g f → leftAt f l0 → (l0.length : Int) ≤ k → l0 ++ lfF (fun k => fitsP n (-1) (fun w => hI h 78 (14 + w)) (fun w => hI g 89 (12 * k + w))) m k = lfF (fun k => fitsP n (-1) (fun w => hI h 78 (14 + w)) (fun w => hI g 89 (12 * k + w))) out.length 0 → V X 0 0 74 [some (.ref 77), some (.int (Int32.ofInt 0)), some (.int (Int32.ofInt k))] [] f := by
      intro m
      induction m with
      | zero =>
        intro k f l0 hm_ hk0 r2 ef hl0 hle hcat
        have hBf : hI f 77 16 = out.length := (ef.1 _ _ rfl).trans hBl
        refine V_iload2 G dX7_laysAll_74 ?_
        refine V_aload0 G dX7_laysAll_75 ?_
        refine V_getIe (jz := 16) G fl_X7_123 dX7_laysAll_76 (by first | decide | assumption) (by first | rfl | assumption) rfl rfl (by first | (simp only [hI_sI, hI_sL, hL_sI, hL_sL, false_and, true_and, and_false, and_true, and_self, if_false, if_true, hl0.1, hBf]; first | done | rfl) | rfl) ?_
        refine V_icmpge G dX7_laysAll_79 (tgt := 117) (by decide) (by first | exact r _ _ | assumption | exact ⟨by omega, by omega⟩) (by first | exact r _ _ | assumption | exact ⟨by omega, by omega⟩) (fun c_79 => ?_) (fun c_79 => ?_)
        ·
          exact V_retv E dX7_laysAll_117 rfl ⟨rfl, ⟨eg.tr (ef.mono (fun q j z => by
                simp [Sl] at z
                simp
                omega)), r2, (ef.1 77 16 rfl).trans hBl, fun i f9 hi w h1 h2 => by rw [ef.1 89 _ rfl]; exact hB i f9 hi w h1 h2, by
                rw [show hI f 89 = hI g 89 from funext fun j => ef.1 89 j rfl, ← hcat]
                show leftAt f (l0 ++ [])
                rw [List.append_nil]
                exact hl0⟩⟩
        · omega
      | succ m ih =>
        intro k f l0 hm_ hk0 r2 ef hl0 hle hcat
        have hfn : hI f 78 0 = n := (ef.1 _ _ rfl).trans ((eg.1 _ _ rfl).trans hn)
        have hBf : hI f 77 16 = out.length := (ef.1 _ _ rfl).trans hBl
        have hl018 := hl0.1
        refine V_iload2 G dX7_laysAll_74 ?_
        refine V_aload0 G dX7_laysAll_75 ?_
        refine V_getIe (jz := 16) G fl_X7_123 dX7_laysAll_76 (by first | decide | assumption) (by first | rfl | assumption) rfl rfl (by first | (simp only [hI_sI, hI_sL, hL_sI, hL_sL, false_and, true_and, and_false, and_true, and_self, if_false, if_true, hl0.1, hBf]; first | done | rfl) | rfl) ?_
        refine V_icmpge G dX7_laysAll_79 (tgt := 117) (by decide) (by first | exact r _ _ | assumption | exact ⟨by omega, by omega⟩) (by first | exact r _ _ | assumption | exact ⟨by omega, by omega⟩) (fun c_79 => ?_) (fun c_79 => ?_)
        · omega
        ·
          refine V_aload0 G dX7_laysAll_82 ?_
          refine V_iload2 G dX7_laysAll_83 ?_
          refine V_iconst G dX7_laysAll_84 ?_
          refine V_cV2i (d1 := 1) G m_X7_145 dX7_laysAll_85 (by first | decide | assumption) (by first | rfl | assumption) (c_X7_isLeft r2 (n := n) (k1 := k) (b1 := -1) hfn hn0 (by omega) ⟨by omega, by omega⟩) (by omega) (by omega) (by omega) (Nat.le_of_ble_eq_true rfl) (fun x_85 h_85 hp_85 => ?_)
          rw [hp_85.1, hp_85.2]
          rw [whI_eq (show _ ↔ fitsP n (-1) (fun w => hI h 78 (14 + w)) (fun w => hI g 89 (12 * k + w)) by unfold fitsP; rw [show hI f 78 = hI h 78 from funext fun j => ((ef.1 78 j rfl).trans (eg.1 78 j rfl)), show hI f 89 = hI g 89 from funext fun j => ef.1 89 j rfl])]
          have hw01 := whI_01 (fitsP n (-1) (fun w => hI h 78 (14 + w)) (fun w => hI g 89 (12 * k + w)))
          refine V_ifeq G dX7_laysAll_88 (tgt := 111) (by decide) ⟨by omega, by omega⟩ (fun c_88 => ?_) (fun c_88 => ?_)
          ·
            refine V_iinc2 G dX7_laysAll_111 rfl ?_
            refine V_goto G dX7_laysAll_114 (tgt := 74) (by decide) ?_
            first
            | exact ih (k + 1) _ (l0 ++ [k]) (by omega) (by omega) ((r2.sI ⟨by omega, by omega⟩).sI ⟨by omega, by omega⟩) ((ef.st rfl).st rfl) ⟨by simp [hI_sI], fun i z hz => by
                by_cases hi : i < l0.length
                · rw [List.getElem?_append_left hi] at hz
                  rw [hI_sI, if_neg (by simp), hI_sI, if_neg (by omega)]
                  exact hl0.2 i z hz
                · rw [List.getElem?_append_right (by omega)] at hz
                  have h9 := (List.getElem?_eq_some_iff.mp hz).1
                  simp at h9
                  have h8 : i = l0.length := by omega
                  subst h8
                  simp at hz
                  subst hz
                  simp [hI_sI]⟩ (by simp; omega) (by rw [← hcat, lfF, if_pos (by omega)]; simp)
            | exact ih (k + 1) _ l0 (by omega) (by omega) r2 ef hl0 (by omega) (by rw [← hcat, lfF, if_neg (by omega)]; simp)
          ·
            refine V_aload0 G dX7_laysAll_91 ?_
            refine V_getR G fl_X7_47 dX7_laysAll_92 (by first | decide | assumption) (by first | rfl | assumption) rfl (by first | rfl | assumption) ?_
            refine V_aload0 G dX7_laysAll_95 ?_
            refine V_getIe (jz := 18) G fl_X7_142 dX7_laysAll_96 (by first | decide | assumption) (by first | rfl | assumption) rfl rfl (by first | (simp only [hI_sI, hI_sL, hL_sI, hL_sL, false_and, true_and, and_false, and_true, and_self, if_false, if_true, hl0.1, hBf]; first | done | rfl) | rfl) ?_
            refine V_iload2 G dX7_laysAll_99 ?_
            refine V_iast G dX7_laysAll_100 (by first | decide | assumption) (by first | rfl | assumption) (by decide) ⟨by omega, by omega⟩ ?_
            refine V_aload0 G dX7_laysAll_101 ?_
            refine V_dup G dX7_laysAll_102 rfl ?_
            refine V_getIe (jz := 18) G fl_X7_142 dX7_laysAll_103 (by first | decide | assumption) (by first | rfl | assumption) rfl rfl (by first | (simp only [hI_sI, hI_sL, hL_sI, hL_sL, false_and, true_and, and_false, and_true, and_self, if_false, if_true, hl0.1, hBf]; first | done | rfl) | rfl) ?_
            refine V_iconst G dX7_laysAll_106 ?_
            refine V_iadd G dX7_laysAll_107 ?_
            refine V_putI (jz := 18) G fw_X7_142 dX7_laysAll_108 (by first | decide | assumption) (by first | rfl | assumption) rfl rfl ?_
            refine V_iinc2 G dX7_laysAll_111 rfl ?_
            refine V_goto G dX7_laysAll_114 (tgt := 74) (by decide) ?_
            first
            | exact ih (k + 1) _ (l0 ++ [k]) (by omega) (by omega) ((r2.sI ⟨by omega, by omega⟩).sI ⟨by omega, by omega⟩) ((ef.st rfl).st rfl) ⟨by simp [hI_sI], fun i z hz => by
                by_cases hi : i < l0.length
                · rw [List.getElem?_append_left hi] at hz
                  rw [hI_sI, if_neg (by simp), hI_sI, if_neg (by omega)]
                  exact hl0.2 i z hz
                · rw [List.getElem?_append_right (by omega)] at hz
                  have h9 := (List.getElem?_eq_some_iff.mp hz).1
                  simp at h9
                  have h8 : i = l0.length := by omega
                  subst h8
                  simp at hz
                  subst hz
                  simp [hI_sI]⟩ (by simp; omega) (by rw [← hcat, lfF, if_pos (by omega)]; simp)
            | exact ih (k + 1) _ l0 (by omega) (by omega) r2 ef hl0 (by omega) (by rw [← hcat, lfF, if_neg (by omega)]; simp)
    refine V_aload0 G dX7_laysAll_67 ?_
    refine V_iconst G dX7_laysAll_68 ?_
    refine V_putI (jz := 18) G fw_X7_142 dX7_laysAll_69 (by first | decide | assumption) (by first | rfl | assumption) rfl rfl ?_
    refine V_iconst G dX7_laysAll_72 ?_
    refine V_istore2 G dX7_laysAll_73 rfl ?_
    exact lp out.length 0 _ [] (by omega) (by omega) (r1.sI ⟨by omega, by omega⟩) (eqx.rf.st rfl) ⟨by simp [hI_sI], fun i z hz => by simp at hz⟩ (by simp) rfl
  have main : ∀ (m : Nat) (g : Hp) (a2 : Option Value) (B out1 : List (Int → Int)), Rg g → eqx Sl h g → rowsAt n g B → hI g 77 16 = B.length → erun (fun w => hI h 78 (2 + w)) n m (hI g 86) out1 → (∀ a ∈ out1, ∀ b ∈ B, ahd n a b) → out1.Pairwise (ahd n) → out1.length + B.length < 400 → (∀ (g2 : Hp) (a2 : Option Value), Rg g2 → eqx Sl h g2 → rowsAt n g2 (out1 ++ B) → hI g2 77 16 = ((out1 ++ B).length : Int) → V X 0 0 67 [some (.ref 77), some (.int (Int32.ofInt 0)), a2] [] g2) → V X 0 0 28 [some (.ref 77), some (.int (Int32.ofInt 1)), a2] [] g := by
    intro m
    induction m with
    | zero => intro g a2 B out1 r1 eg hB hBl hrun1; exact absurd hrun1 id
    | succ m ih =>
      intro g a2 B out1 r1 eg hB hBl hrun1 ho hp1 hl hcont
      obtain ⟨x0, row, nx, rest, hcb, hall, hnx, hout⟩ := hrun1
      have hgn : hI g 78 0 = n := (eg.1 _ _ rfl).trans hn
      have ekd : (fun w => hI g 78 (2 + w)) = fun w => hI h 78 (2 + w) := funext fun w => eg.1 78 _ rfl
      have hal := hall (hI g 88) (hI g 87)
      have tail : ∀ (g1 : Hp) (B1 : List (Int → Int)), Rg g1 → eqx Sl h g1 → rowsAt n g1 B1 → hI g1 77 16 = B1.length → B1 = row.toList ++ B → 0 ≤ x0 → x0 ≤ n → hI g1 86 = hI g 86 → nxF (hI g 86) (hI g1 87) x0.toNat = nx → V X 0 0 58 [some (.ref 77), some (.int (Int32.ofInt 1)), some (.int (Int32.ofInt x0))] [] g1 := by
        intro g1 B1 q1 q2 q3 q4 q5 q6 q7 q8 q9
        have r := q1
        subst q5
        have hfin : out1 ++ B = rest ++ (row.toList ++ B) := by rw [hout, List.append_assoc]
        refine V_aload0 G dX7_laysAll_58 ?_
        refine V_iload2 G dX7_laysAll_59 ?_
        refine V_cV1i (d1 := 1) G m_X7_139 dX7_laysAll_60 (by first | decide | assumption) (by first | rfl | assumption) (c_X7_choosesNext q1 (n := n) (x1 := x0) ((q2.1 _ _ rfl).trans hn) hn0 ⟨q6, q7⟩ (fun w h1 h2 => by rw [q8]; have := hcb w h1 h2; omega)) (by omega) (by omega) (by omega) (Nat.le_of_ble_eq_true rfl) (fun x_60 h_60 hp_60 => ?_)
        rw [q8, q9] at hp_60
        cases hnn : nx with
        | none =>
          rw [hnn] at hp_60 hnx
          obtain ⟨z1, z2⟩ := hp_60
          rw [z1, z2]
          refine V_istore1 G dX7_laysAll_63 rfl ?_
          refine V_goto G dX7_laysAll_64 (tgt := 28) (by decide) ?_
          refine V_iload1 G dX7_laysAll_28 ?_
          refine V_ifeq G dX7_laysAll_29 (tgt := 67) (by decide) ⟨by decide, by decide⟩ (fun _ => ?_) (fun z => absurd rfl z)
          exact hcont g1 _ q1 q2 (by rw [hfin, show rest = [] from hnx]; exact q3) (by rw [q4, hfin, show rest = [] from hnx]; rfl)
        | some c2 =>
        rw [hnn] at hp_60 hnx
        obtain ⟨z1, z2, z3, z4⟩ := hp_60
        rw [z1]
        refine V_istore1 G dX7_laysAll_63 rfl ?_
        refine V_goto G dX7_laysAll_64 (tgt := 28) (by decide) ?_
        refine ih h_60 _ (row.toList ++ B) rest z3 (q2.tr (S86_Sl z2)) (fun i f hi w h1 h2 => by rw [z2.1 89 _ rfl]; exact q3 i f hi w h1 h2) ((z2.1 77 16 rfl).trans q4) (by rw [z4]; exact hnx) ?_ ?_ ?_ ?_
        · intro a ha b hb
          rw [hout] at ho hp1
          rcases List.mem_append.mp hb with hb | hb
          · exact (List.pairwise_append.mp hp1).2.2 a ha b hb
          · exact ho a (List.mem_append_left _ ha) b hb
        · rw [hout] at hp1
          exact (List.pairwise_append.mp hp1).1
        · rw [hout] at hl
          simp at hl ⊢
          omega
        · intro g2 b2 w1 w2 w3 w4
          exact hcont g2 b2 w1 w2 (by rw [hfin]; exact w3) (by rw [hfin]; exact w4)
      refine V_iload1 G dX7_laysAll_28 ?_
      refine V_ifeq G dX7_laysAll_29 (tgt := 67) (by decide) (by first | exact r _ _ | assumption | exact ⟨by omega, by omega⟩) (fun c_29 => ?_) (fun c_29 => ?_)
      · exact absurd c_29 (by decide)
      ·
        refine V_aload0 G dX7_laysAll_32 ?_
        refine V_cV0i (d1 := 5) G m_X7_129 dX7_laysAll_33 (by first | decide | assumption) (by first | rfl | assumption) (c_X7_reads r1 (n := n) hgn hn0 (fun w h1 h2 => by rw [eg.1 78 _ rfl]; exact hk w h1 h2) (fun w h1 h2 => (hcb w h1 (by omega)).1)) (by omega) (by omega) (by omega) (Nat.le_of_ble_eq_true rfl) (fun x_33 h_33 hp_33 => ?_)
        rw [ekd] at hp_33
        obtain ⟨e1, e2, e3, e4, e5, e6, e7⟩ := hp_33
        obtain ⟨w1, w2, w3⟩ := hal
        rw [w1] at e3
        have q9 : nxF (hI g 86) (hI h_33 87) x0.toNat = nx := by rw [e6]; exact w2
        have q2 : eqx Sl h h_33 := eg.tr (Sp_Sl e1)
        have q8 : hI h_33 86 = hI g 86 := funext fun j => e1.1 86 j rfl
        have q89 : rowsAt n h_33 B := fun i f hi w h1 h2 => by rw [e1.1 89 _ rfl]; exact hB i f hi w h1 h2
        have q16 : hI h_33 77 16 = B.length := (e1.1 77 16 rfl).trans hBl
        have h33n : hI h_33 78 0 = n := (q2.1 _ _ rfl).trans hn
        have r := e2
        rw [e3]
        generalize hR : (rdF (fun w => hI h 78 (2 + w)) (hI g 86) n.toNat 0 [(0, 0, -1)] (hI g 88) (hI g 87)).2.1 = R at e7 w3
        refine V_istore2 G dX7_laysAll_36 rfl ?_
        refine V_iload2 G dX7_laysAll_37 ?_
        refine V_aload0 G dX7_laysAll_38 ?_
        refine V_getR G fl_X7_7 dX7_laysAll_39 (by first | decide | assumption) (by first | rfl | assumption) rfl (by first | rfl | assumption) ?_
        refine V_iconst G dX7_laysAll_42 ?_
        refine V_ialde G dX7_laysAll_43 (by first | decide | assumption) (by first | rfl | assumption) (by decide) ⟨by omega, by omega⟩ (by first | (simp only [hI_sI, hI_sL, hL_sI, hL_sL, false_and, true_and, and_false, and_true, and_self, if_false, if_true, h33n]; first | done | rfl) | rfl) ?_
        refine V_icmpne G dX7_laysAll_44 (tgt := 58) (by decide) (by first | exact r _ _ | assumption | exact ⟨by omega, by omega⟩) (by first | exact r _ _ | assumption | exact ⟨by omega, by omega⟩) (fun c_44 => ?_) (fun c_44 => ?_)
        · cases R with
          | some S =>
            obtain ⟨L, hd2⟩ := S
            exact absurd (e3.symm.trans e7.1) c_44
          | none => exact tail h_33 B e2 q2 q89 q16 (by rw [w3]; rfl) (by omega) (by omega) q8 q9
        ·
          cases R with
          | none => exact absurd c_44 (by have : x_33 < n := e7; omega)
          | some S =>
          obtain ⟨L, hd2⟩ := S
          obtain ⟨f1, f2, f3, f4, f5⟩ := e7
          obtain ⟨w4, w5⟩ := w3
          have hLl : L.length ≤ 16 := by have := f2.2.2.2; omega
          refine V_aload0 G dX7_laysAll_47 ?_
          refine V_cV0i (d1 := 2) G m_X7_133 dX7_laysAll_48 (by first | decide | assumption) (by first | rfl | assumption) (c_X7_isWhole e2 (n := n) h33n hn0 hLl f3 f4) (by omega) (by omega) (by omega) (Nat.le_of_ble_eq_true rfl) (fun x_48 h_48 hp_48 => ?_)
          rw [hp_48.1, hp_48.2]
          have hw01 := whI_01 (0 < n ∧ ∀ e ∈ L, compl e.1)
          refine V_ifeq G dX7_laysAll_51 (tgt := 58) (by decide) ⟨by omega, by omega⟩ (fun c_51 => ?_) (fun c_51 => ?_)
          · exact tail h_33 B e2 q2 q89 q16 (by rw [w5 (whI_0.mp c_51)]; rfl) (by omega) (by omega) q8 q9
          ·
            obtain ⟨f, hf1, hf2⟩ := w4 (Classical.byContradiction fun z => c_51 (whI_f z))
            refine V_aload0 G dX7_laysAll_54 ?_
            refine V_cV0v (d1 := 2) G m_X7_136 dX7_laysAll_55 (by first | decide | assumption) (by first | rfl | assumption) (c_X7_laysReading e2 (n := n) (A := B.length) h33n hn0 q16 ⟨by omega, by omega⟩ (fun i h1 h2 => by
  obtain ⟨b, hb⟩ : ∃ b, B[i.toNat]? = some b := ⟨_, List.getElem?_eq_getElem (by omega)⟩
  have hao : ahd n f b := ho f (by rw [hout, hf1]; simp) b (List.mem_of_getElem? hb)
  rw [← hao]
  refine aheadF_congr2 _ _ (fun j j1 j2 => ⟨?_, ?_⟩)
  · rw [f5]; exact hf2 j j1 (by omega)
  · have := q89 i.toNat b hb j j1 (by omega)
    rwa [show ((i.toNat : Nat) : Int) = i by omega] at this)) (by omega) (by omega) (by omega) (Nat.le_of_ble_eq_true rfl) (fun h_55 hp_55 => ?_)
            obtain ⟨g1, g2, g3, g4, g5⟩ := hp_55
            exact tail h_55 (f :: B) g2 (q2.tr (S89_Sl g1)) (fun i f9 hi w h1 h2 => by
              cases i with
              | zero =>
                simp at hi
                subst hi
                rw [← hf2 w h1 h2, ← f5]
                simpa using g5 w h1 h2
              | succ i =>
                simp at hi
                have hil := (List.getElem?_eq_some_iff.mp hi).1
                have := g4 i w (by omega) (by omega) h1 (by omega)
                rw [show ((i + 1 : Nat) : Int) = (i : Int) + 1 by omega, this]
                exact q89 i f9 hi w h1 h2) (by rw [g3]; simp) (by rw [hf1]; rfl) (by omega) (by omega) ((funext fun j => g1.1 86 j rfl : hI h_55 86 = hI h_33 86).trans q8) (by rw [show hI h_55 87 = hI h_33 87 from funext fun j => g1.1 87 j rfl]; exact q9)
  have zero : ∀ (m : Nat) (k : Int) (g : Hp), k + m = 12 → 0 ≤ k → Rg g → eqx Sl h g → (∀ w : Int, 0 ≤ w → w < k → hI g 86 w = 0) → hI g 77 16 = 0 → V X 0 0 7 [some (.ref 77), some (.int (Int32.ofInt k)), none] [] g := by
    intro m
    induction m with
    | zero =>
      intro k g hm_ hk0 r1 eg hz h16
      refine V_iload1 G dX7_laysAll_7 ?_
      refine V_bipush G dX7_laysAll_8 (by decide) ?_
      refine V_icmpge G dX7_laysAll_10 (tgt := 26) (by decide) (by first | exact r _ _ | assumption | exact ⟨by omega, by omega⟩) (by first | exact r _ _ | assumption | exact ⟨by omega, by omega⟩) (fun c_10 => ?_) (fun c_10 => ?_)
      ·
        refine V_iconst G dX7_laysAll_26 ?_
        refine V_istore1 G dX7_laysAll_27 rfl ?_
        obtain ⟨m, hm⟩ := hrun (hI g 86) (fun w h1 h2 => hz w h1 (by omega))
        exact main m g _ [] out r1 eg (fun i f hi => by simp at hi) h16 hm (fun a _ b hb => by simp at hb) hpw (by simpa using hlen) (fun g2 a2 w1 w2 w3 w4 => left g2 a2 w1 w2 (by simpa using w3) (by simpa using w4))
      · omega
    | succ m ih =>
      intro k g hm_ hk0 r1 eg hz h16
      refine V_iload1 G dX7_laysAll_7 ?_
      refine V_bipush G dX7_laysAll_8 (by decide) ?_
      refine V_icmpge G dX7_laysAll_10 (tgt := 26) (by decide) (by first | exact r _ _ | assumption | exact ⟨by omega, by omega⟩) (by first | exact r _ _ | assumption | exact ⟨by omega, by omega⟩) (fun c_10 => ?_) (fun c_10 => ?_)
      · omega
      ·
        refine V_aload0 G dX7_laysAll_13 ?_
        refine V_getR G fl_X7_35 dX7_laysAll_14 (by first | decide | assumption) (by first | rfl | assumption) rfl (by first | rfl | assumption) ?_
        refine V_iload1 G dX7_laysAll_17 ?_
        refine V_iconst G dX7_laysAll_18 ?_
        refine V_iast G dX7_laysAll_19 (by first | decide | assumption) (by first | rfl | assumption) (by decide) ⟨by omega, by omega⟩ ?_
        refine V_iinc1 G dX7_laysAll_20 rfl ?_
        refine V_goto G dX7_laysAll_23 (tgt := 7) (by decide) ?_
        exact ih (k + 1) _ (by omega) (by omega) (r1.sI ⟨by omega, by omega⟩) (eg.st rfl) (fun w h1 h2 => by
          rw [hI_sI]
          by_cases hj : w = k
          · rw [if_pos ⟨rfl, hj⟩]
          · rw [if_neg (fun z => hj z.2)]; exact hz w h1 (by omega)) (by simp [hI_sI, h16])
  refine V_aload0 G dX7_laysAll_0 ?_
  refine V_iconst G dX7_laysAll_1 ?_
  refine V_putI (jz := 16) G fw_X7_123 dX7_laysAll_2 (by first | decide | assumption) (by first | rfl | assumption) rfl rfl ?_
  refine V_iconst G dX7_laysAll_5 ?_
  refine V_istore1 G dX7_laysAll_6 rfl ?_
  exact zero 12 0 _ (by omega) (by omega) (r.sI ⟨by omega, by omega⟩) (eqx.rf.st rfl) (fun w h1 h2 => by omega) (by simp [hI_sI])

end M7
