section M17

def bestF (f : Int → Int) : Nat → Int → Int → Int
  | 0, _, b => b
  | m + 1, k, b => bestF f m (k + 1) (if f k < f b then k else b)
noncomputable def flS (c : Cs) : Int := bestF (fun k => hgtS c (lfA (lfS c) k)) ((lfS c).length - 1) 1 0
noncomputable def opFlat (g : Sg) : Rs := if (lfS g.1).length = 0 then (1, 0, g) else (0, flS g.1, (uC g.1 1 (flS g.1), savL g.2.1 g.1, g.2.2))
def wrS (c : Cs) : List Int := (List.range (nS c).toNat).map (fun (w : Nat) => letF (kdS c (w : Int)))
noncomputable def opWrite (g : Sg) : Rs := if (lfS g.1).length = 0 then (1, 0, g) else (0, nS g.1, (g.1, g.2.1, g.2.2.1, g.2.2.2.1, wrS g.1))
noncomputable def opFix (g : Sg) (w hd1 : Int) : Rs :=
  if ¬ (0 ≤ w ∧ w < nS g.1) ∨ ¬ (-1 ≤ hd1 ∧ hd1 < nS g.1 ∧ hd1 ≠ w) then (1, 0, g) else if lbS g.1 w hd1 = 0 then (2, 0, g) else
  (0, lbS g.1 w hd1, (uC (uC g.1 (14 + w) (hd1 + 2)) 1 0, savL g.2.1 g.1, g.2.2))
noncomputable def opIf (g : Sg) (w hd1 : Int) : Rs :=
  if ¬ (0 ≤ w ∧ w < nS g.1) ∨ ¬ (-1 ≤ hd1 ∧ hd1 < nS g.1 ∧ hd1 ≠ w) then (1, 0, g) else (0, lbS g.1 w hd1, g)
theorem lbS_r {c : Cs} (hA : (AS c).length ≤ 42) (w hd1 : Int) : 0 ≤ lbS c w hd1 ∧ lbS c w hd1 ≤ 42 := by
  have := sumF_le (f := fun k => if whI (fitsP (nS c) w (fxS c) (rowA (AS c) k)) = 1 ∧ rowA (AS c) k w = hd1 then 1 else 0) (b := 1) (by omega) (AS c).length 0 (fun j => by split <;> omega)
  unfold lbS
  omega
theorem LaidM.eq {c : Cs} {h h1 : Hp} (L : LaidM c h) (e : ∀ q j, q = 89 ∨ q = 90 ∨ q = 77 ∧ (j = 16 ∨ j = 18) → hI h1 q j = hI h q j) : LaidM c h1 :=
  ⟨(e 77 16 (by omega)).trans L.1, fun i f hi w q1 q2 => (e 89 _ (by omega)).trans (L.2.1 i f hi w q1 q2), (e 77 18 (by omega)).trans L.2.2.1, fun i z hi => (e 90 _ (by omega)).trans (L.2.2.2 i z hi)⟩

set_option maxRecDepth 100000 in
set_option maxHeartbeats 4000000 in
theorem c_X7_flatten {l : Launch} {d : Nat} {h : Hp} (r : Rg h) {g : Sg} (T : RdsOk) (R : RepM g h) (I : okS g.1) (hl6 : g.2.1.length ≤ 6) (hd : 7 ≤ d := by omega) : CP l d 0 0 yX7_flatten cX7_flatten 3 (Option.some Jvm.ClassFile.FieldType.int) [.ref 77] h (pI fun x h1 => aft (opFlat g) x h h1) := by
  refine CP.ofV (L := [some (.ref 77), none, none]) RX7 (by decide +kernel) rfl (Nat.le_of_ble_eq_true rfl) rfl (fun X hX G E => ?_)
  subst hX
  have r0 : Rg (sI h 77 0 0) := r.sI ⟨by decide, by decide⟩
  have R0 : RepM g (sI h 77 0 0) := R.thr
  have e0 : eqx SM h (sI h 77 0 0) := eqx.rf.st rfl
  have hn := R0.n
  have hn0 := I.1
  have lp : ∀ (hs : Hp), eqx SM h hs → Rg hs → RepM (g.1, savL g.2.1 g.1, g.2.2) hs → LaidM g.1 hs → hI hs 77 0 = 0 → (lfS g.1).length ≠ 0 → V X 0 0 30 [some (.ref 77), some (.int (Int32.ofInt 0)), some (.int (Int32.ofInt 1))] [] hs := by
    intro hs es rs Rs Ls hs0 hne
    obtain ⟨w1, w2, w3⟩ := lfS_at T I Ls
    have hA42 := AS_le T I
    have r := rs
    have lp2 : ∀ (m : Nat) (k : Int) (b : Int), k + m = ((lfS g.1).length : Int) → 1 ≤ k → 0 ≤ b ∧ b < (lfS g.1).length → bestF (fun k => hgtS g.1 (lfA (lfS g.1) k)) m k b = flS g.1 → V X 0 0 30 [some (.ref 77), some (.int (Int32.ofInt b)), some (.int (Int32.ofInt k))] [] hs := by
      intro m
      induction m with
      | zero =>
        intro k b hm_ hk0 hb hs2
        refine V_iload2 G dX7_flatten_30 ?_
        refine V_aload0 G dX7_flatten_31 ?_
        refine V_getIe (jz := 18) G fl_X7_142 dX7_flatten_32 (by first | decide | assumption) (by first | rfl | assumption) rfl rfl (by first | (simp only [hI_sI, hI_sL, hL_sI, hL_sL, false_and, true_and, and_false, and_true, and_self, if_false, if_true, w2]; first | done | rfl) | rfl) ?_
        refine V_icmpge G dX7_flatten_35 (tgt := 73) (by decide) (by first | exact r _ _ | assumption | exact ⟨by omega, by omega⟩) (by first | exact r _ _ | assumption | exact ⟨by omega, by omega⟩) (fun c_35 => ?_) (fun c_35 => ?_)
        ·
          refine V_aload0 G dX7_flatten_73 ?_
          refine V_getR G fl_X7_7 dX7_flatten_74 (by first | decide | assumption) (by first | rfl | assumption) rfl (by first | rfl | assumption) ?_
          refine V_iconst G dX7_flatten_77 ?_
          refine V_iload1 G dX7_flatten_78 ?_
          refine V_iast G dX7_flatten_79 (by first | decide | assumption) (by first | rfl | assumption) (by decide) ⟨by omega, by omega⟩ ?_
          refine V_iload1 G dX7_flatten_80 ?_
          exact V_reti E dX7_flatten_81 rfl rfl ⟨_, rfl, by
              have eb : b = flS g.1 := hs2
              unfold opFlat
              rw [if_neg hne]
              subst eb
              exact ⟨es.st rfl, rs.sI ⟨by omega, by omega⟩, hs0, Rs.u, fun _ => rfl⟩⟩
        · omega
      | succ m ih =>
        intro k b hm_ hk0 hb hs2
        refine V_iload2 G dX7_flatten_30 ?_
        refine V_aload0 G dX7_flatten_31 ?_
        refine V_getIe (jz := 18) G fl_X7_142 dX7_flatten_32 (by first | decide | assumption) (by first | rfl | assumption) rfl rfl (by first | (simp only [hI_sI, hI_sL, hL_sI, hL_sL, false_and, true_and, and_false, and_true, and_self, if_false, if_true, w2]; first | done | rfl) | rfl) ?_
        refine V_icmpge G dX7_flatten_35 (tgt := 73) (by decide) (by first | exact r _ _ | assumption | exact ⟨by omega, by omega⟩) (by first | exact r _ _ | assumption | exact ⟨by omega, by omega⟩) (fun c_35 => ?_) (fun c_35 => ?_)
        · omega
        ·
          refine V_aload0 G dX7_flatten_38 ?_
          refine V_aload0 G dX7_flatten_39 ?_
          refine V_getR G fl_X7_47 dX7_flatten_40 (by first | decide | assumption) (by first | rfl | assumption) rfl (by first | rfl | assumption) ?_
          refine V_iload2 G dX7_flatten_43 ?_
          refine V_ialde G dX7_flatten_44 (by first | decide | assumption) (by first | rfl | assumption) (by decide) ⟨by omega, by omega⟩ (w3 k (by omega) (by omega)).1 ?_
          refine V_cV1i (d1 := 5) G m_X7_208 dX7_flatten_45 (by first | decide | assumption) (by first | rfl | assumption) (c_hgt (g := (g.1, savL g.2.1 g.1, g.2.2)) rs T Rs I Ls (w3 k (by omega) (by omega)).2.1 (w3 k (by omega) (by omega)).2.2) (by omega) (by omega) (by omega) (Nat.le_of_ble_eq_true rfl) (fun x_45 h_45 hp_45 => ?_)
          rw [show x_45 = hgtS g.1 (lfA (lfS g.1) k) from hp_45.1, hp_45.2]
          refine V_aload0 G dX7_flatten_48 ?_
          refine V_aload0 G dX7_flatten_49 ?_
          refine V_getR G fl_X7_47 dX7_flatten_50 (by first | decide | assumption) (by first | rfl | assumption) rfl (by first | rfl | assumption) ?_
          refine V_iload1 G dX7_flatten_53 ?_
          refine V_ialde G dX7_flatten_54 (by first | decide | assumption) (by first | rfl | assumption) (by decide) ⟨by omega, by omega⟩ (w3 b (by omega) (by omega)).1 ?_
          refine V_cV1i (d1 := 5) G m_X7_208 dX7_flatten_55 (by first | decide | assumption) (by first | rfl | assumption) (c_hgt (g := (g.1, savL g.2.1 g.1, g.2.2)) rs T Rs I Ls (w3 b (by omega) (by omega)).2.1 (w3 b (by omega) (by omega)).2.2) (by omega) (by omega) (by omega) (Nat.le_of_ble_eq_true rfl) (fun x_55 h_55 hp_55 => ?_)
          rw [show x_55 = hgtS g.1 (lfA (lfS g.1) b) from hp_55.1, hp_55.2]
          have hr1 : 1 ≤ hgtS g.1 (lfA (lfS g.1) k) ∧ hgtS g.1 (lfA (lfS g.1) k) ≤ 25 := hgtF_r _ _ _
          have hr2 : 1 ≤ hgtS g.1 (lfA (lfS g.1) b) ∧ hgtS g.1 (lfA (lfS g.1) b) ≤ 25 := hgtF_r _ _ _
          refine V_icmpge G dX7_flatten_58 (tgt := 65) (by decide) (by first | exact r _ _ | assumption | exact ⟨by omega, by omega⟩) (by first | exact r _ _ | assumption | exact ⟨by omega, by omega⟩) (fun c_58 => ?_) (fun c_58 => ?_)
          ·
            refine V_iload1 G dX7_flatten_65 ?_
            refine V_istore1 G dX7_flatten_66 rfl ?_
            refine V_iinc2 G dX7_flatten_67 rfl ?_
            refine V_goto G dX7_flatten_70 (tgt := 30) (by decide) ?_
            exact ih (k + 1) _ (by omega) (by omega) (by omega) (by rw [← hs2, bestF]; first | rw [if_pos (by omega)] | rw [if_neg (by omega)])
          ·
            refine V_iload2 G dX7_flatten_61 ?_
            refine V_goto G dX7_flatten_62 (tgt := 66) (by decide) ?_
            refine V_istore1 G dX7_flatten_66 rfl ?_
            refine V_iinc2 G dX7_flatten_67 rfl ?_
            refine V_goto G dX7_flatten_70 (tgt := 30) (by decide) ?_
            exact ih (k + 1) _ (by omega) (by omega) (by omega) (by rw [← hs2, bestF]; first | rw [if_pos (by omega)] | rw [if_neg (by omega)])

    exact lp2 ((lfS g.1).length - 1) 1 0 (by omega) (by omega) (by omega) rfl
  refine V_aload0 G dX7_flatten_0 ?_
  refine V_iconst G dX7_flatten_1 ?_
  refine V_putI (jz := 0) G fw_X7_68 dX7_flatten_2 (by first | decide | assumption) (by first | rfl | assumption) rfl rfl ?_
  refine V_aload0 G dX7_flatten_5 ?_
  refine V_cV0v (d1 := 6) G m_X7_187 dX7_flatten_6 (by first | decide | assumption) (by first | rfl | assumption) (c_lays r0 T R0 hn0 I.2.1) (by omega) (by omega) (by omega) (Nat.le_of_ble_eq_true rfl) (fun h_6 hp_6 => ?_)
  obtain ⟨v1, v2, v3, v4⟩ := hp_6
  have e1 := e0.tr (Sl_SM v1)
  obtain ⟨w1, w2, w3⟩ := lfS_at T I v3
  have hA42 := AS_le T I
  have r := v2
  have v77 : hI h_6 77 0 = 0 := (v1.1 77 0 rfl).trans (by simp [hI_sI])
  have hn8 := v4.n
  refine V_aload0 G dX7_flatten_9 ?_
  refine V_getIe (jz := 18) G fl_X7_142 dX7_flatten_10 (by first | decide | assumption) (by first | rfl | assumption) rfl rfl (by first | (simp only [hI_sI, hI_sL, hL_sI, hL_sL, false_and, true_and, and_false, and_true, and_self, if_false, if_true, w2]; first | done | rfl) | rfl) ?_
  refine V_ifne G dX7_flatten_13 (tgt := 22) (by decide) (by first | exact r _ _ | assumption | exact ⟨by omega, by omega⟩) (fun c_13 => ?_) (fun c_13 => ?_)
  ·
    refine V_aload0 G dX7_flatten_22 ?_
    refine V_cV0v (d1 := 1) G m_X7_193 dX7_flatten_23 (by first | decide | assumption) (by first | rfl | assumption) (c_X7_saves v2 v4 hl6) (by omega) (by omega) (by omega) (Nat.le_of_ble_eq_true rfl) (fun h_23 hp_23 => ?_)
    obtain ⟨z1, z2, z3⟩ := hp_23
    have hn9 := z3.n
    dsimp only at hn9
    have r := z2
    have z77 : hI h_23 77 0 = 0 := (z1.1 77 0 rfl).trans v77
    have z18 : hI h_23 77 18 = (lfS g.1).length := (z1.1 77 18 rfl).trans w2
    refine V_iconst G dX7_flatten_26 ?_
    refine V_istore1 G dX7_flatten_27 rfl ?_
    refine V_iconst G dX7_flatten_28 ?_
    refine V_istore2 G dX7_flatten_29 rfl ?_
    exact lp h_23 (e1.tr (S79_SM z1)) z2 z3 (v3.eq (fun q j hq => z1.1 q j (by simp; omega))) z77 (by omega)
  ·
    refine V_aload0 G dX7_flatten_16 ?_
    refine V_iconst G dX7_flatten_17 ?_
    refine V_cV1i (d1 := 1) G m_X7_190 dX7_flatten_18 (by first | decide | assumption) (by first | rfl | assumption) (c_X7_fails) (by omega) (by omega) (by omega) (Nat.le_of_ble_eq_true rfl) (fun x_18 h_18 hp_18 => ?_)
    rw [hp_18.1, hp_18.2]
    exact V_reti E dX7_flatten_21 rfl rfl ⟨_, rfl, by unfold opFlat; rw [if_pos (by omega)]; exact aft_fail e1 v2 v4 (by decide) ⟨by decide, by decide⟩⟩

set_option maxRecDepth 100000 in
set_option maxHeartbeats 4000000 in
theorem c_X7_write {l : Launch} {d : Nat} {h : Hp} (r : Rg h) {g : Sg} (T : RdsOk) (R : RepM g h) (I : okS g.1) (hl6 : g.2.1.length ≤ 6) (hd : 7 ≤ d := by omega) : CP l d 0 0 yX7_write cX7_write 2 (Option.some Jvm.ClassFile.FieldType.int) [.ref 77] h (pI fun x h1 => aft (opWrite g) x h h1) := by
  refine CP.ofV (L := [some (.ref 77), none]) RX7 (by decide +kernel) rfl (Nat.le_of_ble_eq_true rfl) rfl (fun X hX G E => ?_)
  subst hX
  have r0 : Rg (sI h 77 0 0) := r.sI ⟨by decide, by decide⟩
  have R0 : RepM g (sI h 77 0 0) := R.thr
  have e0 : eqx SM h (sI h 77 0 0) := eqx.rf.st rfl
  have hn := R0.n
  have hn0 := I.1
  have lp : ∀ (hs : Hp), eqx SM h hs → Rg hs → RepM g hs → hI hs 77 0 = 0 → (lfS g.1).length ≠ 0 → V X 0 0 34 [some (.ref 77), some (.int (Int32.ofInt 0))] [] (sI hs 77 7 (nS g.1)) := by
    intro hs es rs Rs hs0 hne
    have lp2 : ∀ (m : Nat) (k : Int) (f : Hp), k + m = nS g.1 → 0 ≤ k → Rg f → eqx (fun q _ => q == 82) (sI hs 77 7 (nS g.1)) f → (∀ j : Int, 0 ≤ j → j < k → hI f 82 j = letF (kdS g.1 j)) → V X 0 0 34 [some (.ref 77), some (.int (Int32.ofInt k))] [] f := by
      intro m
      induction m with
      | zero =>
        intro k f hm_ hk0 r2 ef hf
        have r := r2
        have hf7 : hI f 77 7 = nS g.1 := (ef.1 77 7 rfl).trans (by simp [hI_sI])
        refine V_iload1 G dX7_write_34 ?_
        refine V_aload0 G dX7_write_35 ?_
        refine V_getIe (jz := 7) G fl_X7_211 dX7_write_36 (by first | decide | assumption) (by first | rfl | assumption) rfl rfl (by first | (simp only [hI_sI, hI_sL, hL_sI, hL_sL, false_and, true_and, and_false, and_true, and_self, if_false, if_true, hf7]; first | done | rfl) | rfl) ?_
        refine V_icmpge G dX7_write_39 (tgt := 62) (by decide) (by first | exact r _ _ | assumption | exact ⟨by omega, by omega⟩) (by first | exact r _ _ | assumption | exact ⟨by omega, by omega⟩) (fun c_39 => ?_) (fun c_39 => ?_)
        ·
          refine V_aload0 G dX7_write_62 ?_
          refine V_getIe (jz := 7) G fl_X7_211 dX7_write_63 (by first | decide | assumption) (by first | rfl | assumption) rfl rfl (by first | (simp only [hI_sI, hI_sL, hL_sI, hL_sL, false_and, true_and, and_false, and_true, and_self, if_false, if_true, hf7]; first | done | rfl) | rfl) ?_
          exact V_reti E dX7_write_66 rfl rfl ⟨_, rfl, by
              unfold opWrite
              rw [if_neg hne]
              obtain ⟨q1, q2, q3, q4, q5, q6, q7⟩ := Rs
              refine ⟨(es.st rfl).tr (ef.mono (fun q j z => by simp [SM] at z; simp; omega)), r2, (ef.1 77 0 rfl).trans ((by simp [hI_sI] : hI (sI hs 77 7 (nS g.1)) 77 0 = hI hs 77 0).trans hs0), ⟨q1.eq (fun j => ef.1 78 j rfl), (ef.1 77 3 rfl).trans q2, fun i v hv => (q3 i v hv).eq (fun j => ef.1 79 j rfl), q4.eq (fun j => ef.1 81 j rfl) (fun j => ef.1 80 j rfl), q5.eq (fun j => ef.1 81 j rfl) (fun j => ef.1 80 j rfl), ?_, fun i z hz => ?_⟩, fun _ => rfl⟩
              · rw [hf7]; simp [wrS]; omega
              · simp only [wrS, List.getElem?_map, Option.map_eq_some_iff] at hz
                obtain ⟨a, ha, rfl⟩ := hz
                have hal := (List.getElem?_eq_some_iff.mp ha).1
                rw [List.length_range] at hal
                rw [List.getElem?_range hal] at ha
                cases ha
                exact hf i (by omega) (by omega)⟩
        · omega
      | succ m ih =>
        intro k f hm_ hk0 r2 ef hf
        have r := r2
        have hf7 : hI f 77 7 = nS g.1 := (ef.1 77 7 rfl).trans (by simp [hI_sI])
        refine V_iload1 G dX7_write_34 ?_
        refine V_aload0 G dX7_write_35 ?_
        refine V_getIe (jz := 7) G fl_X7_211 dX7_write_36 (by first | decide | assumption) (by first | rfl | assumption) rfl rfl (by first | (simp only [hI_sI, hI_sL, hL_sI, hL_sL, false_and, true_and, and_false, and_true, and_self, if_false, if_true, hf7]; first | done | rfl) | rfl) ?_
        refine V_icmpge G dX7_write_39 (tgt := 62) (by decide) (by first | exact r _ _ | assumption | exact ⟨by omega, by omega⟩) (by first | exact r _ _ | assumption | exact ⟨by omega, by omega⟩) (fun c_39 => ?_) (fun c_39 => ?_)
        · omega
        ·
          refine V_aload0 G dX7_write_42 ?_
          refine V_getR G fl_X7_23 dX7_write_43 (by first | decide | assumption) (by first | rfl | assumption) rfl (by first | rfl | assumption) ?_
          refine V_iload1 G dX7_write_46 ?_
          refine V_aload0 G dX7_write_47 ?_
          refine V_iload1 G dX7_write_48 ?_
          refine V_cV1i (d1 := 1) G m_X7_86 dX7_write_49 (by first | decide | assumption) (by first | rfl | assumption) (c_X7_kind (w := k) (by omega)) (by omega) (by omega) (by omega) (Nat.le_of_ble_eq_true rfl) (fun x_49 h_49 hp_49 => ?_)
          rw [hp_49.1, hp_49.2, show hI f 78 (2 + k) = kdS g.1 k from ((ef.1 78 (2 + k) rfl).trans rfl).trans (Rs.at' (j := 2 + k) (by omega) (by omega))]
          have hkr := I.2.1 k hk0 (by omega)
          have hlr := letF_r (kdS g.1 k)
          refine V_cS1i (d1 := 1) G m_X7_214 dX7_write_52 (c_X7_letterOf ⟨by omega, by omega⟩) (by omega) (by omega) (by omega) (Nat.le_of_ble_eq_true rfl) (fun x_52 h_52 hp_52 => ?_)
          rw [hp_52.1, hp_52.2]
          refine V_iast G dX7_write_55 (by first | decide | assumption) (by first | rfl | assumption) (by decide) ⟨by omega, by omega⟩ ?_
          refine V_iinc1 G dX7_write_56 rfl ?_
          refine V_goto G dX7_write_59 (tgt := 34) (by decide) ?_
          exact ih (k + 1) _ (by omega) (by omega) (r2.sI ⟨by omega, by omega⟩) (ef.st rfl) (fun j j1 j2 => by
            rw [hI_sI]
            by_cases hj : j = k
            · rw [if_pos ⟨rfl, hj⟩, hj]
            · rw [if_neg (fun z => hj z.2)]; exact hf j j1 (by omega))

    exact lp2 (nS g.1).toNat 0 _ (by omega) (by omega) (rs.sI ⟨by omega, by omega⟩) eqx.rf (fun j j1 j2 => by omega)
  refine V_aload0 G dX7_write_0 ?_
  refine V_iconst G dX7_write_1 ?_
  refine V_putI (jz := 0) G fw_X7_68 dX7_write_2 (by first | decide | assumption) (by first | rfl | assumption) rfl rfl ?_
  refine V_aload0 G dX7_write_5 ?_
  refine V_cV0v (d1 := 6) G m_X7_187 dX7_write_6 (by first | decide | assumption) (by first | rfl | assumption) (c_lays r0 T R0 hn0 I.2.1) (by omega) (by omega) (by omega) (Nat.le_of_ble_eq_true rfl) (fun h_6 hp_6 => ?_)
  obtain ⟨v1, v2, v3, v4⟩ := hp_6
  have e1 := e0.tr (Sl_SM v1)
  obtain ⟨w1, w2, w3⟩ := lfS_at T I v3
  have hA42 := AS_le T I
  have r := v2
  have v77 : hI h_6 77 0 = 0 := (v1.1 77 0 rfl).trans (by simp [hI_sI])
  have hn8 := v4.n
  refine V_aload0 G dX7_write_9 ?_
  refine V_getIe (jz := 18) G fl_X7_142 dX7_write_10 (by first | decide | assumption) (by first | rfl | assumption) rfl rfl (by first | (simp only [hI_sI, hI_sL, hL_sI, hL_sL, false_and, true_and, and_false, and_true, and_self, if_false, if_true, w2]; first | done | rfl) | rfl) ?_
  refine V_ifne G dX7_write_13 (tgt := 22) (by decide) (by first | exact r _ _ | assumption | exact ⟨by omega, by omega⟩) (fun c_13 => ?_) (fun c_13 => ?_)
  ·
    refine V_aload0 G dX7_write_22 ?_
    refine V_aload0 G dX7_write_23 ?_
    refine V_getR G fl_X7_7 dX7_write_24 (by first | decide | assumption) (by first | rfl | assumption) rfl (by first | rfl | assumption) ?_
    refine V_iconst G dX7_write_27 ?_
    refine V_ialde G dX7_write_28 (by first | decide | assumption) (by first | rfl | assumption) (by decide) ⟨by omega, by omega⟩ hn8 ?_
    refine V_putI (jz := 7) G fw_X7_211 dX7_write_29 (by first | decide | assumption) (by first | rfl | assumption) rfl rfl ?_
    refine V_iconst G dX7_write_32 ?_
    refine V_istore1 G dX7_write_33 rfl ?_
    exact lp h_6 e1 v2 v4 v77 (by omega)
  ·
    refine V_aload0 G dX7_write_16 ?_
    refine V_iconst G dX7_write_17 ?_
    refine V_cV1i (d1 := 1) G m_X7_190 dX7_write_18 (by first | decide | assumption) (by first | rfl | assumption) (c_X7_fails) (by omega) (by omega) (by omega) (Nat.le_of_ble_eq_true rfl) (fun x_18 h_18 hp_18 => ?_)
    rw [hp_18.1, hp_18.2]
    exact V_reti E dX7_write_21 rfl rfl ⟨_, rfl, by unfold opWrite; rw [if_pos (by omega)]; exact aft_fail e1 v2 v4 (by decide) ⟨by decide, by decide⟩⟩

set_option maxRecDepth 100000 in
set_option maxHeartbeats 4000000 in
theorem c_X7_ifFixed {l : Launch} {d : Nat} {h : Hp} (r : Rg h) {g : Sg} (T : RdsOk) (R : RepM g h) (I : okS g.1) (hl6 : g.2.1.length ≤ 6) {w hd1 : Int} (hw : inr w) (hh : inr hd1) (hd : 7 ≤ d := by omega) : CP l d 0 0 yX7_ifFixed cX7_ifFixed 3 (Option.some Jvm.ClassFile.FieldType.int) [.ref 77, iv w, iv hd1] h (pI fun x h1 => aft (opIf g w hd1) x h h1) := by
  refine CP.ofV (L := [some (.ref 77), some (.int (Int32.ofInt w)), some (.int (Int32.ofInt hd1))]) RX7 (by decide +kernel) rfl (Nat.le_of_ble_eq_true rfl) rfl (fun X hX G E => ?_)
  subst hX
  have r0 : Rg (sI h 77 0 0) := r.sI ⟨by decide, by decide⟩
  have R0 : RepM g (sI h 77 0 0) := R.thr
  have e0 : eqx SM h (sI h 77 0 0) := eqx.rf.st rfl
  have hn := R0.n
  have hn0 := I.1
  refine V_aload0 G dX7_ifFixed_0 ?_
  refine V_iconst G dX7_ifFixed_1 ?_
  refine V_putI (jz := 0) G fw_X7_68 dX7_ifFixed_2 (by first | decide | assumption) (by first | rfl | assumption) rfl rfl ?_
  refine V_aload0 G dX7_ifFixed_5 ?_
  refine V_iload1 G dX7_ifFixed_6 ?_
  refine V_cV1i (d1 := 2) G m_X7_199 dX7_ifFixed_7 (by first | decide | assumption) (by first | rfl | assumption) (c_X7_isWord r0 (n := nS g.1) hn hn0 hw) (by omega) (by omega) (by omega) (Nat.le_of_ble_eq_true rfl) (fun x_7 h_7 hp_7 => ?_)
  rw [hp_7.1, hp_7.2]
  refine V_ifeqB G dX7_ifFixed_10 (tgt := 22) (by decide)  (fun c_10 => ?_) (fun c_10 => ?_)
  ·
    refine V_aload0 G dX7_ifFixed_22 ?_
    refine V_iconst G dX7_ifFixed_23 ?_
    refine V_cV1i (d1 := 1) G m_X7_190 dX7_ifFixed_24 (by first | decide | assumption) (by first | rfl | assumption) (c_X7_fails) (by omega) (by omega) (by omega) (Nat.le_of_ble_eq_true rfl) (fun x_24 h_24 hp_24 => ?_)
    rw [hp_24.1, hp_24.2]
    exact V_reti E dX7_ifFixed_27 rfl rfl ⟨_, rfl, by unfold opIf; rw [if_pos (by omega)]; exact aft_fail e0 r0 R0 (by decide) ⟨by decide, by decide⟩⟩
  ·
    refine V_aload0 G dX7_ifFixed_13 ?_
    refine V_iload1 G dX7_ifFixed_14 ?_
    refine V_iload2 G dX7_ifFixed_15 ?_
    refine V_cV2i (d1 := 2) G m_X7_202 dX7_ifFixed_16 (by first | decide | assumption) (by first | rfl | assumption) (c_X7_isHead r0 (n := nS g.1) (w := w) (hd1 := hd1) hn hn0 hw hh) (by omega) (by omega) (by omega) (Nat.le_of_ble_eq_true rfl) (fun x_16 h_16 hp_16 => ?_)
    rw [hp_16.1, hp_16.2]
    refine V_ifneB G dX7_ifFixed_19 (tgt := 28) (by decide)  (fun c_19 => ?_) (fun c_19 => ?_)
    ·
      refine V_aload0 G dX7_ifFixed_28 ?_
      refine V_cV0v (d1 := 6) G m_X7_187 dX7_ifFixed_29 (by first | decide | assumption) (by first | rfl | assumption) (c_lays r0 T R0 hn0 I.2.1) (by omega) (by omega) (by omega) (Nat.le_of_ble_eq_true rfl) (fun h_29 hp_29 => ?_)
      obtain ⟨v1, v2, v3, v4⟩ := hp_29
      have e1 := e0.tr (Sl_SM v1)
      obtain ⟨w1, w2, w3⟩ := lfS_at T I v3
      have hA42 := AS_le T I
      have r := v2
      have v77 : hI h_29 77 0 = 0 := (v1.1 77 0 rfl).trans (by simp [hI_sI])
      have hn8 := v4.n
      refine V_aload0 G dX7_ifFixed_32 ?_
      refine V_iload1 G dX7_ifFixed_33 ?_
      refine V_iload2 G dX7_ifFixed_34 ?_
      refine V_cV2i (d1 := 2) G m_X7_205 dX7_ifFixed_35 (by first | decide | assumption) (by first | rfl | assumption) (c_lb v2 T v4 I v3 (w := w) (hd1 := hd1) (by omega) hh) (by omega) (by omega) (by omega) (Nat.le_of_ble_eq_true rfl) (fun x_35 h_35 hp_35 => ?_)
      rw [hp_35.1, hp_35.2]
      exact V_reti E dX7_ifFixed_38 rfl rfl ⟨_, rfl, by
    unfold opIf
    rw [if_neg (by omega)]
    exact ⟨e1, v2, v77, v4, fun _ => rfl⟩⟩
    ·
      refine V_aload0 G dX7_ifFixed_22 ?_
      refine V_iconst G dX7_ifFixed_23 ?_
      refine V_cV1i (d1 := 1) G m_X7_190 dX7_ifFixed_24 (by first | decide | assumption) (by first | rfl | assumption) (c_X7_fails) (by omega) (by omega) (by omega) (Nat.le_of_ble_eq_true rfl) (fun x_24 h_24 hp_24 => ?_)
      rw [hp_24.1, hp_24.2]
      exact V_reti E dX7_ifFixed_27 rfl rfl ⟨_, rfl, by unfold opIf; rw [if_pos (by omega)]; exact aft_fail e0 r0 R0 (by decide) ⟨by decide, by decide⟩⟩

set_option maxRecDepth 100000 in
set_option maxHeartbeats 4000000 in
theorem c_X7_fix {l : Launch} {d : Nat} {h : Hp} (r : Rg h) {g : Sg} (T : RdsOk) (R : RepM g h) (I : okS g.1) (hl6 : g.2.1.length ≤ 6) {w hd1 : Int} (hw : inr w) (hh : inr hd1) (hd : 7 ≤ d := by omega) : CP l d 0 0 yX7_fix cX7_fix 4 (Option.some Jvm.ClassFile.FieldType.int) [.ref 77, iv w, iv hd1] h (pI fun x h1 => aft (opFix g w hd1) x h h1) := by
  refine CP.ofV (L := [some (.ref 77), some (.int (Int32.ofInt w)), some (.int (Int32.ofInt hd1)), none]) RX7 (by decide +kernel) rfl (Nat.le_of_ble_eq_true rfl) rfl (fun X hX G E => ?_)
  subst hX
  have r0 : Rg (sI h 77 0 0) := r.sI ⟨by decide, by decide⟩
  have R0 : RepM g (sI h 77 0 0) := R.thr
  have e0 : eqx SM h (sI h 77 0 0) := eqx.rf.st rfl
  have hn := R0.n
  have hn0 := I.1
  refine V_aload0 G dX7_fix_0 ?_
  refine V_iconst G dX7_fix_1 ?_
  refine V_putI (jz := 0) G fw_X7_68 dX7_fix_2 (by first | decide | assumption) (by first | rfl | assumption) rfl rfl ?_
  refine V_aload0 G dX7_fix_5 ?_
  refine V_iload1 G dX7_fix_6 ?_
  refine V_cV1i (d1 := 2) G m_X7_199 dX7_fix_7 (by first | decide | assumption) (by first | rfl | assumption) (c_X7_isWord r0 (n := nS g.1) hn hn0 hw) (by omega) (by omega) (by omega) (Nat.le_of_ble_eq_true rfl) (fun x_7 h_7 hp_7 => ?_)
  rw [hp_7.1, hp_7.2]
  refine V_ifeqB G dX7_fix_10 (tgt := 22) (by decide)  (fun c_10 => ?_) (fun c_10 => ?_)
  ·
    refine V_aload0 G dX7_fix_22 ?_
    refine V_iconst G dX7_fix_23 ?_
    refine V_cV1i (d1 := 1) G m_X7_190 dX7_fix_24 (by first | decide | assumption) (by first | rfl | assumption) (c_X7_fails) (by omega) (by omega) (by omega) (Nat.le_of_ble_eq_true rfl) (fun x_24 h_24 hp_24 => ?_)
    rw [hp_24.1, hp_24.2]
    exact V_reti E dX7_fix_27 rfl rfl ⟨_, rfl, by unfold opFix; rw [if_pos (by omega)]; exact aft_fail e0 r0 R0 (by decide) ⟨by decide, by decide⟩⟩
  ·
    refine V_aload0 G dX7_fix_13 ?_
    refine V_iload1 G dX7_fix_14 ?_
    refine V_iload2 G dX7_fix_15 ?_
    refine V_cV2i (d1 := 2) G m_X7_202 dX7_fix_16 (by first | decide | assumption) (by first | rfl | assumption) (c_X7_isHead r0 (n := nS g.1) (w := w) (hd1 := hd1) hn hn0 hw hh) (by omega) (by omega) (by omega) (Nat.le_of_ble_eq_true rfl) (fun x_16 h_16 hp_16 => ?_)
    rw [hp_16.1, hp_16.2]
    refine V_ifneB G dX7_fix_19 (tgt := 28) (by decide)  (fun c_19 => ?_) (fun c_19 => ?_)
    ·
      refine V_aload0 G dX7_fix_28 ?_
      refine V_cV0v (d1 := 6) G m_X7_187 dX7_fix_29 (by first | decide | assumption) (by first | rfl | assumption) (c_lays r0 T R0 hn0 I.2.1) (by omega) (by omega) (by omega) (Nat.le_of_ble_eq_true rfl) (fun h_29 hp_29 => ?_)
      obtain ⟨v1, v2, v3, v4⟩ := hp_29
      have e1 := e0.tr (Sl_SM v1)
      obtain ⟨w1, w2, w3⟩ := lfS_at T I v3
      have hA42 := AS_le T I
      have r := v2
      have v77 : hI h_29 77 0 = 0 := (v1.1 77 0 rfl).trans (by simp [hI_sI])
      have hn8 := v4.n
      refine V_aload0 G dX7_fix_32 ?_
      refine V_iload1 G dX7_fix_33 ?_
      refine V_iload2 G dX7_fix_34 ?_
      refine V_cV2i (d1 := 2) G m_X7_205 dX7_fix_35 (by first | decide | assumption) (by first | rfl | assumption) (c_lb v2 T v4 I v3 (w := w) (hd1 := hd1) (by omega) hh) (by omega) (by omega) (by omega) (Nat.le_of_ble_eq_true rfl) (fun x_35 h_35 hp_35 => ?_)
      rw [hp_35.1, hp_35.2]
      refine V_istore3 G dX7_fix_38 rfl ?_
      refine V_iload3 G dX7_fix_39 ?_
      refine V_ifne G dX7_fix_40 (tgt := 49) (by decide) (by have := lbS_r hA42 w hd1; exact ⟨by omega, by omega⟩) (fun c_40 => ?_) (fun c_40 => ?_)
      ·
        refine V_aload0 G dX7_fix_49 ?_
        refine V_cV0v (d1 := 1) G m_X7_193 dX7_fix_50 (by first | decide | assumption) (by first | rfl | assumption) (c_X7_saves v2 v4 hl6) (by omega) (by omega) (by omega) (Nat.le_of_ble_eq_true rfl) (fun h_50 hp_50 => ?_)
        obtain ⟨z1, z2, z3⟩ := hp_50
        have hn9 := z3.n
        dsimp only at hn9
        have r := z2
        have z77 : hI h_50 77 0 = 0 := (z1.1 77 0 rfl).trans v77
        have z18 : hI h_50 77 18 = (lfS g.1).length := (z1.1 77 18 rfl).trans w2
        refine V_aload0 G dX7_fix_53 ?_
        refine V_getR G fl_X7_7 dX7_fix_54 (by first | decide | assumption) (by first | rfl | assumption) rfl (by first | rfl | assumption) ?_
        refine V_bipush G dX7_fix_57 (by decide) ?_
        refine V_iload1 G dX7_fix_59 ?_
        refine V_iadd G dX7_fix_60 ?_
        refine V_iload2 G dX7_fix_61 ?_
        refine V_iconst G dX7_fix_62 ?_
        refine V_iadd G dX7_fix_63 ?_
        refine V_iast G dX7_fix_64 (by first | decide | assumption) (by first | rfl | assumption) (by decide) ⟨by omega, by omega⟩ ?_
        refine V_aload0 G dX7_fix_65 ?_
        refine V_getR G fl_X7_7 dX7_fix_66 (by first | decide | assumption) (by first | rfl | assumption) rfl (by first | rfl | assumption) ?_
        refine V_iconst G dX7_fix_69 ?_
        refine V_iconst G dX7_fix_70 ?_
        refine V_iast G dX7_fix_71 (by first | decide | assumption) (by first | rfl | assumption) (by decide) ⟨by omega, by omega⟩ ?_
        refine V_iload3 G dX7_fix_72 ?_
        exact V_reti E dX7_fix_73 rfl rfl ⟨_, rfl, by
    unfold opFix
    rw [if_neg (by omega), if_neg (by omega)]
    exact ⟨((e1.tr (S79_SM z1)).st rfl).st rfl, (z2.sI ⟨by omega, by omega⟩).sI ⟨by decide, by decide⟩, z77, (z3.u).u, fun _ => rfl⟩⟩
      ·
        refine V_aload0 G dX7_fix_43 ?_
        refine V_iconst G dX7_fix_44 ?_
        refine V_cV1i (d1 := 1) G m_X7_190 dX7_fix_45 (by first | decide | assumption) (by first | rfl | assumption) (c_X7_fails) (by omega) (by omega) (by omega) (Nat.le_of_ble_eq_true rfl) (fun x_45 h_45 hp_45 => ?_)
        rw [hp_45.1, hp_45.2]
        exact V_reti E dX7_fix_48 rfl rfl ⟨_, rfl, by unfold opFix; rw [if_neg (by omega), if_pos (by omega)]; exact aft_fail e1 v2 v4 (by decide) ⟨by decide, by decide⟩⟩
    ·
      refine V_aload0 G dX7_fix_22 ?_
      refine V_iconst G dX7_fix_23 ?_
      refine V_cV1i (d1 := 1) G m_X7_190 dX7_fix_24 (by first | decide | assumption) (by first | rfl | assumption) (c_X7_fails) (by omega) (by omega) (by omega) (Nat.le_of_ble_eq_true rfl) (fun x_24 h_24 hp_24 => ?_)
      rw [hp_24.1, hp_24.2]
      exact V_reti E dX7_fix_27 rfl rfl ⟨_, rfl, by unfold opFix; rw [if_pos (by omega)]; exact aft_fail e0 r0 R0 (by decide) ⟨by decide, by decide⟩⟩

end M17
