section C11

theorem row_root {c : Cs} (I : okS c) {k : Int} (h1 : 0 ≤ k) (h2 : k < (AS c).length) {w : Int} (w0 : 0 ≤ w) (w1 : w < nS c) (h : rowA (AS c) k w = -1) : kdS c w = 1 := by
  have hl : k.toNat < (AS c).length := by omega
  have e : rowA (AS c) k = (AS c)[k.toNat] := by
    unfold rowA
    rw [List.getElem?_eq_getElem hl]; rfl
  rw [e] at h
  have hn := I.1
  obtain ⟨u, eu⟩ : ∃ u : Nat, nS c = u := ⟨(nS c).toNat, by omega⟩
  have hk := I.2.1
  have mem : (AS c)[k.toNat] ∈ rds (kdS c) (nS c) := List.getElem_mem hl
  rw [rds_H] at mem
  rw [eu] at mem hk w1
  obtain ⟨v, ev⟩ : ∃ v : Nat, w = v := ⟨w.toNat, by omega⟩
  subst ev
  have hk1 : kAt (kdS c) (u : Int) (-1) = 6 := by unfold kAt; rw [if_neg (by omega)]
  have q := (rd_edge (by omega) (kAt_n hk) hk1 (rdsH_P hk mem) v (by omega)).2.2.2.1 h
  rw [kAt_in (by omega)] at q
  exact q.1
theorem sumF_add {f g : Int → Int} : ∀ (m : Nat) (k : Int), sumF f m k + sumF g m k = sumF (fun j => f j + g j) m k
  | 0, _ => rfl
  | m + 1, k => by rw [sumF, sumF, sumF, ← sumF_add m (k + 1)]; omega
theorem slants {c : Cs} (I : okS c) {k : Int} (h1 : 0 ≤ k) (h2 : k < (AS c).length) : sumF (fun w => if heldF (kdS c) (rowA (AS c) k) w = 3 then 1 else 0) (nS c).toNat 0 = cntK c 2 + cntK c 3 + cntK c 4 := by
  unfold cntK
  rw [sumF_add, sumF_add]
  refine sumF_congr _ _ (fun w w0 w1 => ?_)
  have hn := I.1
  have kr := I.2.1 w w0 (by omega)
  have root := row_root I h1 h2 w0 (w := w) (by omega)
  unfold heldF
  by_cases e : rowA (AS c) k w = -1
  · have := root e
    rw [if_pos e]
    rw [if_neg (by omega), if_neg (by omega), if_neg (by omega), if_neg (by omega)]; rfl
  · rw [if_neg e]
    repeat' split
    all_goals omega
theorem mos_eq {c : Cs} (I : okS c) {w : Int} (h0 : 0 ≤ w) (h1 : w < nS c) (h : 1 < hdsS c w) : mxF (fun z => lbS c w z) (nS c + 1).toNat (-1) 0 = mosS c w := by
  unfold mosS
  have hf := heads_free I h0 h1 h
  exact mxF_congr _ _ _ (fun j _ _ => lb_hv hf j)
theorem askF_any {hd mo : Int → Int} : ∀ (m : Nat) (k f f' : Int), askF hd mo m k (-1) f = askF hd mo m k (-1) f'
  | 0, _, _, _ => rfl
  | m + 1, k, f, f' => by
    rw [askF, askF]
    by_cases z : 1 < hd k
    · rw [if_pos ⟨z, Or.inl rfl⟩, if_pos ⟨z, Or.inl rfl⟩]
    · rw [if_neg (fun q => z q.1), if_neg (fun q => z q.1), askF_any m (k + 1) f f']
/-! a drawing is at most as high as it has words -/
theorem lev_st {kd f : Int → Int} : ∀ (m m' : Nat) (w : Int), reachF f m w → m ≤ m' → levF kd f (m' + 1) w = levF kd f (m + 1) w
  | 0, m', w, h, _ => by
    have h : f w = -1 := h
    rw [levF, levF, if_pos h, if_pos h]
  | m + 1, 0, w, h, h2 => by omega
  | m + 1, m' + 1, w, h, h2 => by
    show (if f w = -1 then 0 else stepF kd f w + levF kd f (m' + 1) (f w)) = (if f w = -1 then 0 else stepF kd f w + levF kd f (m + 1) (f w))
    by_cases e : f w = -1
    · rw [if_pos e, if_pos e]
    · rw [if_neg e, if_neg e]
      rcases h with h | h
      · exact absurd h e
      · rw [lev_st m m' (f w) h (by omega)]
theorem lev_eq {n : Int} {kd f : Int → Int} (ht : rtd n f) (hr : rok n f) {w : Int} (h0 : 0 ≤ w) (h1 : w < n) (hf : f w ≠ -1) : levF kd f 12 w = stepF kd f w + levF kd f 12 (f w) := by
  have a := ht w h0 h1
  have e : levF kd f 12 w = stepF kd f w + levF kd f 11 (f w) := by rw [levF, if_neg hf]
  rw [e]
  rcases a with a | a
  · exact absurd a hf
  · rw [lev_st 10 11 (f w) a (by omega)]
/-- each level between a word's and the root's is some word's -/
theorem lev_all {n : Int} {kd f : Int → Int} (ht : rtd n f) (hr : rok n f) : ∀ (m : Nat) (w : Int), 0 ≤ w → w < n → reachF f m w → ∀ v : Int, (0 ≤ v ∧ v ≤ levF kd f 12 w) ∨ (levF kd f 12 w ≤ v ∧ v ≤ 0) → ∃ z, 0 ≤ z ∧ z < n ∧ levF kd f 12 z = v
  | m, w, h0, h1, h, v, hv => by
    by_cases e : f w = -1
    · have : levF kd f 12 w = 0 := by rw [levF, if_pos e]
      exact ⟨w, h0, h1, by omega⟩
    · cases m with
      | zero => exact absurd h e
      | succ m =>
        have le := lev_eq (kd := kd) ht hr h0 h1 e
        have sr := stepF_r kd f w
        have rr := hr w h0 h1
        rcases h with h | h
        · exact absurd h e
        · by_cases c : v = levF kd f 12 w
          · exact ⟨w, h0, h1, c.symm⟩
          · exact lev_all ht hr m (f w) (by omega) rr.2 h v (by omega)
theorem mxF_at {g : Int → Int} : ∀ (m : Nat) (k a : Int), mxF g m k a = a ∨ ∃ j, k ≤ j ∧ j < k + m ∧ mxF g m k a = g j
  | 0, _, _ => Or.inl rfl
  | m + 1, k, a => by
    rw [mxF]
    rcases mxF_at m (k + 1) (if a < g k then g k else a) (g := g) with e | ⟨j, j1, j2, j3⟩
    · rw [e]
      split
      · exact Or.inr ⟨k, by omega, by omega, rfl⟩
      · exact Or.inl rfl
    · exact Or.inr ⟨j, by omega, by omega, j3⟩
theorem mnF_at {g : Int → Int} : ∀ (m : Nat) (k a : Int), mnF g m k a = a ∨ ∃ j, k ≤ j ∧ j < k + m ∧ mnF g m k a = g j
  | 0, _, _ => Or.inl rfl
  | m + 1, k, a => by
    rw [mnF]
    rcases mnF_at m (k + 1) (if g k < a then g k else a) (g := g) with e | ⟨j, j1, j2, j3⟩
    · rw [e]
      split
      · exact Or.inr ⟨k, by omega, by omega, rfl⟩
      · exact Or.inl rfl
    · exact Or.inr ⟨j, by omega, by omega, j3⟩
theorem hgt_le {n : Int} {kd f : Int → Int} (hn : 0 < n ∧ n ≤ 12) (ht : rtd n f) (hr : rok n f) : hgtF n kd f ≤ 12 := by
  have root : ∃ z, 0 ≤ z ∧ z < n ∧ levF kd f 12 z = 0 := lev_all ht hr 11 0 (by omega) hn.1 (ht 0 (by omega) hn.1) 0 (by omega)
  have all : ∀ v : Int, mnF (levF kd f 12) n.toNat 0 0 ≤ v → v ≤ mxF (levF kd f 12) n.toNat 0 0 → ∃ z, 0 ≤ z ∧ z < n ∧ levF kd f 12 z = v := by
    intro v v1 v2
    by_cases c : 0 ≤ v
    · rcases mxF_at n.toNat 0 0 (g := levF kd f 12) with e | ⟨j, j1, j2, j3⟩
      · rw [show v = 0 by omega]; exact root
      · exact lev_all ht hr 11 j j1 (by omega) (ht j j1 (by omega)) v (by omega)
    · rcases mnF_at n.toNat 0 0 (g := levF kd f 12) with e | ⟨j, j1, j2, j3⟩
      · omega
      · exact lev_all ht hr 11 j j1 (by omega) (ht j j1 (by omega)) v (by omega)
  unfold hgtF
  apply Classical.byContradiction
  intro big
  -- too many levels for the words
  have pick : ∀ (m : Nat) (lo : Int), mnF (levF kd f 12) n.toNat 0 0 ≤ lo → lo + m ≤ mxF (levF kd f 12) n.toNat 0 0 + 1 → ∃ l : List Int, l.length = m ∧ l.Nodup ∧ ∀ x ∈ l, (0 ≤ x ∧ x < n) ∧ lo ≤ levF kd f 12 x := by
    intro m
    induction m with
    | zero => intro lo _ _; exact ⟨[], rfl, List.nodup_nil, fun x hx => by simp at hx⟩
    | succ m ih =>
      intro lo l1 l2
      obtain ⟨l, q1, q2, q3⟩ := ih (lo + 1) (by omega) (by omega)
      obtain ⟨z, z0, z1, z2⟩ := all lo l1 (by omega)
      refine ⟨z :: l, by simp [q1], List.nodup_cons.mpr ⟨fun hz => ?_, q2⟩, fun x hx => ?_⟩
      · have := (q3 z hz).2
        omega
      · rcases List.mem_cons.mp hx with e | e
        · rw [e]; exact ⟨⟨z0, z1⟩, by omega⟩
        · have := q3 x e
          exact ⟨this.1, by omega⟩
  obtain ⟨l, q1, q2, q3⟩ := pick 13 (mnF (levF kd f 12) n.toNat 0 0) (by omega) (by omega)
  have := nodup_len n.toNat l q2 (fun x hx => by have := (q3 x hx).1; omega)
  omega
theorem AS_pos {c : Cs} (h : 0 < (AS c).length) : 0 < nS c := by
  apply Classical.byContradiction
  intro q
  have : AS c = [] := by
    unfold AS rds
    split
    · rfl
    · rw [if_neg (fun z => q z.1)]
  rw [this] at h
  simp at h
theorem hgtS_12 {c : Cs} (I : okS c) {k : Int} (h1 : 0 ≤ k) (h2 : k < (AS c).length) : 1 ≤ hgtS c k ∧ hgtS c k ≤ 12 := by
  have rr := row_ok I h1 h2
  have := I.1
  exact ⟨(hgtF_r _ _ _).1, hgt_le ⟨AS_pos (by omega), this.2⟩ rr.2.1 rr.1⟩

set_option maxRecDepth 100000 in
set_option maxHeartbeats 800000 in
theorem c_X6_wordProperty {l : Launch} {d : Nat} {h : Hp} {c : Cs} (I : okS c) (B : BodyC h c) {w q : Int} (hw : 0 ≤ w ∧ w < nS c) (hq : 0 ≤ q ∧ q ≤ 7) (hd : 4 ≤ d := by omega) : CP l d 0 0 yX6_wordProperty cX6_wordProperty 3 (Option.some Jvm.ClassFile.FieldType.int) [.ref 0, iv w, iv q] h (pI fun x h1 => x = wordS c w q ∧ h1 = h) := by
  refine CP.ofV (L := [some (.ref 0), some (.int (Int32.ofInt w)), some (.int (Int32.ofInt q))]) RX6 (by decide +kernel) rfl (Nat.le_of_ble_eq_true rfl) rfl (fun X hX G E => ?_)
  subst hX
  obtain ⟨S, R, P, L, W⟩ := B
  have S0 := S
  obtain ⟨hn, hdr, hkd, hfx⟩ := S
  have hn0 := I.1
  have hfr := I.2.2.1
  have l42 := lfS_len I
  have fw := hfr w hw.1 (by omega)
  refine V_iload2 G dX6_wordProperty_0 ?_
  rcases (show q = 0 ∨ q = 6 ∨ q = 7 ∨ q = 1 ∨ q = 2 ∨ q = 3 ∨ q = 4 ∨ q = 5 by omega) with e_1 | e_1 | e_1 | e_1 | e_1 | e_1 | e_1 | e_1
  · rw [e_1]
    refine V_lookup G dX6_wordProperty_1 (tgt := 36) ⟨by decide, by decide⟩ (by decide) rfl (by decide) ?_
    refine V_aload0 G dX6_wordProperty_36 ?_
    refine V_getR G fl_X6_12 dX6_wordProperty_37 (by first | decide | assumption) (by first | rfl | assumption) rfl (by first | rfl | assumption) ?_
    refine V_iload1 G dX6_wordProperty_40 ?_
    refine V_cV1i (d1 := 2) G m_X6_174 dX6_wordProperty_41 (by first | decide | assumption) (by first | rfl | assumption) (c_X4_kindAt isSt_all.1 hn hn0 (w := w) ⟨by omega, by omega⟩) (by omega) (by omega) (by omega) (Nat.le_of_ble_eq_true rfl) (fun x_41 h_41 hp_41 => ?_)
    rw [show x_41 = kdS c w by rw [hp_41.1]; unfold kdC; rw [if_pos (by omega)]; exact hkd w hw.1 hw.2, hp_41.2]
    exact V_reti E dX6_wordProperty_44 rfl rfl ⟨_, rfl, ⟨by unfold wordS; rw [if_pos e_1], rfl⟩⟩
  · rw [e_1]
    refine V_lookup G dX6_wordProperty_1 (tgt := 45) ⟨by decide, by decide⟩ (by decide) rfl (by decide) ?_
    refine V_aload0 G dX6_wordProperty_45 ?_
    refine V_getR G fl_X6_12 dX6_wordProperty_46 (by first | decide | assumption) (by first | rfl | assumption) rfl (by first | rfl | assumption) ?_
    refine V_iload1 G dX6_wordProperty_49 ?_
    refine V_cV1i (d1 := 2) G m_X6_295 dX6_wordProperty_50 (by first | decide | assumption) (by first | rfl | assumption) (c_X4_fixedAt isSt_all.1 hn hn0 (w := w) ⟨by omega, by omega⟩) (by omega) (by omega) (by omega) (Nat.le_of_ble_eq_true rfl) (fun x_50 h_50 hp_50 => ?_)
    rw [show x_50 = fxS c w - 2 by rw [hp_50.1]; unfold fxC; rw [if_pos (by omega)]; exact hfx w (by omega) (by omega), hp_50.2]
    refine V_bipush G dX6_wordProperty_53 (by decide) ?_
    refine V_icmpne G dX6_wordProperty_55 (tgt := 62) (by decide) ⟨by omega, by omega⟩ ⟨by omega, by omega⟩ (fun c_55 => ?_) (fun c_55 => ?_)
    ·
      refine V_iconst G dX6_wordProperty_62 ?_
      exact V_reti E dX6_wordProperty_63 rfl rfl ⟨_, rfl, ⟨by unfold wordS; rw [if_neg (by omega), if_pos e_1]; first | rw [if_pos (by omega)] | rw [if_neg (by omega)], rfl⟩⟩
    ·
      refine V_iconst G dX6_wordProperty_58 ?_
      refine V_goto G dX6_wordProperty_59 (tgt := 63) (by decide) ?_
      exact V_reti E dX6_wordProperty_63 rfl rfl ⟨_, rfl, ⟨by unfold wordS; rw [if_neg (by omega), if_pos e_1]; first | rw [if_pos (by omega)] | rw [if_neg (by omega)], rfl⟩⟩
  · rw [e_1]
    refine V_lookup G dX6_wordProperty_1 (tgt := 64) ⟨by decide, by decide⟩ (by decide) rfl (by decide) ?_
    refine V_aload0 G dX6_wordProperty_64 ?_
    refine V_iload1 G dX6_wordProperty_65 ?_
    refine V_cV1i (d1 := 3) G m_X6_316 dX6_wordProperty_66 (by first | decide | assumption) (by first | rfl | assumption) (c_X6_headsLeft I R L hw) (by omega) (by omega) (by omega) (Nat.le_of_ble_eq_true rfl) (fun x_66 h_66 hp_66 => ?_)
    rw [hp_66.1, hp_66.2]
    exact V_reti E dX6_wordProperty_69 rfl rfl ⟨_, rfl, ⟨by unfold wordS; rw [if_neg (by omega), if_neg (by omega), if_pos e_1], rfl⟩⟩
  · rw [e_1]
    refine V_lookup G dX6_wordProperty_1 (tgt := 70) ⟨by decide, by decide⟩ (by decide) rfl (by decide) ?_
    refine V_aload0 G dX6_wordProperty_70 ?_
    refine V_getIe (jz := 4) G fl_X6_34 dX6_wordProperty_71 (by first | decide | assumption) (by first | rfl | assumption) rfl rfl L.1 ?_
    refine V_ifne G dX6_wordProperty_74 (tgt := 81) (by decide) ⟨by omega, by omega⟩ (fun c_74 => ?_) (fun c_74 => ?_)
    ·
      refine V_aload0 G dX6_wordProperty_81 ?_
      refine V_getR G fl_X6_41 dX6_wordProperty_82 (by first | decide | assumption) (by first | rfl | assumption) rfl (by first | rfl | assumption) ?_
      refine V_iload1 G dX6_wordProperty_85 ?_
      refine V_iload2 G dX6_wordProperty_86 ?_
      have ne : lfS c ≠ [] := by
        intro z
        rw [z] at c_74
        simp at c_74
      refine V_cV2i (d1 := 2) G m_X6_319 dX6_wordProperty_87 (by first | decide | assumption) (by first | rfl | assumption) (c_X0_property isDr24 hn0 (W ne) hw (by omega)) (by omega) (by omega) (by omega) (Nat.le_of_ble_eq_true rfl) (fun x_87 h_87 hp_87 => ?_)
      rw [hp_87.1, hp_87.2]
      exact V_reti E dX6_wordProperty_90 rfl rfl ⟨_, rfl, ⟨by unfold wordS; rw [if_neg (by omega), if_neg (by omega), if_neg (by omega)]; first | rw [if_pos (by omega)] | (rw [if_neg (by omega), e_1]), rfl⟩⟩
    ·
      refine V_iconst G dX6_wordProperty_77 ?_
      refine V_goto G dX6_wordProperty_78 (tgt := 90) (by decide) ?_
      exact V_reti E dX6_wordProperty_90 rfl rfl ⟨_, rfl, ⟨by unfold wordS; rw [if_neg (by omega), if_neg (by omega), if_neg (by omega)]; first | rw [if_pos (by omega)] | (rw [if_neg (by omega), e_1]), rfl⟩⟩
  · rw [e_1]
    refine V_lookup G dX6_wordProperty_1 (tgt := 70) ⟨by decide, by decide⟩ (by decide) rfl (by decide) ?_
    refine V_aload0 G dX6_wordProperty_70 ?_
    refine V_getIe (jz := 4) G fl_X6_34 dX6_wordProperty_71 (by first | decide | assumption) (by first | rfl | assumption) rfl rfl L.1 ?_
    refine V_ifne G dX6_wordProperty_74 (tgt := 81) (by decide) ⟨by omega, by omega⟩ (fun c_74 => ?_) (fun c_74 => ?_)
    ·
      refine V_aload0 G dX6_wordProperty_81 ?_
      refine V_getR G fl_X6_41 dX6_wordProperty_82 (by first | decide | assumption) (by first | rfl | assumption) rfl (by first | rfl | assumption) ?_
      refine V_iload1 G dX6_wordProperty_85 ?_
      refine V_iload2 G dX6_wordProperty_86 ?_
      have ne : lfS c ≠ [] := by
        intro z
        rw [z] at c_74
        simp at c_74
      refine V_cV2i (d1 := 2) G m_X6_319 dX6_wordProperty_87 (by first | decide | assumption) (by first | rfl | assumption) (c_X0_property isDr24 hn0 (W ne) hw (by omega)) (by omega) (by omega) (by omega) (Nat.le_of_ble_eq_true rfl) (fun x_87 h_87 hp_87 => ?_)
      rw [hp_87.1, hp_87.2]
      exact V_reti E dX6_wordProperty_90 rfl rfl ⟨_, rfl, ⟨by unfold wordS; rw [if_neg (by omega), if_neg (by omega), if_neg (by omega)]; first | rw [if_pos (by omega)] | (rw [if_neg (by omega), e_1]), rfl⟩⟩
    ·
      refine V_iconst G dX6_wordProperty_77 ?_
      refine V_goto G dX6_wordProperty_78 (tgt := 90) (by decide) ?_
      exact V_reti E dX6_wordProperty_90 rfl rfl ⟨_, rfl, ⟨by unfold wordS; rw [if_neg (by omega), if_neg (by omega), if_neg (by omega)]; first | rw [if_pos (by omega)] | (rw [if_neg (by omega), e_1]), rfl⟩⟩
  · rw [e_1]
    refine V_lookup G dX6_wordProperty_1 (tgt := 70) ⟨by decide, by decide⟩ (by decide) rfl (by decide) ?_
    refine V_aload0 G dX6_wordProperty_70 ?_
    refine V_getIe (jz := 4) G fl_X6_34 dX6_wordProperty_71 (by first | decide | assumption) (by first | rfl | assumption) rfl rfl L.1 ?_
    refine V_ifne G dX6_wordProperty_74 (tgt := 81) (by decide) ⟨by omega, by omega⟩ (fun c_74 => ?_) (fun c_74 => ?_)
    ·
      refine V_aload0 G dX6_wordProperty_81 ?_
      refine V_getR G fl_X6_41 dX6_wordProperty_82 (by first | decide | assumption) (by first | rfl | assumption) rfl (by first | rfl | assumption) ?_
      refine V_iload1 G dX6_wordProperty_85 ?_
      refine V_iload2 G dX6_wordProperty_86 ?_
      have ne : lfS c ≠ [] := by
        intro z
        rw [z] at c_74
        simp at c_74
      refine V_cV2i (d1 := 2) G m_X6_319 dX6_wordProperty_87 (by first | decide | assumption) (by first | rfl | assumption) (c_X0_property isDr24 hn0 (W ne) hw (by omega)) (by omega) (by omega) (by omega) (Nat.le_of_ble_eq_true rfl) (fun x_87 h_87 hp_87 => ?_)
      rw [hp_87.1, hp_87.2]
      exact V_reti E dX6_wordProperty_90 rfl rfl ⟨_, rfl, ⟨by unfold wordS; rw [if_neg (by omega), if_neg (by omega), if_neg (by omega)]; first | rw [if_pos (by omega)] | (rw [if_neg (by omega), e_1]), rfl⟩⟩
    ·
      refine V_iconst G dX6_wordProperty_77 ?_
      refine V_goto G dX6_wordProperty_78 (tgt := 90) (by decide) ?_
      exact V_reti E dX6_wordProperty_90 rfl rfl ⟨_, rfl, ⟨by unfold wordS; rw [if_neg (by omega), if_neg (by omega), if_neg (by omega)]; first | rw [if_pos (by omega)] | (rw [if_neg (by omega), e_1]), rfl⟩⟩
  · rw [e_1]
    refine V_lookup G dX6_wordProperty_1 (tgt := 70) ⟨by decide, by decide⟩ (by decide) rfl (by decide) ?_
    refine V_aload0 G dX6_wordProperty_70 ?_
    refine V_getIe (jz := 4) G fl_X6_34 dX6_wordProperty_71 (by first | decide | assumption) (by first | rfl | assumption) rfl rfl L.1 ?_
    refine V_ifne G dX6_wordProperty_74 (tgt := 81) (by decide) ⟨by omega, by omega⟩ (fun c_74 => ?_) (fun c_74 => ?_)
    ·
      refine V_aload0 G dX6_wordProperty_81 ?_
      refine V_getR G fl_X6_41 dX6_wordProperty_82 (by first | decide | assumption) (by first | rfl | assumption) rfl (by first | rfl | assumption) ?_
      refine V_iload1 G dX6_wordProperty_85 ?_
      refine V_iload2 G dX6_wordProperty_86 ?_
      have ne : lfS c ≠ [] := by
        intro z
        rw [z] at c_74
        simp at c_74
      refine V_cV2i (d1 := 2) G m_X6_319 dX6_wordProperty_87 (by first | decide | assumption) (by first | rfl | assumption) (c_X0_property isDr24 hn0 (W ne) hw (by omega)) (by omega) (by omega) (by omega) (Nat.le_of_ble_eq_true rfl) (fun x_87 h_87 hp_87 => ?_)
      rw [hp_87.1, hp_87.2]
      exact V_reti E dX6_wordProperty_90 rfl rfl ⟨_, rfl, ⟨by unfold wordS; rw [if_neg (by omega), if_neg (by omega), if_neg (by omega)]; first | rw [if_pos (by omega)] | (rw [if_neg (by omega), e_1]), rfl⟩⟩
    ·
      refine V_iconst G dX6_wordProperty_77 ?_
      refine V_goto G dX6_wordProperty_78 (tgt := 90) (by decide) ?_
      exact V_reti E dX6_wordProperty_90 rfl rfl ⟨_, rfl, ⟨by unfold wordS; rw [if_neg (by omega), if_neg (by omega), if_neg (by omega)]; first | rw [if_pos (by omega)] | (rw [if_neg (by omega), e_1]), rfl⟩⟩
  · rw [e_1]
    refine V_lookup G dX6_wordProperty_1 (tgt := 70) ⟨by decide, by decide⟩ (by decide) rfl (by decide) ?_
    refine V_aload0 G dX6_wordProperty_70 ?_
    refine V_getIe (jz := 4) G fl_X6_34 dX6_wordProperty_71 (by first | decide | assumption) (by first | rfl | assumption) rfl rfl L.1 ?_
    refine V_ifne G dX6_wordProperty_74 (tgt := 81) (by decide) ⟨by omega, by omega⟩ (fun c_74 => ?_) (fun c_74 => ?_)
    ·
      refine V_aload0 G dX6_wordProperty_81 ?_
      refine V_getR G fl_X6_41 dX6_wordProperty_82 (by first | decide | assumption) (by first | rfl | assumption) rfl (by first | rfl | assumption) ?_
      refine V_iload1 G dX6_wordProperty_85 ?_
      refine V_iload2 G dX6_wordProperty_86 ?_
      have ne : lfS c ≠ [] := by
        intro z
        rw [z] at c_74
        simp at c_74
      refine V_cV2i (d1 := 2) G m_X6_319 dX6_wordProperty_87 (by first | decide | assumption) (by first | rfl | assumption) (c_X0_property isDr24 hn0 (W ne) hw (by omega)) (by omega) (by omega) (by omega) (Nat.le_of_ble_eq_true rfl) (fun x_87 h_87 hp_87 => ?_)
      rw [hp_87.1, hp_87.2]
      exact V_reti E dX6_wordProperty_90 rfl rfl ⟨_, rfl, ⟨by unfold wordS; rw [if_neg (by omega), if_neg (by omega), if_neg (by omega)]; first | rw [if_pos (by omega)] | (rw [if_neg (by omega), e_1]), rfl⟩⟩
    ·
      refine V_iconst G dX6_wordProperty_77 ?_
      refine V_goto G dX6_wordProperty_78 (tgt := 90) (by decide) ?_
      exact V_reti E dX6_wordProperty_90 rfl rfl ⟨_, rfl, ⟨by unfold wordS; rw [if_neg (by omega), if_neg (by omega), if_neg (by omega)]; first | rw [if_pos (by omega)] | (rw [if_neg (by omega), e_1]), rfl⟩⟩

set_option maxRecDepth 100000 in
set_option maxHeartbeats 800000 in
theorem c_X6_readingProperty {l : Launch} {d : Nat} {h : Hp} (r : Rg h) {c : Cs} (I : okS c) (B : BodyC h c) {p q : Int} (hp : 0 ≤ p ∧ p < (lfS c).length) (hq : 0 ≤ q ∧ q ≤ 5) (hd : 22 ≤ d := by omega) : CP l d 0 0 yX6_readingProperty cX6_readingProperty 3 (Option.some Jvm.ClassFile.FieldType.int) [.ref 0, iv p, iv q] h (pI fun x h1 => x = readS c p q ∧ eqx (S7 31) h h1 ∧ Rg h1) := by
  refine CP.ofV (L := [some (.ref 0), some (.int (Int32.ofInt p)), some (.int (Int32.ofInt q))]) RX6 (by decide +kernel) rfl (Nat.le_of_ble_eq_true rfl) rfl (fun X hX G E => ?_)
  subst hX
  obtain ⟨S, R, P, L, W⟩ := B
  have S0 := S
  obtain ⟨hn, hdr, hkd, hfx⟩ := S
  have hn0 := I.1
  have hfr := I.2.2.1
  have l42 := lfS_len I
  have lr := lfA_r hp.1 hp.2
  have rr := row_ok I lr.1 lr.2
  have a42 := rds_len I
  refine V_aload0 G dX6_readingProperty_0 ?_
  refine V_getR G fl_X6_45 dX6_readingProperty_1 (by first | decide | assumption) (by first | rfl | assumption) rfl (by first | rfl | assumption) ?_
  refine V_aload0 G dX6_readingProperty_4 ?_
  refine V_getR G fl_X6_12 dX6_readingProperty_5 (by first | decide | assumption) (by first | rfl | assumption) rfl (by first | rfl | assumption) ?_
  refine V_aload0 G dX6_readingProperty_8 ?_
  refine V_iload1 G dX6_readingProperty_9 ?_
  refine V_cV1l (d1 := 2) G m_X6_288 dX6_readingProperty_10 (by first | decide | assumption) (by first | rfl | assumption) (c_X6_leftCode I L hp) (by omega) (by omega) (by omega) (Nat.le_of_ble_eq_true rfl) (fun x_10 h_10 hp_10 => ?_)
  rw [hp_10.1, hp_10.2]
  refine V_cV2v (d1 := 21) G m_X6_291 dX6_readingProperty_13 (by first | decide | assumption) (by first | rfl | assumption) (c_X0_trace r isDr31 isSt_all.1 (by omega) (n := nS c) (kd := kdS c) (f := rowA (AS c) (lfA (lfS c) p)) hn hn0 hkd I.2.1 (fun w w0 w1 => R.at' lr.1 lr.2 w0 w1) rr.1 rr.2.2.2 rr.2.2.1) (by omega) (by omega) (by omega) (Nat.le_of_ble_eq_true rfl) (fun h_13 hp_13 => ?_)
  obtain ⟨v1, v2, v3⟩ := hp_13
  have L13 : LfC h_13 c := L.eq (v2.1 0 4 rfl) (fun j => v2.1 23 j rfl)
  refine V_iload2 G dX6_readingProperty_16 ?_
  rcases (show q = 0 ∨ q = 1 ∨ q = 2 ∨ q = 3 ∨ q = 4 ∨ q = 5 by omega) with e_17 | e_17 | e_17 | e_17 | e_17 | e_17
  · rw [e_17]
    refine V_tableIn G dX6_readingProperty_17 (tgt := 52) ⟨by decide, by decide⟩ (by decide) (by decide) rfl (by decide) ?_
    refine V_aload0 G dX6_readingProperty_52 ?_
    refine V_getR G fl_X6_45 dX6_readingProperty_53 (by first | decide | assumption) (by first | rfl | assumption) rfl (by first | rfl | assumption) ?_
    refine V_cV0i (d1 := 2) G m_X6_136 dX6_readingProperty_56 (by first | decide | assumption) (by first | rfl | assumption) (c_X0_height isDr31 hn0 v3) (by omega) (by omega) (by omega) (Nat.le_of_ble_eq_true rfl) (fun x_56 h_56 hp_56 => ?_)
    rw [hp_56.1, hp_56.2]
    exact V_reti E dX6_readingProperty_59 rfl rfl ⟨_, rfl, ⟨by unfold readS; rw [if_pos e_17]; rfl, v2, v1⟩⟩
  · rw [e_17]
    refine V_tableIn G dX6_readingProperty_17 (tgt := 60) ⟨by decide, by decide⟩ (by decide) (by decide) rfl (by decide) ?_
    refine V_aload0 G dX6_readingProperty_60 ?_
    refine V_getR G fl_X6_45 dX6_readingProperty_61 (by first | decide | assumption) (by first | rfl | assumption) rfl (by first | rfl | assumption) ?_
    refine V_iconst G dX6_readingProperty_64 ?_
    refine V_cV1i (d1 := 1) G m_X6_322 dX6_readingProperty_65 (by first | decide | assumption) (by first | rfl | assumption) (c_X0_wordsOfKind v1 isDr31 hn0 v3 (z := 1) ⟨by decide, by decide⟩) (by omega) (by omega) (by omega) (Nat.le_of_ble_eq_true rfl) (fun x_65 h_65 hp_65 => ?_)
    rw [hp_65.1, hp_65.2]
    exact V_reti E dX6_readingProperty_68 rfl rfl ⟨_, rfl, ⟨by unfold readS; rw [if_neg (by omega), if_pos e_17]; rfl, v2, v1⟩⟩
  · rw [e_17]
    refine V_tableIn G dX6_readingProperty_17 (tgt := 69) ⟨by decide, by decide⟩ (by decide) (by decide) rfl (by decide) ?_
    refine V_aload0 G dX6_readingProperty_69 ?_
    refine V_getR G fl_X6_45 dX6_readingProperty_70 (by first | decide | assumption) (by first | rfl | assumption) rfl (by first | rfl | assumption) ?_
    refine V_iconst G dX6_readingProperty_73 ?_
    refine V_cV1i (d1 := 1) G m_X6_325 dX6_readingProperty_74 (by first | decide | assumption) (by first | rfl | assumption) (c_X0_wordsHeld v1 isDr31 hn0 v3 (z := 3) ⟨by decide, by decide⟩) (by omega) (by omega) (by omega) (Nat.le_of_ble_eq_true rfl) (fun x_74 h_74 hp_74 => ?_)
    rw [hp_74.1, hp_74.2]
    exact V_reti E dX6_readingProperty_77 rfl rfl ⟨_, rfl, ⟨by unfold readS; rw [if_neg (by omega), if_neg (by omega), if_pos e_17]; exact slants I lr.1 lr.2, v2, v1⟩⟩
  · rw [e_17]
    refine V_tableIn G dX6_readingProperty_17 (tgt := 78) ⟨by decide, by decide⟩ (by decide) (by decide) rfl (by decide) ?_
    refine V_aload0 G dX6_readingProperty_78 ?_
    refine V_getR G fl_X6_45 dX6_readingProperty_79 (by first | decide | assumption) (by first | rfl | assumption) rfl (by first | rfl | assumption) ?_
    refine V_iconst G dX6_readingProperty_82 ?_
    refine V_cV1i (d1 := 1) G m_X6_322 dX6_readingProperty_83 (by first | decide | assumption) (by first | rfl | assumption) (c_X0_wordsOfKind v1 isDr31 hn0 v3 (z := 5) ⟨by decide, by decide⟩) (by omega) (by omega) (by omega) (Nat.le_of_ble_eq_true rfl) (fun x_83 h_83 hp_83 => ?_)
    rw [hp_83.1, hp_83.2]
    exact V_reti E dX6_readingProperty_86 rfl rfl ⟨_, rfl, ⟨by unfold readS; rw [if_neg (by omega), if_neg (by omega), if_neg (by omega), if_pos e_17]; rfl, v2, v1⟩⟩
  · rw [e_17]
    refine V_tableIn G dX6_readingProperty_17 (tgt := 87) ⟨by decide, by decide⟩ (by decide) (by decide) rfl (by decide) ?_
    refine V_aload0 G dX6_readingProperty_87 ?_
    refine V_getR G fl_X6_45 dX6_readingProperty_88 (by first | decide | assumption) (by first | rfl | assumption) rfl (by first | rfl | assumption) ?_
    refine V_cV0i (d1 := 2) G m_X6_328 dX6_readingProperty_91 (by first | decide | assumption) (by first | rfl | assumption) (c_X0_greatestLoad isDr31 hn0 v3) (by omega) (by omega) (by omega) (Nat.le_of_ble_eq_true rfl) (fun x_91 h_91 hp_91 => ?_)
    rw [hp_91.1, hp_91.2]
    exact V_reti E dX6_readingProperty_94 rfl rfl ⟨_, rfl, ⟨by unfold readS; rw [if_neg (by omega), if_neg (by omega), if_neg (by omega), if_neg (by omega), if_pos e_17], v2, v1⟩⟩
  · rw [e_17]
    refine V_tableOut G dX6_readingProperty_17 (tgt := 95) ⟨by decide, by decide⟩ (by decide) (by decide) ?_
    refine V_aload0 G dX6_readingProperty_95 ?_
    refine V_iload1 G dX6_readingProperty_96 ?_
    refine V_cV1i (d1 := 1) G m_X6_302 dX6_readingProperty_97 (by first | decide | assumption) (by first | rfl | assumption) (c_X6_rankAmongAll I L13 hp) (by omega) (by omega) (by omega) (Nat.le_of_ble_eq_true rfl) (fun x_97 h_97 hp_97 => ?_)
    rw [hp_97.1, hp_97.2]
    exact V_reti E dX6_readingProperty_100 rfl rfl ⟨_, rfl, ⟨by unfold readS; rw [if_neg (by omega), if_neg (by omega), if_neg (by omega), if_neg (by omega), if_neg (by omega)], v2, v1⟩⟩

set_option maxRecDepth 100000 in
set_option maxHeartbeats 800000 in
theorem c_X6_number {l : Launch} {d : Nat} {h : Hp} (r : Rg h) {g : Sg} (I : okS g.1) (B : BodyC h g.1) (hs : hI h 0 10 = g.2.1.length) {q : Int} (hq : 0 ≤ q ∧ q ≤ 8) (hd : 5 ≤ d := by omega) : CP l d 0 0 yX6_number cX6_number 2 (Option.some Jvm.ClassFile.FieldType.int) [.ref 0, iv q] h (pI fun x h1 => x = cntS g q ∧ h1 = h) := by
  refine CP.ofV (L := [some (.ref 0), some (.int (Int32.ofInt q))]) RX6 (by decide +kernel) rfl (Nat.le_of_ble_eq_true rfl) rfl (fun X hX G E => ?_)
  subst hX
  obtain ⟨S, R, P, L, W⟩ := B
  have S0 := S
  obtain ⟨hn, hdr, hkd, hfx⟩ := S
  have hn0 := I.1
  have hfr := I.2.2.1
  have l42 := lfS_len I
  refine V_iload1 G dX6_number_0 ?_
  rcases (show q = 0 ∨ q = 1 ∨ q = 2 ∨ q = 3 ∨ q = 4 ∨ q = 5 ∨ q = 6 ∨ q = 7 ∨ q = 8 by omega) with e_1 | e_1 | e_1 | e_1 | e_1 | e_1 | e_1 | e_1 | e_1
  · rw [e_1]
    refine V_tableIn G dX6_number_1 (tgt := 48) ⟨by decide, by decide⟩ (by decide) (by decide) rfl (by decide) ?_
    refine V_aload0 G dX6_number_48 ?_
    refine V_getR G fl_X6_12 dX6_number_49 (by first | decide | assumption) (by first | rfl | assumption) rfl (by first | rfl | assumption) ?_
    refine V_cV0i (d1 := 1) G m_X6_82 dX6_number_52 (by first | decide | assumption) (by first | rfl | assumption) (c_X4_size isSt_all.1) (by omega) (by omega) (by omega) (Nat.le_of_ble_eq_true rfl) (fun x_52 h_52 hp_52 => ?_)
    rw [show x_52 = nS g.1 from hp_52.1.trans hn, hp_52.2]
    exact V_reti E dX6_number_55 rfl rfl ⟨_, rfl, ⟨by unfold cntS; rw [if_pos e_1], rfl⟩⟩
  · rw [e_1]
    refine V_tableIn G dX6_number_1 (tgt := 56) ⟨by decide, by decide⟩ (by decide) (by decide) rfl (by decide) ?_
    refine V_aload0 G dX6_number_56 ?_
    refine V_getR G fl_X6_19 dX6_number_57 (by first | decide | assumption) (by first | rfl | assumption) rfl (by first | rfl | assumption) ?_
    refine V_cV0i (d1 := 1) G m_X6_268 dX6_number_60 (by first | decide | assumption) (by first | rfl | assumption) (c_X3_total isRd_all.1) (by omega) (by omega) (by omega) (Nat.le_of_ble_eq_true rfl) (fun x_60 h_60 hp_60 => ?_)
    rw [show x_60 = ((AS g.1).length : Int) from hp_60.1.trans R.1, hp_60.2]
    exact V_reti E dX6_number_63 rfl rfl ⟨_, rfl, ⟨by unfold cntS; rw [if_neg (by omega), if_pos e_1], rfl⟩⟩
  · rw [e_1]
    refine V_tableIn G dX6_number_1 (tgt := 64) ⟨by decide, by decide⟩ (by decide) (by decide) rfl (by decide) ?_
    refine V_aload0 G dX6_number_64 ?_
    refine V_getR G fl_X6_26 dX6_number_65 (by first | decide | assumption) (by first | rfl | assumption) rfl (by first | rfl | assumption) ?_
    refine V_iconst G dX6_number_68 ?_
    refine V_aload0 G dX6_number_69 ?_
    refine V_getR G fl_X6_12 dX6_number_70 (by first | decide | assumption) (by first | rfl | assumption) rfl (by first | rfl | assumption) ?_
    refine V_cV0i (d1 := 1) G m_X6_82 dX6_number_73 (by first | decide | assumption) (by first | rfl | assumption) (c_X4_size isSt_all.1) (by omega) (by omega) (by omega) (Nat.le_of_ble_eq_true rfl) (fun x_73 h_73 hp_73 => ?_)
    rw [show x_73 = nS g.1 from hp_73.1.trans hn, hp_73.2]
    refine V_iconst G dX6_number_76 ?_
    refine V_cV3i (d1 := 2) G m_X6_214 dX6_number_77 (by first | decide | assumption) (by first | rfl | assumption) (c_X2_ways r hn0 P.2 (i := 0) (j := nS g.1) (q := 3) (by omega) (by omega) (by omega) (by omega) (Or.inr rfl)) (by omega) (by omega) (by omega) (Nat.le_of_ble_eq_true rfl) (fun x_77 h_77 hp_77 => ?_)
    rw [hp_77.1, hp_77.2]
    exact V_reti E dX6_number_80 rfl rfl ⟨_, rfl, ⟨by unfold cntS; rw [if_neg (by omega), if_neg (by omega), if_pos e_1]; rfl, rfl⟩⟩
  · rw [e_1]
    refine V_tableIn G dX6_number_1 (tgt := 81) ⟨by decide, by decide⟩ (by decide) (by decide) rfl (by decide) ?_
    refine V_aload0 G dX6_number_81 ?_
    refine V_getIe (jz := 4) G fl_X6_34 dX6_number_82 (by first | decide | assumption) (by first | rfl | assumption) rfl rfl L.1 ?_
    exact V_reti E dX6_number_85 rfl rfl ⟨_, rfl, ⟨by unfold cntS; rw [if_neg (by omega), if_neg (by omega), if_neg (by omega), if_pos e_1], rfl⟩⟩
  · rw [e_1]
    refine V_tableIn G dX6_number_1 (tgt := 86) ⟨by decide, by decide⟩ (by decide) (by decide) rfl (by decide) ?_
    refine V_aload0 G dX6_number_86 ?_
    refine V_getIe (jz := 4) G fl_X6_34 dX6_number_87 (by first | decide | assumption) (by first | rfl | assumption) rfl rfl L.1 ?_
    refine V_ifne G dX6_number_90 (tgt := 97) (by decide) ⟨by omega, by omega⟩ (fun c_90 => ?_) (fun c_90 => ?_)
    ·
      refine V_aload0 G dX6_number_97 ?_
      refine V_getR G fl_X6_12 dX6_number_98 (by first | decide | assumption) (by first | rfl | assumption) rfl (by first | rfl | assumption) ?_
      refine V_cV0i (d1 := 1) G m_X6_286 dX6_number_101 (by first | decide | assumption) (by first | rfl | assumption) (c_X4_drawn isSt_all.1) (by omega) (by omega) (by omega) (Nat.le_of_ble_eq_true rfl) (fun x_101 h_101 hp_101 => ?_)
      rw [show x_101 = g.1 1 from hp_101.1.trans hdr, hp_101.2]
      exact V_reti E dX6_number_104 rfl rfl ⟨_, rfl, ⟨by unfold cntS; rw [if_neg (by omega), if_neg (by omega), if_neg (by omega), if_neg (by omega), if_pos e_1]; first | rw [if_pos (by omega)] | rw [if_neg (by omega)], rfl⟩⟩
    ·
      refine V_iconst G dX6_number_93 ?_
      refine V_goto G dX6_number_94 (tgt := 104) (by decide) ?_
      exact V_reti E dX6_number_104 rfl rfl ⟨_, rfl, ⟨by unfold cntS; rw [if_neg (by omega), if_neg (by omega), if_neg (by omega), if_neg (by omega), if_pos e_1]; first | rw [if_pos (by omega)] | rw [if_neg (by omega)], rfl⟩⟩
  · rw [e_1]
    refine V_tableIn G dX6_number_1 (tgt := 105) ⟨by decide, by decide⟩ (by decide) (by decide) rfl (by decide) ?_
    refine V_aload0 G dX6_number_105 ?_
    refine V_getR G fl_X6_12 dX6_number_106 (by first | decide | assumption) (by first | rfl | assumption) rfl (by first | rfl | assumption) ?_
    refine V_cV0i (d1 := 3) G m_X6_331 dX6_number_109 (by first | decide | assumption) (by first | rfl | assumption) (c_X4_fixedWords r isSt_all.1 hn hn0) (by omega) (by omega) (by omega) (Nat.le_of_ble_eq_true rfl) (fun x_109 h_109 hp_109 => ?_)
    rw [hp_109.1, hp_109.2]
    exact V_reti E dX6_number_112 rfl rfl ⟨_, rfl, ⟨by
    unfold cntS; rw [if_neg (by omega), if_neg (by omega), if_neg (by omega), if_neg (by omega), if_neg (by omega), if_pos e_1]
    unfold fwS
    refine sumF_congr _ _ (fun w w0 w1 => ?_)
    have f1 := hfr w w0 (by omega)
    rw [hfx w w0 (by omega)]
    by_cases z : 0 < fxS g.1 w
    · rw [if_neg (by omega), if_pos z]
    · rw [if_pos (by omega), if_neg z], rfl⟩⟩
  · rw [e_1]
    refine V_tableIn G dX6_number_1 (tgt := 113) ⟨by decide, by decide⟩ (by decide) (by decide) rfl (by decide) ?_
    refine V_aload0 G dX6_number_113 ?_
    refine V_cV0i (d1 := 4) G m_X6_334 dX6_number_114 (by first | decide | assumption) (by first | rfl | assumption) (c_X6_openWords I S0 R L) (by omega) (by omega) (by omega) (Nat.le_of_ble_eq_true rfl) (fun x_114 h_114 hp_114 => ?_)
    rw [hp_114.1, hp_114.2]
    exact V_reti E dX6_number_117 rfl rfl ⟨_, rfl, ⟨by unfold cntS; rw [if_neg (by omega), if_neg (by omega), if_neg (by omega), if_neg (by omega), if_neg (by omega), if_neg (by omega), if_pos e_1], rfl⟩⟩
  · rw [e_1]
    refine V_tableIn G dX6_number_1 (tgt := 118) ⟨by decide, by decide⟩ (by decide) (by decide) rfl (by decide) ?_
    refine V_aload0 G dX6_number_118 ?_
    refine V_getIe (jz := 4) G fl_X6_34 dX6_number_119 (by first | decide | assumption) (by first | rfl | assumption) rfl rfl L.1 ?_
    refine V_ifne G dX6_number_122 (tgt := 129) (by decide) ⟨by omega, by omega⟩ (fun c_122 => ?_) (fun c_122 => ?_)
    ·
      refine V_aload0 G dX6_number_129 ?_
      refine V_getR G fl_X6_41 dX6_number_130 (by first | decide | assumption) (by first | rfl | assumption) rfl (by first | rfl | assumption) ?_
      have ne : lfS g.1 ≠ [] := by
        intro z
        rw [z] at c_122
        simp at c_122
      refine V_cV0i (d1 := 2) G m_X6_136 dX6_number_133 (by first | decide | assumption) (by first | rfl | assumption) (c_X0_height isDr24 hn0 (W ne)) (by omega) (by omega) (by omega) (Nat.le_of_ble_eq_true rfl) (fun x_133 h_133 hp_133 => ?_)
      rw [hp_133.1, hp_133.2]
      exact V_reti E dX6_number_136 rfl rfl ⟨_, rfl, ⟨by unfold cntS; rw [if_neg (by omega), if_neg (by omega), if_neg (by omega), if_neg (by omega), if_neg (by omega), if_neg (by omega), if_neg (by omega), if_pos e_1]; first | (rw [if_pos (by omega)]; done) | (rw [if_neg (by omega)]; rfl), rfl⟩⟩
    ·
      refine V_iconst G dX6_number_125 ?_
      refine V_goto G dX6_number_126 (tgt := 136) (by decide) ?_
      exact V_reti E dX6_number_136 rfl rfl ⟨_, rfl, ⟨by unfold cntS; rw [if_neg (by omega), if_neg (by omega), if_neg (by omega), if_neg (by omega), if_neg (by omega), if_neg (by omega), if_neg (by omega), if_pos e_1]; first | (rw [if_pos (by omega)]; done) | (rw [if_neg (by omega)]; rfl), rfl⟩⟩
  · rw [e_1]
    refine V_tableOut G dX6_number_1 (tgt := 137) ⟨by decide, by decide⟩ (by decide) (by decide) ?_
    refine V_aload0 G dX6_number_137 ?_
    refine V_getIe (jz := 10) G fl_X6_63 dX6_number_138 (by first | decide | assumption) (by first | rfl | assumption) rfl rfl hs ?_
    exact V_reti E dX6_number_141 rfl rfl ⟨_, rfl, ⟨by unfold cntS; rw [if_neg (by omega), if_neg (by omega), if_neg (by omega), if_neg (by omega), if_neg (by omega), if_neg (by omega), if_neg (by omega), if_neg (by omega)], rfl⟩⟩

set_option maxRecDepth 100000 in
set_option maxHeartbeats 800000 in
theorem c_X6_bestQuestion {l : Launch} {d : Nat} {h : Hp} {c : Cs} (I : okS c) (B : BodyC h c) (hd : 6 ≤ d := by omega) : CP l d 0 0 yX6_bestQuestion cX6_bestQuestion 4 (Option.some Jvm.ClassFile.FieldType.int) [.ref 0] h (pI fun x h1 => x = askS c ∧ h1 = h) := by
  refine CP.ofV (L := [some (.ref 0), none, none, none]) RX6 (by decide +kernel) rfl (Nat.le_of_ble_eq_true rfl) rfl (fun X hX G E => ?_)
  subst hX
  obtain ⟨S, R, P, L, W⟩ := B
  have S0 := S
  obtain ⟨hn, hdr, hkd, hfx⟩ := S
  have hn0 := I.1
  have hfr := I.2.2.1
  have l42 := lfS_len I
  have lp : ∀ (m : Nat) (k : Int) (a : Int) (b : Int), k + m = nS c → 0 ≤ k → -1 ≤ a ∧ a < 12 → 0 ≤ b ∧ b ≤ 43 → (∃ f : Int, askF (hdsS c) (mosS c) m k a f = askS c ∧ (a ≠ -1 → f = b) ∧ (a = -1 → b = 43)) → V X 0 0 7 [some (.ref 0), some (.int (Int32.ofInt a)), some (.int (Int32.ofInt b)), some (.int (Int32.ofInt k))] [] h := by
    intro m
    induction m with
    | zero =>
      intro k a b hm_ hk0 ha hb hs
      refine V_iload3 G dX6_bestQuestion_7 ?_
      refine V_aload0 G dX6_bestQuestion_8 ?_
      refine V_getR G fl_X6_12 dX6_bestQuestion_9 (by first | decide | assumption) (by first | rfl | assumption) rfl (by first | rfl | assumption) ?_
      refine V_cV0i (d1 := 1) G m_X6_82 dX6_bestQuestion_12 (by first | decide | assumption) (by first | rfl | assumption) (c_X4_size isSt_all.1) (by omega) (by omega) (by omega) (Nat.le_of_ble_eq_true rfl) (fun x_12 h_12 hp_12 => ?_)
      rw [show x_12 = nS c from hp_12.1.trans hn, hp_12.2]
      refine V_icmpge G dX6_bestQuestion_15 (tgt := 50) (by decide) (by first | exact r _ _ | assumption | exact ⟨by omega, by omega⟩) (by first | exact r _ _ | assumption | exact ⟨by omega, by omega⟩) (fun c_15 => ?_) (fun c_15 => ?_)
      ·
        refine V_iload1 G dX6_bestQuestion_50 ?_
        exact V_reti E dX6_bestQuestion_51 rfl rfl ⟨_, rfl, ⟨by obtain ⟨f, f1, -⟩ := hs; exact f1, rfl⟩⟩
      · omega
    | succ m ih =>
      intro k a b hm_ hk0 ha hb hs
      refine V_iload3 G dX6_bestQuestion_7 ?_
      refine V_aload0 G dX6_bestQuestion_8 ?_
      refine V_getR G fl_X6_12 dX6_bestQuestion_9 (by first | decide | assumption) (by first | rfl | assumption) rfl (by first | rfl | assumption) ?_
      refine V_cV0i (d1 := 1) G m_X6_82 dX6_bestQuestion_12 (by first | decide | assumption) (by first | rfl | assumption) (c_X4_size isSt_all.1) (by omega) (by omega) (by omega) (Nat.le_of_ble_eq_true rfl) (fun x_12 h_12 hp_12 => ?_)
      rw [show x_12 = nS c from hp_12.1.trans hn, hp_12.2]
      refine V_icmpge G dX6_bestQuestion_15 (tgt := 50) (by decide) (by first | exact r _ _ | assumption | exact ⟨by omega, by omega⟩) (by first | exact r _ _ | assumption | exact ⟨by omega, by omega⟩) (fun c_15 => ?_) (fun c_15 => ?_)
      · omega
      ·
        refine V_aload0 G dX6_bestQuestion_18 ?_
        refine V_iload3 G dX6_bestQuestion_19 ?_
        have hd9 := hdsS_r (c := c) k (by omega)
        have mr := mosS_r (c := c) k
        refine V_cV1i (d1 := 3) G m_X6_316 dX6_bestQuestion_20 (by first | decide | assumption) (by first | rfl | assumption) (c_X6_headsLeft I R L (w := k) ⟨hk0, by omega⟩) (by omega) (by omega) (by omega) (Nat.le_of_ble_eq_true rfl) (fun x_20 h_20 hp_20 => ?_)
        rw [hp_20.1, hp_20.2]
        refine V_iconst G dX6_bestQuestion_23 ?_
        refine V_icmple G dX6_bestQuestion_24 (tgt := 44) (by decide) (by first | exact r _ _ | assumption | exact ⟨by omega, by omega⟩) (by first | exact r _ _ | assumption | exact ⟨by omega, by omega⟩) (fun c_24 => ?_) (fun c_24 => ?_)
        ·
          refine V_iinc3 G dX6_bestQuestion_44 rfl ?_
          refine V_goto G dX6_bestQuestion_47 (tgt := 7) (by decide) ?_
          first
          | (exact ih (k + 1) _ _ (by omega) (by omega) (by omega) (by omega) (by
              obtain ⟨f, f1, f2, f3⟩ := hs
              refine ⟨mosS c k, ?_, fun _ => rfl, fun z => by omega⟩
              rw [← f1, askF, if_pos ⟨by omega, by
                by_cases z : a = -1
                · exact Or.inl z
                · rw [f2 z]; exact Or.inr (by omega)⟩]))
          | (exact ih (k + 1) _ _ (by omega) (by omega) (by omega) (by omega) (by
              obtain ⟨f, f1, f2, f3⟩ := hs
              refine ⟨f, ?_, f2, f3⟩
              rw [← f1]
              conv => rhs; rw [askF]
              rw [if_neg]
              rintro ⟨z1, z2 | z2⟩
              · have := f3 z2; omega
              · by_cases z : a = -1
                · have := f3 z; omega
                · rw [f2 z] at z2; omega))
        ·
          refine V_aload0 G dX6_bestQuestion_27 ?_
          refine V_iload3 G dX6_bestQuestion_28 ?_
          refine V_cV1i (d1 := 5) G m_X6_342 dX6_bestQuestion_29 (by first | decide | assumption) (by first | rfl | assumption) (c_X6_mostLeftBehind I S0 R (w := k) ⟨hk0, by omega⟩) (by omega) (by omega) (by omega) (Nat.le_of_ble_eq_true rfl) (fun x_29 h_29 hp_29 => ?_)
          rw [show x_29 = mosS c k from hp_29.1.trans (mos_eq I hk0 (by omega) (by omega)), hp_29.2]
          refine V_iload2 G dX6_bestQuestion_32 ?_
          refine V_icmpge G dX6_bestQuestion_33 (tgt := 44) (by decide) (by first | exact r _ _ | assumption | exact ⟨by omega, by omega⟩) (by first | exact r _ _ | assumption | exact ⟨by omega, by omega⟩) (fun c_33 => ?_) (fun c_33 => ?_)
          ·
            refine V_iinc3 G dX6_bestQuestion_44 rfl ?_
            refine V_goto G dX6_bestQuestion_47 (tgt := 7) (by decide) ?_
            first
            | (exact ih (k + 1) _ _ (by omega) (by omega) (by omega) (by omega) (by
                obtain ⟨f, f1, f2, f3⟩ := hs
                refine ⟨mosS c k, ?_, fun _ => rfl, fun z => by omega⟩
                rw [← f1, askF, if_pos ⟨by omega, by
                  by_cases z : a = -1
                  · exact Or.inl z
                  · rw [f2 z]; exact Or.inr (by omega)⟩]))
            | (exact ih (k + 1) _ _ (by omega) (by omega) (by omega) (by omega) (by
                obtain ⟨f, f1, f2, f3⟩ := hs
                refine ⟨f, ?_, f2, f3⟩
                rw [← f1]
                conv => rhs; rw [askF]
                rw [if_neg]
                rintro ⟨z1, z2 | z2⟩
                · have := f3 z2; omega
                · by_cases z : a = -1
                  · have := f3 z; omega
                  · rw [f2 z] at z2; omega))
          ·
            refine V_aload0 G dX6_bestQuestion_36 ?_
            refine V_iload3 G dX6_bestQuestion_37 ?_
            refine V_cV1i (d1 := 5) G m_X6_342 dX6_bestQuestion_38 (by first | decide | assumption) (by first | rfl | assumption) (c_X6_mostLeftBehind I S0 R (w := k) ⟨hk0, by omega⟩) (by omega) (by omega) (by omega) (Nat.le_of_ble_eq_true rfl) (fun x_38 h_38 hp_38 => ?_)
            rw [show x_38 = mosS c k from hp_38.1.trans (mos_eq I hk0 (by omega) (by omega)), hp_38.2]
            refine V_istore2 G dX6_bestQuestion_41 rfl ?_
            refine V_iload3 G dX6_bestQuestion_42 ?_
            refine V_istore1 G dX6_bestQuestion_43 rfl ?_
            refine V_iinc3 G dX6_bestQuestion_44 rfl ?_
            refine V_goto G dX6_bestQuestion_47 (tgt := 7) (by decide) ?_
            first
            | (exact ih (k + 1) _ _ (by omega) (by omega) (by omega) (by omega) (by
                obtain ⟨f, f1, f2, f3⟩ := hs
                refine ⟨mosS c k, ?_, fun _ => rfl, fun z => by omega⟩
                rw [← f1, askF, if_pos ⟨by omega, by
                  by_cases z : a = -1
                  · exact Or.inl z
                  · rw [f2 z]; exact Or.inr (by omega)⟩]))
            | (exact ih (k + 1) _ _ (by omega) (by omega) (by omega) (by omega) (by
                obtain ⟨f, f1, f2, f3⟩ := hs
                refine ⟨f, ?_, f2, f3⟩
                rw [← f1]
                conv => rhs; rw [askF]
                rw [if_neg]
                rintro ⟨z1, z2 | z2⟩
                · have := f3 z2; omega
                · by_cases z : a = -1
                  · have := f3 z; omega
                  · rw [f2 z] at z2; omega))
  refine V_iconst G dX6_bestQuestion_0 ?_
  refine V_istore1 G dX6_bestQuestion_1 rfl ?_
  refine V_bipush G dX6_bestQuestion_2 (by decide) ?_
  refine V_istore2 G dX6_bestQuestion_4 rfl ?_
  refine V_iconst G dX6_bestQuestion_5 ?_
  refine V_istore3 G dX6_bestQuestion_6 rfl ?_
  exact lp (nS c).toNat 0 (-1) 43 (by omega) (by omega) (by omega) (by omega) ⟨0, rfl, fun z => absurd rfl z, fun _ => rfl⟩

set_option maxRecDepth 100000 in
set_option maxHeartbeats 800000 in
theorem c_X6_flattestRank {l : Launch} {d : Nat} {h : Hp} (r : Rg h) {c : Cs} (I : okS c) (B : BodyC h c) (ne : 0 < (lfS c).length) (hd : 22 ≤ d := by omega) : CP l d 0 0 yX6_flattestRank cX6_flattestRank 4 (Option.some Jvm.ClassFile.FieldType.int) [.ref 0] h (pI fun x h1 => x = flS c ∧ 0 ≤ x ∧ x < (lfS c).length ∧ eqx (S7 31) h h1 ∧ Rg h1) := by
  refine CP.ofV (L := [some (.ref 0), none, none, none]) RX6 (by decide +kernel) rfl (Nat.le_of_ble_eq_true rfl) rfl (fun X hX G E => ?_)
  subst hX
  obtain ⟨S, R, P, L, W⟩ := B
  have S0 := S
  obtain ⟨hn, hdr, hkd, hfx⟩ := S
  have hn0 := I.1
  have hfr := I.2.2.1
  have l42 := lfS_len I
  have lp : ∀ (m : Nat) (k : Int) (g : Hp) (a : Int) (b : Int), k + m = ((lfS c).length : Int) → 0 ≤ k → Rg g → eqx (S7 31) h g → 0 ≤ a ∧ (a < k ∨ a = 0) → 0 ≤ b ∧ b ≤ 13 → (k = 0 ∧ b = 13) ∨ (0 < k ∧ b = hgtS c (lfA (lfS c) a) ∧ bestF (fun k => hgtS c (lfA (lfS c) k)) m k a = flS c) → V X 0 0 7 [some (.ref 0), some (.int (Int32.ofInt a)), some (.int (Int32.ofInt b)), some (.int (Int32.ofInt k))] [] g := by
    intro m
    induction m with
    | zero =>
      intro k g a b hm_ hk0 r1 eg ha hb hs
      have Sg : StC g 1 c := S0.eq (fun z j q => eg.1 z j (by simp [S7]; omega))
      have Rg9 : RdC g 4 c := R.eq (eg.1 4 1 rfl) (fun j => by rw [eg.2.1])
      have Lg : LfC g c := L.eq (eg.1 0 4 rfl) (fun j => eg.1 23 j rfl)
      have hgl := Lg.1
      refine V_iload3 G dX6_flattestRank_7 ?_
      refine V_aload0 G dX6_flattestRank_8 ?_
      refine V_getIe (jz := 4) G fl_X6_34 dX6_flattestRank_9 (by first | decide | assumption) (by first | rfl | assumption) rfl rfl (by first | (simp only [hI_sI, hI_sL, hL_sI, hL_sL, false_and, true_and, and_false, and_true, and_self, if_false, if_true, hgl]; first | done | rfl) | rfl) ?_
      refine V_icmpge G dX6_flattestRank_12 (tgt := 58) (by decide) (by first | exact r _ _ | assumption | exact ⟨by omega, by omega⟩) (by first | exact r _ _ | assumption | exact ⟨by omega, by omega⟩) (fun c_12 => ?_) (fun c_12 => ?_)
      ·
        refine V_iload1 G dX6_flattestRank_58 ?_
        exact V_reti E dX6_flattestRank_59 rfl rfl ⟨_, rfl, ⟨by
            rcases hs with z | ⟨-, -, z⟩
            · omega
            · exact z, ha.1, by omega, eg, r1⟩⟩
      · omega
    | succ m ih =>
      intro k g a b hm_ hk0 r1 eg ha hb hs
      have Sg : StC g 1 c := S0.eq (fun z j q => eg.1 z j (by simp [S7]; omega))
      have Rg9 : RdC g 4 c := R.eq (eg.1 4 1 rfl) (fun j => by rw [eg.2.1])
      have Lg : LfC g c := L.eq (eg.1 0 4 rfl) (fun j => eg.1 23 j rfl)
      have hgl := Lg.1
      refine V_iload3 G dX6_flattestRank_7 ?_
      refine V_aload0 G dX6_flattestRank_8 ?_
      refine V_getIe (jz := 4) G fl_X6_34 dX6_flattestRank_9 (by first | decide | assumption) (by first | rfl | assumption) rfl rfl (by first | (simp only [hI_sI, hI_sL, hL_sI, hL_sL, false_and, true_and, and_false, and_true, and_self, if_false, if_true, hgl]; first | done | rfl) | rfl) ?_
      refine V_icmpge G dX6_flattestRank_12 (tgt := 58) (by decide) (by first | exact r _ _ | assumption | exact ⟨by omega, by omega⟩) (by first | exact r _ _ | assumption | exact ⟨by omega, by omega⟩) (fun c_12 => ?_) (fun c_12 => ?_)
      · omega
      ·
        refine V_aload0 G dX6_flattestRank_15 ?_
        refine V_getR G fl_X6_45 dX6_flattestRank_16 (by first | decide | assumption) (by first | rfl | assumption) rfl (by first | rfl | assumption) ?_
        refine V_aload0 G dX6_flattestRank_19 ?_
        refine V_getR G fl_X6_12 dX6_flattestRank_20 (by first | decide | assumption) (by first | rfl | assumption) rfl (by first | rfl | assumption) ?_
        refine V_aload0 G dX6_flattestRank_23 ?_
        refine V_iload3 G dX6_flattestRank_24 ?_
        have lr := lfA_r hk0 (show k < ((lfS c).length : Int) by omega)
        have rr := row_ok I lr.1 lr.2
        have h12 := hgtS_12 I lr.1 lr.2
        refine V_cV1l (d1 := 2) G m_X6_288 dX6_flattestRank_25 (by first | decide | assumption) (by first | rfl | assumption) (c_X6_leftCode I Lg (k := k) ⟨hk0, by omega⟩) (by omega) (by omega) (by omega) (Nat.le_of_ble_eq_true rfl) (fun x_25 h_25 hp_25 => ?_)
        rw [hp_25.1, hp_25.2]
        refine V_cV2v (d1 := 21) G m_X6_291 dX6_flattestRank_28 (by first | decide | assumption) (by first | rfl | assumption) (c_X0_trace r1 isDr31 isSt_all.1 (by omega) (n := nS c) (kd := kdS c) (f := rowA (AS c) (lfA (lfS c) k)) Sg.1 hn0 Sg.2.2.1 I.2.1 (fun w w0 w1 => Rg9.at' lr.1 lr.2 w0 w1) rr.1 rr.2.2.2 rr.2.2.1) (by omega) (by omega) (by omega) (Nat.le_of_ble_eq_true rfl) (fun h_28 hp_28 => ?_)
        obtain ⟨v1, v2, v3⟩ := hp_28
        refine V_aload0 G dX6_flattestRank_31 ?_
        refine V_getR G fl_X6_45 dX6_flattestRank_32 (by first | decide | assumption) (by first | rfl | assumption) rfl (by first | rfl | assumption) ?_
        refine V_cV0i (d1 := 2) G m_X6_136 dX6_flattestRank_35 (by first | decide | assumption) (by first | rfl | assumption) (c_X0_height isDr31 hn0 v3) (by omega) (by omega) (by omega) (Nat.le_of_ble_eq_true rfl) (fun x_35 h_35 hp_35 => ?_)
        rw [show x_35 = hgtS c (lfA (lfS c) k) from hp_35.1, hp_35.2]
        refine V_iload2 G dX6_flattestRank_38 ?_
        refine V_icmpge G dX6_flattestRank_39 (tgt := 52) (by decide) (by first | exact r _ _ | assumption | exact ⟨by omega, by omega⟩) (by first | exact r _ _ | assumption | exact ⟨by omega, by omega⟩) (fun c_39 => ?_) (fun c_39 => ?_)
        ·
          refine V_iinc3 G dX6_flattestRank_52 rfl ?_
          refine V_goto G dX6_flattestRank_55 (tgt := 7) (by decide) ?_
          have hfl : flS c = bestF (fun k => hgtS c (lfA (lfS c) k)) ((lfS c).length - 1) 1 0 := rfl
          first
          | (exact ih (k + 1) _ _ _ (by omega) (by omega) v1 (eg.tr v2) (by omega) (by omega) (Or.inr ⟨by omega, rfl, by
              rcases hs with ⟨z1, z2⟩ | ⟨z1, z2, z3⟩
              · subst z1
                rw [hfl, show (lfS c).length - 1 = m by omega]; rfl
              · rw [← z3]
                conv => rhs; rw [bestF]
                rw [if_pos (by omega)]⟩))
          | (exact ih (k + 1) _ _ _ (by omega) (by omega) v1 (eg.tr v2) (by omega) (by omega) (by
              rcases hs with ⟨z1, z2⟩ | ⟨z1, z2, z3⟩
              · omega
              · refine Or.inr ⟨by omega, z2, ?_⟩
                rw [← z3]
                conv => rhs; rw [bestF]
                rw [if_neg (by omega)]))
        ·
          refine V_aload0 G dX6_flattestRank_42 ?_
          refine V_getR G fl_X6_45 dX6_flattestRank_43 (by first | decide | assumption) (by first | rfl | assumption) rfl (by first | rfl | assumption) ?_
          refine V_cV0i (d1 := 2) G m_X6_136 dX6_flattestRank_46 (by first | decide | assumption) (by first | rfl | assumption) (c_X0_height isDr31 hn0 v3) (by omega) (by omega) (by omega) (Nat.le_of_ble_eq_true rfl) (fun x_46 h_46 hp_46 => ?_)
          rw [show x_46 = hgtS c (lfA (lfS c) k) from hp_46.1, hp_46.2]
          refine V_istore2 G dX6_flattestRank_49 rfl ?_
          refine V_iload3 G dX6_flattestRank_50 ?_
          refine V_istore1 G dX6_flattestRank_51 rfl ?_
          refine V_iinc3 G dX6_flattestRank_52 rfl ?_
          refine V_goto G dX6_flattestRank_55 (tgt := 7) (by decide) ?_
          have hfl : flS c = bestF (fun k => hgtS c (lfA (lfS c) k)) ((lfS c).length - 1) 1 0 := rfl
          first
          | (exact ih (k + 1) _ _ _ (by omega) (by omega) v1 (eg.tr v2) (by omega) (by omega) (Or.inr ⟨by omega, rfl, by
              rcases hs with ⟨z1, z2⟩ | ⟨z1, z2, z3⟩
              · subst z1
                rw [hfl, show (lfS c).length - 1 = m by omega]; rfl
              · rw [← z3]
                conv => rhs; rw [bestF]
                rw [if_pos (by omega)]⟩))
          | (exact ih (k + 1) _ _ _ (by omega) (by omega) v1 (eg.tr v2) (by omega) (by omega) (by
              rcases hs with ⟨z1, z2⟩ | ⟨z1, z2, z3⟩
              · omega
              · refine Or.inr ⟨by omega, z2, ?_⟩
                rw [← z3]
                conv => rhs; rw [bestF]
                rw [if_neg (by omega)]))
  refine V_iconst G dX6_flattestRank_0 ?_
  refine V_istore1 G dX6_flattestRank_1 rfl ?_
  refine V_bipush G dX6_flattestRank_2 (by decide) ?_
  refine V_istore2 G dX6_flattestRank_4 rfl ?_
  refine V_iconst G dX6_flattestRank_5 ?_
  refine V_istore3 G dX6_flattestRank_6 rfl ?_
  exact lp (lfS c).length 0 h 0 13 (by omega) (by omega) r eqx.rf (by omega) (by omega) (Or.inl ⟨rfl, rfl⟩)

end C11
