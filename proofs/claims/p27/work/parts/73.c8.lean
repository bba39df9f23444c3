section C8

/-- the readings' numbers in a Readings object -/
def RdC (h : Hp) (q : Nat) (c : Cs) : Prop := hI h q 1 = (AS c).length ∧ ∀ (i : Nat) (f : Int → Int), (AS c)[i]? = some f → ∀ w, 0 ≤ w → w < nS c → hdI (hL h (q + 1) i) w = f w
def LfC (h : Hp) (c : Cs) : Prop := hI h 0 4 = (lfS c).length ∧ ∀ (i : Nat) (z : Int), (lfS c)[i]? = some z → hI h 23 i = z
theorem rds_len {c : Cs} (I : okS c) : (AS c).length ≤ 42 := AS_le rds_ok I
theorem lfS_len {c : Cs} (I : okS c) : (lfS c).length ≤ 42 := Nat.le_trans (lfF_len _ _) (rds_len I)
theorem row_ok {c : Cs} (I : okS c) {k : Int} (h1 : 0 ≤ k) (h2 : k < (AS c).length) : rok (nS c) (rowA (AS c) k) ∧ rtd (nS c) (rowA (AS c) k) ∧ rdOk (nS c) (rowA (AS c) k) ∧ nounOk (nS c) (kdS c) (rowA (AS c) k) := by
  have hl : k.toNat < (AS c).length := by omega
  have e : rowA (AS c) k = (AS c)[k.toNat] := by
    unfold rowA
    rw [List.getElem?_eq_getElem hl]; rfl
  rw [e]
  exact (rdsH_ok I.1 I.2.1 (fun _ => 0)).2.2.2.2 _ (List.getElem_mem hl)
theorem RdC.at' {h : Hp} {q : Nat} {c : Cs} (R : RdC h q c) {k : Int} (h1 : 0 ≤ k) (h2 : k < (AS c).length) {w : Int} (w0 : 0 ≤ w) (w1 : w < nS c) : hdI (hL h (q + 1) k) w = rowA (AS c) k w := by
  have hl : k.toNat < (AS c).length := by omega
  have e : rowA (AS c) k = (AS c)[k.toNat] := by
    unfold rowA
    rw [List.getElem?_eq_getElem hl]; rfl
  have := R.2 k.toNat _ (List.getElem?_eq_getElem hl) w w0 w1
  rw [show ((k.toNat : Nat) : Int) = k by omega] at this
  rw [e, this]
theorem lfA_at {l : List Int} {k : Int} (h1 : 0 ≤ k) (h2 : k < l.length) : l[k.toNat]? = some (lfA l k) := by
  unfold lfA
  rw [List.getElem?_eq_getElem (by omega)]; rfl
theorem LfC.at' {h : Hp} {c : Cs} (R : LfC h c) {k : Int} (h1 : 0 ≤ k) (h2 : k < (lfS c).length) : hI h 23 k = lfA (lfS c) k := by
  have := R.2 k.toNat _ (lfA_at h1 h2)
  rwa [show ((k.toNat : Nat) : Int) = k by omega] at this
theorem lfA_r {c : Cs} {k : Int} (h1 : 0 ≤ k) (h2 : k < (lfS c).length) : 0 ≤ lfA (lfS c) k ∧ lfA (lfS c) k < (AS c).length := by
  have q : lfA (lfS c) k ∈ lfS c := List.mem_of_getElem? (lfA_at h1 h2)
  have := lfF_mem _ _ _ q
  omega
theorem isDr24 : isDr 24 := isDr_all.1
theorem isDr31 : isDr 31 := isDr_all.2

set_option maxRecDepth 100000 in
set_option maxHeartbeats 800000 in
theorem c_X6_rankAmongAll {l : Launch} {d : Nat} {h : Hp} {c : Cs} (I : okS c) (L : LfC h c) {k : Int} (hk : 0 ≤ k ∧ k < (lfS c).length) (hd : 1 ≤ d := by omega) : CP l d 0 0 yX6_rankAmongAll cX6_rankAmongAll 2 (Option.some Jvm.ClassFile.FieldType.int) [.ref 0, iv k] h (pI fun x h1 => x = lfA (lfS c) k ∧ h1 = h) := by
  refine CP.ofV (L := [some (.ref 0), some (.int (Int32.ofInt k))]) RX6 (by decide +kernel) rfl (Nat.le_of_ble_eq_true rfl) rfl (fun X hX G E => ?_)
  subst hX
  have hl42 := lfS_len I
  refine V_iload1 G dX6_rankAmongAll_0 ?_
  refine V_iflt G dX6_rankAmongAll_1 (tgt := 30) (by decide) (by first | exact r _ _ | assumption | exact ⟨by omega, by omega⟩) (fun c_1 => ?_) (fun c_1 => ?_)
  · omega
  ·
    refine V_iload1 G dX6_rankAmongAll_4 ?_
    refine V_aload0 G dX6_rankAmongAll_5 ?_
    refine V_getIe (jz := 4) G fl_X6_34 dX6_rankAmongAll_6 (by first | decide | assumption) (by first | rfl | assumption) rfl rfl L.1 ?_
    refine V_icmpge G dX6_rankAmongAll_9 (tgt := 30) (by decide) (by first | exact r _ _ | assumption | exact ⟨by omega, by omega⟩) (by first | exact r _ _ | assumption | exact ⟨by omega, by omega⟩) (fun c_9 => ?_) (fun c_9 => ?_)
    · omega
    ·
      refine V_iload1 G dX6_rankAmongAll_12 ?_
      refine V_aload0 G dX6_rankAmongAll_13 ?_
      refine V_getR G fl_X6_30 dX6_rankAmongAll_14 (by first | decide | assumption) (by first | rfl | assumption) rfl (by first | rfl | assumption) ?_
      refine V_alenZ G dX6_rankAmongAll_17 (by first | decide | assumption) (by first | rfl | assumption) (by decide) ?_
      refine V_icmpge G dX6_rankAmongAll_18 (tgt := 30) (by decide) (by first | exact r _ _ | assumption | exact ⟨by omega, by omega⟩) (by first | exact r _ _ | assumption | exact ⟨by omega, by omega⟩) (fun c_18 => ?_) (fun c_18 => ?_)
      · omega
      ·
        refine V_aload0 G dX6_rankAmongAll_21 ?_
        refine V_getR G fl_X6_30 dX6_rankAmongAll_22 (by first | decide | assumption) (by first | rfl | assumption) rfl (by first | rfl | assumption) ?_
        refine V_iload1 G dX6_rankAmongAll_25 ?_
        refine V_ialde G dX6_rankAmongAll_26 (by first | decide | assumption) (by first | rfl | assumption) (by decide) ⟨by omega, by omega⟩ (L.at' hk.1 hk.2) ?_
        refine V_goto G dX6_rankAmongAll_27 (tgt := 31) (by decide) ?_
        exact V_reti E dX6_rankAmongAll_31 rfl rfl ⟨_, rfl, ⟨rfl, rfl⟩⟩

set_option maxRecDepth 100000 in
set_option maxHeartbeats 800000 in
theorem c_X6_leftCode {l : Launch} {d : Nat} {h : Hp} {c : Cs} (I : okS c) (L : LfC h c) {k : Int} (hk : 0 ≤ k ∧ k < (lfS c).length) (hd : 2 ≤ d := by omega) : CP l d 0 0 yX6_leftCode cX6_leftCode 2 (Option.some Jvm.ClassFile.FieldType.long) [.ref 0, iv k] h (pL fun x h1 => x = hL h 5 (lfA (lfS c) k) ∧ h1 = h) := by
  refine CP.ofV (L := [some (.ref 0), some (.int (Int32.ofInt k))]) RX6 (by decide +kernel) rfl (Nat.le_of_ble_eq_true rfl) rfl (fun X hX G E => ?_)
  subst hX
  have hl42 := rds_len I
  have hlr := lfA_r hk.1 hk.2
  refine V_aload0 G dX6_leftCode_0 ?_
  refine V_getR G fl_X6_19 dX6_leftCode_1 (by first | decide | assumption) (by first | rfl | assumption) rfl (by first | rfl | assumption) ?_
  refine V_aload0 G dX6_leftCode_4 ?_
  refine V_iload1 G dX6_leftCode_5 ?_
  refine V_cV1i (d1 := 1) G m_X6_302 dX6_leftCode_6 (by first | decide | assumption) (by first | rfl | assumption) (c_X6_rankAmongAll I L hk) (by omega) (by omega) (by omega) (Nat.le_of_ble_eq_true rfl) (fun x_6 h_6 hp_6 => ?_)
  rw [hp_6.1, hp_6.2]
  refine V_cV1l (d1 := 1) G m_X6_279 dX6_leftCode_9 (by first | decide | assumption) (by first | rfl | assumption) (c_X3_codeAt isRd_all.1 (k := lfA (lfS c) k) (by omega)) (by omega) (by omega) (by omega) (Nat.le_of_ble_eq_true rfl) (fun x_9 h_9 hp_9 => ?_)
  rw [hp_9.1, hp_9.2]
  exact V_retl E dX6_leftCode_12 rfl ⟨_, rfl, ⟨rfl, rfl⟩⟩

set_option maxRecDepth 100000 in
set_option maxHeartbeats 800000 in
theorem c_X6_fits {l : Launch} {d : Nat} {h : Hp} {c : Cs} (I : okS c) (S : StC h 1 c) {code : Int64} {b : Int} (hb : inr b) {f : Int → Int} (hr : rok (nS c) f) (hc : ∀ w, 0 ≤ w → w < nS c → hdI code w = f w) (hd : 3 ≤ d := by omega) : CP l d 0 0 yX6_fits cX6_fits 6 (Option.some Jvm.ClassFile.FieldType.boolean) [.ref 0, .long code, iv b] h (pI fun x h1 => x = whI (fitsP (nS c) b (fxS c) f) ∧ h1 = h) := by
  refine CP.ofV (L := [some (.ref 0), some (.long code), none, some (.int (Int32.ofInt b)), none, none]) RX6 (by decide +kernel) rfl (Nat.le_of_ble_eq_true rfl) rfl (fun X hX G E => ?_)
  subst hX
  obtain ⟨hn, hdr, hkd, hfx⟩ := S
  have hn0 := I.1
  have hfr := I.2.2.1
  have lp : ∀ (m : Nat) (k : Int) (a5 : Option Value), k + m = nS c → 0 ≤ k → (∀ w : Int, 0 ≤ w → w < k → 0 < fxS c w ∧ w ≠ b → f w = fxS c w - 2) → V X 0 0 3 [some (.ref 0), some (.long code), none, some (.int (Int32.ofInt b)), some (.int (Int32.ofInt k)), a5] [] h := by
    intro m
    induction m with
    | zero =>
      intro k a5 hm_ hk0 hs
      refine V_iload4 G dX6_fits_3 ?_
      refine V_aload0 G dX6_fits_5 ?_
      refine V_getR G fl_X6_12 dX6_fits_6 (by first | decide | assumption) (by first | rfl | assumption) rfl (by first | rfl | assumption) ?_
      refine V_cV0i (d1 := 1) G m_X6_82 dX6_fits_9 (by first | decide | assumption) (by first | rfl | assumption) (c_X4_size isSt_all.1) (by omega) (by omega) (by omega) (Nat.le_of_ble_eq_true rfl) (fun x_9 h_9 hp_9 => ?_)
      rw [show x_9 = nS c from hp_9.1.trans hn, hp_9.2]
      refine V_icmpge G dX6_fits_12 (tgt := 58) (by decide) (by first | exact r _ _ | assumption | exact ⟨by omega, by omega⟩) (by first | exact r _ _ | assumption | exact ⟨by omega, by omega⟩) (fun c_12 => ?_) (fun c_12 => ?_)
      ·
        refine V_iconst G dX6_fits_58 ?_
        exact V_reti E dX6_fits_59 rfl rfl ⟨_, rfl, ⟨(whI_t (fun w w0 w1 w2 => hs w w0 (by omega) w2)).symm, rfl⟩⟩
      · omega
    | succ m ih =>
      intro k a5 hm_ hk0 hs
      refine V_iload4 G dX6_fits_3 ?_
      refine V_aload0 G dX6_fits_5 ?_
      refine V_getR G fl_X6_12 dX6_fits_6 (by first | decide | assumption) (by first | rfl | assumption) rfl (by first | rfl | assumption) ?_
      refine V_cV0i (d1 := 1) G m_X6_82 dX6_fits_9 (by first | decide | assumption) (by first | rfl | assumption) (c_X4_size isSt_all.1) (by omega) (by omega) (by omega) (Nat.le_of_ble_eq_true rfl) (fun x_9 h_9 hp_9 => ?_)
      rw [show x_9 = nS c from hp_9.1.trans hn, hp_9.2]
      refine V_icmpge G dX6_fits_12 (tgt := 58) (by decide) (by first | exact r _ _ | assumption | exact ⟨by omega, by omega⟩) (by first | exact r _ _ | assumption | exact ⟨by omega, by omega⟩) (fun c_12 => ?_) (fun c_12 => ?_)
      · omega
      ·
        refine V_aload0 G dX6_fits_15 ?_
        refine V_getR G fl_X6_12 dX6_fits_16 (by first | decide | assumption) (by first | rfl | assumption) rfl (by first | rfl | assumption) ?_
        refine V_iload4 G dX6_fits_19 ?_
        have q1 := hfr k hk0 (by omega)
        have q2 := hr k hk0 (by omega)
        refine V_cV1i (d1 := 2) G m_X6_295 dX6_fits_21 (by first | decide | assumption) (by first | rfl | assumption) (c_X4_fixedAt isSt_all.1 hn hn0 (w := k) ⟨by omega, by omega⟩) (by omega) (by omega) (by omega) (Nat.le_of_ble_eq_true rfl) (fun x_21 h_21 hp_21 => ?_)
        rw [show x_21 = fxS c k - 2 by rw [hp_21.1]; unfold fxC; rw [if_pos (by omega)]; exact hfx k (by omega) (by omega), hp_21.2]
        refine V_istore5 G dX6_fits_24 rfl ?_
        refine V_iload4 G dX6_fits_26 ?_
        refine V_iload3 G dX6_fits_28 ?_
        refine V_icmpeq G dX6_fits_29 (tgt := 52) (by decide) (by first | exact r _ _ | assumption | exact ⟨by omega, by omega⟩) (by first | exact r _ _ | assumption | exact ⟨by omega, by omega⟩) (fun c_29 => ?_) (fun c_29 => ?_)
        ·
          refine V_iinc4 G dX6_fits_52 rfl ?_
          refine V_goto G dX6_fits_55 (tgt := 3) (by decide) ?_
          exact ih (k + 1) _ (by omega) (by omega) (fun w w0 w1 w2 => by
            by_cases e : w = k
            · subst e; omega
            · exact hs w w0 (by omega) w2)
        ·
          refine V_iload5 G dX6_fits_32 ?_
          refine V_bipush G dX6_fits_34 (by decide) ?_
          refine V_icmpeq G dX6_fits_36 (tgt := 52) (by decide) (by first | exact r _ _ | assumption | exact ⟨by omega, by omega⟩) (by first | exact r _ _ | assumption | exact ⟨by omega, by omega⟩) (fun c_36 => ?_) (fun c_36 => ?_)
          ·
            refine V_iinc4 G dX6_fits_52 rfl ?_
            refine V_goto G dX6_fits_55 (tgt := 3) (by decide) ?_
            exact ih (k + 1) _ (by omega) (by omega) (fun w w0 w1 w2 => by
              by_cases e : w = k
              · subst e; omega
              · exact hs w w0 (by omega) w2)
          ·
            refine V_iload5 G dX6_fits_39 ?_
            refine V_lload1 G dX6_fits_41 ?_
            refine V_iload4 G dX6_fits_42 ?_
            refine V_cS2i (d1 := 1) G m_X6_298 dX6_fits_44 (c_X3_headIn (c := code) (w := k) (by omega)) (by omega) (by omega) (by omega) (Nat.le_of_ble_eq_true rfl) (fun x_44 h_44 hp_44 => ?_)
            rw [show x_44 = f k from hp_44.1.trans (hc k hk0 (by omega)), hp_44.2]
            refine V_icmpeq G dX6_fits_47 (tgt := 52) (by decide) (by first | exact r _ _ | assumption | exact ⟨by omega, by omega⟩) (by first | exact r _ _ | assumption | exact ⟨by omega, by omega⟩) (fun c_47 => ?_) (fun c_47 => ?_)
            ·
              refine V_iinc4 G dX6_fits_52 rfl ?_
              refine V_goto G dX6_fits_55 (tgt := 3) (by decide) ?_
              exact ih (k + 1) _ (by omega) (by omega) (fun w w0 w1 w2 => by
                by_cases e : w = k
                · subst e; omega
                · exact hs w w0 (by omega) w2)
            ·
              refine V_iconst G dX6_fits_50 ?_
              exact V_reti E dX6_fits_51 rfl rfl ⟨_, rfl, ⟨(whI_f (fun z => by have := z k hk0 (by omega) ⟨by omega, by omega⟩; omega)).symm, rfl⟩⟩
  refine V_iconst G dX6_fits_0 ?_
  refine V_istore4 G dX6_fits_1 rfl ?_
  exact lp (nS c).toNat 0 _ (by omega) (by omega) (fun w w0 w1 => by omega)

set_option maxRecDepth 100000 in
set_option maxHeartbeats 800000 in
theorem c_X6_leftIf {l : Launch} {d : Nat} {h : Hp} {c : Cs} (I : okS c) (S : StC h 1 c) (R : RdC h 4 c) {w hd1 : Int} (hw : 0 ≤ w ∧ w < nS c) (hh : inr hd1) (hd : 4 ≤ d := by omega) : CP l d 0 0 yX6_leftIf cX6_leftIf 7 (Option.some Jvm.ClassFile.FieldType.int) [.ref 0, iv w, iv hd1] h (pI fun x h1 => x = lbS c w hd1 ∧ h1 = h) := by
  refine CP.ofV (L := [some (.ref 0), some (.int (Int32.ofInt w)), some (.int (Int32.ofInt hd1)), none, none, none, none]) RX6 (by decide +kernel) rfl (Nat.le_of_ble_eq_true rfl) rfl (fun X hX G E => ?_)
  subst hX
  have S0 := S
  obtain ⟨hn, hdr, hkd, hfx⟩ := S
  have hn0 := I.1
  have hfr := I.2.2.1
  have h42 := rds_len I
  have lp : ∀ (m : Nat) (k : Int) (acc : Int) (a5 : Option Value), k + m = ((AS c).length : Int) → 0 ≤ k → acc + sumF (fun k => if whI (fitsP (nS c) w (fxS c) (rowA (AS c) k)) = 1 ∧ rowA (AS c) k w = hd1 then 1 else 0) m k = sumF (fun k => if whI (fitsP (nS c) w (fxS c) (rowA (AS c) k)) = 1 ∧ rowA (AS c) k w = hd1 then 1 else 0) (AS c).length 0 → V X 0 0 5 [some (.ref 0), some (.int (Int32.ofInt w)), some (.int (Int32.ofInt hd1)), some (.int (Int32.ofInt acc)), some (.int (Int32.ofInt k)), a5, none] [] h := by
    intro m
    induction m with
    | zero =>
      intro k acc a5 hm_ hk0 hs
      refine V_iload4 G dX6_leftIf_5 ?_
      refine V_aload0 G dX6_leftIf_7 ?_
      refine V_getR G fl_X6_19 dX6_leftIf_8 (by first | decide | assumption) (by first | rfl | assumption) rfl (by first | rfl | assumption) ?_
      refine V_cV0i (d1 := 1) G m_X6_268 dX6_leftIf_11 (by first | decide | assumption) (by first | rfl | assumption) (c_X3_total isRd_all.1) (by omega) (by omega) (by omega) (Nat.le_of_ble_eq_true rfl) (fun x_11 h_11 hp_11 => ?_)
      rw [show x_11 = ((AS c).length : Int) from hp_11.1.trans R.1, hp_11.2]
      refine V_icmpge G dX6_leftIf_14 (tgt := 57) (by decide) (by first | exact r _ _ | assumption | exact ⟨by omega, by omega⟩) (by first | exact r _ _ | assumption | exact ⟨by omega, by omega⟩) (fun c_14 => ?_) (fun c_14 => ?_)
      ·
        refine V_iload3 G dX6_leftIf_57 ?_
        exact V_reti E dX6_leftIf_58 rfl rfl ⟨_, rfl, ⟨by unfold lbS; rw [← hs]; simp [sumF], rfl⟩⟩
      · omega
    | succ m ih =>
      intro k acc a5 hm_ hk0 hs
      refine V_iload4 G dX6_leftIf_5 ?_
      refine V_aload0 G dX6_leftIf_7 ?_
      refine V_getR G fl_X6_19 dX6_leftIf_8 (by first | decide | assumption) (by first | rfl | assumption) rfl (by first | rfl | assumption) ?_
      refine V_cV0i (d1 := 1) G m_X6_268 dX6_leftIf_11 (by first | decide | assumption) (by first | rfl | assumption) (c_X3_total isRd_all.1) (by omega) (by omega) (by omega) (Nat.le_of_ble_eq_true rfl) (fun x_11 h_11 hp_11 => ?_)
      rw [show x_11 = ((AS c).length : Int) from hp_11.1.trans R.1, hp_11.2]
      refine V_icmpge G dX6_leftIf_14 (tgt := 57) (by decide) (by first | exact r _ _ | assumption | exact ⟨by omega, by omega⟩) (by first | exact r _ _ | assumption | exact ⟨by omega, by omega⟩) (fun c_14 => ?_) (fun c_14 => ?_)
      · omega
      ·
        refine V_aload0 G dX6_leftIf_17 ?_
        refine V_getR G fl_X6_19 dX6_leftIf_18 (by first | decide | assumption) (by first | rfl | assumption) rfl (by first | rfl | assumption) ?_
        refine V_iload4 G dX6_leftIf_21 ?_
        have q1 := row_ok I hk0 (show k < (AS c).length by omega)
        have q2 := q1.1 w hw.1 hw.2
        have q3 := whI_01 (fitsP (nS c) w (fxS c) (rowA (AS c) k))
        refine V_cV1l (d1 := 1) G m_X6_279 dX6_leftIf_23 (by first | decide | assumption) (by first | rfl | assumption) (c_X3_codeAt isRd_all.1 (k := k) (by omega)) (by omega) (by omega) (by omega) (Nat.le_of_ble_eq_true rfl) (fun x_23 h_23 hp_23 => ?_)
        rw [hp_23.1, hp_23.2]
        refine V_lstore5 G dX6_leftIf_26 rfl ?_
        refine V_lload5 G dX6_leftIf_28 ?_
        refine V_iload1 G dX6_leftIf_30 ?_
        refine V_cS2i (d1 := 1) G m_X6_298 dX6_leftIf_31 (c_X3_headIn (w := w) (by omega)) (by omega) (by omega) (by omega) (Nat.le_of_ble_eq_true rfl) (fun x_31 h_31 hp_31 => ?_)
        rw [show x_31 = rowA (AS c) k w from hp_31.1.trans (R.at' hk0 (by omega) hw.1 hw.2), hp_31.2]
        refine V_iload2 G dX6_leftIf_34 ?_
        refine V_icmpne G dX6_leftIf_35 (tgt := 51) (by decide) (by first | exact r _ _ | assumption | exact ⟨by omega, by omega⟩) (by first | exact r _ _ | assumption | exact ⟨by omega, by omega⟩) (fun c_35 => ?_) (fun c_35 => ?_)
        ·
          refine V_iinc4 G dX6_leftIf_51 rfl ?_
          refine V_goto G dX6_leftIf_54 (tgt := 5) (by decide) ?_
          exact ih (k + 1) _ _ (by omega) (by omega) (by
            rw [← hs]
            conv => rhs; rw [sumF]
            first
            | rw [if_pos (by omega)]
            | rw [if_neg (by omega)]
            omega)
        ·
          refine V_aload0 G dX6_leftIf_38 ?_
          refine V_lload5 G dX6_leftIf_39 ?_
          refine V_iload1 G dX6_leftIf_41 ?_
          refine V_cV2i (d1 := 3) G m_X6_282 dX6_leftIf_42 (by first | decide | assumption) (by first | rfl | assumption) (c_X6_fits I S0 (b := w) ⟨by omega, by omega⟩ q1.1 (fun z z0 z1 => R.at' hk0 (by omega) z0 z1)) (by omega) (by omega) (by omega) (Nat.le_of_ble_eq_true rfl) (fun x_42 h_42 hp_42 => ?_)
          rw [hp_42.1, hp_42.2]
          refine V_ifeq G dX6_leftIf_45 (tgt := 51) (by decide) ⟨by omega, by omega⟩ (fun c_45 => ?_) (fun c_45 => ?_)
          ·
            refine V_iinc4 G dX6_leftIf_51 rfl ?_
            refine V_goto G dX6_leftIf_54 (tgt := 5) (by decide) ?_
            exact ih (k + 1) _ _ (by omega) (by omega) (by
              rw [← hs]
              conv => rhs; rw [sumF]
              first
              | rw [if_pos (by omega)]
              | rw [if_neg (by omega)]
              omega)
          ·
            refine V_iinc3 G dX6_leftIf_48 rfl ?_
            refine V_iinc4 G dX6_leftIf_51 rfl ?_
            refine V_goto G dX6_leftIf_54 (tgt := 5) (by decide) ?_
            exact ih (k + 1) _ _ (by omega) (by omega) (by
              rw [← hs]
              conv => rhs; rw [sumF]
              first
              | rw [if_pos (by omega)]
              | rw [if_neg (by omega)]
              omega)
  refine V_iconst G dX6_leftIf_0 ?_
  refine V_istore3 G dX6_leftIf_1 rfl ?_
  refine V_iconst G dX6_leftIf_2 ?_
  refine V_istore4 G dX6_leftIf_3 rfl ?_
  exact lp (AS c).length 0 0 _ (by omega) (by omega) (by simp)


theorem lbS_b {c : Cs} (I : okS c) (w z : Int) : 0 ≤ lbS c w z ∧ lbS c w z ≤ 42 := by
  have h := rds_len I
  have := sumF_le (f := fun k => if whI (fitsP (nS c) w (fxS c) (rowA (AS c) k)) = 1 ∧ rowA (AS c) k w = z then 1 else 0) (b := 1) (by omega) (AS c).length 0 (fun j => by split <;> omega)
  unfold lbS
  omega

set_option maxRecDepth 100000 in
set_option maxHeartbeats 800000 in
theorem c_X6_mostLeftBehind {l : Launch} {d : Nat} {h : Hp} {c : Cs} (I : okS c) (S : StC h 1 c) (R : RdC h 4 c) {w : Int} (hw : 0 ≤ w ∧ w < nS c) (hd : 5 ≤ d := by omega) : CP l d 0 0 yX6_mostLeftBehind cX6_mostLeftBehind 4 (Option.some Jvm.ClassFile.FieldType.int) [.ref 0, iv w] h (pI fun x h1 => x = mxF (fun z => lbS c w z) (nS c + 1).toNat (-1) 0 ∧ h1 = h) := by
  refine CP.ofV (L := [some (.ref 0), some (.int (Int32.ofInt w)), none, none]) RX6 (by decide +kernel) rfl (Nat.le_of_ble_eq_true rfl) rfl (fun X hX G E => ?_)
  subst hX
  have S0 := S
  obtain ⟨hn, hdr, hkd, hfx⟩ := S
  have hn0 := I.1
  have hfr := I.2.2.1
  have lp : ∀ (m : Nat) (k : Int) (a : Int), k + m = nS c → -1 ≤ k → 0 ≤ a ∧ a ≤ 42 → mxF (fun z => lbS c w z) m k a = mxF (fun z => lbS c w z) (nS c + 1).toNat (-1) 0 → V X 0 0 4 [some (.ref 0), some (.int (Int32.ofInt w)), some (.int (Int32.ofInt a)), some (.int (Int32.ofInt k))] [] h := by
    intro m
    induction m with
    | zero =>
      intro k a hm_ hk0 ha hs
      refine V_iload3 G dX6_mostLeftBehind_4 ?_
      refine V_aload0 G dX6_mostLeftBehind_5 ?_
      refine V_getR G fl_X6_12 dX6_mostLeftBehind_6 (by first | decide | assumption) (by first | rfl | assumption) rfl (by first | rfl | assumption) ?_
      refine V_cV0i (d1 := 1) G m_X6_82 dX6_mostLeftBehind_9 (by first | decide | assumption) (by first | rfl | assumption) (c_X4_size isSt_all.1) (by omega) (by omega) (by omega) (Nat.le_of_ble_eq_true rfl) (fun x_9 h_9 hp_9 => ?_)
      rw [show x_9 = nS c from hp_9.1.trans hn, hp_9.2]
      refine V_icmpge G dX6_mostLeftBehind_12 (tgt := 32) (by decide) (by first | exact r _ _ | assumption | exact ⟨by omega, by omega⟩) (by first | exact r _ _ | assumption | exact ⟨by omega, by omega⟩) (fun c_12 => ?_) (fun c_12 => ?_)
      ·
        refine V_iload2 G dX6_mostLeftBehind_32 ?_
        exact V_reti E dX6_mostLeftBehind_33 rfl rfl ⟨_, rfl, ⟨by rw [← hs]; rfl, rfl⟩⟩
      · omega
    | succ m ih =>
      intro k a hm_ hk0 ha hs
      refine V_iload3 G dX6_mostLeftBehind_4 ?_
      refine V_aload0 G dX6_mostLeftBehind_5 ?_
      refine V_getR G fl_X6_12 dX6_mostLeftBehind_6 (by first | decide | assumption) (by first | rfl | assumption) rfl (by first | rfl | assumption) ?_
      refine V_cV0i (d1 := 1) G m_X6_82 dX6_mostLeftBehind_9 (by first | decide | assumption) (by first | rfl | assumption) (c_X4_size isSt_all.1) (by omega) (by omega) (by omega) (Nat.le_of_ble_eq_true rfl) (fun x_9 h_9 hp_9 => ?_)
      rw [show x_9 = nS c from hp_9.1.trans hn, hp_9.2]
      refine V_icmpge G dX6_mostLeftBehind_12 (tgt := 32) (by decide) (by first | exact r _ _ | assumption | exact ⟨by omega, by omega⟩) (by first | exact r _ _ | assumption | exact ⟨by omega, by omega⟩) (fun c_12 => ?_) (fun c_12 => ?_)
      · omega
      ·
        refine V_iload2 G dX6_mostLeftBehind_15 ?_
        refine V_aload0 G dX6_mostLeftBehind_16 ?_
        refine V_iload1 G dX6_mostLeftBehind_17 ?_
        refine V_iload3 G dX6_mostLeftBehind_18 ?_
        have lr := lbS_b I w k
        refine V_cV2i (d1 := 4) G m_X6_115 dX6_mostLeftBehind_19 (by first | decide | assumption) (by first | rfl | assumption) (c_X6_leftIf I S0 R hw (hd1 := k) ⟨by omega, by omega⟩) (by omega) (by omega) (by omega) (Nat.le_of_ble_eq_true rfl) (fun x_19 h_19 hp_19 => ?_)
        rw [hp_19.1, hp_19.2]
        refine V_mmax G m_X6_345 dX6_mostLeftBehind_22 ⟨by omega, by omega⟩ ⟨by omega, by omega⟩ (by omega) (by omega) (Nat.le_of_ble_eq_true rfl) (by omega) ?_
        refine V_istore2 G dX6_mostLeftBehind_25 rfl ?_
        refine V_iinc3 G dX6_mostLeftBehind_26 rfl ?_
        refine V_goto G dX6_mostLeftBehind_29 (tgt := 4) (by decide) ?_
        exact ih (k + 1) _ (by omega) (by omega) (by split <;> omega) (by rw [← hs, mxF])
  refine V_iconst G dX6_mostLeftBehind_0 ?_
  refine V_istore2 G dX6_mostLeftBehind_1 rfl ?_
  refine V_iconst G dX6_mostLeftBehind_2 ?_
  refine V_istore3 G dX6_mostLeftBehind_3 rfl ?_
  exact lp (nS c + 1).toNat (-1) 0 (by omega) (by omega) (by omega) rfl

end C8
