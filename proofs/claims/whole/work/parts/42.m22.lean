section M22

def z2l (x : Int) : Int64 := (Int32.ofInt x).toInt64
def hF (f : Int → Int64) : Nat → Int → Int64 → Int64
  | 0, _, a => a
  | m + 1, k, a => hF f m (k + 1) (31 * a + f k)
/-- as eqx, the digest's cell left aside -/
def eqy (S : Nat → Int → Bool) (h h' : Hp) : Prop := (∀ q j, S q j = false → hI h' q j = hI h q j) ∧ (∀ q j, ¬ (q = 77 ∧ j = 25) → hL h' q j = hL h q j) ∧ hR h' = hR h
theorem eqx.y {S : Nat → Int → Bool} {h h1 : Hp} (e : eqx S h h1) : eqy S h h1 := ⟨e.1, fun q j _ => by rw [e.2.1], e.2.2⟩
theorem eqy.tr {S : Nat → Int → Bool} {h h1 h2 : Hp} (a : eqy S h h1) (b : eqy S h1 h2) : eqy S h h2 := ⟨fun q j e => (b.1 q j e).trans (a.1 q j e), fun q j e => (b.2.1 q j e).trans (a.2.1 q j e), b.2.2.trans a.2.2⟩
theorem eqy.sl {S : Nat → Int → Bool} {h h1 : Hp} {v : Int64} (a : eqy S h h1) : eqy S h (sL h1 77 25 v) := ⟨a.1, fun q j e => by rw [hL_sL, if_neg e]; exact a.2.1 q j e, a.2.2⟩
def ptF (kd : Int → Int) : Nat → Int → Int64 → Int64
  | 0, _, a => a
  | m + 1, w, a => ptF kd m (w + 1) (hF (fun q => z2l (dp kd (ptT q) 0 (w + 1))) 5 0 a)
theorem sL_sL {h : Hp} {q : Nat} {j : Int} {v w : Int64} : sL (sL h q j v) q j w = sL h q j w := by
  unfold sL
  congr 2
  funext a b
  show (if a = q ∧ b = j then w else if a = q ∧ b = j then v else h.2.1 a b) = if a = q ∧ b = j then w else h.2.1 a b
  split <;> rfl

set_option maxRecDepth 100000 in
set_option maxHeartbeats 2000000 in
theorem c_X7_hashesParts {l : Launch} {d : Nat} {h : Hp} (r : Rg h) {kd : Int → Int} {n : Int} (hn : hI h 78 0 = n) (hn0 : 0 ≤ n ∧ n ≤ 12) (hk : ∀ w, 0 ≤ w → w < n → hI h 78 (2 + w) = kd w ∧ 0 ≤ kd w ∧ kd w ≤ 6) (hd : 6 ≤ d := by omega) : CP l d 0 0 yX7_hashesParts cX7_hashesParts 3 (Option.none : Option Jvm.ClassFile.FieldType) [.ref 77] h (pV fun h1 => eqy SDP h h1 ∧ Rg h1 ∧ hL h1 77 25 = ptF kd n.toNat 0 (hL h 77 25)) := by
  refine CP.ofV (L := [some (.ref 77), none, none]) RX7 (by decide +kernel) rfl (Nat.le_of_ble_eq_true rfl) rfl (fun X hX G E => ?_)
  subst hX
  have out : ∀ (f : Hp), eqx SDP h f → Rg f → spP f kd n (fun _ _ _ => True) → ∀ (m : Nat) (w : Int) (a0 : Int64) (a2 : Option Value), w + m = n → 0 ≤ w → ptF kd m w a0 = ptF kd n.toNat 0 (hL h 77 25) → V X 0 0 6 [some (.ref 77), some (.int (Int32.ofInt w)), a2] [] (sL f 77 25 a0) := by
    intro f ef rf uf m
    have hfn : hI f 78 0 = n := (ef.1 _ _ rfl).trans hn
    induction m with
    | zero =>
      intro w a0 a2 hm_ hw0 hsO
      have r := rf
      refine V_iload1 G dX7_hashesParts_6 ?_
      refine V_aload0 G dX7_hashesParts_7 ?_
      refine V_getR G fl_X7_7 dX7_hashesParts_8 (by first | decide | assumption) (by first | rfl | assumption) rfl (by first | rfl | assumption) ?_
      refine V_iconst G dX7_hashesParts_11 ?_
      refine V_ialde G dX7_hashesParts_12 (by first | decide | assumption) (by first | rfl | assumption) (by decide) ⟨by omega, by omega⟩ (by first | (simp only [hI_sI, hI_sL, hL_sI, hL_sL, false_and, true_and, and_false, and_true, and_self, if_false, if_true, hfn]; first | done | rfl) | rfl) ?_
      refine V_icmpge G dX7_hashesParts_13 (tgt := 49) (by decide) (by first | exact r _ _ | assumption | exact ⟨by omega, by omega⟩) (by first | exact r _ _ | assumption | exact ⟨by omega, by omega⟩) (fun c_13 => ?_) (fun c_13 => ?_)
      ·
        exact V_retv E dX7_hashesParts_49 rfl ⟨rfl, ef.y.sl, rf, by rw [hL_sL, if_pos ⟨rfl, rfl⟩]; exact hsO⟩
      · omega
    | succ mO ihO =>
      intro w a0 a2 hmO hw0 hsO
      have r := rf
      have inn : ∀ (m : Nat) (k : Int) (a : Int64), k + m = 5 → 0 ≤ k → hF (fun q => z2l (dp kd (ptT q) 0 (w + 1))) m k a = hF (fun q => z2l (dp kd (ptT q) 0 (w + 1))) 5 0 a0 → V X 0 0 18 [some (.ref 77), some (.int (Int32.ofInt w)), some (.int (Int32.ofInt k))] [] (sL f 77 25 a) := by
        intro m
        induction m with
        | zero =>
          intro k a hm_ hk0 hs
          refine V_iload2 G dX7_hashesParts_18 ?_
          refine V_iconst G dX7_hashesParts_19 ?_
          refine V_icmpge G dX7_hashesParts_20 (tgt := 43) (by decide) (by first | exact r _ _ | assumption | exact ⟨by omega, by omega⟩) (by first | exact r _ _ | assumption | exact ⟨by omega, by omega⟩) (fun c_20 => ?_) (fun c_20 => ?_)
          ·
            refine V_iinc1 G dX7_hashesParts_43 rfl ?_
            refine V_goto G dX7_hashesParts_46 (tgt := 6) (by decide) ?_
            exact ihO (w + 1) _ _ (by omega) (by omega) (by rw [← hsO, ptF, ← hs]; rfl)
          · omega
        | succ m ih =>
          intro k a hm_ hk0 hs
          refine V_iload2 G dX7_hashesParts_18 ?_
          refine V_iconst G dX7_hashesParts_19 ?_
          refine V_icmpge G dX7_hashesParts_20 (tgt := 43) (by decide) (by first | exact r _ _ | assumption | exact ⟨by omega, by omega⟩) (by first | exact r _ _ | assumption | exact ⟨by omega, by omega⟩) (fun c_20 => ?_) (fun c_20 => ?_)
          · omega
          ·
            refine V_aload0 G dX7_hashesParts_23 ?_
            refine V_aload0 G dX7_hashesParts_24 ?_
            refine V_iconst G dX7_hashesParts_25 ?_
            refine V_iload1 G dX7_hashesParts_26 ?_
            refine V_iconst G dX7_hashesParts_27 ?_
            refine V_iadd G dX7_hashesParts_28 ?_
            refine V_iload2 G dX7_hashesParts_29 ?_
            refine V_cV3i (d1 := 2) G m_X7_265 dX7_hashesParts_30 (by first | decide | assumption) (by first | rfl | assumption) (c_X7_partOf hn0 uf (by omega) (by omega) (by omega) ⟨hk0, by omega⟩) (by omega) (by omega) (by omega) (Nat.le_of_ble_eq_true rfl) (fun x_30 h_30 hp_30 => ?_)
            rw [hp_30.1, hp_30.2]
            refine V_i2l_ G dX7_hashesParts_33 ?_
            refine V_cV1v (d1 := 1) G m_X7_284 dX7_hashesParts_34 (by first | decide | assumption) (by first | rfl | assumption) (c_X7_hashes) (by omega) (by omega) (by omega) (Nat.le_of_ble_eq_true rfl) (fun h_34 hp_34 => ?_)
            rw [hp_34, sL_sL, show hL (sL f 77 25 a) 77 25 = a by rw [hL_sL, if_pos ⟨rfl, rfl⟩]]
            refine V_iinc2 G dX7_hashesParts_37 rfl ?_
            refine V_goto G dX7_hashesParts_40 (tgt := 18) (by decide) ?_
            exact ih (k + 1) _ (by omega) (by omega) (by rw [← hs, hF]; first | done | rfl)
      refine V_iload1 G dX7_hashesParts_6 ?_
      refine V_aload0 G dX7_hashesParts_7 ?_
      refine V_getR G fl_X7_7 dX7_hashesParts_8 (by first | decide | assumption) (by first | rfl | assumption) rfl (by first | rfl | assumption) ?_
      refine V_iconst G dX7_hashesParts_11 ?_
      refine V_ialde G dX7_hashesParts_12 (by first | decide | assumption) (by first | rfl | assumption) (by decide) ⟨by omega, by omega⟩ (by first | (simp only [hI_sI, hI_sL, hL_sI, hL_sL, false_and, true_and, and_false, and_true, and_self, if_false, if_true, hfn]; first | done | rfl) | rfl) ?_
      refine V_icmpge G dX7_hashesParts_13 (tgt := 49) (by decide) (by first | exact r _ _ | assumption | exact ⟨by omega, by omega⟩) (by first | exact r _ _ | assumption | exact ⟨by omega, by omega⟩) (fun c_13 => ?_) (fun c_13 => ?_)
      · omega
      ·
        refine V_iconst G dX7_hashesParts_16 ?_
        refine V_istore2 G dX7_hashesParts_17 rfl ?_
        exact inn 5 0 _ (by omega) (by omega) rfl
  refine V_aload0 G dX7_hashesParts_0 ?_
  refine V_cV0v (d1 := 5) G m_X7_184 dX7_hashesParts_1 (by first | decide | assumption) (by first | rfl | assumption) (c_X7_laysSpans r hn hn0 hk) (by omega) (by omega) (by omega) (Nat.le_of_ble_eq_true rfl) (fun h_1 hp_1 => ?_)
  obtain ⟨v1, v2, v3⟩ := hp_1
  refine V_iconst G dX7_hashesParts_4 ?_
  refine V_istore1 G dX7_hashesParts_5 rfl ?_
  have e9 : sL h_1 77 25 (hL h_1 77 25) = h_1 := by
    unfold sL
    have : u2 h_1.2.1 77 25 (hL h_1 77 25) = h_1.2.1 := by
      funext a b
      show (if a = 77 ∧ b = 25 then hL h_1 77 25 else h_1.2.1 a b) = _
      split
      · next z => rw [z.1, z.2]; rfl
      · rfl
    rw [this]
  rw [← e9]
  exact out h_1 v1 v2 v3 n.toNat 0 _ _ (by omega) (by omega) (by rw [v1.2.1])


/-- within a digest: the reference's cells, as they were laid -/
def DG (g : Sg) (h f : Hp) (a : Int64) : Prop := Rg f ∧ RepM g f ∧ LaidM g.1 f ∧ eqy SM h f ∧ hI f 77 0 = 0 ∧ hL f 77 25 = a
theorem DG.st {g : Sg} {h f : Hp} {a v : Int64} (d : DG g h f a) : DG g h (sL f 77 25 (31 * hL f 77 25 + v)) (31 * a + v) := by
  obtain ⟨d1, d2, d3, d4, d5, d6⟩ := d
  exact ⟨d1, d2.eq (fun _ _ _ => rfl), d3.eq (fun _ _ _ => rfl), d4.sl, d5, by rw [hL_sL, if_pos ⟨rfl, rfl⟩, d6]⟩
theorem DG.dp {g : Sg} {h f f1 : Hp} {a : Int64} (d : DG g h f a) (e : eqx SDP f f1) (r : Rg f1) : DG g h f1 a := by
  obtain ⟨d1, d2, d3, d4, d5, d6⟩ := d
  exact ⟨r, d2.sdp e, d3.eq (fun q j z => e.1 q j (by unfold SDP; simp; omega)), d4.tr (SDP_SM e).y, (e.1 77 0 rfl).trans d5, by rw [e.2.1]; exact d6⟩
noncomputable def dg1 (g : Sg) : Int64 := hF (fun q => z2l (cntS g q)) 9 0 3407
noncomputable def dg2 (g : Sg) : Int64 := hF (fun k => z2l (wordS g.1 (k / 8) (k % 8))) (8 * nS g.1).toNat 0 (dg1 g)
noncomputable def dg3 (g : Sg) : Int64 := hF (fun k => z2l (readS g.1 (k / 6) (k % 6))) (min (6 * ((lfS g.1).length : Int)) 60).toNat 0 (dg2 g)
noncomputable def dg4 (g : Sg) : Int64 := ptF (kdS g.1) (nS g.1).toNat 0 (dg3 g)
noncomputable def dg5 (g : Sg) : Int64 := 31 * (31 * (31 * dg4 g + z2l (askS g.1)) + z2l (addS g.1)) + (shS g.1).toInt64
def slB (s : Option Cs) : Int64 := match s with
  | none => 0
  | some _ => 1
noncomputable def dg6 (g : Sg) : Int64 := 31 * (31 * (31 * dg5 g + slB g.2.2.1) + slB g.2.2.2.1) + z2l g.2.2.2.2.length
noncomputable def digS (g : Sg) : Int64 := hF (fun k => z2l (lfA g.2.2.2.2 k)) g.2.2.2.2.length 0 (dg6 g)
theorem slB_at {h : Hp} {k : Int} {s : Option Cs} (a : sAt h k s) : (hI h 81 k = 0 ∧ slB s = 0) ∨ (hI h 81 k = 1 ∧ slB s = 1) := by
  cases s with
  | none => exact Or.inl ⟨a, rfl⟩
  | some c => exact Or.inr ⟨a.1, rfl⟩


theorem rd_buf {g : Sg} {h : Hp} (R : RepM g h) {k : Int} (h0 : 0 ≤ k) (h1 : k < g.2.2.2.2.length) : hI h 82 k = lfA g.2.2.2.2 k := by
  obtain ⟨z, hz⟩ : ∃ z, g.2.2.2.2[k.toNat]? = some z := ⟨_, List.getElem?_eq_getElem (by omega)⟩
  have := R.2.2.2.2.2.2 k.toNat z hz
  rw [show ((k.toNat : Nat) : Int) = k by omega] at this
  rw [this]
  unfold lfA
  rw [hz]
  rfl

set_option maxRecDepth 100000 in
set_option maxHeartbeats 2000000 in
theorem c_X7_digest {l : Launch} {d : Nat} {h : Hp} (r : Rg h) {g : Sg} (T : RdsOk) (R : RepM g h) (I : okS g.1) (hl6 : g.2.2.2.2.length ≤ 20) (hd : 14 ≤ d := by omega) : CP l d 0 0 yX7_digest cX7_digest 2 (Option.some Jvm.ClassFile.FieldType.long) [.ref 77] h (pL fun x h1 => x = digS g ∧ eqy SM h h1 ∧ Rg h1 ∧ RepM g h1 ∧ hI h1 77 0 = 0) := by
  refine CP.ofV (L := [some (.ref 77), none]) RX7 (by decide +kernel) rfl (Nat.le_of_ble_eq_true rfl) rfl (fun X hX G E => ?_)
  subst hX
  have r0 : Rg (sI h 77 0 0) := r.sI ⟨by decide, by decide⟩
  have R0 : RepM g (sI h 77 0 0) := R.thr
  have e0 : eqx SM h (sI h 77 0 0) := eqx.rf.st rfl
  have hn0 := I.1
  have hA := AS_le T I
  have st5 : ∀ (m : Nat) (k : Int) (f : Hp) (a : Int64), k + m = (g.2.2.2.2.length : Int) → 0 ≤ k → DG g h f a → hF (fun k => z2l (lfA g.2.2.2.2 k)) m k a = digS g → V X 0 0 200 [some (.ref 77), some (.int (Int32.ofInt k))] [] f := by
    intro m
    induction m with
    | zero =>
      intro k f a hm_ hk0 hd_ hs
      have r := hd_.1
      have hfn := hd_.2.1.n
      obtain ⟨y1, y2, y3⟩ := lfS_at T I hd_.2.2.1
      have hf7 := hd_.2.1.2.2.2.2.2.1
      refine V_iload1 G dX7_digest_200 ?_
      refine V_aload0 G dX7_digest_201 ?_
      refine V_getIe (jz := 7) G fl_X7_211 dX7_digest_202 (by first | decide | assumption) (by first | rfl | assumption) rfl rfl (by first | (simp only [hI_sI, hI_sL, hL_sI, hL_sL, false_and, true_and, and_false, and_true, and_self, if_false, if_true, hf7]; first | done | rfl) | rfl) ?_
      refine V_icmpge G dX7_digest_205 (tgt := 225) (by decide) (by first | exact r _ _ | assumption | exact ⟨by omega, by omega⟩) (by first | exact r _ _ | assumption | exact ⟨by omega, by omega⟩) (fun c_205 => ?_) (fun c_205 => ?_)
      ·
        refine V_aload0 G dX7_digest_225 ?_
        refine V_getLe (jz := 25) G fl_X7_280 dX7_digest_226 (by first | decide | assumption) (by first | rfl | assumption) rfl rfl (by first | (simp only [hI_sI, hI_sL, hL_sI, hL_sL, false_and, true_and, and_false, and_true, and_self, if_false, if_true]; first | done | rfl) | rfl) ?_
        exact V_retl E dX7_digest_229 rfl ⟨_, rfl, ⟨by rw [hd_.2.2.2.2.2, ← hs]; rfl, hd_.2.2.2.1, hd_.1, hd_.2.1, hd_.2.2.2.2.1⟩⟩
      · omega
    | succ m ih =>
      intro k f a hm_ hk0 hd_ hs
      have r := hd_.1
      have hfn := hd_.2.1.n
      obtain ⟨y1, y2, y3⟩ := lfS_at T I hd_.2.2.1
      have hf7 := hd_.2.1.2.2.2.2.2.1
      refine V_iload1 G dX7_digest_200 ?_
      refine V_aload0 G dX7_digest_201 ?_
      refine V_getIe (jz := 7) G fl_X7_211 dX7_digest_202 (by first | decide | assumption) (by first | rfl | assumption) rfl rfl (by first | (simp only [hI_sI, hI_sL, hL_sI, hL_sL, false_and, true_and, and_false, and_true, and_self, if_false, if_true, hf7]; first | done | rfl) | rfl) ?_
      refine V_icmpge G dX7_digest_205 (tgt := 225) (by decide) (by first | exact r _ _ | assumption | exact ⟨by omega, by omega⟩) (by first | exact r _ _ | assumption | exact ⟨by omega, by omega⟩) (fun c_205 => ?_) (fun c_205 => ?_)
      · omega
      ·
        refine V_aload0 G dX7_digest_208 ?_
        refine V_aload0 G dX7_digest_209 ?_
        refine V_getR G fl_X7_23 dX7_digest_210 (by first | decide | assumption) (by first | rfl | assumption) rfl (by first | rfl | assumption) ?_
        refine V_iload1 G dX7_digest_213 ?_
        refine V_ialde G dX7_digest_214 (by first | decide | assumption) (by first | rfl | assumption) (by decide) ⟨by omega, by omega⟩ (rd_buf hd_.2.1 hk0 (by omega)) ?_
        refine V_i2l_ G dX7_digest_215 ?_
        refine V_cV1v (d1 := 1) G m_X7_284 dX7_digest_216 (by first | decide | assumption) (by first | rfl | assumption) (c_X7_hashes) (by omega) (by omega) (by omega) (Nat.le_of_ble_eq_true rfl) (fun h_216 hp_216 => ?_)
        rw [hp_216]
        have hd_ := hd_.st (v := z2l (lfA g.2.2.2.2 k))
        refine V_iinc1 G dX7_digest_219 rfl ?_
        refine V_goto G dX7_digest_222 (tgt := 200) (by decide) ?_
        exact ih (k + 1) _ _ (by omega) (by omega) hd_ (by rw [← hs, hF]; first | done | rfl)
  have st4b : ∀ (f : Hp) (a1 : Option Value), DG g h f (dg5 g) → V X 0 0 153 [some (.ref 77), a1] [] f := by
    intro f a1 hd_
    have b0 := slB_at hd_.2.1.2.2.2.1
    have b1 := slB_at hd_.2.1.2.2.2.2.1
    have hf7 := hd_.2.1.2.2.2.2.2.1
    have j1 : ∀ (f : Hp) (b : Int64), DG g h f (31 * (31 * dg5 g + slB g.2.2.1) + b) → b = slB g.2.2.2.1 → V X 0 0 189 [some (.ref 77), a1] [] f := by
      intro f b hd_ eb
      subst eb
      have r := hd_.1
      have hf7 := hd_.2.1.2.2.2.2.2.1
      refine V_aload0 G dX7_digest_189 ?_
      refine V_aload0 G dX7_digest_190 ?_
      refine V_getIe (jz := 7) G fl_X7_211 dX7_digest_191 (by first | decide | assumption) (by first | rfl | assumption) rfl rfl (by first | (simp only [hI_sI, hI_sL, hL_sI, hL_sL, false_and, true_and, and_false, and_true, and_self, if_false, if_true, hf7]; first | done | rfl) | rfl) ?_
      refine V_i2l_ G dX7_digest_194 ?_
      refine V_cV1v (d1 := 1) G m_X7_284 dX7_digest_195 (by first | decide | assumption) (by first | rfl | assumption) (c_X7_hashes) (by omega) (by omega) (by omega) (Nat.le_of_ble_eq_true rfl) (fun h_195 hp_195 => ?_)
      rw [hp_195]
      have hd_ := hd_.st (v := z2l g.2.2.2.2.length)
      refine V_iconst G dX7_digest_198 ?_
      refine V_istore1 G dX7_digest_199 rfl ?_
      exact st5 g.2.2.2.2.length 0 _ _ (by omega) (by omega) hd_ rfl
    have j0 : ∀ (f : Hp) (b : Int64), DG g h f (31 * dg5 g + b) → b = slB g.2.2.1 → (hI f 81 1 = 0 ∧ slB g.2.2.2.1 = 0) ∨ (hI f 81 1 = 1 ∧ slB g.2.2.2.1 = 1) → V X 0 0 171 [some (.ref 77), a1] [] f := by
      intro f b hd_ eb b1
      subst eb
      have r := hd_.1
      refine V_aload0 G dX7_digest_171 ?_
      refine V_aload0 G dX7_digest_172 ?_
      refine V_getR G fl_X7_19 dX7_digest_173 (by first | decide | assumption) (by first | rfl | assumption) rfl (by first | rfl | assumption) ?_
      refine V_iconst G dX7_digest_176 ?_
      refine V_zalde G dX7_digest_177 (by first | decide | assumption) (by first | rfl | assumption) (by decide) ⟨by omega, by omega⟩ (by first | (simp only [hI_sI, hI_sL, hL_sI, hL_sL, false_and, true_and, and_false, and_true, and_self, if_false, if_true]; first | done | rfl) | rfl) ?_
      refine V_ifeq G dX7_digest_178 (tgt := 185) (by decide) (r _ _) (fun c_178 => ?_) (fun c_178 => ?_)
      ·
        refine V_lconst G dX7_digest_185 rfl ?_
        refine V_cV1v (d1 := 1) G m_X7_284 dX7_digest_186 (by first | decide | assumption) (by first | rfl | assumption) (c_X7_hashes) (by omega) (by omega) (by omega) (Nat.le_of_ble_eq_true rfl) (fun h_186 hp_186 => ?_)
        rw [hp_186]
        first
        | exact j1 _ _ (hd_.st (v := _)) (b1.elim (fun q => q.2.symm) (fun q => absurd (c_178.symm.trans q.1) (by decide)))
        | exact j1 _ _ (hd_.st (v := _)) (b1.elim (fun q => absurd q.1 c_178) (fun q => q.2.symm))
      ·
        refine V_lconst G dX7_digest_181 rfl ?_
        refine V_goto G dX7_digest_182 (tgt := 186) (by decide) ?_
        refine V_cV1v (d1 := 1) G m_X7_284 dX7_digest_186 (by first | decide | assumption) (by first | rfl | assumption) (c_X7_hashes) (by omega) (by omega) (by omega) (Nat.le_of_ble_eq_true rfl) (fun h_186 hp_186 => ?_)
        rw [hp_186]
        first
        | exact j1 _ _ (hd_.st (v := _)) (b1.elim (fun q => q.2.symm) (fun q => absurd (c_178.symm.trans q.1) (by decide)))
        | exact j1 _ _ (hd_.st (v := _)) (b1.elim (fun q => absurd q.1 c_178) (fun q => q.2.symm))
    have r := hd_.1
    refine V_aload0 G dX7_digest_153 ?_
    refine V_aload0 G dX7_digest_154 ?_
    refine V_getR G fl_X7_19 dX7_digest_155 (by first | decide | assumption) (by first | rfl | assumption) rfl (by first | rfl | assumption) ?_
    refine V_iconst G dX7_digest_158 ?_
    refine V_zalde G dX7_digest_159 (by first | decide | assumption) (by first | rfl | assumption) (by decide) ⟨by omega, by omega⟩ (by first | (simp only [hI_sI, hI_sL, hL_sI, hL_sL, false_and, true_and, and_false, and_true, and_self, if_false, if_true]; first | done | rfl) | rfl) ?_
    refine V_ifeq G dX7_digest_160 (tgt := 167) (by decide) (r _ _) (fun c_160 => ?_) (fun c_160 => ?_)
    ·
      refine V_lconst G dX7_digest_167 rfl ?_
      refine V_cV1v (d1 := 1) G m_X7_284 dX7_digest_168 (by first | decide | assumption) (by first | rfl | assumption) (c_X7_hashes) (by omega) (by omega) (by omega) (Nat.le_of_ble_eq_true rfl) (fun h_168 hp_168 => ?_)
      rw [hp_168]
      first
      | exact j0 _ _ (hd_.st (v := _)) (b0.elim (fun q => q.2.symm) (fun q => absurd (c_160.symm.trans q.1) (by decide))) b1
      | exact j0 _ _ (hd_.st (v := _)) (b0.elim (fun q => absurd q.1 c_160) (fun q => q.2.symm)) b1
    ·
      refine V_lconst G dX7_digest_163 rfl ?_
      refine V_goto G dX7_digest_164 (tgt := 168) (by decide) ?_
      refine V_cV1v (d1 := 1) G m_X7_284 dX7_digest_168 (by first | decide | assumption) (by first | rfl | assumption) (c_X7_hashes) (by omega) (by omega) (by omega) (Nat.le_of_ble_eq_true rfl) (fun h_168 hp_168 => ?_)
      rw [hp_168]
      first
      | exact j0 _ _ (hd_.st (v := _)) (b0.elim (fun q => q.2.symm) (fun q => absurd (c_160.symm.trans q.1) (by decide))) b1
      | exact j0 _ _ (hd_.st (v := _)) (b0.elim (fun q => absurd q.1 c_160) (fun q => q.2.symm)) b1
  have st4 : ∀ (f : Hp) (a1 : Option Value), DG g h f (dg3 g) → V X 0 0 120 [some (.ref 77), a1] [] f := by
    intro f a1 hd_
    have hfn := hd_.2.1.n
    refine V_aload0 G dX7_digest_120 ?_
    refine V_cV0v (d1 := 6) G m_X7_290 dX7_digest_121 (by first | decide | assumption) (by first | rfl | assumption) (c_X7_hashesParts hd_.1 hfn hn0 (hd_.2.1.hk I)) (by omega) (by omega) (by omega) (Nat.le_of_ble_eq_true rfl) (fun h_121 hp_121 => ?_)
    obtain ⟨p1, p2, p3⟩ := hp_121
    have hd_ : DG g h h_121 (dg4 g) := ⟨p2, hd_.2.1.eq (fun q j z => p1.1 q j (by unfold SDP; simp; omega)), hd_.2.2.1.eq (fun q j z => p1.1 q j (by unfold SDP; simp; omega)), hd_.2.2.2.1.tr ⟨fun q j z => p1.1 q j (by simp [SM] at z; simp [SDP]; omega), p1.2⟩, (p1.1 77 0 rfl).trans hd_.2.2.2.2.1, by rw [p3, hd_.2.2.2.2.2]; rfl⟩
    refine V_aload0 G dX7_digest_124 ?_
    refine V_aload0 G dX7_digest_125 ?_
    refine V_cV0i (d1 := 4) G m_X7_268 dX7_digest_126 (by first | decide | assumption) (by first | rfl | assumption) (c_X7_asked hd_.1 T hd_.2.1 I hd_.2.2.1) (by omega) (by omega) (by omega) (Nat.le_of_ble_eq_true rfl) (fun x_126 h_126 hp_126 => ?_)
    rw [hp_126.1, hp_126.2]
    refine V_i2l_ G dX7_digest_129 ?_
    refine V_cV1v (d1 := 1) G m_X7_284 dX7_digest_130 (by first | decide | assumption) (by first | rfl | assumption) (c_X7_hashes) (by omega) (by omega) (by omega) (Nat.le_of_ble_eq_true rfl) (fun h_130 hp_130 => ?_)
    rw [hp_130]
    have hd_ := hd_.st (v := z2l (askS g.1))
    refine V_aload0 G dX7_digest_133 ?_
    refine V_aload0 G dX7_digest_134 ?_
    refine V_cV0i (d1 := 7) G m_X7_271 dX7_digest_135 (by first | decide | assumption) (by first | rfl | assumption) (c_X7_addable hd_.1 hd_.2.1 I) (by omega) (by omega) (by omega) (Nat.le_of_ble_eq_true rfl) (fun x_135 h_135 hp_135 => ?_)
    obtain ⟨p1, p2, p3⟩ := hp_135
    rw [p1]
    have hd_ := hd_.dp p2 p3
    refine V_i2l_ G dX7_digest_138 ?_
    refine V_cV1v (d1 := 1) G m_X7_284 dX7_digest_139 (by first | decide | assumption) (by first | rfl | assumption) (c_X7_hashes) (by omega) (by omega) (by omega) (Nat.le_of_ble_eq_true rfl) (fun h_139 hp_139 => ?_)
    rw [hp_139]
    have hd_ := hd_.st (v := z2l (addS g.1))
    refine V_aload0 G dX7_digest_142 ?_
    refine V_aload0 G dX7_digest_143 ?_
    refine V_cV0d (d1 := 5) G m_X7_274 dX7_digest_144 (by first | decide | assumption) (by first | rfl | assumption) (c_X7_sure hd_.1 T hd_.2.1 I hd_.2.2.1) (by omega) (by omega) (by omega) (Nat.le_of_ble_eq_true rfl) (fun x_144 h_144 hp_144 => ?_)
    rw [hp_144.1, hp_144.2]
    refine V_cS1l (d1 := 13) G m_X7_293 dX7_digest_147 (c_Jxe99ae_doubleToLongBits_ccdee (shS_e hn0)) (by omega) (by omega) (by omega) (Nat.le_of_ble_eq_true rfl) (fun x_147 h_147 hp_147 => ?_)
    rw [hp_147.1, hp_147.2]
    refine V_cV1v (d1 := 1) G m_X7_284 dX7_digest_150 (by first | decide | assumption) (by first | rfl | assumption) (c_X7_hashes) (by omega) (by omega) (by omega) (Nat.le_of_ble_eq_true rfl) (fun h_150 hp_150 => ?_)
    rw [hp_150]
    have hd_ := hd_.st (v := (shS g.1).toInt64)
    exact st4b _ _ hd_
  have st3 : ∀ (m : Nat) (k : Int) (f : Hp) (a : Int64), k + m = min (6 * ((lfS g.1).length : Int)) 60 → 0 ≤ k → DG g h f a → hF (fun k => z2l (readS g.1 (k / 6) (k % 6))) m k a = dg3 g → V X 0 0 80 [some (.ref 77), some (.int (Int32.ofInt k))] [] f := by
    intro m
    induction m with
    | zero =>
      intro k f a hm_ hk0 hd_ hs
      have r := hd_.1
      have hfn := hd_.2.1.n
      obtain ⟨y1, y2, y3⟩ := lfS_at T I hd_.2.2.1
      have hf7 := hd_.2.1.2.2.2.2.2.1
      refine V_iload1 G dX7_digest_80 ?_
      refine V_bipush G dX7_digest_81 (by decide) ?_
      refine V_aload0 G dX7_digest_83 ?_
      refine V_getIe (jz := 18) G fl_X7_142 dX7_digest_84 (by first | decide | assumption) (by first | rfl | assumption) rfl rfl (by first | (simp only [hI_sI, hI_sL, hL_sI, hL_sL, false_and, true_and, and_false, and_true, and_self, if_false, if_true, y2]; first | done | rfl) | rfl) ?_
      refine V_imul G dX7_digest_87 ?_
      refine V_icmpge G dX7_digest_88 (tgt := 120) (by decide) ⟨by omega, by omega⟩ ⟨by omega, by omega⟩ (fun c_88 => ?_) (fun c_88 => ?_)
      ·
        have ea : a = dg3 g := hs
        rw [ea] at hd_
        exact st4 _ _ hd_
      ·
        refine V_iload1 G dX7_digest_91 ?_
        refine V_bipush G dX7_digest_92 (by decide) ?_
        refine V_icmpge G dX7_digest_94 (tgt := 120) (by decide) (by first | exact r _ _ | assumption | exact ⟨by omega, by omega⟩) (by first | exact r _ _ | assumption | exact ⟨by omega, by omega⟩) (fun c_94 => ?_) (fun c_94 => ?_)
        ·
          have ea : a = dg3 g := hs
          rw [ea] at hd_
          exact st4 _ _ hd_
        · omega
    | succ m ih =>
      intro k f a hm_ hk0 hd_ hs
      have r := hd_.1
      have hfn := hd_.2.1.n
      obtain ⟨y1, y2, y3⟩ := lfS_at T I hd_.2.2.1
      have hf7 := hd_.2.1.2.2.2.2.2.1
      refine V_iload1 G dX7_digest_80 ?_
      refine V_bipush G dX7_digest_81 (by decide) ?_
      refine V_aload0 G dX7_digest_83 ?_
      refine V_getIe (jz := 18) G fl_X7_142 dX7_digest_84 (by first | decide | assumption) (by first | rfl | assumption) rfl rfl (by first | (simp only [hI_sI, hI_sL, hL_sI, hL_sL, false_and, true_and, and_false, and_true, and_self, if_false, if_true, y2]; first | done | rfl) | rfl) ?_
      refine V_imul G dX7_digest_87 ?_
      refine V_icmpge G dX7_digest_88 (tgt := 120) (by decide) ⟨by omega, by omega⟩ ⟨by omega, by omega⟩ (fun c_88 => ?_) (fun c_88 => ?_)
      · omega
      ·
        refine V_iload1 G dX7_digest_91 ?_
        refine V_bipush G dX7_digest_92 (by decide) ?_
        refine V_icmpge G dX7_digest_94 (tgt := 120) (by decide) (by first | exact r _ _ | assumption | exact ⟨by omega, by omega⟩) (by first | exact r _ _ | assumption | exact ⟨by omega, by omega⟩) (fun c_94 => ?_) (fun c_94 => ?_)
        · omega
        ·
          refine V_aload0 G dX7_digest_97 ?_
          refine V_aload0 G dX7_digest_98 ?_
          refine V_iload1 G dX7_digest_99 ?_
          refine V_bipush G dX7_digest_100 (by decide) ?_
          refine V_idiv G dX7_digest_102 ⟨by omega, by omega⟩ ⟨by decide, by decide⟩ ?_
          refine V_iload1 G dX7_digest_103 ?_
          refine V_bipush G dX7_digest_104 (by decide) ?_
          refine V_irem G dX7_digest_106 ⟨by omega, by omega⟩ ⟨by decide, by decide⟩ ?_
          refine V_cV2i (d1 := 6) G m_X7_249 dX7_digest_107 (by first | decide | assumption) (by first | rfl | assumption) (c_X7_tellsReading hd_.1 T hd_.2.1 I hd_.2.2.1 (p := k / 6) (q := k % 6) (by omega) (by omega)) (by omega) (by omega) (by omega) (Nat.le_of_ble_eq_true rfl) (fun x_107 h_107 hp_107 => ?_)
          rw [hp_107.1, hp_107.2]
          refine V_i2l_ G dX7_digest_110 ?_
          refine V_cV1v (d1 := 1) G m_X7_284 dX7_digest_111 (by first | decide | assumption) (by first | rfl | assumption) (c_X7_hashes) (by omega) (by omega) (by omega) (Nat.le_of_ble_eq_true rfl) (fun h_111 hp_111 => ?_)
          rw [hp_111]
          have hd_ := hd_.st (v := z2l (readS g.1 (k / 6) (k % 6)))
          refine V_iinc1 G dX7_digest_114 rfl ?_
          refine V_goto G dX7_digest_117 (tgt := 80) (by decide) ?_
          exact ih (k + 1) _ _ (by omega) (by omega) hd_ (by rw [← hs, hF]; first | done | rfl)
  have st2 : ∀ (m : Nat) (k : Int) (f : Hp) (a : Int64), k + m = 8 * nS g.1 → 0 ≤ k → DG g h f a → hF (fun k => z2l (wordS g.1 (k / 8) (k % 8))) m k a = dg2 g → V X 0 0 42 [some (.ref 77), some (.int (Int32.ofInt k))] [] f := by
    intro m
    induction m with
    | zero =>
      intro k f a hm_ hk0 hd_ hs
      have r := hd_.1
      have hfn := hd_.2.1.n
      obtain ⟨y1, y2, y3⟩ := lfS_at T I hd_.2.2.1
      have hf7 := hd_.2.1.2.2.2.2.2.1
      refine V_iload1 G dX7_digest_42 ?_
      refine V_bipush G dX7_digest_43 (by decide) ?_
      refine V_aload0 G dX7_digest_45 ?_
      refine V_getR G fl_X7_7 dX7_digest_46 (by first | decide | assumption) (by first | rfl | assumption) rfl (by first | rfl | assumption) ?_
      refine V_iconst G dX7_digest_49 ?_
      refine V_ialde G dX7_digest_50 (by first | decide | assumption) (by first | rfl | assumption) (by decide) ⟨by omega, by omega⟩ (by first | (simp only [hI_sI, hI_sL, hL_sI, hL_sL, false_and, true_and, and_false, and_true, and_self, if_false, if_true, hfn]; first | done | rfl) | rfl) ?_
      refine V_imul G dX7_digest_51 ?_
      refine V_icmpge G dX7_digest_52 (tgt := 78) (by decide) (by first | exact r _ _ | assumption | exact ⟨by omega, by omega⟩) (by first | exact r _ _ | assumption | exact ⟨by omega, by omega⟩) (fun c_52 => ?_) (fun c_52 => ?_)
      ·
        refine V_iconst G dX7_digest_78 ?_
        refine V_istore1 G dX7_digest_79 rfl ?_
        have ea : a = dg2 g := hs
        rw [ea] at hd_
        exact st3 (min (6 * ((lfS g.1).length : Int)) 60).toNat 0 _ _ (by omega) (by omega) hd_ rfl
      · omega
    | succ m ih =>
      intro k f a hm_ hk0 hd_ hs
      have r := hd_.1
      have hfn := hd_.2.1.n
      obtain ⟨y1, y2, y3⟩ := lfS_at T I hd_.2.2.1
      have hf7 := hd_.2.1.2.2.2.2.2.1
      refine V_iload1 G dX7_digest_42 ?_
      refine V_bipush G dX7_digest_43 (by decide) ?_
      refine V_aload0 G dX7_digest_45 ?_
      refine V_getR G fl_X7_7 dX7_digest_46 (by first | decide | assumption) (by first | rfl | assumption) rfl (by first | rfl | assumption) ?_
      refine V_iconst G dX7_digest_49 ?_
      refine V_ialde G dX7_digest_50 (by first | decide | assumption) (by first | rfl | assumption) (by decide) ⟨by omega, by omega⟩ (by first | (simp only [hI_sI, hI_sL, hL_sI, hL_sL, false_and, true_and, and_false, and_true, and_self, if_false, if_true, hfn]; first | done | rfl) | rfl) ?_
      refine V_imul G dX7_digest_51 ?_
      refine V_icmpge G dX7_digest_52 (tgt := 78) (by decide) (by first | exact r _ _ | assumption | exact ⟨by omega, by omega⟩) (by first | exact r _ _ | assumption | exact ⟨by omega, by omega⟩) (fun c_52 => ?_) (fun c_52 => ?_)
      · omega
      ·
        refine V_aload0 G dX7_digest_55 ?_
        refine V_aload0 G dX7_digest_56 ?_
        refine V_iload1 G dX7_digest_57 ?_
        refine V_bipush G dX7_digest_58 (by decide) ?_
        refine V_idiv G dX7_digest_60 ⟨by omega, by omega⟩ ⟨by decide, by decide⟩ ?_
        refine V_iload1 G dX7_digest_61 ?_
        refine V_bipush G dX7_digest_62 (by decide) ?_
        refine V_irem G dX7_digest_64 ⟨by omega, by omega⟩ ⟨by decide, by decide⟩ ?_
        refine V_cV2i (d1 := 6) G m_X7_240 dX7_digest_65 (by first | decide | assumption) (by first | rfl | assumption) (c_X7_tellsWord hd_.1 T hd_.2.1 I hd_.2.2.1 (w := k / 8) (q := k % 8) (by omega) (by omega)) (by omega) (by omega) (by omega) (Nat.le_of_ble_eq_true rfl) (fun x_65 h_65 hp_65 => ?_)
        rw [hp_65.1, hp_65.2]
        refine V_i2l_ G dX7_digest_68 ?_
        refine V_cV1v (d1 := 1) G m_X7_284 dX7_digest_69 (by first | decide | assumption) (by first | rfl | assumption) (c_X7_hashes) (by omega) (by omega) (by omega) (Nat.le_of_ble_eq_true rfl) (fun h_69 hp_69 => ?_)
        rw [hp_69]
        have hd_ := hd_.st (v := z2l (wordS g.1 (k / 8) (k % 8)))
        refine V_iinc1 G dX7_digest_72 rfl ?_
        refine V_goto G dX7_digest_75 (tgt := 42) (by decide) ?_
        exact ih (k + 1) _ _ (by omega) (by omega) hd_ (by rw [← hs, hF]; first | done | rfl)
  have st1 : ∀ (m : Nat) (k : Int) (f : Hp) (a : Int64), k + m = 9 → 0 ≤ k → DG g h f a → hF (fun q => z2l (cntS g q)) m k a = dg1 g → V X 0 0 18 [some (.ref 77), some (.int (Int32.ofInt k))] [] f := by
    intro m
    induction m with
    | zero =>
      intro k f a hm_ hk0 hd_ hs
      have r := hd_.1
      have hfn := hd_.2.1.n
      obtain ⟨y1, y2, y3⟩ := lfS_at T I hd_.2.2.1
      have hf7 := hd_.2.1.2.2.2.2.2.1
      refine V_iload1 G dX7_digest_18 ?_
      refine V_bipush G dX7_digest_19 (by decide) ?_
      refine V_icmpge G dX7_digest_21 (tgt := 40) (by decide) (by first | exact r _ _ | assumption | exact ⟨by omega, by omega⟩) (by first | exact r _ _ | assumption | exact ⟨by omega, by omega⟩) (fun c_21 => ?_) (fun c_21 => ?_)
      ·
        refine V_iconst G dX7_digest_40 ?_
        refine V_istore1 G dX7_digest_41 rfl ?_
        have ea : a = dg1 g := hs
        rw [ea] at hd_
        exact st2 (8 * nS g.1).toNat 0 _ _ (by omega) (by omega) hd_ rfl
      · omega
    | succ m ih =>
      intro k f a hm_ hk0 hd_ hs
      have r := hd_.1
      have hfn := hd_.2.1.n
      obtain ⟨y1, y2, y3⟩ := lfS_at T I hd_.2.2.1
      have hf7 := hd_.2.1.2.2.2.2.2.1
      refine V_iload1 G dX7_digest_18 ?_
      refine V_bipush G dX7_digest_19 (by decide) ?_
      refine V_icmpge G dX7_digest_21 (tgt := 40) (by decide) (by first | exact r _ _ | assumption | exact ⟨by omega, by omega⟩) (by first | exact r _ _ | assumption | exact ⟨by omega, by omega⟩) (fun c_21 => ?_) (fun c_21 => ?_)
      · omega
      ·
        refine V_aload0 G dX7_digest_24 ?_
        refine V_aload0 G dX7_digest_25 ?_
        refine V_iload1 G dX7_digest_26 ?_
        refine V_cV1i (d1 := 7) G m_X7_262 dX7_digest_27 (by first | decide | assumption) (by first | rfl | assumption) (c_X7_tellsCount hd_.1 T hd_.2.1 I hd_.2.2.1 (q := k) ⟨hk0, by omega⟩) (by omega) (by omega) (by omega) (Nat.le_of_ble_eq_true rfl) (fun x_27 h_27 hp_27 => ?_)
        obtain ⟨p1, p2, p3⟩ := hp_27
        rw [p1]
        have hd_ := hd_.dp p2 p3
        refine V_i2l_ G dX7_digest_30 ?_
        refine V_cV1v (d1 := 1) G m_X7_284 dX7_digest_31 (by first | decide | assumption) (by first | rfl | assumption) (c_X7_hashes) (by omega) (by omega) (by omega) (Nat.le_of_ble_eq_true rfl) (fun h_31 hp_31 => ?_)
        rw [hp_31]
        have hd_ := hd_.st (v := z2l (cntS g k))
        refine V_iinc1 G dX7_digest_34 rfl ?_
        refine V_goto G dX7_digest_37 (tgt := 18) (by decide) ?_
        exact ih (k + 1) _ _ (by omega) (by omega) hd_ (by rw [← hs, hF]; first | done | rfl)
  refine V_aload0 G dX7_digest_0 ?_
  refine V_iconst G dX7_digest_1 ?_
  refine V_putI (jz := 0) G fw_X7_68 dX7_digest_2 (by first | decide | assumption) (by first | rfl | assumption) rfl rfl ?_
  refine V_aload0 G dX7_digest_5 ?_
  refine V_ldc2 G dX7_digest_6 k_X7_288 ?_
  refine V_putL (jz := 25) G fw_X7_280 dX7_digest_9 (by first | decide | assumption) (by first | rfl | assumption) rfl rfl ?_
  refine V_aload0 G dX7_digest_12 ?_
  refine V_cV0v (d1 := 6) G m_X7_187 dX7_digest_13 (by first | decide | assumption) (by first | rfl | assumption) (c_lays (h := sL (sI h 77 0 0) 77 25 3407) (g := g) r0 T (R0.eq (fun _ _ _ => rfl)) hn0 I.2.1) (by omega) (by omega) (by omega) (Nat.le_of_ble_eq_true rfl) (fun h_13 hp_13 => ?_)
  obtain ⟨v1, v2, v3, v4⟩ := hp_13
  have hd_ : DG g h h_13 3407 := ⟨v2, v4, v3, (e0.y.sl (v := 3407)).tr (Sl_SM v1).y, (v1.1 77 0 rfl).trans (show hI (sI h 77 0 0) 77 0 = 0 by simp [hI_sI]), by rw [v1.2.1, hL_sL, if_pos ⟨rfl, rfl⟩]⟩
  refine V_iconst G dX7_digest_16 ?_
  refine V_istore1 G dX7_digest_17 rfl ?_
  exact st1 9 0 _ _ (by omega) (by omega) hd_ rfl

end M22
