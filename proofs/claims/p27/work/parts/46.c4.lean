section C4
theorem openF_congr {f f' : Int → Int} {y : Int} : ∀ (m : Nat) (s : Int), (∀ j, j ≤ s → f j = f' j) → openF f y m s = openF f' y m s
  | 0, _, _ => rfl
  | m + 1, s, h => by
    rw [openF, openF, h s (by omega)]
    by_cases z : f' s < s
    · rw [if_pos z, openF_congr m (f' s) (fun j hj => h j (by omega))]
    · have e : ∀ g : Int → Int, openF g y m (-1) = false := fun g => by
        cases m with
        | zero => rfl
        | succ m => rw [openF, if_pos (by omega)]
      rw [if_neg z, e, e]
theorem joinedF_congr {ka f f' : Int → Int} {a : Int} : ∀ (m : Nat) (k : Int), (∀ j, k ≤ j → j < k + m → f j = f' j) → joinedF ka f a m k = joinedF ka f' a m k
  | 0, _, _ => rfl
  | m + 1, k, h => by rw [joinedF, joinedF, h k (by omega) (by omega), joinedF_congr m (k + 1) (fun j h1 h2 => h j (by omega) (by omega))]
theorem holdF_congr {ka f f' : Int → Int} {x w : Int} (hx : 0 ≤ x) (hxw : x < w) (h : ∀ j, j < w → f j = f' j) : holdF ka f x w = holdF ka f' x w := by
  unfold holdF
  rw [joinedF_congr _ _ (fun j h1 h2 => h j (by omega)), h x hxw]
theorem hangF_congr {ka : Int → Int} : ∀ (m : Nat) (w : Int) (f f' : Int → Int), (∀ j, (j < w ∨ w + m ≤ j ∨ ¬ (ka j = 3 ∨ ka j = 4 ∨ ka j = 5)) → f j = f' j) → hangF ka m w f = hangF ka m w f'
  | 0, w, f, f', h => by
    rw [hangF, hangF, show f = f' from funext fun j => h j (by omega)]
  | m + 1, w, f, f', h => by
    rw [hangF, hangF]
    split
    · rw [List.flatMap_def, List.flatMap_def]
      congr 1
      refine List.map_congr_left (fun x hx => ?_)
      have hx := List.mem_range.mp hx
      rw [openF_congr 12 (w - 1) (fun j hj => h j (by omega)), holdF_congr (f' := f') (by omega) (by omega) (fun j hj => h j (by omega))]
      rw [hangF_congr m (w + 1) (upH f w x) (upH f' w x) (fun j hj => by
        unfold upH
        split
        · rfl
        · exact h j (by omega))]
    · next z =>
      exact hangF_congr m (w + 1) f f' (fun j hj => by
        by_cases e : j = w
        · subst e
          exact h j (Or.inr (Or.inr z))
        · exact h j (by omega))


def fRes (n : Int) (ka : Int → Int) (x : Int) (h9 : Int → Int) (R : Option ((Int → Int) × Int)) : Prop := match R with
  | none => x = 0
  | some (a, b) => h9 = a ∧ x = bI (0 < n ∧ b = -1 ∧ (ka (n - 1) = 0 ∨ ka (n - 1) = 1 ∨ ka (n - 1) = 3))
/-- as eqx, some longs left aside too -/
def eqw (S : Nat → Int → Bool) (L : Nat → Bool) (h h1 : Hp) : Prop := (∀ a j, S a j = false → hI h1 a j = hI h a j) ∧ (∀ a j, L a = false → hL h1 a j = hL h a j) ∧ hR h1 = hR h
theorem eqw.rf {S : Nat → Int → Bool} {L : Nat → Bool} {h : Hp} : eqw S L h h := ⟨fun _ _ _ => rfl, fun _ _ _ => rfl, rfl⟩
theorem eqw.tr {S : Nat → Int → Bool} {L : Nat → Bool} {h h1 h2 : Hp} (a : eqw S L h h1) (b : eqw S L h1 h2) : eqw S L h h2 := ⟨fun q j e => (b.1 q j e).trans (a.1 q j e), fun q j e => (b.2.1 q j e).trans (a.2.1 q j e), b.2.2.trans a.2.2⟩
theorem eqw.st {S : Nat → Int → Bool} {L : Nat → Bool} {h h1 : Hp} {q : Nat} {j v : Int} (a : eqw S L h h1) (b : S q j = true) : eqw S L h (sI h1 q j v) := ⟨fun q2 j2 e => by
  rw [hI_sI]
  split
  · next z => rw [z.1, z.2, b] at e; cases e
  · exact a.1 q2 j2 e, a.2.1, a.2.2⟩
theorem eqw.sl {S : Nat → Int → Bool} {L : Nat → Bool} {h h1 : Hp} {q : Nat} {j : Int} {v : Int64} (a : eqw S L h h1) (b : L q = true) : eqw S L h (sL h1 q j v) := ⟨a.1, fun q2 j2 e => by
  rw [hL_sL]
  split
  · next z => rw [z.1, b] at e; cases e
  · exact a.2.1 q2 j2 e, a.2.2⟩
theorem eqx.w {S S' : Nat → Int → Bool} {L : Nat → Bool} {h h1 : Hp} (a : eqx S h h1) (b : ∀ q j, S' q j = false → S q j = false) : eqw S' L h h1 := ⟨fun q j e => a.1 q j (b q j e), fun q j _ => by rw [a.2.1], a.2.2⟩
def SR (q a : Nat) (j : Int) : Bool := (a == q && (j == 1 || j == 4)) || a == q + 2 || a == q + 3
def LR (q a : Nat) : Bool := a == q + 1
/-- the readings that are told so far -/
def CdC (h : Hp) (q : Nat) (n : Int) (L : List (Int → Int)) : Prop := hI h q 1 = L.length ∧ ∀ (i : Nat) (f : Int → Int), L[i]? = some f → hL h (q + 1) i = cdF f n.toNat 0 0
theorem CdC.set {h : Hp} {q : Nat} {n : Int} {L : List (Int → Int)} (c : CdC h q n L) {w v : Int} : CdC (sI h (q + 3) w v) q n L := ⟨by rw [hI_sI, if_neg (by omega)]; exact c.1, c.2⟩
noncomputable def rdsH (ka : Int → Int) (n : Int) (h0 : Int → Int) : List (Int → Int) := match forcF ka n.toNat 0 (-1) (-1) h0 with
  | none => []
  | some (hd, sub) => if 0 < n ∧ sub = -1 ∧ (ka (n - 1) = 0 ∨ ka (n - 1) = 1 ∨ ka (n - 1) = 3) then hangF ka n.toNat 0 hd else []
theorem rds_H {kd : Int → Int} {n : Int} : rds kd n = rdsH (kAt kd n) n (fun _ => 0) := rfl
theorem RdX.noS {h h1 : Hp} {q : Nat} {n : Int} {ka hd : Int → Int} (x : RdX h q n ka hd) (r : Rg h1) (e : ∀ a j, (a = q ∧ j = 4) ∨ a = q + 2 ∨ a = q + 3 → hI h1 a j = hI h a j) : RdX h1 q n ka hd := by
  obtain ⟨x1, x2, x3, x4, x5, x6⟩ := x
  refine ⟨r, (e q 4 (by omega)).trans x2, x3, fun w => ?_, fun j => (e _ _ (by omega)).trans (x5 j), x6⟩
  rw [← x4 w]
  congr 1
  funext z
  exact e _ _ (by omega)
theorem adj_lt {ka : Int → Int} {w : Int} : ∀ (m : Nat) (f : Int → Int), -1 ≤ (adjF ka w m f).2 ∧ (adjF ka w m f).2 < m
  | 0, f => by simp [adjF]
  | m + 1, f => by
    rw [adjF]
    split
    · have := adj_lt (ka := ka) (w := w) m (upH f m w)
      omega
    · dsimp only
      omega

set_option maxRecDepth 100000 in
set_option maxHeartbeats 1500000 in
theorem c_X3_setForcedHeads {l : Launch} {d : Nat} {h : Hp} {q : Nat} (hq : isRd q) {n : Int} {ka he : Int → Int} (x0 : RdX h q n ka he) (hd : 3 ≤ d := by omega) : CP l d 0 0 yX3_setForcedHeads cX3_setForcedHeads 4 (Option.some Jvm.ClassFile.FieldType.boolean) [.ref q] h (pI fun x h1 => eqx (fun a _ => a == q + 3) h h1 ∧ ∃ h9, RdX h1 q n ka h9 ∧ fRes n ka x h9 (forcF ka n.toNat 0 (-1) (-1) he)) := by
  refine CP.ofV (L := [some (.ref q), none, none, none]) RX3 (by decide +kernel) rfl (Nat.le_of_ble_eq_true rfl) rfl (fun X hX G E => ?_)
  subst hX
  have hq_ := hq
  obtain ⟨hq0, hq1, hq2, hq3, hs0, hf0, hf2, hf3, hs1, hs2, hs3⟩ := hq
  have hx_ := x0
  obtain ⟨r, hn, hn0, hka, hhd, hk6⟩ := x0
  have lp : ∀ (m : Nat) (k : Int) (g : Hp) (hdc : Int → Int) (op : Int) (sub : Int), k + m = n → 0 ≤ k → -1 ≤ op ∧ op < k → -1 ≤ sub ∧ sub < k → RdX g q n ka hdc → eqx (fun a _ => a == q + 3) h g → forcF ka m k op sub hdc = forcF ka n.toNat 0 (-1) (-1) he → V X 0 0 6 [some (.ref q), some (.int (Int32.ofInt op)), some (.int (Int32.ofInt sub)), some (.int (Int32.ofInt k))] [] g := by
    intro m
    induction m with
    | zero =>
      intro k g hdc op sub hm_ hk0 hop hsub xg eg hs
      have hgn : hI g q 4 = n := xg.2.1
      have r := xg.1
      refine V_iload3 G dX3_setForcedHeads_6 ?_
      refine V_aload0 G dX3_setForcedHeads_7 ?_
      refine V_getIe (jz := 4) G fl_X3_26 dX3_setForcedHeads_8 (by first | decide | assumption) (by first | rfl | assumption) rfl rfl (by first | (simp only [hI_sI, hI_sL, hL_sI, hL_sL, false_and, true_and, and_false, and_true, and_self, if_false, if_true, hgn]; first | done | rfl) | rfl) ?_
      refine V_icmpge G dX3_setForcedHeads_11 (tgt := 132) (by decide) (by first | exact r _ _ | assumption | exact ⟨by omega, by omega⟩) (by first | exact r _ _ | assumption | exact ⟨by omega, by omega⟩) (fun c_11 => ?_) (fun c_11 => ?_)
      ·
        refine V_aload0 G dX3_setForcedHeads_132 ?_
        refine V_getIe (jz := 4) G fl_X3_26 dX3_setForcedHeads_133 (by first | decide | assumption) (by first | rfl | assumption) rfl rfl (by first | (simp only [hI_sI, hI_sL, hL_sI, hL_sL, false_and, true_and, and_false, and_true, and_self, if_false, if_true, hgn]; first | done | rfl) | rfl) ?_
        refine V_ifle G dX3_setForcedHeads_136 (tgt := 166) (by decide) (by first | exact r _ _ | assumption | exact ⟨by omega, by omega⟩) (fun c_136 => ?_) (fun c_136 => ?_)
        ·
          refine V_iconst G dX3_setForcedHeads_166 ?_
          exact V_reti E dX3_setForcedHeads_167 rfl rfl ⟨_, rfl, ⟨eg, hdc, xg, by rw [← hs]; exact ⟨rfl, by first | exact bI_t ⟨by omega, by omega, (inM_11 (hk6 _)).mp c_159⟩ | exact bI_f (fun z => c_159 ((inM_11 (hk6 _)).mpr z.2.2)) | exact bI_f (by omega)⟩⟩⟩
        ·
          refine V_iload2 G dX3_setForcedHeads_139 ?_
          refine V_iconst G dX3_setForcedHeads_140 ?_
          refine V_icmpne G dX3_setForcedHeads_141 (tgt := 166) (by decide) (by first | exact r _ _ | assumption | exact ⟨by omega, by omega⟩) (by first | exact r _ _ | assumption | exact ⟨by omega, by omega⟩) (fun c_141 => ?_) (fun c_141 => ?_)
          ·
            refine V_iconst G dX3_setForcedHeads_166 ?_
            exact V_reti E dX3_setForcedHeads_167 rfl rfl ⟨_, rfl, ⟨eg, hdc, xg, by rw [← hs]; exact ⟨rfl, by first | exact bI_t ⟨by omega, by omega, (inM_11 (hk6 _)).mp c_159⟩ | exact bI_f (fun z => c_159 ((inM_11 (hk6 _)).mpr z.2.2)) | exact bI_f (by omega)⟩⟩⟩
          ·
            refine V_bipush G dX3_setForcedHeads_144 (by decide) ?_
            refine V_aload0 G dX3_setForcedHeads_146 ?_
            refine V_aload0 G dX3_setForcedHeads_147 ?_
            refine V_getIe (jz := 4) G fl_X3_26 dX3_setForcedHeads_148 (by first | decide | assumption) (by first | rfl | assumption) rfl rfl (by first | (simp only [hI_sI, hI_sL, hL_sI, hL_sL, false_and, true_and, and_false, and_true, and_self, if_false, if_true, hgn]; first | done | rfl) | rfl) ?_
            refine V_iconst G dX3_setForcedHeads_151 ?_
            refine V_isub G dX3_setForcedHeads_152 ?_
            refine V_cV1i (d1 := 1) G m_X3_48 dX3_setForcedHeads_153 (by first | decide | assumption) (by first | rfl | assumption) (c_X3_kindAt hq_ xg (w := n - 1) ⟨by omega, by omega⟩) (by omega) (by omega) (by omega) (Nat.le_of_ble_eq_true rfl) (fun x_153 h_153 hp_153 => ?_)
            rw [hp_153.1, hp_153.2]
            have kr_153 := hk6 (n - 1)
            refine V_cS2i (d1 := 1) G m_X3_52 dX3_setForcedHeads_156 (c_X3_inMask (m := 11) (k := ka (n - 1)) (by omega) (by omega)) (by omega) (by omega) (by omega) (Nat.le_of_ble_eq_true rfl) (fun x_156 h_156 hp_156 => ?_)
            rw [hp_156.1, hp_156.2]
            refine V_ifeqB G dX3_setForcedHeads_159 (tgt := 166) (by decide)  (fun c_159 => ?_) (fun c_159 => ?_)
            ·
              refine V_iconst G dX3_setForcedHeads_166 ?_
              exact V_reti E dX3_setForcedHeads_167 rfl rfl ⟨_, rfl, ⟨eg, hdc, xg, by rw [← hs]; exact ⟨rfl, by first | exact bI_t ⟨by omega, by omega, (inM_11 (hk6 _)).mp c_159⟩ | exact bI_f (fun z => c_159 ((inM_11 (hk6 _)).mpr z.2.2)) | exact bI_f (by omega)⟩⟩⟩
            ·
              refine V_iconst G dX3_setForcedHeads_162 ?_
              refine V_goto G dX3_setForcedHeads_163 (tgt := 167) (by decide) ?_
              exact V_reti E dX3_setForcedHeads_167 rfl rfl ⟨_, rfl, ⟨eg, hdc, xg, by rw [← hs]; exact ⟨rfl, by first | exact bI_t ⟨by omega, by omega, (inM_11 (hk6 _)).mp c_159⟩ | exact bI_f (fun z => c_159 ((inM_11 (hk6 _)).mpr z.2.2)) | exact bI_f (by omega)⟩⟩⟩
      · omega
    | succ m ih =>
      intro k g hdc op sub hm_ hk0 hop hsub xg eg hs
      have hgn : hI g q 4 = n := xg.2.1
      have r := xg.1
      refine V_iload3 G dX3_setForcedHeads_6 ?_
      refine V_aload0 G dX3_setForcedHeads_7 ?_
      refine V_getIe (jz := 4) G fl_X3_26 dX3_setForcedHeads_8 (by first | decide | assumption) (by first | rfl | assumption) rfl rfl (by first | (simp only [hI_sI, hI_sL, hL_sI, hL_sL, false_and, true_and, and_false, and_true, and_self, if_false, if_true, hgn]; first | done | rfl) | rfl) ?_
      refine V_icmpge G dX3_setForcedHeads_11 (tgt := 132) (by decide) (by first | exact r _ _ | assumption | exact ⟨by omega, by omega⟩) (by first | exact r _ _ | assumption | exact ⟨by omega, by omega⟩) (fun c_11 => ?_) (fun c_11 => ?_)
      · omega
      ·
        refine V_aload0 G dX3_setForcedHeads_14 ?_
        refine V_iload3 G dX3_setForcedHeads_15 ?_
        refine V_iconst G dX3_setForcedHeads_16 ?_
        refine V_isub G dX3_setForcedHeads_17 ?_
        refine V_cV1i (d1 := 1) G m_X3_48 dX3_setForcedHeads_18 (by first | decide | assumption) (by first | rfl | assumption) (c_X3_kindAt hq_ xg (w := k - 1) ⟨by omega, by omega⟩) (by omega) (by omega) (by omega) (Nat.le_of_ble_eq_true rfl) (fun x_18 h_18 hp_18 => ?_)
        rw [hp_18.1, hp_18.2]
        have kr_18 := hk6 (k - 1)
        refine V_cS1i (d1 := 1) G m_X3_49 dX3_setForcedHeads_21 (c_X3_followersOf kr_18) (by omega) (by omega) (by omega) (Nat.le_of_ble_eq_true rfl) (fun x_21 h_21 hp_21 => ?_)
        rw [hp_21.1, hp_21.2]
        have fr := flw_r (ka (k - 1))
        refine V_aload0 G dX3_setForcedHeads_24 ?_
        refine V_iload3 G dX3_setForcedHeads_25 ?_
        refine V_cV1i (d1 := 1) G m_X3_48 dX3_setForcedHeads_26 (by first | decide | assumption) (by first | rfl | assumption) (c_X3_kindAt hq_ xg (w := k) ⟨by omega, by omega⟩) (by omega) (by omega) (by omega) (Nat.le_of_ble_eq_true rfl) (fun x_26 h_26 hp_26 => ?_)
        rw [hp_26.1, hp_26.2]
        have kr_26 := hk6 (k)
        refine V_cS2i (d1 := 1) G m_X3_52 dX3_setForcedHeads_29 (c_X3_inMask (m := flw (ka (k - 1))) (k := ka k) (by omega) (by omega)) (by omega) (by omega) (by omega) (Nat.le_of_ble_eq_true rfl) (fun x_29 h_29 hp_29 => ?_)
        rw [hp_29.1, hp_29.2]
        refine V_ifneB G dX3_setForcedHeads_32 (tgt := 37) (by decide)  (fun c_32 => ?_) (fun c_32 => ?_)
        ·
          have hw0 : ¬ whI (follows (ka (k - 1)) (ka k)) = 0 := by rw [whI_t ((flw_inM _ kr_18 _ kr_26).mp c_32)]; decide
          refine V_aload0 G dX3_setForcedHeads_37 ?_
          refine V_iload3 G dX3_setForcedHeads_38 ?_
          refine V_cV1i (d1 := 1) G m_X3_48 dX3_setForcedHeads_39 (by first | decide | assumption) (by first | rfl | assumption) (c_X3_kindAt hq_ xg (w := k) ⟨by omega, by omega⟩) (by omega) (by omega) (by omega) (Nat.le_of_ble_eq_true rfl) (fun x_39 h_39 hp_39 => ?_)
          rw [hp_39.1, hp_39.2]
          have kr_39 := hk6 (k)
          rcases (show ka k = 0 ∨ ka k = 1 ∨ ka k = 6 ∨ ka k = 2 ∨ ka k = 3 ∨ ka k = 4 ∨ ka k = 5 by omega) with e_42 | e_42 | e_42 | e_42 | e_42 | e_42 | e_42
          · rw [e_42]
            refine V_lookup G dX3_setForcedHeads_42 (tgt := 76) ⟨by decide, by decide⟩ (by decide) rfl (by decide) ?_
            refine V_aload0 G dX3_setForcedHeads_76 ?_
            refine V_iload3 G dX3_setForcedHeads_77 ?_
            refine V_cV1i (d1 := 2) G m_X3_56 dX3_setForcedHeads_78 (by first | decide | assumption) (by first | rfl | assumption) (c_X3_hangNoun hq_ xg (w := k) (by omega)) (by omega) (by omega) (by omega) (Nat.le_of_ble_eq_true rfl) (fun x_78 h_78 hp_78 => ?_)
            obtain ⟨v1, v2, v3⟩ := hp_78
            rw [v1]
            refine V_ifeqB G dX3_setForcedHeads_81 (tgt := 126) (by decide)  (fun c_81 => ?_) (fun c_81 => ?_)
            ·
              refine V_iinc3 G dX3_setForcedHeads_126 rfl ?_
              refine V_goto G dX3_setForcedHeads_129 (tgt := 6) (by decide) ?_
              first
              | (have q0 : ka k = 0 := by assumption
                 first
                 | exact ih (k + 1) _ _ op k (by omega) (by omega) (by omega) (by omega) v3 (eg.tr v2) (by rw [← hs, forcF, if_neg hw0, if_pos q0, if_pos c_81])
                 | exact ih (k + 1) _ _ op sub (by omega) (by omega) (by omega) (by omega) v3 (eg.tr v2) (by rw [← hs, forcF, if_neg hw0, if_pos q0, if_neg c_81]))
              | (have q1 : ka k = 1 := by assumption
                 exact ih (k + 1) _ _ op (-1) (by omega) (by omega) (by omega) (by omega) ((xg.set (w := sub) (v := k) ⟨by omega, by omega⟩).set (w := k) (v := op) ⟨by omega, by omega⟩) ((eg.st (by simp)).st (by simp)) (by rw [← hs, forcF, if_neg hw0, if_neg (by omega), if_pos q1, if_neg (by omega)]))
              | (have q6 : ka k = 6 := by assumption
                 exact ih (k + 1) _ _ k sub (by omega) (by omega) (by omega) (by omega) (xg.set (w := k) (v := k - 1) ⟨by omega, by omega⟩) (eg.st (by simp)) (by rw [← hs, forcF, if_neg hw0, if_neg (by omega), if_neg (by omega), if_pos q6]))
              | exact ih (k + 1) _ _ op sub (by omega) (by omega) (by omega) (by omega) xg eg (by rw [← hs, forcF, if_neg hw0, if_neg (by omega), if_neg (by omega), if_neg (by omega)])
            ·
              refine V_iload3 G dX3_setForcedHeads_84 ?_
              refine V_istore2 G dX3_setForcedHeads_85 rfl ?_
              refine V_goto G dX3_setForcedHeads_86 (tgt := 126) (by decide) ?_
              refine V_iinc3 G dX3_setForcedHeads_126 rfl ?_
              refine V_goto G dX3_setForcedHeads_129 (tgt := 6) (by decide) ?_
              first
              | (have q0 : ka k = 0 := by assumption
                 first
                 | exact ih (k + 1) _ _ op k (by omega) (by omega) (by omega) (by omega) v3 (eg.tr v2) (by rw [← hs, forcF, if_neg hw0, if_pos q0, if_pos c_81])
                 | exact ih (k + 1) _ _ op sub (by omega) (by omega) (by omega) (by omega) v3 (eg.tr v2) (by rw [← hs, forcF, if_neg hw0, if_pos q0, if_neg c_81]))
              | (have q1 : ka k = 1 := by assumption
                 exact ih (k + 1) _ _ op (-1) (by omega) (by omega) (by omega) (by omega) ((xg.set (w := sub) (v := k) ⟨by omega, by omega⟩).set (w := k) (v := op) ⟨by omega, by omega⟩) ((eg.st (by simp)).st (by simp)) (by rw [← hs, forcF, if_neg hw0, if_neg (by omega), if_pos q1, if_neg (by omega)]))
              | (have q6 : ka k = 6 := by assumption
                 exact ih (k + 1) _ _ k sub (by omega) (by omega) (by omega) (by omega) (xg.set (w := k) (v := k - 1) ⟨by omega, by omega⟩) (eg.st (by simp)) (by rw [← hs, forcF, if_neg hw0, if_neg (by omega), if_neg (by omega), if_pos q6]))
              | exact ih (k + 1) _ _ op sub (by omega) (by omega) (by omega) (by omega) xg eg (by rw [← hs, forcF, if_neg hw0, if_neg (by omega), if_neg (by omega), if_neg (by omega)])
          · rw [e_42]
            refine V_lookup G dX3_setForcedHeads_42 (tgt := 89) ⟨by decide, by decide⟩ (by decide) rfl (by decide) ?_
            refine V_iload2 G dX3_setForcedHeads_89 ?_
            refine V_iconst G dX3_setForcedHeads_90 ?_
            refine V_icmpne G dX3_setForcedHeads_91 (tgt := 96) (by decide) (by first | exact r _ _ | assumption | exact ⟨by omega, by omega⟩) (by first | exact r _ _ | assumption | exact ⟨by omega, by omega⟩) (fun c_91 => ?_) (fun c_91 => ?_)
            ·
              refine V_aload0 G dX3_setForcedHeads_96 ?_
              refine V_iload2 G dX3_setForcedHeads_97 ?_
              refine V_iload3 G dX3_setForcedHeads_98 ?_
              refine V_cV2v (d1 := 1) G m_X3_60 dX3_setForcedHeads_99 (by first | decide | assumption) (by first | rfl | assumption) (c_X3_setHead hq_ (w := sub) (v := k) (by omega)) (by omega) (by omega) (by omega) (Nat.le_of_ble_eq_true rfl) (fun h_99 hp_99 => ?_)
              rw [hp_99]
              refine V_aload0 G dX3_setForcedHeads_102 ?_
              refine V_iload3 G dX3_setForcedHeads_103 ?_
              refine V_iload1 G dX3_setForcedHeads_104 ?_
              refine V_cV2v (d1 := 1) G m_X3_60 dX3_setForcedHeads_105 (by first | decide | assumption) (by first | rfl | assumption) (c_X3_setHead hq_ (w := k) (v := op) (by omega)) (by omega) (by omega) (by omega) (Nat.le_of_ble_eq_true rfl) (fun h_105 hp_105 => ?_)
              rw [hp_105]
              refine V_iconst G dX3_setForcedHeads_108 ?_
              refine V_istore2 G dX3_setForcedHeads_109 rfl ?_
              refine V_goto G dX3_setForcedHeads_110 (tgt := 126) (by decide) ?_
              refine V_iinc3 G dX3_setForcedHeads_126 rfl ?_
              refine V_goto G dX3_setForcedHeads_129 (tgt := 6) (by decide) ?_
              first
              | (have q0 : ka k = 0 := by assumption
                 first
                 | exact ih (k + 1) _ _ op k (by omega) (by omega) (by omega) (by omega) v3 (eg.tr v2) (by rw [← hs, forcF, if_neg hw0, if_pos q0, if_pos c_81])
                 | exact ih (k + 1) _ _ op sub (by omega) (by omega) (by omega) (by omega) v3 (eg.tr v2) (by rw [← hs, forcF, if_neg hw0, if_pos q0, if_neg c_81]))
              | (have q1 : ka k = 1 := by assumption
                 exact ih (k + 1) _ _ op (-1) (by omega) (by omega) (by omega) (by omega) ((xg.set (w := sub) (v := k) ⟨by omega, by omega⟩).set (w := k) (v := op) ⟨by omega, by omega⟩) ((eg.st (by simp)).st (by simp)) (by rw [← hs, forcF, if_neg hw0, if_neg (by omega), if_pos q1, if_neg (by omega)]))
              | (have q6 : ka k = 6 := by assumption
                 exact ih (k + 1) _ _ k sub (by omega) (by omega) (by omega) (by omega) (xg.set (w := k) (v := k - 1) ⟨by omega, by omega⟩) (eg.st (by simp)) (by rw [← hs, forcF, if_neg hw0, if_neg (by omega), if_neg (by omega), if_pos q6]))
              | exact ih (k + 1) _ _ op sub (by omega) (by omega) (by omega) (by omega) xg eg (by rw [← hs, forcF, if_neg hw0, if_neg (by omega), if_neg (by omega), if_neg (by omega)])
            ·
              refine V_iconst G dX3_setForcedHeads_94 ?_
              exact V_reti E dX3_setForcedHeads_95 rfl rfl ⟨_, rfl, ⟨eg, hdc, xg, by rw [← hs, forcF, if_neg hw0, if_neg (by omega), if_pos e_42, if_pos (by omega)]; rfl⟩⟩
          · rw [e_42]
            refine V_lookup G dX3_setForcedHeads_42 (tgt := 113) ⟨by decide, by decide⟩ (by decide) rfl (by decide) ?_
            refine V_aload0 G dX3_setForcedHeads_113 ?_
            refine V_iload3 G dX3_setForcedHeads_114 ?_
            refine V_iload3 G dX3_setForcedHeads_115 ?_
            refine V_iconst G dX3_setForcedHeads_116 ?_
            refine V_isub G dX3_setForcedHeads_117 ?_
            refine V_cV2v (d1 := 1) G m_X3_60 dX3_setForcedHeads_118 (by first | decide | assumption) (by first | rfl | assumption) (c_X3_setHead hq_ (w := k) (v := k - 1) (by omega)) (by omega) (by omega) (by omega) (Nat.le_of_ble_eq_true rfl) (fun h_118 hp_118 => ?_)
            rw [hp_118]
            refine V_iload3 G dX3_setForcedHeads_121 ?_
            refine V_istore1 G dX3_setForcedHeads_122 rfl ?_
            refine V_goto G dX3_setForcedHeads_123 (tgt := 126) (by decide) ?_
            refine V_iinc3 G dX3_setForcedHeads_126 rfl ?_
            refine V_goto G dX3_setForcedHeads_129 (tgt := 6) (by decide) ?_
            first
            | (have q0 : ka k = 0 := by assumption
               first
               | exact ih (k + 1) _ _ op k (by omega) (by omega) (by omega) (by omega) v3 (eg.tr v2) (by rw [← hs, forcF, if_neg hw0, if_pos q0, if_pos c_81])
               | exact ih (k + 1) _ _ op sub (by omega) (by omega) (by omega) (by omega) v3 (eg.tr v2) (by rw [← hs, forcF, if_neg hw0, if_pos q0, if_neg c_81]))
            | (have q1 : ka k = 1 := by assumption
               exact ih (k + 1) _ _ op (-1) (by omega) (by omega) (by omega) (by omega) ((xg.set (w := sub) (v := k) ⟨by omega, by omega⟩).set (w := k) (v := op) ⟨by omega, by omega⟩) ((eg.st (by simp)).st (by simp)) (by rw [← hs, forcF, if_neg hw0, if_neg (by omega), if_pos q1, if_neg (by omega)]))
            | (have q6 : ka k = 6 := by assumption
               exact ih (k + 1) _ _ k sub (by omega) (by omega) (by omega) (by omega) (xg.set (w := k) (v := k - 1) ⟨by omega, by omega⟩) (eg.st (by simp)) (by rw [← hs, forcF, if_neg hw0, if_neg (by omega), if_neg (by omega), if_pos q6]))
            | exact ih (k + 1) _ _ op sub (by omega) (by omega) (by omega) (by omega) xg eg (by rw [← hs, forcF, if_neg hw0, if_neg (by omega), if_neg (by omega), if_neg (by omega)])
          · rw [e_42]
            refine V_lookup G dX3_setForcedHeads_42 (tgt := 126) ⟨by decide, by decide⟩ (by decide) rfl (by decide) ?_
            refine V_iinc3 G dX3_setForcedHeads_126 rfl ?_
            refine V_goto G dX3_setForcedHeads_129 (tgt := 6) (by decide) ?_
            first
            | (have q0 : ka k = 0 := by assumption
               first
               | exact ih (k + 1) _ _ op k (by omega) (by omega) (by omega) (by omega) v3 (eg.tr v2) (by rw [← hs, forcF, if_neg hw0, if_pos q0, if_pos c_81])
               | exact ih (k + 1) _ _ op sub (by omega) (by omega) (by omega) (by omega) v3 (eg.tr v2) (by rw [← hs, forcF, if_neg hw0, if_pos q0, if_neg c_81]))
            | (have q1 : ka k = 1 := by assumption
               exact ih (k + 1) _ _ op (-1) (by omega) (by omega) (by omega) (by omega) ((xg.set (w := sub) (v := k) ⟨by omega, by omega⟩).set (w := k) (v := op) ⟨by omega, by omega⟩) ((eg.st (by simp)).st (by simp)) (by rw [← hs, forcF, if_neg hw0, if_neg (by omega), if_pos q1, if_neg (by omega)]))
            | (have q6 : ka k = 6 := by assumption
               exact ih (k + 1) _ _ k sub (by omega) (by omega) (by omega) (by omega) (xg.set (w := k) (v := k - 1) ⟨by omega, by omega⟩) (eg.st (by simp)) (by rw [← hs, forcF, if_neg hw0, if_neg (by omega), if_neg (by omega), if_pos q6]))
            | exact ih (k + 1) _ _ op sub (by omega) (by omega) (by omega) (by omega) xg eg (by rw [← hs, forcF, if_neg hw0, if_neg (by omega), if_neg (by omega), if_neg (by omega)])
          · rw [e_42]
            refine V_lookup G dX3_setForcedHeads_42 (tgt := 126) ⟨by decide, by decide⟩ (by decide) rfl (by decide) ?_
            refine V_iinc3 G dX3_setForcedHeads_126 rfl ?_
            refine V_goto G dX3_setForcedHeads_129 (tgt := 6) (by decide) ?_
            first
            | (have q0 : ka k = 0 := by assumption
               first
               | exact ih (k + 1) _ _ op k (by omega) (by omega) (by omega) (by omega) v3 (eg.tr v2) (by rw [← hs, forcF, if_neg hw0, if_pos q0, if_pos c_81])
               | exact ih (k + 1) _ _ op sub (by omega) (by omega) (by omega) (by omega) v3 (eg.tr v2) (by rw [← hs, forcF, if_neg hw0, if_pos q0, if_neg c_81]))
            | (have q1 : ka k = 1 := by assumption
               exact ih (k + 1) _ _ op (-1) (by omega) (by omega) (by omega) (by omega) ((xg.set (w := sub) (v := k) ⟨by omega, by omega⟩).set (w := k) (v := op) ⟨by omega, by omega⟩) ((eg.st (by simp)).st (by simp)) (by rw [← hs, forcF, if_neg hw0, if_neg (by omega), if_pos q1, if_neg (by omega)]))
            | (have q6 : ka k = 6 := by assumption
               exact ih (k + 1) _ _ k sub (by omega) (by omega) (by omega) (by omega) (xg.set (w := k) (v := k - 1) ⟨by omega, by omega⟩) (eg.st (by simp)) (by rw [← hs, forcF, if_neg hw0, if_neg (by omega), if_neg (by omega), if_pos q6]))
            | exact ih (k + 1) _ _ op sub (by omega) (by omega) (by omega) (by omega) xg eg (by rw [← hs, forcF, if_neg hw0, if_neg (by omega), if_neg (by omega), if_neg (by omega)])
          · rw [e_42]
            refine V_lookup G dX3_setForcedHeads_42 (tgt := 126) ⟨by decide, by decide⟩ (by decide) rfl (by decide) ?_
            refine V_iinc3 G dX3_setForcedHeads_126 rfl ?_
            refine V_goto G dX3_setForcedHeads_129 (tgt := 6) (by decide) ?_
            first
            | (have q0 : ka k = 0 := by assumption
               first
               | exact ih (k + 1) _ _ op k (by omega) (by omega) (by omega) (by omega) v3 (eg.tr v2) (by rw [← hs, forcF, if_neg hw0, if_pos q0, if_pos c_81])
               | exact ih (k + 1) _ _ op sub (by omega) (by omega) (by omega) (by omega) v3 (eg.tr v2) (by rw [← hs, forcF, if_neg hw0, if_pos q0, if_neg c_81]))
            | (have q1 : ka k = 1 := by assumption
               exact ih (k + 1) _ _ op (-1) (by omega) (by omega) (by omega) (by omega) ((xg.set (w := sub) (v := k) ⟨by omega, by omega⟩).set (w := k) (v := op) ⟨by omega, by omega⟩) ((eg.st (by simp)).st (by simp)) (by rw [← hs, forcF, if_neg hw0, if_neg (by omega), if_pos q1, if_neg (by omega)]))
            | (have q6 : ka k = 6 := by assumption
               exact ih (k + 1) _ _ k sub (by omega) (by omega) (by omega) (by omega) (xg.set (w := k) (v := k - 1) ⟨by omega, by omega⟩) (eg.st (by simp)) (by rw [← hs, forcF, if_neg hw0, if_neg (by omega), if_neg (by omega), if_pos q6]))
            | exact ih (k + 1) _ _ op sub (by omega) (by omega) (by omega) (by omega) xg eg (by rw [← hs, forcF, if_neg hw0, if_neg (by omega), if_neg (by omega), if_neg (by omega)])
          · rw [e_42]
            refine V_lookup G dX3_setForcedHeads_42 (tgt := 126) ⟨by decide, by decide⟩ (by decide) rfl (by decide) ?_
            refine V_iinc3 G dX3_setForcedHeads_126 rfl ?_
            refine V_goto G dX3_setForcedHeads_129 (tgt := 6) (by decide) ?_
            first
            | (have q0 : ka k = 0 := by assumption
               first
               | exact ih (k + 1) _ _ op k (by omega) (by omega) (by omega) (by omega) v3 (eg.tr v2) (by rw [← hs, forcF, if_neg hw0, if_pos q0, if_pos c_81])
               | exact ih (k + 1) _ _ op sub (by omega) (by omega) (by omega) (by omega) v3 (eg.tr v2) (by rw [← hs, forcF, if_neg hw0, if_pos q0, if_neg c_81]))
            | (have q1 : ka k = 1 := by assumption
               exact ih (k + 1) _ _ op (-1) (by omega) (by omega) (by omega) (by omega) ((xg.set (w := sub) (v := k) ⟨by omega, by omega⟩).set (w := k) (v := op) ⟨by omega, by omega⟩) ((eg.st (by simp)).st (by simp)) (by rw [← hs, forcF, if_neg hw0, if_neg (by omega), if_pos q1, if_neg (by omega)]))
            | (have q6 : ka k = 6 := by assumption
               exact ih (k + 1) _ _ k sub (by omega) (by omega) (by omega) (by omega) (xg.set (w := k) (v := k - 1) ⟨by omega, by omega⟩) (eg.st (by simp)) (by rw [← hs, forcF, if_neg hw0, if_neg (by omega), if_neg (by omega), if_pos q6]))
            | exact ih (k + 1) _ _ op sub (by omega) (by omega) (by omega) (by omega) xg eg (by rw [← hs, forcF, if_neg hw0, if_neg (by omega), if_neg (by omega), if_neg (by omega)])
        ·
          refine V_iconst G dX3_setForcedHeads_35 ?_
          exact V_reti E dX3_setForcedHeads_36 rfl rfl ⟨_, rfl, ⟨eg, hdc, xg, by rw [← hs, forcF, if_pos (whI_f (fun z => c_32 ((flw_inM _ kr_18 _ kr_26).mpr z)))]; rfl⟩⟩
  refine V_iconst G dX3_setForcedHeads_0 ?_
  refine V_istore1 G dX3_setForcedHeads_1 rfl ?_
  refine V_iconst G dX3_setForcedHeads_2 ?_
  refine V_istore2 G dX3_setForcedHeads_3 rfl ?_
  refine V_iconst G dX3_setForcedHeads_4 ?_
  refine V_istore3 G dX3_setForcedHeads_5 rfl ?_
  exact lp n.toNat 0 h he (-1) (-1) (by omega) (by omega) (by omega) (by omega) hx_ eqx.rf rfl

set_option maxRecDepth 100000 in
set_option maxHeartbeats 1500000 in
theorem c_X3_pushReading {l : Launch} {d : Nat} {h : Hp} {q : Nat} (hq : isRd q) {n : Int} {ka he : Int → Int} (x0 : RdX h q n ka he) {L : List (Int → Int)} (hC : CdC h q n L) (hl : L.length < 42) (hd : 2 ≤ d := by omega) : CP l d 0 0 yX3_pushReading cX3_pushReading 4 (Option.none : Option Jvm.ClassFile.FieldType) [.ref q] h (pV fun h1 => eqw (SR q) (LR q) h h1 ∧ RdX h1 q n ka he ∧ CdC h1 q n (L ++ [he])) := by
  refine CP.ofV (L := [some (.ref q), none, none, none]) RX3 (by decide +kernel) rfl (Nat.le_of_ble_eq_true rfl) rfl (fun X hX G E => ?_)
  subst hX
  have hq_ := hq
  obtain ⟨hq0, hq1, hq2, hq3, hs0, hf0, hf2, hf3, hs1, hs2, hs3⟩ := hq
  have hx_ := x0
  obtain ⟨r, hn, hn0, hka, hhd, hk6⟩ := x0
  have hC1 := hC.1
  have lp : ∀ (m : Nat) (k : Int) (a : Int64), k + m = n → 0 ≤ k → cdF he m k a = cdF he n.toNat 0 0 → V X 0 0 16 [some (.ref q), some (.long a), none, some (.int (Int32.ofInt k))] [] h := by
    intro m
    induction m with
    | zero =>
      intro k a hm_ hk0 hs
      refine V_iload3 G dX3_pushReading_16 ?_
      refine V_aload0 G dX3_pushReading_17 ?_
      refine V_getIe (jz := 4) G fl_X3_26 dX3_pushReading_18 (by first | decide | assumption) (by first | rfl | assumption) rfl rfl (by first | (simp only [hI_sI, hI_sL, hL_sI, hL_sL, false_and, true_and, and_false, and_true, and_self, if_false, if_true, hn]; first | done | rfl) | rfl) ?_
      refine V_icmpge G dX3_pushReading_21 (tgt := 45) (by decide) (by first | exact r _ _ | assumption | exact ⟨by omega, by omega⟩) (by first | exact r _ _ | assumption | exact ⟨by omega, by omega⟩) (fun c_21 => ?_) (fun c_21 => ?_)
      ·
        refine V_aload0 G dX3_pushReading_45 ?_
        refine V_getR G fl_X3_9 dX3_pushReading_46 (by first | decide | assumption) (by first | rfl | assumption) rfl (by first | rfl | assumption) ?_
        refine V_aload0 G dX3_pushReading_49 ?_
        refine V_getIe (jz := 1) G fl_X3_15 dX3_pushReading_50 (by first | decide | assumption) (by first | rfl | assumption) rfl rfl (by first | (simp only [hI_sI, hI_sL, hL_sI, hL_sL, false_and, true_and, and_false, and_true, and_self, if_false, if_true, hC1]; first | done | rfl) | rfl) ?_
        refine V_lload1 G dX3_pushReading_53 ?_
        refine V_last G dX3_pushReading_54 (by first | decide | assumption) (by first | rfl | assumption) (by decide) ⟨by omega, by omega⟩ ?_
        refine V_aload0 G dX3_pushReading_55 ?_
        refine V_dup G dX3_pushReading_56 rfl ?_
        refine V_getIe (jz := 1) G fl_X3_15 dX3_pushReading_57 (by first | decide | assumption) (by first | rfl | assumption) rfl rfl (by first | (simp only [hI_sI, hI_sL, hL_sI, hL_sL, false_and, true_and, and_false, and_true, and_self, if_false, if_true, hC1]; first | done | rfl) | rfl) ?_
        refine V_iconst G dX3_pushReading_60 ?_
        refine V_iadd G dX3_pushReading_61 ?_
        refine V_putI (jz := 1) G fw_X3_15 dX3_pushReading_62 (by first | decide | assumption) (by first | rfl | assumption) rfl rfl ?_
        exact V_retv E dX3_pushReading_65 rfl ⟨rfl, by
            have ea : a = cdF he n.toNat 0 0 := hs
            have e1 : eqw (SR q) (LR q) h (sI (sL h (q + 1) (L.length : Int) a) q 1 ((L.length : Int) + 1)) := (eqw.rf.sl (by simp [LR])).st (by simp [SR])
            refine ⟨e1, hx_.noS (r.sI (h := sL h (q + 1) (L.length : Int) a) ⟨by omega, by omega⟩) (fun b j z => by rw [hI_sI, if_neg (by omega)]; rfl), by simp [hI_sI], fun i f hi => ?_⟩
            show hL (sL h (q + 1) (L.length : Int) a) (q + 1) i = _
            rw [hL_sL]
            by_cases z : i < L.length
            · rw [List.getElem?_append_left z] at hi
              rw [if_neg (by omega)]
              exact hC.2 i f hi
            · rw [List.getElem?_append_right (by omega)] at hi
              have h9 := (List.getElem?_eq_some_iff.mp hi).1
              simp at h9
              have h8 : i = L.length := by omega
              subst h8
              simp at hi
              subst hi
              rw [if_pos ⟨rfl, rfl⟩, ea]⟩
      · omega
    | succ m ih =>
      intro k a hm_ hk0 hs
      refine V_iload3 G dX3_pushReading_16 ?_
      refine V_aload0 G dX3_pushReading_17 ?_
      refine V_getIe (jz := 4) G fl_X3_26 dX3_pushReading_18 (by first | decide | assumption) (by first | rfl | assumption) rfl rfl (by first | (simp only [hI_sI, hI_sL, hL_sI, hL_sL, false_and, true_and, and_false, and_true, and_self, if_false, if_true, hn]; first | done | rfl) | rfl) ?_
      refine V_icmpge G dX3_pushReading_21 (tgt := 45) (by decide) (by first | exact r _ _ | assumption | exact ⟨by omega, by omega⟩) (by first | exact r _ _ | assumption | exact ⟨by omega, by omega⟩) (fun c_21 => ?_) (fun c_21 => ?_)
      · omega
      ·
        refine V_lload1 G dX3_pushReading_24 ?_
        refine V_aload0 G dX3_pushReading_25 ?_
        refine V_iload3 G dX3_pushReading_26 ?_
        refine V_cV1i (d1 := 1) G m_X3_73 dX3_pushReading_27 (by first | decide | assumption) (by first | rfl | assumption) (c_X3_headAt hq_ hx_ (w := k) (by omega)) (by omega) (by omega) (by omega) (Nat.le_of_ble_eq_true rfl) (fun x_27 h_27 hp_27 => ?_)
        rw [hp_27.1, hp_27.2]
        refine V_iconst G dX3_pushReading_30 ?_
        refine V_iadd G dX3_pushReading_31 ?_
        refine V_i2l_ G dX3_pushReading_32 ?_
        refine V_iconst G dX3_pushReading_33 ?_
        refine V_iload3 G dX3_pushReading_34 ?_
        refine V_imul G dX3_pushReading_35 ?_
        refine V_lshl G dX3_pushReading_36 ?_
        refine V_lor G dX3_pushReading_37 ?_
        refine V_lstore1 G dX3_pushReading_38 rfl ?_
        refine V_iinc3 G dX3_pushReading_39 rfl ?_
        refine V_goto G dX3_pushReading_42 (tgt := 16) (by decide) ?_
        exact ih (k + 1) _ (by omega) (by omega) (by rw [← hs, cdF]; rfl)
  refine V_aload0 G dX3_pushReading_0 ?_
  refine V_getIe (jz := 1) G fl_X3_15 dX3_pushReading_1 (by first | decide | assumption) (by first | rfl | assumption) rfl rfl (by first | (simp only [hI_sI, hI_sL, hL_sI, hL_sL, false_and, true_and, and_false, and_true, and_self, if_false, if_true, hC1]; first | done | rfl) | rfl) ?_
  refine V_aload0 G dX3_pushReading_4 ?_
  refine V_getR G fl_X3_9 dX3_pushReading_5 (by first | decide | assumption) (by first | rfl | assumption) rfl (by first | rfl | assumption) ?_
  refine V_alenZ G dX3_pushReading_8 (by first | decide | assumption) (by first | rfl | assumption) (by decide) ?_
  refine V_icmpge G dX3_pushReading_9 (tgt := 65) (by decide) (by first | exact r _ _ | assumption | exact ⟨by omega, by omega⟩) (by first | exact r _ _ | assumption | exact ⟨by omega, by omega⟩) (fun c_9 => ?_) (fun c_9 => ?_)
  · omega
  ·
    refine V_lconst G dX3_pushReading_12 rfl ?_
    refine V_lstore1 G dX3_pushReading_13 rfl ?_
    refine V_iconst G dX3_pushReading_14 ?_
    refine V_istore3 G dX3_pushReading_15 rfl ?_
    exact lp n.toNat 0 0 (by omega) (by omega) rfl


set_option maxRecDepth 100000 in
set_option maxHeartbeats 3000000 in
theorem c_hang {l : Launch} {q : Nat} (hq : isRd q) {n : Int} {ka : Int → Int} : ∀ (m : Nat) (w : Int) (d : Nat) (h : Hp) (he : Int → Int) (L : List (Int → Int)), 0 ≤ w → w + m = n → m + 5 ≤ d → RdX h q n ka he → CdC h q n L → L.length + (hangF ka m w he).length ≤ 42 →
    CP l d 0 0 yX3_hangFrom cX3_hangFrom 4 (Option.none : Option Jvm.ClassFile.FieldType) [.ref q, iv w] h (pV fun h1 => eqw (SR q) (LR q) h h1 ∧ CdC h1 q n (L ++ hangF ka m w he) ∧ ∃ h9, RdX h1 q n ka h9 ∧ ∀ j, (j < w ∨ n ≤ j ∨ ¬ (ka j = 3 ∨ ka j = 4 ∨ ka j = 5)) → h9 j = he j) := by
  have hq_ := hq
  obtain ⟨hq0, hq1, hq2, hq3, hs0, hf0, hf2, hf3, hs1, hs2, hs3⟩ := hq
  intro m
  induction m with
  | zero =>
    intro w d h he L hw hm hd x0 hC hl
    have hx_ := x0
    obtain ⟨r, hn, hn0, hka, hhd, hk6⟩ := x0
    have hl1 : (hangF ka 0 w he).length = 1 := rfl
    refine CP.ofV (L := [some (.ref q), some (.int (Int32.ofInt w)), none, none]) RX3 (by decide +kernel) rfl (Nat.le_of_ble_eq_true rfl) rfl (fun X hX G E => ?_)
    subst hX
    refine V_iload1 G dX3_hangFrom_0 ?_
    refine V_aload0 G dX3_hangFrom_1 ?_
    refine V_getIe (jz := 4) G fl_X3_26 dX3_hangFrom_2 (by first | decide | assumption) (by first | rfl | assumption) rfl rfl (by first | (simp only [hI_sI, hI_sL, hL_sI, hL_sL, false_and, true_and, and_false, and_true, and_self, if_false, if_true, hn]; first | done | rfl) | rfl) ?_
    refine V_icmpge G dX3_hangFrom_5 (tgt := 14) (by decide) (by first | exact r _ _ | assumption | exact ⟨by omega, by omega⟩) (by first | exact r _ _ | assumption | exact ⟨by omega, by omega⟩) (fun c_5 => ?_) (fun c_5 => ?_)
    ·
      refine V_aload0 G dX3_hangFrom_14 ?_
      refine V_cV0v (d1 := 2) G m_X3_64 dX3_hangFrom_15 (by first | decide | assumption) (by first | rfl | assumption) (c_X3_pushReading hq_ hx_ hC (by omega)) (by omega) (by omega) (by omega) (Nat.le_of_ble_eq_true rfl) (fun h_15 hp_15 => ?_)
      obtain ⟨v1, v2, v3⟩ := hp_15
      exact V_retv E dX3_hangFrom_18 rfl ⟨rfl, ⟨v1, v3, he, v2, fun _ _ => rfl⟩⟩
    · omega
  | succ M ihM =>
    intro w d h he L hw hm hd x0 hC hl
    have hx_ := x0
    obtain ⟨r, hn, hn0, hka, hhd, hk6⟩ := x0
    have kw := hk6 w
    refine CP.ofV (L := [some (.ref q), some (.int (Int32.ofInt w)), none, none]) RX3 (by decide +kernel) rfl (Nat.le_of_ble_eq_true rfl) rfl (fun X hX G E => ?_)
    subst hX
    have free : (ka w = 3 ∨ ka w = 4 ∨ ka w = 5) → V X 0 0 40 [some (.ref q), some (.int (Int32.ofInt w)), none, none] [] h := by
      intro hfr
      have eH : hangF ka (M + 1) w he = (List.range w.toNat).flatMap (fun x : Nat => if openF he (x : Int) 12 (w - 1) = true ∧ holdF ka he (x : Int) w = true then hangF ka M (w + 1) (upH he w (x : Int)) else []) := by rw [hangF, if_pos hfr]
      rw [eH] at hl
      have ends : ∀ (g : Hp) (hc : Int → Int) (a2 a3 : Option Value), RdX g q n ka hc → (∀ j, (j < w ∨ n ≤ j ∨ ¬ (ka j = 3 ∨ ka j = 4 ∨ ka j = 5)) → hc j = he j) → eqw (SR q) (LR q) h g → CdC g q n (L ++ (List.range w.toNat).flatMap (fun x : Nat => if openF he (x : Int) 12 (w - 1) = true ∧ holdF ka he (x : Int) w = true then hangF ka M (w + 1) (upH he w (x : Int)) else [])) → V X 0 0 91 [some (.ref q), some (.int (Int32.ofInt w)), a2, a3] [] g := by
        intro g hc a2 a3 xg hcg eg hCg
        exact V_retv E dX3_hangFrom_91 rfl ⟨rfl, eg, by rw [eH]; exact hCg, hc, xg, hcg⟩
      refine V_aload0 G dX3_hangFrom_40 ?_
      refine V_iload1 G dX3_hangFrom_41 ?_
      refine V_iconst G dX3_hangFrom_42 ?_
      refine V_isub G dX3_hangFrom_43 ?_
      refine V_cV1i (d1 := 2) G m_X3_67 dX3_hangFrom_44 (by first | decide | assumption) (by first | rfl | assumption) (c_X3_openBehind hq_ hx_ (l0 := w - 1) (by omega)) (by omega) (by omega) (by omega) (Nat.le_of_ble_eq_true rfl) (fun x_44 h_44 hp_44 => ?_)
      obtain ⟨⟨p1, p2, p3⟩, p4⟩ := hp_44
      rw [p4]
      refine V_istore2 G dX3_hangFrom_47 rfl ?_
      have lp : ∀ (m : Nat) (k : Int) (g : Hp) (hc : Int → Int) (Lc : List (Int → Int)), k + m = w → 0 ≤ k → RdX g q n ka hc → (∀ j, (j < w ∨ n ≤ j ∨ ¬ (ka j = 3 ∨ ka j = 4 ∨ ka j = 5)) → hc j = he j) → eqw (SR q) (LR q) h g → CdC g q n Lc → Lc ++ (List.range' k.toNat m).flatMap (fun x : Nat => if openF he (x : Int) 12 (w - 1) = true ∧ holdF ka he (x : Int) w = true then hangF ka M (w + 1) (upH he w (x : Int)) else []) = L ++ (List.range w.toNat).flatMap (fun x : Nat => if openF he (x : Int) 12 (w - 1) = true ∧ holdF ka he (x : Int) w = true then hangF ka M (w + 1) (upH he w (x : Int)) else []) → V X 0 0 50 [some (.ref q), some (.int (Int32.ofInt w)), some (.int (Int32.ofInt x_44)), some (.int (Int32.ofInt k))] [] g := by
        intro m
        induction m with
        | zero =>
          intro k g hc Lc hm_ hk0 xg hcg eg hCg hL
          have r := xg.1
          refine V_iload3 G dX3_hangFrom_50 ?_
          refine V_iload1 G dX3_hangFrom_51 ?_
          refine V_icmpge G dX3_hangFrom_52 (tgt := 91) (by decide) (by first | exact r _ _ | assumption | exact ⟨by omega, by omega⟩) (by first | exact r _ _ | assumption | exact ⟨by omega, by omega⟩) (fun c_52 => ?_) (fun c_52 => ?_)
          ·
            exact ends g hc _ _ xg hcg eg (by rw [← hL]; simpa using hCg)
          · omega
        | succ m ih =>
          intro k g hc Lc hm_ hk0 xg hcg eg hCg hL
          have r := xg.1
          have hkk : ((k.toNat : Nat) : Int) = k := by omega
          have hcan : holdF ka hc k w = holdF ka he k w := by
            by_cases z : k < w
            · exact holdF_congr hk0 z (fun j hj => hcg j (Or.inl hj))
            · exact absurd z (by omega)
          have hHc : hangF ka M (w + 1) (upH hc w k) = hangF ka M (w + 1) (upH he w k) := hangF_congr M (w + 1) _ _ (fun j hj => by
            unfold upH
            split
            · rfl
            · exact hcg j (by omega))
          have hr' : List.range' k.toNat (m + 1) = k.toNat :: List.range' (k + 1).toNat m := by
            rw [List.range'_succ, show (k + 1).toNat = k.toNat + 1 by omega]
          refine V_iload3 G dX3_hangFrom_50 ?_
          refine V_iload1 G dX3_hangFrom_51 ?_
          refine V_icmpge G dX3_hangFrom_52 (tgt := 91) (by decide) (by first | exact r _ _ | assumption | exact ⟨by omega, by omega⟩) (by first | exact r _ _ | assumption | exact ⟨by omega, by omega⟩) (fun c_52 => ?_) (fun c_52 => ?_)
          · omega
          ·
            refine V_iload2 G dX3_hangFrom_55 ?_
            refine V_iload3 G dX3_hangFrom_56 ?_
            refine V_cS2i (d1 := 1) G m_X3_52 dX3_hangFrom_57 (c_X3_inMask (m := x_44) (k := k) (by omega) (by omega)) (by omega) (by omega) (by omega) (Nat.le_of_ble_eq_true rfl) (fun x_57 h_57 hp_57 => ?_)
            rw [hp_57.1, hp_57.2]
            refine V_ifeqB G dX3_hangFrom_60 (tgt := 85) (by decide)  (fun c_60 => ?_) (fun c_60 => ?_)
            ·
              refine V_iinc3 G dX3_hangFrom_85 rfl ?_
              refine V_goto G dX3_hangFrom_88 (tgt := 50) (by decide) ?_
              first
              | (have hno : ¬ (openF he ((k.toNat : Nat) : Int) 12 (w - 1) = true ∧ holdF ka he ((k.toNat : Nat) : Int) w = true) := by
                   rw [hkk]
                   first
                   | exact fun z => c_60 ((p3 k hk0).mpr z.1)
                   | exact fun z => c_69 (by rw [hcan]; exact z.2)
                 exact ih (k + 1) g hc Lc (by omega) (by omega) xg hcg eg hCg (by rw [← hL, hr', List.flatMap_cons, if_neg hno, List.nil_append]))
              | (have hyes : openF he ((k.toNat : Nat) : Int) 12 (w - 1) = true ∧ holdF ka he ((k.toNat : Nat) : Int) w = true := by
                   rw [hkk]
                   exact ⟨(p3 k hk0).mp c_60, by rw [← hcan]; exact c_69⟩
                 exact ih (k + 1) _ h9 _ (by omega) (by omega) v3 (fun j hj => by
                   rw [v4 j (by omega)]
                   have e : j ≠ w := by
                     intro e
                     subst e
                     rcases hj with z | z | z
                     · omega
                     · omega
                     · exact z hfr
                   show upH hc w k j = he j
                   unfold upH
                   rw [if_neg e]
                   exact hcg j hj) ((eg.st (by simp [SR])).tr v1) v2 (by
                     rw [← hL, hr', List.flatMap_cons, if_pos hyes, List.append_assoc, hkk, ← hHc]))
            ·
              refine V_aload0 G dX3_hangFrom_63 ?_
              refine V_iload3 G dX3_hangFrom_64 ?_
              refine V_iload1 G dX3_hangFrom_65 ?_
              refine V_cV2i (d1 := 3) G m_X3_70 dX3_hangFrom_66 (by first | decide | assumption) (by first | rfl | assumption) (c_X3_canHold hq_ xg (a := k) (b := w) hk0 (by omega) (by omega)) (by omega) (by omega) (by omega) (Nat.le_of_ble_eq_true rfl) (fun x_66 h_66 hp_66 => ?_)
              rw [hp_66.1, hp_66.2]
              refine V_ifeqB G dX3_hangFrom_69 (tgt := 85) (by decide)  (fun c_69 => ?_) (fun c_69 => ?_)
              ·
                refine V_iinc3 G dX3_hangFrom_85 rfl ?_
                refine V_goto G dX3_hangFrom_88 (tgt := 50) (by decide) ?_
                first
                | (have hno : ¬ (openF he ((k.toNat : Nat) : Int) 12 (w - 1) = true ∧ holdF ka he ((k.toNat : Nat) : Int) w = true) := by
                     rw [hkk]
                     first
                     | exact fun z => c_60 ((p3 k hk0).mpr z.1)
                     | exact fun z => c_69 (by rw [hcan]; exact z.2)
                   exact ih (k + 1) g hc Lc (by omega) (by omega) xg hcg eg hCg (by rw [← hL, hr', List.flatMap_cons, if_neg hno, List.nil_append]))
                | (have hyes : openF he ((k.toNat : Nat) : Int) 12 (w - 1) = true ∧ holdF ka he ((k.toNat : Nat) : Int) w = true := by
                     rw [hkk]
                     exact ⟨(p3 k hk0).mp c_60, by rw [← hcan]; exact c_69⟩
                   exact ih (k + 1) _ h9 _ (by omega) (by omega) v3 (fun j hj => by
                     rw [v4 j (by omega)]
                     have e : j ≠ w := by
                       intro e
                       subst e
                       rcases hj with z | z | z
                       · omega
                       · omega
                       · exact z hfr
                     show upH hc w k j = he j
                     unfold upH
                     rw [if_neg e]
                     exact hcg j hj) ((eg.st (by simp [SR])).tr v1) v2 (by
                       rw [← hL, hr', List.flatMap_cons, if_pos hyes, List.append_assoc, hkk, ← hHc]))
              ·
                refine V_aload0 G dX3_hangFrom_72 ?_
                refine V_iload1 G dX3_hangFrom_73 ?_
                refine V_iload3 G dX3_hangFrom_74 ?_
                refine V_cV2v (d1 := 1) G m_X3_60 dX3_hangFrom_75 (by first | decide | assumption) (by first | rfl | assumption) (c_X3_setHead hq_ (w := w) (v := k) (by omega)) (by omega) (by omega) (by omega) (Nat.le_of_ble_eq_true rfl) (fun h_75 hp_75 => ?_)
                rw [hp_75]
                refine V_aload0 G dX3_hangFrom_78 ?_
                refine V_iload1 G dX3_hangFrom_79 ?_
                refine V_iconst G dX3_hangFrom_80 ?_
                refine V_iadd G dX3_hangFrom_81 ?_
                refine V_cV1v (d1 := M + 5) G m_X3_44 dX3_hangFrom_82 (by first | decide | assumption) (by first | rfl | assumption) (ihM (w + 1) (M + 5) _ (upH hc w k) Lc (by omega) (by omega) (by omega) (xg.set ⟨by omega, by omega⟩) hCg.set (by
                      have hyes : openF he ((k.toNat : Nat) : Int) 12 (w - 1) = true ∧ holdF ka he ((k.toNat : Nat) : Int) w = true := by
                        rw [hkk]
                        exact ⟨(p3 k hk0).mp c_60, by rw [← hcan]; exact c_69⟩
                      have e := congrArg List.length hL
                      rw [hr', List.flatMap_cons, if_pos hyes, hkk, ← hHc, List.length_append, List.length_append, List.length_append] at e
                      omega)) (by omega) (by omega) (by omega) (Nat.le_of_ble_eq_true rfl) (fun h_82 hp_82 => ?_)
                obtain ⟨v1, v2, h9, v3, v4⟩ := hp_82
                refine V_iinc3 G dX3_hangFrom_85 rfl ?_
                refine V_goto G dX3_hangFrom_88 (tgt := 50) (by decide) ?_
                first
                | (have hno : ¬ (openF he ((k.toNat : Nat) : Int) 12 (w - 1) = true ∧ holdF ka he ((k.toNat : Nat) : Int) w = true) := by
                     rw [hkk]
                     first
                     | exact fun z => c_60 ((p3 k hk0).mpr z.1)
                     | exact fun z => c_69 (by rw [hcan]; exact z.2)
                   exact ih (k + 1) g hc Lc (by omega) (by omega) xg hcg eg hCg (by rw [← hL, hr', List.flatMap_cons, if_neg hno, List.nil_append]))
                | (have hyes : openF he ((k.toNat : Nat) : Int) 12 (w - 1) = true ∧ holdF ka he ((k.toNat : Nat) : Int) w = true := by
                     rw [hkk]
                     exact ⟨(p3 k hk0).mp c_60, by rw [← hcan]; exact c_69⟩
                   exact ih (k + 1) _ h9 _ (by omega) (by omega) v3 (fun j hj => by
                     rw [v4 j (by omega)]
                     have e : j ≠ w := by
                       intro e
                       subst e
                       rcases hj with z | z | z
                       · omega
                       · omega
                       · exact z hfr
                     show upH hc w k j = he j
                     unfold upH
                     rw [if_neg e]
                     exact hcg j hj) ((eg.st (by simp [SR])).tr v1) v2 (by
                       rw [← hL, hr', List.flatMap_cons, if_pos hyes, List.append_assoc, hkk, ← hHc]))
      refine V_iconst G dX3_hangFrom_48 ?_
      refine V_istore3 G dX3_hangFrom_49 rfl ?_
      exact lp w.toNat 0 h he L (by omega) (by omega) hx_ (fun _ _ => rfl) eqw.rf hC (by rw [show (0 : Int).toNat = 0 from rfl, ← List.range_eq_range'])
    refine V_iload1 G dX3_hangFrom_0 ?_
    refine V_aload0 G dX3_hangFrom_1 ?_
    refine V_getIe (jz := 4) G fl_X3_26 dX3_hangFrom_2 (by first | decide | assumption) (by first | rfl | assumption) rfl rfl (by first | (simp only [hI_sI, hI_sL, hL_sI, hL_sL, false_and, true_and, and_false, and_true, and_self, if_false, if_true, hn]; first | done | rfl) | rfl) ?_
    refine V_icmpge G dX3_hangFrom_5 (tgt := 14) (by decide) (by first | exact r _ _ | assumption | exact ⟨by omega, by omega⟩) (by first | exact r _ _ | assumption | exact ⟨by omega, by omega⟩) (fun c_5 => ?_) (fun c_5 => ?_)
    · omega
    ·
      refine V_iload1 G dX3_hangFrom_8 ?_
      refine V_bipush G dX3_hangFrom_9 (by decide) ?_
      refine V_icmplt G dX3_hangFrom_11 (tgt := 19) (by decide) (by first | exact r _ _ | assumption | exact ⟨by omega, by omega⟩) (by first | exact r _ _ | assumption | exact ⟨by omega, by omega⟩) (fun c_11 => ?_) (fun c_11 => ?_)
      ·
        refine V_bipush G dX3_hangFrom_19 (by decide) ?_
        refine V_aload0 G dX3_hangFrom_21 ?_
        refine V_iload1 G dX3_hangFrom_22 ?_
        refine V_cV1i (d1 := 1) G m_X3_48 dX3_hangFrom_23 (by first | decide | assumption) (by first | rfl | assumption) (c_X3_kindAt hq_ hx_ (w := w) ⟨by omega, by omega⟩) (by omega) (by omega) (by omega) (Nat.le_of_ble_eq_true rfl) (fun x_23 h_23 hp_23 => ?_)
        rw [hp_23.1, hp_23.2]
        refine V_cS2i (d1 := 1) G m_X3_52 dX3_hangFrom_26 (c_X3_inMask (m := 56) (k := ka w) (by omega) (by omega)) (by omega) (by omega) (by omega) (Nat.le_of_ble_eq_true rfl) (fun x_26 h_26 hp_26 => ?_)
        rw [hp_26.1, hp_26.2]
        refine V_ifneB G dX3_hangFrom_29 (tgt := 40) (by decide)  (fun c_29 => ?_) (fun c_29 => ?_)
        ·
          exact free ((inM_56 kw).mp c_29)
        ·
          refine V_aload0 G dX3_hangFrom_32 ?_
          refine V_iload1 G dX3_hangFrom_33 ?_
          refine V_iconst G dX3_hangFrom_34 ?_
          refine V_iadd G dX3_hangFrom_35 ?_
          refine V_cV1v (d1 := M + 5) G m_X3_44 dX3_hangFrom_36 (by first | decide | assumption) (by first | rfl | assumption) (ihM (w + 1) (M + 5) h he L (by omega) (by omega) (by omega) hx_ hC (by rw [hangF, if_neg (fun z => c_29 ((inM_56 kw).mpr z))] at hl; exact hl)) (by omega) (by omega) (by omega) (Nat.le_of_ble_eq_true rfl) (fun h_36 hp_36 => ?_)
          obtain ⟨v1, v2, h9, v3, v4⟩ := hp_36
          exact V_retv E dX3_hangFrom_39 rfl ⟨rfl, by
    rw [hangF, if_neg (fun z => c_29 ((inM_56 kw).mpr z))]
    refine ⟨v1, v2, h9, v3, fun j hj => ?_⟩
    by_cases e : j = w
    · subst e
      exact v4 j (Or.inl (by omega))
    · exact v4 j (by omega)⟩
      · omega

end C4
