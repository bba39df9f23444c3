section C6

/-- a Drawing's places: the object, its kinds, heads, ways, levels, loads, turns -/
def isDr (q : Nat) : Prop := (q < NN ∧ q + 1 < NN ∧ q + 2 < NN ∧ q + 3 < NN ∧ q + 4 < NN ∧ q + 5 < NN ∧ q + 6 < NN) ∧ SH q = .inl 1 ∧ (RF q 0 = some (q + 1) ∧ RF q 1 = some (q + 2) ∧ RF q 2 = some (q + 3) ∧ RF q 3 = some (q + 4) ∧ RF q 4 = some (q + 5) ∧ RF q 5 = some (q + 6)) ∧ SH (q + 1) = .inr (0, 12) ∧ SH (q + 2) = .inr (0, 12) ∧ SH (q + 3) = .inr (0, 12) ∧ SH (q + 4) = .inr (0, 12) ∧ SH (q + 5) = .inr (0, 12) ∧ SH (q + 6) = .inr (0, 12)
theorem isDr_all : isDr 24 ∧ isDr 31 := by
  unfold isDr
  repeat' apply And.intro
  all_goals first | rfl | decide
theorem sumF_snoc {f : Int → Int} : ∀ (m : Nat) (k : Int), sumF f (m + 1) k = sumF f m k + f (k + m)
  | 0, k => by simp [sumF]
  | m + 1, k => by
    rw [sumF, sumF_snoc m (k + 1), sumF, show k + 1 + (m : Int) = k + ((m + 1 : Nat) : Int) by omega]
    omega
def wayF (w k hd kh : Int) : Int := if hd = -1 then 0 else if k = 0 then (if kh = 1 then (if w < hd then 1 else 2) else if kh = 5 then 4 else 6) else if k = 5 then 4 else if k = 1 ∨ k = 6 then 5 else 3
def riseF (way k : Int) : Int := if way = 3 ∨ way = 6 then -1 else if way = 5 then (if k = 6 then 1 else 0) else 0
/-- what a noun is held by -/
def nounOk (n : Int) (kd f : Int → Int) : Prop := ∀ w, 0 ≤ w → w < n → kd w = 0 → f w ≠ -1 → kd (f w) = 1 ∨ kd (f w) = 4 ∨ kd (f w) = 5
theorem wayF_held {n : Int} {kd f : Int → Int} (hr : rok n f) (hk : ∀ w, 0 ≤ w → w < n → 0 ≤ kd w ∧ kd w ≤ 6) (hN : nounOk n kd f) {w : Int} (h0 : 0 ≤ w) (h1 : w < n) : wayF w (kd w) (f w) (kdC n kd (f w)) = heldF kd f w := by
  have q1 := hr w h0 h1
  have q2 := hk w h0 h1
  have q3 := hN w h0 h1
  unfold wayF heldF
  by_cases e : f w = -1
  · rw [if_pos e, if_pos e]
  · have ek : kdC n kd (f w) = kd (f w) := if_pos (by omega)
    rw [if_neg e, if_neg e, ek]
    have q4 := hk (f w) (by omega) (by omega)
    repeat' split
    all_goals omega
theorem rise_step {n : Int} {kd f : Int → Int} (hk : ∀ w, 0 ≤ w → w < n → 0 ≤ kd w ∧ kd w ≤ 6) {w : Int} (h0 : 0 ≤ w) (h1 : w < n) : riseF (heldF kd f w) (kd w) = if f w = -1 then 0 else stepF kd f w := by
  have q2 := hk w h0 h1
  unfold riseF stepF heldF
  by_cases e : f w = -1
  · simp [e]
  · simp only [if_neg e]
    repeat' split
    all_goals omega
def levC (n : Int) (kd f : Int → Int) : Nat → Int → Int
  | 0, _ => 0
  | m + 1, w => if 0 ≤ w ∧ w < n then riseF (heldF kd f w) (kd w) + levC n kd f m (f w) else 0
theorem levC_eq {n : Int} {kd f : Int → Int} (hr : rok n f) (hk : ∀ w, 0 ≤ w → w < n → 0 ≤ kd w ∧ kd w ≤ 6) : ∀ (m : Nat) (w : Int), 0 ≤ w → w < n → levC n kd f m w = levF kd f m w
  | 0, _, _, _ => rfl
  | m + 1, w, h0, h1 => by
    rw [levC, if_pos ⟨h0, h1⟩, levF, rise_step hk h0 h1]
    by_cases e : f w = -1
    · rw [if_pos e, if_pos e, e]
      cases m with
      | zero => rfl
      | succ m => rw [levC, if_neg (by omega)]; rfl
    · have := hr w h0 h1
      rw [if_neg e, if_neg e, levC_eq hr hk m (f w) (by omega) (by omega)]
/-- the words as they are read along the lines -/
def raF (n : Int) (f : Int → Int) : Nat → Int → List Int
  | 0, _ => []
  | m + 1, w => if 0 ≤ w ∧ w < n then (List.range' 0 w.toNat).flatMap (fun x : Nat => if f x = w then raF n f m x else []) ++ w :: (List.range' (w + 1).toNat (n - w - 1).toNat).flatMap (fun x : Nat => if f x = w then raF n f m x else []) else []
def tuF (g : Int → Int) (t : Int) : List Int → Int → Int
  | [] => g
  | w :: l => tuF (upH g w t) (t + 1) l
theorem tuF_app {g : Int → Int} {t : Int} : ∀ (A B : List Int), tuF g t (A ++ B) = tuF (tuF g t A) (t + A.length) B
  | [], B => by simp [tuF]
  | a :: A, B => by
    show tuF (upH g a t) (t + 1) (A ++ B) = _
    rw [tuF_app (g := upH g a t) (t := t + 1) A B]
    show tuF (tuF (upH g a t) (t + 1) A) _ B = tuF (tuF (upH g a t) (t + 1) A) _ B
    congr 1
    simp
    omega
/-- the word that no other holds -/
def rtF (n : Int) (f : Int → Int) : Nat → Int → Int → Int
  | 0, _, a => a
  | m + 1, k, a => rtF n f m (k + 1) (if 0 ≤ f k ∧ f k < n then a else k)
/-- reading along the lines gives the sentence -/
def rdOk (n : Int) (f : Int → Int) : Prop := raF n f 13 (rtF n f n.toNat 0 (-1)) = (List.range n.toNat).map (fun x : Nat => (x : Int))
theorem tuF_range {g : Int → Int} : ∀ (m : Nat) (s : Nat) (j : Nat), s ≤ j → j < s + m → tuF g s ((List.range' s m).map (fun x : Nat => (x : Int))) j = j := by
  have out : ∀ (m s : Nat) (g : Int → Int) (j : Int), j < s → tuF g s ((List.range' s m).map (fun x : Nat => (x : Int))) j = g j := by
    intro m
    induction m with
    | zero => intro s g j _; rfl
    | succ m ih =>
      intro s g j hj
      rw [List.range'_succ, List.map_cons]
      show tuF (upH g s s) ((s : Int) + 1) _ j = _
      rw [show ((s : Int) + 1) = ((s + 1 : Nat) : Int) by omega, ih (s + 1) _ j (by omega)]
      unfold upH
      rw [if_neg (by omega)]
  intro m
  induction m generalizing g with
  | zero => intro s j h1 h2; omega
  | succ m ih =>
    intro s j h1 h2
    rw [List.range'_succ, List.map_cons]
    show tuF (upH g s s) ((s : Int) + 1) _ j = _
    rw [show ((s : Int) + 1) = ((s + 1 : Nat) : Int) by omega]
    by_cases e : j = s
    · subst e
      rw [out m (j + 1) _ j (by omega)]
      unfold upH
      rw [if_pos rfl]
    · exact ih (s + 1) j (by omega) (by omega)
/-- a Drawing's cells show a reading -/
def DrC (h : Hp) (q : Nat) (n : Int) (kd f : Int → Int) : Prop := hI h q 6 = n ∧ ∀ w, 0 ≤ w → w < n → hI h (q + 1) w = kd w ∧ hI h (q + 2) w = f w ∧ hI h (q + 3) w = heldF kd f w ∧ hI h (q + 4) w = levF kd f 12 w ∧ hI h (q + 5) w = hldF n f w ∧ hI h (q + 6) w = w
theorem hldF_r2 (n : Int) (f : Int → Int) (w : Int) (hn : n ≤ 12) : 0 ≤ hldF n f w ∧ hldF n f w ≤ 12 := by
  have := hldF_r n f w
  omega

set_option maxRecDepth 100000 in
set_option maxHeartbeats 2000000 in
theorem c_X0_isWord {l : Launch} {d : Nat} {h : Hp} {q : Nat} (hq : isDr q) {n : Int} (hn : hI h q 6 = n) (hn0 : 0 ≤ n ∧ n ≤ 12) {w : Int} (hw : inr w) (hd : 1 ≤ d := by omega) : CP l d 0 0 yX0_isWord cX0_isWord 2 (Option.some Jvm.ClassFile.FieldType.boolean) [.ref q, iv w] h (pI fun x h1 => x = bI (0 ≤ w ∧ w < n) ∧ h1 = h) := by
  refine CP.ofV (L := [some (.ref q), some (.int (Int32.ofInt w))]) RX0 (by decide +kernel) rfl (Nat.le_of_ble_eq_true rfl) rfl (fun X hX G E => ?_)
  subst hX
  have hq_ := hq
  obtain ⟨⟨hq0, hq1, hq2, hq3, hq4, hq5, hq6⟩, hs0, ⟨hf0, hf1, hf2, hf3, hf4, hf5⟩, hs1, hs2, hs3, hs4, hs5, hs6⟩ := hq
  refine V_iload1 G dX0_isWord_0 ?_
  refine V_iflt G dX0_isWord_1 (tgt := 22) (by decide) (by first | exact r _ _ | assumption | exact ⟨by omega, by omega⟩) (fun c_1 => ?_) (fun c_1 => ?_)
  ·
    refine V_iconst G dX0_isWord_22 ?_
    exact V_reti E dX0_isWord_23 rfl rfl ⟨_, rfl, ⟨by first | exact bI_t (by omega) | exact bI_f (by omega), rfl⟩⟩
  ·
    refine V_iload1 G dX0_isWord_4 ?_
    refine V_aload0 G dX0_isWord_5 ?_
    refine V_getIe (jz := 6) G fl_X0_30 dX0_isWord_6 (by first | decide | assumption) (by first | rfl | assumption) rfl rfl (by first | (simp only [hI_sI, hI_sL, hL_sI, hL_sL, false_and, true_and, and_false, and_true, and_self, if_false, if_true, hn]; first | done | rfl) | rfl) ?_
    refine V_icmpge G dX0_isWord_9 (tgt := 22) (by decide) (by first | exact r _ _ | assumption | exact ⟨by omega, by omega⟩) (by first | exact r _ _ | assumption | exact ⟨by omega, by omega⟩) (fun c_9 => ?_) (fun c_9 => ?_)
    ·
      refine V_iconst G dX0_isWord_22 ?_
      exact V_reti E dX0_isWord_23 rfl rfl ⟨_, rfl, ⟨by first | exact bI_t (by omega) | exact bI_f (by omega), rfl⟩⟩
    ·
      refine V_iload1 G dX0_isWord_12 ?_
      refine V_bipush G dX0_isWord_13 (by decide) ?_
      refine V_icmpge G dX0_isWord_15 (tgt := 22) (by decide) (by first | exact r _ _ | assumption | exact ⟨by omega, by omega⟩) (by first | exact r _ _ | assumption | exact ⟨by omega, by omega⟩) (fun c_15 => ?_) (fun c_15 => ?_)
      ·
        refine V_iconst G dX0_isWord_22 ?_
        exact V_reti E dX0_isWord_23 rfl rfl ⟨_, rfl, ⟨by first | exact bI_t (by omega) | exact bI_f (by omega), rfl⟩⟩
      ·
        refine V_iconst G dX0_isWord_18 ?_
        refine V_goto G dX0_isWord_19 (tgt := 23) (by decide) ?_
        exact V_reti E dX0_isWord_23 rfl rfl ⟨_, rfl, ⟨by first | exact bI_t (by omega) | exact bI_f (by omega), rfl⟩⟩

set_option maxRecDepth 100000 in
set_option maxHeartbeats 2000000 in
theorem c_X0_wayOf {l : Launch} {d : Nat} {h : Hp} {w k z kh : Int} (hw : inr w) (hk : 0 ≤ k ∧ k ≤ 6) (hz : inr z) (hkh : inr kh) (hd : 1 ≤ d := by omega) : CP l d 0 0 yX0_wayOf cX0_wayOf 4 (Option.some Jvm.ClassFile.FieldType.int) [iv w, iv k, iv z, iv kh] h (pI fun x h1 => x = wayF w k z kh ∧ h1 = h) := by
  refine CP.ofV (L := [some (.int (Int32.ofInt w)), some (.int (Int32.ofInt k)), some (.int (Int32.ofInt z)), some (.int (Int32.ofInt kh))]) RX0 (by decide +kernel) rfl (Nat.le_of_ble_eq_true rfl) rfl (fun X hX G E => ?_)
  subst hX
  refine V_iload2 G dX0_wayOf_0 ?_
  refine V_iconst G dX0_wayOf_1 ?_
  refine V_icmpne G dX0_wayOf_2 (tgt := 7) (by decide) (by first | exact r _ _ | assumption | exact ⟨by omega, by omega⟩) (by first | exact r _ _ | assumption | exact ⟨by omega, by omega⟩) (fun c_2 => ?_) (fun c_2 => ?_)
  ·
    refine V_iload1 G dX0_wayOf_7 ?_
    rcases (show k = 0 ∨ k = 1 ∨ k = 2 ∨ k = 3 ∨ k = 4 ∨ k = 5 ∨ k = 6 by omega) with e_8 | e_8 | e_8 | e_8 | e_8 | e_8 | e_8
    · rw [e_8]
      refine V_tableIn G dX0_wayOf_8 (tgt := 52) ⟨by decide, by decide⟩ (by decide) (by decide) rfl (by decide) ?_
      refine V_iload3 G dX0_wayOf_52 ?_
      refine V_iconst G dX0_wayOf_53 ?_
      refine V_icmpne G dX0_wayOf_54 (tgt := 68) (by decide) (by first | exact r _ _ | assumption | exact ⟨by omega, by omega⟩) (by first | exact r _ _ | assumption | exact ⟨by omega, by omega⟩) (fun c_54 => ?_) (fun c_54 => ?_)
      ·
        refine V_iload3 G dX0_wayOf_68 ?_
        refine V_iconst G dX0_wayOf_69 ?_
        refine V_icmpne G dX0_wayOf_70 (tgt := 77) (by decide) (by first | exact r _ _ | assumption | exact ⟨by omega, by omega⟩) (by first | exact r _ _ | assumption | exact ⟨by omega, by omega⟩) (fun c_70 => ?_) (fun c_70 => ?_)
        ·
          refine V_bipush G dX0_wayOf_77 (by decide) ?_
          exact V_reti E dX0_wayOf_79 rfl rfl ⟨_, rfl, ⟨by unfold wayF; first | (rw [if_pos (by omega)]; done) | (rw [if_neg (by omega), if_pos (by omega), if_pos (by omega), if_pos (by omega)]; done) | (rw [if_neg (by omega), if_pos (by omega), if_pos (by omega), if_neg (by omega)]; done) | (rw [if_neg (by omega), if_pos (by omega), if_neg (by omega), if_pos (by omega)]; done) | (rw [if_neg (by omega), if_pos (by omega), if_neg (by omega), if_neg (by omega)]; done) | (rw [if_neg (by omega), if_neg (by omega), if_pos (by omega)]; done) | (rw [if_neg (by omega), if_neg (by omega), if_neg (by omega), if_pos (by omega)]; done) | (rw [if_neg (by omega), if_neg (by omega), if_neg (by omega), if_neg (by omega)]; done), rfl⟩⟩
        ·
          refine V_iconst G dX0_wayOf_73 ?_
          refine V_goto G dX0_wayOf_74 (tgt := 79) (by decide) ?_
          exact V_reti E dX0_wayOf_79 rfl rfl ⟨_, rfl, ⟨by unfold wayF; first | (rw [if_pos (by omega)]; done) | (rw [if_neg (by omega), if_pos (by omega), if_pos (by omega), if_pos (by omega)]; done) | (rw [if_neg (by omega), if_pos (by omega), if_pos (by omega), if_neg (by omega)]; done) | (rw [if_neg (by omega), if_pos (by omega), if_neg (by omega), if_pos (by omega)]; done) | (rw [if_neg (by omega), if_pos (by omega), if_neg (by omega), if_neg (by omega)]; done) | (rw [if_neg (by omega), if_neg (by omega), if_pos (by omega)]; done) | (rw [if_neg (by omega), if_neg (by omega), if_neg (by omega), if_pos (by omega)]; done) | (rw [if_neg (by omega), if_neg (by omega), if_neg (by omega), if_neg (by omega)]; done), rfl⟩⟩
      ·
        refine V_iload0 G dX0_wayOf_57 ?_
        refine V_iload2 G dX0_wayOf_58 ?_
        refine V_icmpge G dX0_wayOf_59 (tgt := 66) (by decide) (by first | exact r _ _ | assumption | exact ⟨by omega, by omega⟩) (by first | exact r _ _ | assumption | exact ⟨by omega, by omega⟩) (fun c_59 => ?_) (fun c_59 => ?_)
        ·
          refine V_iconst G dX0_wayOf_66 ?_
          exact V_reti E dX0_wayOf_67 rfl rfl ⟨_, rfl, ⟨by unfold wayF; first | (rw [if_pos (by omega)]; done) | (rw [if_neg (by omega), if_pos (by omega), if_pos (by omega), if_pos (by omega)]; done) | (rw [if_neg (by omega), if_pos (by omega), if_pos (by omega), if_neg (by omega)]; done) | (rw [if_neg (by omega), if_pos (by omega), if_neg (by omega), if_pos (by omega)]; done) | (rw [if_neg (by omega), if_pos (by omega), if_neg (by omega), if_neg (by omega)]; done) | (rw [if_neg (by omega), if_neg (by omega), if_pos (by omega)]; done) | (rw [if_neg (by omega), if_neg (by omega), if_neg (by omega), if_pos (by omega)]; done) | (rw [if_neg (by omega), if_neg (by omega), if_neg (by omega), if_neg (by omega)]; done), rfl⟩⟩
        ·
          refine V_iconst G dX0_wayOf_62 ?_
          refine V_goto G dX0_wayOf_63 (tgt := 67) (by decide) ?_
          exact V_reti E dX0_wayOf_67 rfl rfl ⟨_, rfl, ⟨by unfold wayF; first | (rw [if_pos (by omega)]; done) | (rw [if_neg (by omega), if_pos (by omega), if_pos (by omega), if_pos (by omega)]; done) | (rw [if_neg (by omega), if_pos (by omega), if_pos (by omega), if_neg (by omega)]; done) | (rw [if_neg (by omega), if_pos (by omega), if_neg (by omega), if_pos (by omega)]; done) | (rw [if_neg (by omega), if_pos (by omega), if_neg (by omega), if_neg (by omega)]; done) | (rw [if_neg (by omega), if_neg (by omega), if_pos (by omega)]; done) | (rw [if_neg (by omega), if_neg (by omega), if_neg (by omega), if_pos (by omega)]; done) | (rw [if_neg (by omega), if_neg (by omega), if_neg (by omega), if_neg (by omega)]; done), rfl⟩⟩
    · rw [e_8]
      refine V_tableIn G dX0_wayOf_8 (tgt := 82) ⟨by decide, by decide⟩ (by decide) (by decide) rfl (by decide) ?_
      refine V_iconst G dX0_wayOf_82 ?_
      exact V_reti E dX0_wayOf_83 rfl rfl ⟨_, rfl, ⟨by unfold wayF; first | (rw [if_pos (by omega)]; done) | (rw [if_neg (by omega), if_pos (by omega), if_pos (by omega), if_pos (by omega)]; done) | (rw [if_neg (by omega), if_pos (by omega), if_pos (by omega), if_neg (by omega)]; done) | (rw [if_neg (by omega), if_pos (by omega), if_neg (by omega), if_pos (by omega)]; done) | (rw [if_neg (by omega), if_pos (by omega), if_neg (by omega), if_neg (by omega)]; done) | (rw [if_neg (by omega), if_neg (by omega), if_pos (by omega)]; done) | (rw [if_neg (by omega), if_neg (by omega), if_neg (by omega), if_pos (by omega)]; done) | (rw [if_neg (by omega), if_neg (by omega), if_neg (by omega), if_neg (by omega)]; done), rfl⟩⟩
    · rw [e_8]
      refine V_tableIn G dX0_wayOf_8 (tgt := 84) ⟨by decide, by decide⟩ (by decide) (by decide) rfl (by decide) ?_
      refine V_iconst G dX0_wayOf_84 ?_
      exact V_reti E dX0_wayOf_85 rfl rfl ⟨_, rfl, ⟨by unfold wayF; first | (rw [if_pos (by omega)]; done) | (rw [if_neg (by omega), if_pos (by omega), if_pos (by omega), if_pos (by omega)]; done) | (rw [if_neg (by omega), if_pos (by omega), if_pos (by omega), if_neg (by omega)]; done) | (rw [if_neg (by omega), if_pos (by omega), if_neg (by omega), if_pos (by omega)]; done) | (rw [if_neg (by omega), if_pos (by omega), if_neg (by omega), if_neg (by omega)]; done) | (rw [if_neg (by omega), if_neg (by omega), if_pos (by omega)]; done) | (rw [if_neg (by omega), if_neg (by omega), if_neg (by omega), if_pos (by omega)]; done) | (rw [if_neg (by omega), if_neg (by omega), if_neg (by omega), if_neg (by omega)]; done), rfl⟩⟩
    · rw [e_8]
      refine V_tableIn G dX0_wayOf_8 (tgt := 84) ⟨by decide, by decide⟩ (by decide) (by decide) rfl (by decide) ?_
      refine V_iconst G dX0_wayOf_84 ?_
      exact V_reti E dX0_wayOf_85 rfl rfl ⟨_, rfl, ⟨by unfold wayF; first | (rw [if_pos (by omega)]; done) | (rw [if_neg (by omega), if_pos (by omega), if_pos (by omega), if_pos (by omega)]; done) | (rw [if_neg (by omega), if_pos (by omega), if_pos (by omega), if_neg (by omega)]; done) | (rw [if_neg (by omega), if_pos (by omega), if_neg (by omega), if_pos (by omega)]; done) | (rw [if_neg (by omega), if_pos (by omega), if_neg (by omega), if_neg (by omega)]; done) | (rw [if_neg (by omega), if_neg (by omega), if_pos (by omega)]; done) | (rw [if_neg (by omega), if_neg (by omega), if_neg (by omega), if_pos (by omega)]; done) | (rw [if_neg (by omega), if_neg (by omega), if_neg (by omega), if_neg (by omega)]; done), rfl⟩⟩
    · rw [e_8]
      refine V_tableIn G dX0_wayOf_8 (tgt := 84) ⟨by decide, by decide⟩ (by decide) (by decide) rfl (by decide) ?_
      refine V_iconst G dX0_wayOf_84 ?_
      exact V_reti E dX0_wayOf_85 rfl rfl ⟨_, rfl, ⟨by unfold wayF; first | (rw [if_pos (by omega)]; done) | (rw [if_neg (by omega), if_pos (by omega), if_pos (by omega), if_pos (by omega)]; done) | (rw [if_neg (by omega), if_pos (by omega), if_pos (by omega), if_neg (by omega)]; done) | (rw [if_neg (by omega), if_pos (by omega), if_neg (by omega), if_pos (by omega)]; done) | (rw [if_neg (by omega), if_pos (by omega), if_neg (by omega), if_neg (by omega)]; done) | (rw [if_neg (by omega), if_neg (by omega), if_pos (by omega)]; done) | (rw [if_neg (by omega), if_neg (by omega), if_neg (by omega), if_pos (by omega)]; done) | (rw [if_neg (by omega), if_neg (by omega), if_neg (by omega), if_neg (by omega)]; done), rfl⟩⟩
    · rw [e_8]
      refine V_tableIn G dX0_wayOf_8 (tgt := 80) ⟨by decide, by decide⟩ (by decide) (by decide) rfl (by decide) ?_
      refine V_iconst G dX0_wayOf_80 ?_
      exact V_reti E dX0_wayOf_81 rfl rfl ⟨_, rfl, ⟨by unfold wayF; first | (rw [if_pos (by omega)]; done) | (rw [if_neg (by omega), if_pos (by omega), if_pos (by omega), if_pos (by omega)]; done) | (rw [if_neg (by omega), if_pos (by omega), if_pos (by omega), if_neg (by omega)]; done) | (rw [if_neg (by omega), if_pos (by omega), if_neg (by omega), if_pos (by omega)]; done) | (rw [if_neg (by omega), if_pos (by omega), if_neg (by omega), if_neg (by omega)]; done) | (rw [if_neg (by omega), if_neg (by omega), if_pos (by omega)]; done) | (rw [if_neg (by omega), if_neg (by omega), if_neg (by omega), if_pos (by omega)]; done) | (rw [if_neg (by omega), if_neg (by omega), if_neg (by omega), if_neg (by omega)]; done), rfl⟩⟩
    · rw [e_8]
      refine V_tableIn G dX0_wayOf_8 (tgt := 82) ⟨by decide, by decide⟩ (by decide) (by decide) rfl (by decide) ?_
      refine V_iconst G dX0_wayOf_82 ?_
      exact V_reti E dX0_wayOf_83 rfl rfl ⟨_, rfl, ⟨by unfold wayF; first | (rw [if_pos (by omega)]; done) | (rw [if_neg (by omega), if_pos (by omega), if_pos (by omega), if_pos (by omega)]; done) | (rw [if_neg (by omega), if_pos (by omega), if_pos (by omega), if_neg (by omega)]; done) | (rw [if_neg (by omega), if_pos (by omega), if_neg (by omega), if_pos (by omega)]; done) | (rw [if_neg (by omega), if_pos (by omega), if_neg (by omega), if_neg (by omega)]; done) | (rw [if_neg (by omega), if_neg (by omega), if_pos (by omega)]; done) | (rw [if_neg (by omega), if_neg (by omega), if_neg (by omega), if_pos (by omega)]; done) | (rw [if_neg (by omega), if_neg (by omega), if_neg (by omega), if_neg (by omega)]; done), rfl⟩⟩
  ·
    refine V_iconst G dX0_wayOf_5 ?_
    exact V_reti E dX0_wayOf_6 rfl rfl ⟨_, rfl, ⟨by unfold wayF; first | (rw [if_pos (by omega)]; done) | (rw [if_neg (by omega), if_pos (by omega), if_pos (by omega), if_pos (by omega)]; done) | (rw [if_neg (by omega), if_pos (by omega), if_pos (by omega), if_neg (by omega)]; done) | (rw [if_neg (by omega), if_pos (by omega), if_neg (by omega), if_pos (by omega)]; done) | (rw [if_neg (by omega), if_pos (by omega), if_neg (by omega), if_neg (by omega)]; done) | (rw [if_neg (by omega), if_neg (by omega), if_pos (by omega)]; done) | (rw [if_neg (by omega), if_neg (by omega), if_neg (by omega), if_pos (by omega)]; done) | (rw [if_neg (by omega), if_neg (by omega), if_neg (by omega), if_neg (by omega)]; done), rfl⟩⟩

set_option maxRecDepth 100000 in
set_option maxHeartbeats 2000000 in
theorem c_X0_riseOf {l : Launch} {d : Nat} {h : Hp} {a k : Int} (ha : 0 ≤ a ∧ a ≤ 6) (hk : inr k) (hd : 1 ≤ d := by omega) : CP l d 0 0 yX0_riseOf cX0_riseOf 2 (Option.some Jvm.ClassFile.FieldType.int) [iv a, iv k] h (pI fun x h1 => x = riseF a k ∧ h1 = h) := by
  refine CP.ofV (L := [some (.int (Int32.ofInt a)), some (.int (Int32.ofInt k))]) RX0 (by decide +kernel) rfl (Nat.le_of_ble_eq_true rfl) rfl (fun X hX G E => ?_)
  subst hX
  refine V_iload0 G dX0_riseOf_0 ?_
  rcases (show a = 3 ∨ a = 4 ∨ a = 5 ∨ a = 6 ∨ (a < 3 ∨ 6 < a) by omega) with e_1 | e_1 | e_1 | e_1 | e_1
  · rw [e_1]
    refine V_tableIn G dX0_riseOf_1 (tgt := 32) ⟨by decide, by decide⟩ (by decide) (by decide) rfl (by decide) ?_
    refine V_iconst G dX0_riseOf_32 ?_
    exact V_reti E dX0_riseOf_33 rfl rfl ⟨_, rfl, ⟨by unfold riseF; first | (rw [if_pos (by omega)]; done) | (rw [if_neg (by omega), if_pos (by omega), if_pos (by omega)]; done) | (rw [if_neg (by omega), if_pos (by omega), if_neg (by omega)]; done) | (rw [if_neg (by omega), if_neg (by omega)]; done), rfl⟩⟩
  · rw [e_1]
    refine V_tableIn G dX0_riseOf_1 (tgt := 46) ⟨by decide, by decide⟩ (by decide) (by decide) rfl (by decide) ?_
    refine V_iconst G dX0_riseOf_46 ?_
    exact V_reti E dX0_riseOf_47 rfl rfl ⟨_, rfl, ⟨by unfold riseF; first | (rw [if_pos (by omega)]; done) | (rw [if_neg (by omega), if_pos (by omega), if_pos (by omega)]; done) | (rw [if_neg (by omega), if_pos (by omega), if_neg (by omega)]; done) | (rw [if_neg (by omega), if_neg (by omega)]; done), rfl⟩⟩
  · rw [e_1]
    refine V_tableIn G dX0_riseOf_1 (tgt := 34) ⟨by decide, by decide⟩ (by decide) (by decide) rfl (by decide) ?_
    refine V_iload1 G dX0_riseOf_34 ?_
    refine V_bipush G dX0_riseOf_35 (by decide) ?_
    refine V_icmpne G dX0_riseOf_37 (tgt := 44) (by decide) (by first | exact r _ _ | assumption | exact ⟨by omega, by omega⟩) (by first | exact r _ _ | assumption | exact ⟨by omega, by omega⟩) (fun c_37 => ?_) (fun c_37 => ?_)
    ·
      refine V_iconst G dX0_riseOf_44 ?_
      exact V_reti E dX0_riseOf_45 rfl rfl ⟨_, rfl, ⟨by unfold riseF; first | (rw [if_pos (by omega)]; done) | (rw [if_neg (by omega), if_pos (by omega), if_pos (by omega)]; done) | (rw [if_neg (by omega), if_pos (by omega), if_neg (by omega)]; done) | (rw [if_neg (by omega), if_neg (by omega)]; done), rfl⟩⟩
    ·
      refine V_iconst G dX0_riseOf_40 ?_
      refine V_goto G dX0_riseOf_41 (tgt := 45) (by decide) ?_
      exact V_reti E dX0_riseOf_45 rfl rfl ⟨_, rfl, ⟨by unfold riseF; first | (rw [if_pos (by omega)]; done) | (rw [if_neg (by omega), if_pos (by omega), if_pos (by omega)]; done) | (rw [if_neg (by omega), if_pos (by omega), if_neg (by omega)]; done) | (rw [if_neg (by omega), if_neg (by omega)]; done), rfl⟩⟩
  · rw [e_1]
    refine V_tableIn G dX0_riseOf_1 (tgt := 32) ⟨by decide, by decide⟩ (by decide) (by decide) rfl (by decide) ?_
    refine V_iconst G dX0_riseOf_32 ?_
    exact V_reti E dX0_riseOf_33 rfl rfl ⟨_, rfl, ⟨by unfold riseF; first | (rw [if_pos (by omega)]; done) | (rw [if_neg (by omega), if_pos (by omega), if_pos (by omega)]; done) | (rw [if_neg (by omega), if_pos (by omega), if_neg (by omega)]; done) | (rw [if_neg (by omega), if_neg (by omega)]; done), rfl⟩⟩
  ·
    refine V_tableOut G dX0_riseOf_1 (tgt := 46) ⟨by omega, by omega⟩ (by omega) (by decide) ?_
    refine V_iconst G dX0_riseOf_46 ?_
    exact V_reti E dX0_riseOf_47 rfl rfl ⟨_, rfl, ⟨by unfold riseF; first | (rw [if_pos (by omega)]; done) | (rw [if_neg (by omega), if_pos (by omega), if_pos (by omega)]; done) | (rw [if_neg (by omega), if_pos (by omega), if_neg (by omega)]; done) | (rw [if_neg (by omega), if_neg (by omega)]; done), rfl⟩⟩

set_option maxRecDepth 100000 in
set_option maxHeartbeats 2000000 in
theorem c_X0_levelOf {l : Launch} {d : Nat} {h : Hp} (r : Rg h) {q : Nat} (hq : isDr q) {n : Int} {kd f : Int → Int} (hn : hI h q 6 = n) (hn0 : 0 ≤ n ∧ n ≤ 12) (hc : ∀ w, 0 ≤ w → w < n → hI h (q + 1) w = kd w ∧ hI h (q + 2) w = f w ∧ hI h (q + 3) w = heldF kd f w) {w : Int} (hw : inr w) (hd : 2 ≤ d := by omega) : CP l d 0 0 yX0_levelOf cX0_levelOf 5 (Option.some Jvm.ClassFile.FieldType.int) [.ref q, iv w] h (pI fun x h1 => x = levC n kd f 12 w ∧ h1 = h) := by
  refine CP.ofV (L := [some (.ref q), some (.int (Int32.ofInt w)), none, none, none]) RX0 (by decide +kernel) rfl (Nat.le_of_ble_eq_true rfl) rfl (fun X hX G E => ?_)
  subst hX
  have hq_ := hq
  obtain ⟨⟨hq0, hq1, hq2, hq3, hq4, hq5, hq6⟩, hs0, ⟨hf0, hf1, hf2, hf3, hf4, hf5⟩, hs1, hs2, hs3, hs4, hs5, hs6⟩ := hq
  have lp : ∀ (m : Nat) (k : Int) (acc : Int) (u : Int), k + m = 12 → 0 ≤ k → inr u → acc + levC n kd f m u = levC n kd f 12 w → V X 0 0 7 [some (.ref q), some (.int (Int32.ofInt w)), some (.int (Int32.ofInt acc)), some (.int (Int32.ofInt u)), some (.int (Int32.ofInt k))] [] h := by
    intro m
    induction m with
    | zero =>
      intro k acc u hm_ hk0 hu hs
      refine V_iload4 G dX0_levelOf_7 ?_
      refine V_bipush G dX0_levelOf_9 (by decide) ?_
      refine V_icmpge G dX0_levelOf_11 (tgt := 53) (by decide) (by first | exact r _ _ | assumption | exact ⟨by omega, by omega⟩) (by first | exact r _ _ | assumption | exact ⟨by omega, by omega⟩) (fun c_11 => ?_) (fun c_11 => ?_)
      ·
        refine V_iload2 G dX0_levelOf_53 ?_
        exact V_reti E dX0_levelOf_54 rfl rfl ⟨_, rfl, ⟨by rw [← hs]; simp [levC], rfl⟩⟩
      · omega
    | succ m ih =>
      intro k acc u hm_ hk0 hu hs
      refine V_iload4 G dX0_levelOf_7 ?_
      refine V_bipush G dX0_levelOf_9 (by decide) ?_
      refine V_icmpge G dX0_levelOf_11 (tgt := 53) (by decide) (by first | exact r _ _ | assumption | exact ⟨by omega, by omega⟩) (by first | exact r _ _ | assumption | exact ⟨by omega, by omega⟩) (fun c_11 => ?_) (fun c_11 => ?_)
      · omega
      ·
        refine V_aload0 G dX0_levelOf_14 ?_
        refine V_iload3 G dX0_levelOf_15 ?_
        refine V_cV1i (d1 := 1) G m_X0_68 dX0_levelOf_16 (by first | decide | assumption) (by first | rfl | assumption) (c_X0_isWord hq_ hn hn0 hu) (by omega) (by omega) (by omega) (Nat.le_of_ble_eq_true rfl) (fun x_16 h_16 hp_16 => ?_)
        rw [hp_16.1, hp_16.2]
        refine V_ifeqB G dX0_levelOf_19 (tgt := 53) (by decide)  (fun c_19 => ?_) (fun c_19 => ?_)
        ·
          refine V_iload2 G dX0_levelOf_53 ?_
          exact V_reti E dX0_levelOf_54 rfl rfl ⟨_, rfl, ⟨by rw [← hs]; conv => { rhs; rw [levC, if_neg c_19] }; omega, rfl⟩⟩
        ·
          obtain ⟨c1, c2, c3⟩ := hc u c_19.1 c_19.2
          refine V_iload2 G dX0_levelOf_22 ?_
          refine V_aload0 G dX0_levelOf_23 ?_
          refine V_getR G fl_X0_18 dX0_levelOf_24 (by first | decide | assumption) (by first | rfl | assumption) rfl (by first | rfl | assumption) ?_
          refine V_iload3 G dX0_levelOf_27 ?_
          refine V_ialde G dX0_levelOf_28 (by first | decide | assumption) (by first | rfl | assumption) (by decide) ⟨by omega, by omega⟩ c3 ?_
          refine V_aload0 G dX0_levelOf_29 ?_
          refine V_getR G fl_X0_9 dX0_levelOf_30 (by first | decide | assumption) (by first | rfl | assumption) rfl (by first | rfl | assumption) ?_
          refine V_iload3 G dX0_levelOf_33 ?_
          refine V_ialde G dX0_levelOf_34 (by first | decide | assumption) (by first | rfl | assumption) (by decide) ⟨by omega, by omega⟩ c1 ?_
          refine V_cS2i (d1 := 1) G m_X0_82 dX0_levelOf_35 (c_X0_riseOf (heldF_r kd f u) (by rw [← c1]; exact r _ _)) (by omega) (by omega) (by omega) (Nat.le_of_ble_eq_true rfl) (fun x_35 h_35 hp_35 => ?_)
          rw [hp_35.1, hp_35.2]
          refine V_iadd G dX0_levelOf_38 ?_
          refine V_istore2 G dX0_levelOf_39 rfl ?_
          refine V_aload0 G dX0_levelOf_40 ?_
          refine V_getR G fl_X0_15 dX0_levelOf_41 (by first | decide | assumption) (by first | rfl | assumption) rfl (by first | rfl | assumption) ?_
          refine V_iload3 G dX0_levelOf_44 ?_
          refine V_ialde G dX0_levelOf_45 (by first | decide | assumption) (by first | rfl | assumption) (by decide) ⟨by omega, by omega⟩ c2 ?_
          refine V_istore3 G dX0_levelOf_46 rfl ?_
          refine V_iinc4 G dX0_levelOf_47 rfl ?_
          refine V_goto G dX0_levelOf_50 (tgt := 7) (by decide) ?_
          exact ih (k + 1) _ _ (by omega) (by omega) (by rw [← c2]; exact r _ _) (by rw [← hs]; conv => { rhs; rw [levC, if_pos c_19] }; omega)
  refine V_iconst G dX0_levelOf_0 ?_
  refine V_istore2 G dX0_levelOf_1 rfl ?_
  refine V_iload1 G dX0_levelOf_2 ?_
  refine V_istore3 G dX0_levelOf_3 rfl ?_
  refine V_iconst G dX0_levelOf_4 ?_
  refine V_istore4 G dX0_levelOf_5 rfl ?_
  exact lp 12 0 0 w (by omega) (by omega) hw (by simp)


def SD (q a : Nat) (j : Int) : Bool := (a == q && j == 7) || a == q + 6
set_option maxRecDepth 100000 in
set_option maxHeartbeats 3000000 in
theorem c_read {l : Launch} {q : Nat} (hq : isDr q) {n : Int} (hn0 : 0 ≤ n ∧ n ≤ 12) {f : Int → Int} : ∀ (m : Nat) (w dep : Int) (d : Nat) (h : Hp), dep + m = 13 → 0 ≤ dep → m + 3 ≤ d → Rg h → hI h q 6 = n → (∀ j, 0 ≤ j → j < n → hI h (q + 2) j = f j) → inr w → 0 ≤ hI h q 7 → hI h q 7 + (raF n f m w).length ≤ 1000 →
    CP l d 0 0 yX0_readAlong cX0_readAlong 4 (Option.none : Option Jvm.ClassFile.FieldType) [.ref q, iv w, iv dep] h (pV fun h1 => Rg h1 ∧ eqx (SD q) h h1 ∧ hI h1 q 7 = hI h q 7 + (raF n f m w).length ∧ ∀ j, hI h1 (q + 6) j = tuF (fun j => hI h (q + 6) j) (hI h q 7) (raF n f m w) j) := by
  have hq_ := hq
  obtain ⟨⟨hq0, hq1, hq2, hq3, hq4, hq5, hq6⟩, hs0, ⟨hf0, hf1, hf2, hf3, hf4, hf5⟩, hs1, hs2, hs3, hs4, hs5, hs6⟩ := hq
  intro m
  induction m with
  | zero =>
    intro w dep d h hdm hd0 hd r hn hh hw ht0 hlen
    refine CP.ofV (L := [some (.ref q), some (.int (Int32.ofInt w)), some (.int (Int32.ofInt dep)), none]) RX0 (by decide +kernel) rfl (Nat.le_of_ble_eq_true rfl) rfl (fun X hX G E => ?_)
    subst hX
    refine V_aload0 G dX0_readAlong_0 ?_
    refine V_iload1 G dX0_readAlong_1 ?_
    refine V_cV1i (d1 := 1) G m_X0_68 dX0_readAlong_2 (by first | decide | assumption) (by first | rfl | assumption) (c_X0_isWord hq_ hn hn0 hw) (by omega) (by omega) (by omega) (Nat.le_of_ble_eq_true rfl) (fun x_2 h_2 hp_2 => ?_)
    rw [hp_2.1, hp_2.2]
    refine V_ifeqB G dX0_readAlong_5 (tgt := 14) (by decide)  (fun c_5 => ?_) (fun c_5 => ?_)
    ·
      exact V_retv E dX0_readAlong_14 rfl ⟨rfl, ⟨r, eqx.rf, by simp [raF], fun _ => rfl⟩⟩
    ·
      refine V_iload2 G dX0_readAlong_8 ?_
      refine V_bipush G dX0_readAlong_9 (by decide) ?_
      refine V_icmple G dX0_readAlong_11 (tgt := 15) (by decide) (by first | exact r _ _ | assumption | exact ⟨by omega, by omega⟩) (by first | exact r _ _ | assumption | exact ⟨by omega, by omega⟩) (fun c_11 => ?_) (fun c_11 => ?_)
      · omega
      ·
        exact V_retv E dX0_readAlong_14 rfl ⟨rfl, ⟨r, eqx.rf, by simp [raF], fun _ => rfl⟩⟩
  | succ M ihM =>
    intro w dep d h hdm hd0 hd r hn hh hw ht0 hlen
    refine CP.ofV (L := [some (.ref q), some (.int (Int32.ofInt w)), some (.int (Int32.ofInt dep)), none]) RX0 (by decide +kernel) rfl (Nat.le_of_ble_eq_true rfl) rfl (fun X hX G E => ?_)
    subst hX
    generalize hT0 : (fun j => hI h (q + 6) j) = T at E
    generalize hTt : hI h q 7 = t at E ht0 hlen
    by_cases hww : 0 ≤ w ∧ w < n
    · skip
      have eR : raF n f (M + 1) w = (List.range' 0 w.toNat).flatMap (fun x : Nat => if f x = w then raF n f M x else []) ++ w :: (List.range' (w + 1).toNat (n - w - 1).toNat).flatMap (fun x : Nat => if f x = w then raF n f M x else []) := by rw [raF, if_pos hww]
      have r := r
      have lp2 : ∀ (m : Nat) (k : Int) (g : Hp) (Vl : List Int), k + m = n → w + 1 ≤ k → Rg g → eqx (SD q) h g → hI g q 7 = t + Vl.length → (∀ j, hI g (q + 6) j = tuF T t Vl j) → Vl ++ (List.range' k.toNat m).flatMap (fun x : Nat => if f x = w then raF n f M x else []) = raF n f (M + 1) w → V X 0 0 70 [some (.ref q), some (.int (Int32.ofInt w)), some (.int (Int32.ofInt dep)), some (.int (Int32.ofInt k))] [] g := by
        intro m
        induction m with
        | zero =>
          intro k g Vl hm_ hk0 r1 eg ht hT hV
          have hgn : hI g q 6 = n := (eg.1 q 6 (by simp [SD])).trans hn
          refine V_iload3 G dX0_readAlong_70 ?_
          refine V_aload0 G dX0_readAlong_71 ?_
          refine V_getIe (jz := 6) G fl_X0_30 dX0_readAlong_72 (by first | decide | assumption) (by first | rfl | assumption) rfl rfl (by first | (simp only [hI_sI, hI_sL, hL_sI, hL_sL, false_and, true_and, and_false, and_true, and_self, if_false, if_true, hgn]; first | done | rfl) | rfl) ?_
          refine V_icmpge G dX0_readAlong_75 (tgt := 102) (by decide) (by first | exact r _ _ | assumption | exact ⟨by omega, by omega⟩) (by first | exact r _ _ | assumption | exact ⟨by omega, by omega⟩) (fun c_75 => ?_) (fun c_75 => ?_)
          ·
            exact V_retv E dX0_readAlong_102 rfl ⟨rfl, ⟨r1, eg, by rw [ht, ← hV]; simp, fun j => by rw [hT j, ← hV]; simp⟩⟩
          · omega
        | succ m ih =>
          intro k g Vl hm_ hk0 r1 eg ht hT hV
          have hgn : hI g q 6 = n := (eg.1 q 6 (by simp [SD])).trans hn
          have hkk : ((k.toNat : Nat) : Int) = k := by omega
          have hr' : List.range' k.toNat (m + 1) = k.toNat :: List.range' (k + 1).toNat m := by
            rw [List.range'_succ, show (k + 1).toNat = k.toNat + 1 by omega]
          refine V_iload3 G dX0_readAlong_70 ?_
          refine V_aload0 G dX0_readAlong_71 ?_
          refine V_getIe (jz := 6) G fl_X0_30 dX0_readAlong_72 (by first | decide | assumption) (by first | rfl | assumption) rfl rfl (by first | (simp only [hI_sI, hI_sL, hL_sI, hL_sL, false_and, true_and, and_false, and_true, and_self, if_false, if_true, hgn]; first | done | rfl) | rfl) ?_
          refine V_icmpge G dX0_readAlong_75 (tgt := 102) (by decide) (by first | exact r _ _ | assumption | exact ⟨by omega, by omega⟩) (by first | exact r _ _ | assumption | exact ⟨by omega, by omega⟩) (fun c_75 => ?_) (fun c_75 => ?_)
          · omega
          ·
            refine V_aload0 G dX0_readAlong_78 ?_
            refine V_getR G fl_X0_15 dX0_readAlong_79 (by first | decide | assumption) (by first | rfl | assumption) rfl (by first | rfl | assumption) ?_
            refine V_iload3 G dX0_readAlong_82 ?_
            refine V_ialde G dX0_readAlong_83 (by first | decide | assumption) (by first | rfl | assumption) (by decide) ⟨by omega, by omega⟩ ((eg.1 (q + 2) k (by simp [SD])).trans (hh k (by omega) (by omega))) ?_
            refine V_iload1 G dX0_readAlong_84 ?_
            refine V_icmpne G dX0_readAlong_85 (tgt := 96) (by decide) (by rw [← hh k (by omega) (by omega)]; exact r _ _) ⟨by omega, by omega⟩ (fun c_85 => ?_) (fun c_85 => ?_)
            ·
              refine V_iinc3 G dX0_readAlong_96 rfl ?_
              refine V_goto G dX0_readAlong_99 (tgt := 70) (by decide) ?_
              first
              | (have hno : ¬ f ((k.toNat : Nat) : Int) = w := by rw [hkk]; exact c_85
                 exact ih (k + 1) g Vl (by omega) (by omega) r1 eg ht hT (by rw [← hV, hr', List.flatMap_cons, if_neg hno, List.nil_append]))
              | (have hyes : f ((k.toNat : Nat) : Int) = w := by rw [hkk]; omega
                 exact ih (k + 1) _ (Vl ++ raF n f M k) (by omega) (by omega) v1 (eg.tr v2) (by rw [v3, ht, List.length_append]; omega) (fun j => by rw [v4 j, ht, tuF_app, show (fun j => hI g (q + 6) j) = tuF T t Vl from funext hT]) (by rw [← hV, hr', List.flatMap_cons, if_pos hyes, hkk]; simp only [List.append_assoc]))
            ·
              refine V_aload0 G dX0_readAlong_88 ?_
              refine V_iload3 G dX0_readAlong_89 ?_
              refine V_iload2 G dX0_readAlong_90 ?_
              refine V_iconst G dX0_readAlong_91 ?_
              refine V_iadd G dX0_readAlong_92 ?_
              refine V_cV2v (d1 := M + 3) G m_X0_75 dX0_readAlong_93 (by first | decide | assumption) (by first | rfl | assumption) (ihM k (dep + 1) (M + 3) g (by omega) (by omega) (by omega) r1 ((eg.1 q 6 (by simp [SD])).trans hn) (fun j j1 j2 => (eg.1 (q + 2) j (by simp [SD])).trans (hh j j1 j2)) ⟨by omega, by omega⟩ (by omega) (by
                    have hyes : f ((k.toNat : Nat) : Int) = w := by rw [hkk]; omega
                    have e := congrArg List.length hV
                    rw [hr', List.flatMap_cons, if_pos hyes, hkk] at e
                    simp only [List.length_append] at e
                    rw [ht]
                    omega)) (by omega) (by omega) (by omega) (Nat.le_of_ble_eq_true rfl) (fun h_93 hp_93 => ?_)
              obtain ⟨v1, v2, v3, v4⟩ := hp_93
              refine V_iinc3 G dX0_readAlong_96 rfl ?_
              refine V_goto G dX0_readAlong_99 (tgt := 70) (by decide) ?_
              first
              | (have hno : ¬ f ((k.toNat : Nat) : Int) = w := by rw [hkk]; exact c_85
                 exact ih (k + 1) g Vl (by omega) (by omega) r1 eg ht hT (by rw [← hV, hr', List.flatMap_cons, if_neg hno, List.nil_append]))
              | (have hyes : f ((k.toNat : Nat) : Int) = w := by rw [hkk]; omega
                 exact ih (k + 1) _ (Vl ++ raF n f M k) (by omega) (by omega) v1 (eg.tr v2) (by rw [v3, ht, List.length_append]; omega) (fun j => by rw [v4 j, ht, tuF_app, show (fun j => hI g (q + 6) j) = tuF T t Vl from funext hT]) (by rw [← hV, hr', List.flatMap_cons, if_pos hyes, hkk]; simp only [List.append_assoc]))
      have mid : ∀ (g : Hp) (Vl : List Int) (a3 : Option Value), Rg g → eqx (SD q) h g → hI g q 7 = t + Vl.length → (∀ j, hI g (q + 6) j = tuF T t Vl j) → Vl ++ w :: (List.range' (w + 1).toNat (n - w - 1).toNat).flatMap (fun x : Nat => if f x = w then raF n f M x else []) = raF n f (M + 1) w → V X 0 0 46 [some (.ref q), some (.int (Int32.ofInt w)), some (.int (Int32.ofInt dep)), a3] [] g := by
        intro g Vl a3 r1 eg ht hT hV
        have hl9 : Vl.length < 1000 := by
          have e := congrArg List.length hV
          simp only [List.length_append, List.length_cons] at e
          omega
        refine V_aload0 G dX0_readAlong_46 ?_
        refine V_getR G fl_X0_27 dX0_readAlong_47 (by first | decide | assumption) (by first | rfl | assumption) rfl (by first | rfl | assumption) ?_
        refine V_iload1 G dX0_readAlong_50 ?_
        refine V_aload0 G dX0_readAlong_51 ?_
        refine V_getIe (jz := 7) G fl_X0_34 dX0_readAlong_52 (by first | decide | assumption) (by first | rfl | assumption) rfl rfl (by first | (simp only [hI_sI, hI_sL, hL_sI, hL_sL, false_and, true_and, and_false, and_true, and_self, if_false, if_true, ht, show ¬ (q = q + 6) by omega]; first | done | rfl) | rfl) ?_
        refine V_iast G dX0_readAlong_55 (by first | decide | assumption) (by first | rfl | assumption) (by decide) ⟨by omega, by omega⟩ ?_
        refine V_aload0 G dX0_readAlong_56 ?_
        refine V_dup G dX0_readAlong_57 rfl ?_
        refine V_getIe (jz := 7) G fl_X0_34 dX0_readAlong_58 (by first | decide | assumption) (by first | rfl | assumption) rfl rfl (by first | (simp only [hI_sI, hI_sL, hL_sI, hL_sL, false_and, true_and, and_false, and_true, and_self, if_false, if_true, ht, show ¬ (q = q + 6) by omega]; first | done | rfl) | rfl) ?_
        refine V_iconst G dX0_readAlong_61 ?_
        refine V_iadd G dX0_readAlong_62 ?_
        refine V_putI (jz := 7) G fw_X0_34 dX0_readAlong_63 (by first | decide | assumption) (by first | rfl | assumption) rfl rfl ?_
        refine V_iload1 G dX0_readAlong_66 ?_
        refine V_iconst G dX0_readAlong_67 ?_
        refine V_iadd G dX0_readAlong_68 ?_
        refine V_istore3 G dX0_readAlong_69 rfl ?_
        exact lp2 (n - w - 1).toNat (w + 1) _ (Vl ++ [w]) (by omega) (by omega) ((r1.sI ⟨by omega, by omega⟩).sI ⟨by omega, by omega⟩) ((eg.st (by simp [SD])).st (by simp [SD])) (by rw [hI_sI, if_pos ⟨rfl, rfl⟩, List.length_append]; simp; omega) (fun j => by
          rw [hI_sI, if_neg (by omega), hI_sI, tuF_app]
          show _ = upH (tuF T t Vl) w (t + Vl.length) j
          unfold upH
          by_cases e : j = w
          · rw [if_pos ⟨rfl, e⟩, if_pos e]
          · rw [if_neg (fun z => e z.2), if_neg e]; exact hT j) (by rw [← hV]; simp)
      have lp1 : ∀ (m : Nat) (k : Int) (g : Hp) (Vl : List Int), k + m = w → 0 ≤ k → Rg g → eqx (SD q) h g → hI g q 7 = t + Vl.length → (∀ j, hI g (q + 6) j = tuF T t Vl j) → Vl ++ (List.range' k.toNat m).flatMap (fun x : Nat => if f x = w then raF n f M x else []) ++ w :: (List.range' (w + 1).toNat (n - w - 1).toNat).flatMap (fun x : Nat => if f x = w then raF n f M x else []) = raF n f (M + 1) w → V X 0 0 17 [some (.ref q), some (.int (Int32.ofInt w)), some (.int (Int32.ofInt dep)), some (.int (Int32.ofInt k))] [] g := by
        intro m
        induction m with
        | zero =>
          intro k g Vl hm_ hk0 r1 eg ht hT hV
          have hgn : hI g q 6 = n := (eg.1 q 6 (by simp [SD])).trans hn
          refine V_iload3 G dX0_readAlong_17 ?_
          refine V_iload1 G dX0_readAlong_18 ?_
          refine V_icmpge G dX0_readAlong_19 (tgt := 46) (by decide) (by first | exact r _ _ | assumption | exact ⟨by omega, by omega⟩) (by first | exact r _ _ | assumption | exact ⟨by omega, by omega⟩) (fun c_19 => ?_) (fun c_19 => ?_)
          ·
            exact mid g Vl _ r1 eg ht hT (by rw [← hV]; simp)
          · omega
        | succ m ih =>
          intro k g Vl hm_ hk0 r1 eg ht hT hV
          have hgn : hI g q 6 = n := (eg.1 q 6 (by simp [SD])).trans hn
          have hkk : ((k.toNat : Nat) : Int) = k := by omega
          have hr' : List.range' k.toNat (m + 1) = k.toNat :: List.range' (k + 1).toNat m := by
            rw [List.range'_succ, show (k + 1).toNat = k.toNat + 1 by omega]
          refine V_iload3 G dX0_readAlong_17 ?_
          refine V_iload1 G dX0_readAlong_18 ?_
          refine V_icmpge G dX0_readAlong_19 (tgt := 46) (by decide) (by first | exact r _ _ | assumption | exact ⟨by omega, by omega⟩) (by first | exact r _ _ | assumption | exact ⟨by omega, by omega⟩) (fun c_19 => ?_) (fun c_19 => ?_)
          · omega
          ·
            refine V_aload0 G dX0_readAlong_22 ?_
            refine V_getR G fl_X0_15 dX0_readAlong_23 (by first | decide | assumption) (by first | rfl | assumption) rfl (by first | rfl | assumption) ?_
            refine V_iload3 G dX0_readAlong_26 ?_
            refine V_ialde G dX0_readAlong_27 (by first | decide | assumption) (by first | rfl | assumption) (by decide) ⟨by omega, by omega⟩ ((eg.1 (q + 2) k (by simp [SD])).trans (hh k (by omega) (by omega))) ?_
            refine V_iload1 G dX0_readAlong_28 ?_
            refine V_icmpne G dX0_readAlong_29 (tgt := 40) (by decide) (by rw [← hh k (by omega) (by omega)]; exact r _ _) ⟨by omega, by omega⟩ (fun c_29 => ?_) (fun c_29 => ?_)
            ·
              refine V_iinc3 G dX0_readAlong_40 rfl ?_
              refine V_goto G dX0_readAlong_43 (tgt := 17) (by decide) ?_
              first
              | (have hno : ¬ f ((k.toNat : Nat) : Int) = w := by rw [hkk]; exact c_29
                 exact ih (k + 1) g Vl (by omega) (by omega) r1 eg ht hT (by rw [← hV, hr', List.flatMap_cons, if_neg hno, List.nil_append]))
              | (have hyes : f ((k.toNat : Nat) : Int) = w := by rw [hkk]; omega
                 exact ih (k + 1) _ (Vl ++ raF n f M k) (by omega) (by omega) v1 (eg.tr v2) (by rw [v3, ht, List.length_append]; omega) (fun j => by rw [v4 j, ht, tuF_app, show (fun j => hI g (q + 6) j) = tuF T t Vl from funext hT]) (by rw [← hV, hr', List.flatMap_cons, if_pos hyes, hkk]; simp only [List.append_assoc]))
            ·
              refine V_aload0 G dX0_readAlong_32 ?_
              refine V_iload3 G dX0_readAlong_33 ?_
              refine V_iload2 G dX0_readAlong_34 ?_
              refine V_iconst G dX0_readAlong_35 ?_
              refine V_iadd G dX0_readAlong_36 ?_
              refine V_cV2v (d1 := M + 3) G m_X0_75 dX0_readAlong_37 (by first | decide | assumption) (by first | rfl | assumption) (ihM k (dep + 1) (M + 3) g (by omega) (by omega) (by omega) r1 ((eg.1 q 6 (by simp [SD])).trans hn) (fun j j1 j2 => (eg.1 (q + 2) j (by simp [SD])).trans (hh j j1 j2)) ⟨by omega, by omega⟩ (by omega) (by
                    have hyes : f ((k.toNat : Nat) : Int) = w := by rw [hkk]; omega
                    have e := congrArg List.length hV
                    rw [hr', List.flatMap_cons, if_pos hyes, hkk] at e
                    simp only [List.length_append] at e
                    rw [ht]
                    omega)) (by omega) (by omega) (by omega) (Nat.le_of_ble_eq_true rfl) (fun h_37 hp_37 => ?_)
              obtain ⟨v1, v2, v3, v4⟩ := hp_37
              refine V_iinc3 G dX0_readAlong_40 rfl ?_
              refine V_goto G dX0_readAlong_43 (tgt := 17) (by decide) ?_
              first
              | (have hno : ¬ f ((k.toNat : Nat) : Int) = w := by rw [hkk]; exact c_29
                 exact ih (k + 1) g Vl (by omega) (by omega) r1 eg ht hT (by rw [← hV, hr', List.flatMap_cons, if_neg hno, List.nil_append]))
              | (have hyes : f ((k.toNat : Nat) : Int) = w := by rw [hkk]; omega
                 exact ih (k + 1) _ (Vl ++ raF n f M k) (by omega) (by omega) v1 (eg.tr v2) (by rw [v3, ht, List.length_append]; omega) (fun j => by rw [v4 j, ht, tuF_app, show (fun j => hI g (q + 6) j) = tuF T t Vl from funext hT]) (by rw [← hV, hr', List.flatMap_cons, if_pos hyes, hkk]; simp only [List.append_assoc]))
      refine V_aload0 G dX0_readAlong_0 ?_
      refine V_iload1 G dX0_readAlong_1 ?_
      refine V_cV1i (d1 := 1) G m_X0_68 dX0_readAlong_2 (by first | decide | assumption) (by first | rfl | assumption) (c_X0_isWord hq_ hn hn0 hw) (by omega) (by omega) (by omega) (Nat.le_of_ble_eq_true rfl) (fun x_2 h_2 hp_2 => ?_)
      rw [hp_2.1, hp_2.2]
      refine V_ifeqB G dX0_readAlong_5 (tgt := 14) (by decide)  (fun c_5 => ?_) (fun c_5 => ?_)
      · exact absurd hww c_5
      ·
        refine V_iload2 G dX0_readAlong_8 ?_
        refine V_bipush G dX0_readAlong_9 (by decide) ?_
        refine V_icmple G dX0_readAlong_11 (tgt := 15) (by decide) (by first | exact r _ _ | assumption | exact ⟨by omega, by omega⟩) (by first | exact r _ _ | assumption | exact ⟨by omega, by omega⟩) (fun c_11 => ?_) (fun c_11 => ?_)
        ·
          refine V_iconst G dX0_readAlong_15 ?_
          refine V_istore3 G dX0_readAlong_16 rfl ?_
          exact lp1 w.toNat 0 h [] (by omega) (by omega) r eqx.rf (by rw [hTt]; simp) (fun j => by rw [← hT0]; rfl) (by rw [eR]; rfl)
        · omega
    · skip
      have eR : raF n f (M + 1) w = [] := by rw [raF, if_neg hww]
      refine V_aload0 G dX0_readAlong_0 ?_
      refine V_iload1 G dX0_readAlong_1 ?_
      refine V_cV1i (d1 := 1) G m_X0_68 dX0_readAlong_2 (by first | decide | assumption) (by first | rfl | assumption) (c_X0_isWord hq_ hn hn0 hw) (by omega) (by omega) (by omega) (Nat.le_of_ble_eq_true rfl) (fun x_2 h_2 hp_2 => ?_)
      rw [hp_2.1, hp_2.2]
      refine V_ifeqB G dX0_readAlong_5 (tgt := 14) (by decide)  (fun c_5 => ?_) (fun c_5 => ?_)
      ·
        exact V_retv E dX0_readAlong_14 rfl ⟨rfl, ⟨r, eqx.rf, by rw [eR, hTt]; simp, fun j => by rw [eR, ← hT0]; rfl⟩⟩
      · exact absurd c_5 hww

end C6
