section P11
def all3 : List E3 → Prop
  | [] => True
  | e :: T => e.1 = 3 ∧ all3 T
def all5 : List E3 → Prop
  | [] => True
  | e :: T => e.1 = 5 ∧ all5 T
def bsS (sub op : Int) (V : List E3) : List E3 := if sub = -1 then V else (1, sub, op) :: V
/-- names over a base: the verbs, or a subject that waits over the verbs -/
def ICr (b : Bool) (ka he : Int → Int) (w : Int) (R : List E3) (y sub op : Int) : Prop := ∃ M V, R = M ++ bsS sub op V ∧ all5 M ∧ all3 V ∧ (b = true → srF R = cr ka he w y ∧ (sub ≠ -1 → srF V = cr ka he w op))
def InX (b : Bool) (ka he : Int → Int) (w : Nat) (L : List E3) : Prop :=
  (ka ((w : Int) - 1) = 0 ∧ (∃ x c T, L = (5, x, c) :: T) ∧ ICr b ka he w L ((w : Int) - 1) (suA ka w) (opA ka w)) ∨
  (ka ((w : Int) - 1) = 3 ∧ suA ka w = -1 ∧ all3 L ∧ (b = true → srF L = cr ka he w ((w : Int) - 1))) ∨
  (ka ((w : Int) - 1) = 1 ∧ suA ka w = -1 ∧ ∃ x c V, L = (2, x, c) :: V ∧ all3 V ∧ (b = true → x = (w : Int) - 1 ∧ srF L = cr ka he w ((w : Int) - 1))) ∨
  ((ka ((w : Int) - 1) = 4 ∨ ka ((w : Int) - 1) = 5) ∧ ∃ x c R, L = ((if ka ((w : Int) - 1) = 4 then 7 else 6), x, c) :: R ∧ (b = true → x = (w : Int) - 1) ∧ ICr b ka he w R ((w : Int) - 1) (suA ka w) (opA ka w)) ∨
  (ka ((w : Int) - 1) = 6 ∧ suA ka w = -1 ∧ ∃ x V, L = (0, x, opA ka w) :: V ∧ all3 V ∧ (b = true → srF V = cr ka he w (opA ka w)))
def IvS (b : Bool) (ka he : Int → Int) (w : Nat) (L : List E3) : Prop :=
  (ka ((w : Int) - 1) = 2 ∧ (ka (bA ka w) = 1 ∨ ka (bA ka w) = 4 ∨ ka (bA ka w) = 5 ∨ ka (bA ka w) = 6) ∧ ∃ st c X, L = (4, st, c) :: X ∧ (b = true → st = bA ka w + 1) ∧ InX b ka he (bA ka w + 1).toNat X) ∨ InX b ka he w L
/-- the heads so far: alike but for a subject that waits, and adjectives -/
def HdS (ka he : Int → Int) (w : Nat) (hd : Int → Int) : Prop := ∀ j : Int, 0 ≤ j → j < w → j ≠ suA ka w → ¬ (bA ka w < j) → hd j = he j
theorem bA_adj {ka : Int → Int} {w : Nat} (h : ka w = 2) : bA ka (w + 1) = bA ka w := by rw [bA, if_pos h]
theorem bA_non {ka : Int → Int} {w : Nat} (h : ka w ≠ 2) : bA ka (w + 1) = w := by rw [bA, if_neg h]
theorem bA_pre {ka : Int → Int} (hk1 : ka (-1) = 6) {w : Nat} (h : ka ((w : Int) - 1) ≠ 2) : bA ka w = (w : Int) - 1 := by
  cases w with
  | zero => rfl
  | succ w => rw [bA_non (by rw [show ((w + 1 : Nat) : Int) - 1 = w by omega] at h; exact h)]; omega
theorem su_adj1 {ka : Int → Int} : ∀ (w : Nat), bA ka w = -1 → suA ka w = -1 ∧ opA ka w = -1
  | 0, _ => ⟨rfl, rfl⟩
  | w + 1, h => by
    have hb := bA_r ka w
    rw [bA] at h
    by_cases k2 : ka w = 2
    · rw [if_pos k2] at h
      rw [suA, if_neg (by omega), if_neg (by omega), opA, if_neg (by omega)]
      exact su_adj1 w h
    · rw [if_neg k2] at h; omega
theorem su_at {ka : Int → Int} (w : Nat) : suA ka (bA ka w + 1).toNat = suA ka w ∧ opA ka (bA ka w + 1).toNat = opA ka w := by
  have hb := bA_r ka w
  by_cases z : bA ka w = -1
  · have := su_adj1 w z
    rw [z, this.1, this.2]
    exact ⟨rfl, rfl⟩
  · have := su_adj (ka := ka) w (by omega)
    rw [this.1, this.2, show (bA ka w + 1).toNat = (bA ka w).toNat + 1 by omega]
    exact ⟨rfl, rfl⟩
/-- what is known where a name is waited for -/
theorem IvS_want {b : Bool} {ka he : Int → Int} {w : Nat} {L : List E3} (hk1 : ka (-1) = 6) (h : IvS b ka he w L) (hp : ka ((w : Int) - 1) = 1 ∨ ka ((w : Int) - 1) = 2 ∨ ka ((w : Int) - 1) = 4 ∨ ka ((w : Int) - 1) = 5 ∨ ka ((w : Int) - 1) = 6) :
    ∃ X, InX b ka he (bA ka w + 1).toNat X ∧ (ka (bA ka w) = 1 ∨ ka (bA ka w) = 4 ∨ ka (bA ka w) = 5 ∨ ka (bA ka w) = 6) ∧ ((ka ((w : Int) - 1) ≠ 2 ∧ L = X) ∨ (ka ((w : Int) - 1) = 2 ∧ ∃ st c, L = (4, st, c) :: X ∧ (b = true → st = bA ka w + 1))) := by
  rcases h with ⟨h1, h2, st, c, X, h3, h4, h5⟩ | h
  · exact ⟨X, h5, h2, Or.inr ⟨h1, st, c, h3, h4⟩⟩
  · have k2 : ka ((w : Int) - 1) ≠ 2 := by
      rcases h with ⟨e, -⟩ | ⟨e, -⟩ | ⟨e, -⟩ | ⟨e, -⟩ | ⟨e, -⟩ <;> omega
    have eb := bA_pre hk1 k2
    refine ⟨L, ?_, ?_, Or.inl ⟨k2, rfl⟩⟩
    · rw [eb, show ((w : Int) - 1 + 1).toNat = w by omega]; exact h
    · rw [eb]; omega
theorem cr_1 {ka he : Int → Int} {y : Nat} (hy : y < 12) (k1 : ka y = 1) : cr ka he ((y + 1 : Nat) : Int) y = (1, (y : Int), 0) :: cr ka he ((y + 1 : Nat) : Int) (nxt he y) := by
  rw [cr_eq (by omega) (by omega), ownF, if_pos k1]; rfl
theorem cr_0 {ka he : Int → Int} {y : Nat} (hy : y < 12) (k0 : ka y = 0) : cr ka he ((y + 1 : Nat) : Int) y = (0, (y : Int), if ka (he y) = 5 then 0 else 1) :: cr ka he ((y + 1 : Nat) : Int) (nxt he y) := by
  rw [cr_eq (by omega) (by omega), ownF, if_neg (by omega), if_pos ⟨k0, by rw [show (((y + 1 : Nat) : Int) - y - 1).toNat = 0 by omega]; rfl⟩]; rfl
theorem cr_x {ka he : Int → Int} {y : Nat} (w : Int) (hy : y < 12) (k : ka y ≠ 0 ∧ ka y ≠ 1) : cr ka he w y = cr ka he w (nxt he y) := by
  rw [cr_eq (by omega) (by omega), ownF, if_neg k.2, if_neg (fun q => k.1 q.1)]; rfl
theorem all3_sr : ∀ {V : List E3}, all3 V → ∀ e ∈ srF V, e.1 = 1
  | [], _, e, he => by simp [srF] at he
  | (a, b, c) :: T, h, e, he => by
    have h1 : a = 3 := h.1
    rw [srF, if_neg (by omega), if_pos (by omega)] at he
    rcases List.mem_cons.mp he with q | q
    · rw [q]
    · exact all3_sr h.2 e q
theorem all3_app : ∀ {A B : List E3}, all3 (A ++ B) → all3 B
  | [], _, h => h
  | _ :: A, _, h => all3_app (A := A) h.2
theorem all5_app : ∀ {A B : List E3}, all5 (A ++ B) → all5 A ∧ all5 B
  | [], _, h => ⟨trivial, h⟩
  | _ :: A, _, h => ⟨⟨h.1, (all5_app (A := A) h.2).1⟩, (all5_app (A := A) h.2).2⟩
/-- a noun -/
theorem st_noun {b : Bool} {ka he : Int → Int} {w n : Nat} {L : List E3} (hn : n ≤ 12) (hw : w < n) (hk : ∀ w, 0 ≤ ka w ∧ ka w ≤ 6) (hk1 : ka (-1) = 6) (hf : ∀ v : Nat, v ≤ w → follows (ka ((v : Int) - 1)) (ka v)) (hF : b = true → FcP ka he 0 n ∧ suA ka n = -1) (I : IvS b ka he w L) (k0 : ka w = 0) :
    ∃ L2, IvS b ka he (w + 1) L2 ∧ ∀ hd, ∃ hd2, nounStep w L hd = some (L2, hd2) ∧ (b = true → HdS ka he w hd → HdS ka he (w + 1) hd2) := by
  have hp := fol_pre (hf w (Nat.le_refl _)) (hk _)
  obtain ⟨X, hX, kb, hL⟩ := IvS_want hk1 I (by have := hp.2.2.2.2.1 (Or.inl k0); omega)
  have hb := bA_r ka w
  have sa := su_at (ka := ka) w
  have eb1 : bA ka (w + 1) = w := bA_non (by omega)
  have eo : opA ka (w + 1) = opA ka w := by rw [opA, if_neg (by omega)]
  obtain ⟨s, es⟩ : ∃ s : Nat, (bA ka w + 1).toNat = s := ⟨_, rfl⟩
  have es2 : (s : Int) - 1 = bA ka w := by omega
  rw [es] at hX sa
  -- chains of words ahead of the name
  have ext : b = true → ∀ y : Int, y < s → cr ka he ((w + 1 : Nat) : Int) y = cr ka he s y := by
    intro _ y hy
    have := cr_ext (ka := ka) (he := he) (w := (s : Int)) (w + 1 - s) y (by omega) hy (fun z z1 z2 => by
      by_cases q : z = w
      · rw [q, k0]; omega
      · rw [hb.2.2.1 z (by omega) (by omega)]; omega)
    rw [← this]; congr 1; omega
  have e0 : ((w + 1 : Nat) : Int) - 1 = w := by omega
  -- the step, by the step of what is waited for
  have red : ∀ (X2 : List E3) (u : (Int → Int) → Int → Int), (∀ hd : Int → Int, nounTop w X hd = some (X2, u hd)) → (b = true → ∀ hd : Int → Int, (∀ j : Int, bA ka w < j → j < w → hd j = w) → (∀ j : Int, 0 ≤ j → j < w → j ≠ suA ka w → ¬ (bA ka w < j) → hd j = he j) → HdS ka he (w + 1) (u hd)) → ∀ hd : Int → Int, ∃ hd2, nounStep w L hd = some (X2, hd2) ∧ (b = true → HdS ka he w hd → HdS ka he (w + 1) hd2) := by
    intro X2 u h1 h2 hd
    rcases hL with ⟨k2, rfl⟩ | ⟨k2, st, c, rfl, hst⟩
    · have n4 : ∃ a b c T, L = (a, b, c) :: T ∧ a ≠ 4 := by
        rcases hX with ⟨e, -⟩ | ⟨e, -⟩ | ⟨-, -, x, c, V, rfl, -⟩ | ⟨-, x, c, R, rfl, -⟩ | ⟨-, -, x, V, rfl, -⟩
        · rw [es2] at e; omega
        · rw [es2] at e; omega
        · exact ⟨_, _, _, _, rfl, by omega⟩
        · exact ⟨_, _, _, _, rfl, by split <;> omega⟩
        · exact ⟨_, _, _, _, rfl, by omega⟩
      obtain ⟨a, b1, c, T, rfl, a4⟩ := n4
      refine ⟨u hd, by rw [nounStep, if_neg a4]; exact h1 hd, fun hb2 H => h2 hb2 hd (fun j j1 j2 => ?_) H⟩
      have := bA_pre hk1 k2
      omega
    · refine ⟨u (fillH hd st w), by rw [nounStep, if_pos rfl]; exact h1 _, fun hb2 H => h2 hb2 _ (fun j j1 j2 => ?_) (fun j j1 j2 j3 j4 => ?_)⟩
      · have := hst hb2
        unfold fillH
        rw [if_pos (by omega)]
      · have := hst hb2
        unfold fillH
        rw [if_neg (by omega)]
        exact H j j1 j2 j3 j4
  have heads : b = true → (∀ j, bA ka w < j → j < w → he j = w) ∧ (ka (bA ka w) ≠ 6 → he w = bA ka w) := fun hb2 => ((hF hb2).1 w (by omega) hw).2.1 k0
  by_cases k6 : ka (bA ka w) = 6
  · have esu : suA ka (w + 1) = w := by rw [suA, if_pos ⟨k0, k6⟩]
    rcases hX with ⟨e, -⟩ | ⟨e, -⟩ | ⟨e, -⟩ | ⟨e, -⟩ | ⟨-, h2, x, V, rfl, h3, h4⟩
    · rw [es2] at e; omega
    · rw [es2] at e; omega
    · rw [es2] at e; omega
    · rw [es2] at e; omega
    · rw [sa.1] at h2
      rw [sa.2] at h4
      refine ⟨(5, w, 1) :: (1, w, opA ka w) :: V, Or.inr (Or.inl ⟨by rw [e0]; exact k0, ⟨_, _, _, rfl⟩, ?_⟩), ?_⟩
      · refine ⟨[(5, (w : Int), 1)], V, ?_, ⟨rfl, trivial⟩, h3, fun hb2 => ?_⟩
        · rw [esu, eo]; unfold bsS; rw [if_neg (by omega)]; rfl
        · obtain ⟨hF1, hs⟩ := hF hb2
          have hfn : ∀ v : Nat, v < n → follows (ka ((v : Int) - 1)) (ka v) := fun v hv => (hF1 v (by omega) hv).1
          obtain ⟨v, v1, v2, v3, v4⟩ := su_verb hk1 hfn hs (n - (w + 1)) (w + 1) (by omega) (by rw [esu]; omega)
          have fv := (hF1 v (by omega) v2).2.2.1 v3
          rw [v4, esu] at fv
          refine ⟨?_, fun _ => ?_⟩
          · rw [e0, cr_0 (by omega) k0, fv.2.1, if_neg (by omega)]
            have : nxt he w = -1 := by unfold nxt; rw [fv.2.1, if_neg (by omega)]
            rw [this, cr_neg (by omega)]
            simp [srF]
          · have ho := opA_r ka s
            rw [sa.2] at ho
            rw [eo, ext hb2 _ ho.2.1]
            exact h4 hb2
      · refine red _ (fun hd => hd) (fun hd => by rw [sa.2]; simp [nounTop]) (fun hb2 hd H1 H2 j j1 j2 j3 j4 => ?_)
        rw [esu] at j3
        rw [eb1] at j4
        by_cases q : bA ka w < j
        · rw [H1 j q (by omega), (heads hb2).1 j q (by omega)]
        · refine H2 j j1 (by omega) ?_ q
          have : suA ka w = -1 := h2
          omega
  · have esu : suA ka (w + 1) = suA ka w := by rw [suA, if_neg (fun q => k6 q.2), if_neg (by omega)]
    have hnxt : b = true → nxt he w = bA ka w := fun hb2 => by
      unfold nxt; rw [(heads hb2).2 k6, if_pos (by omega)]
    have hset : ∀ (x : Int), (b = true → x = bA ka w) → b = true → ∀ hd : Int → Int, (∀ j : Int, bA ka w < j → j < w → hd j = w) → (∀ j : Int, 0 ≤ j → j < w → j ≠ suA ka w → ¬ (bA ka w < j) → hd j = he j) → HdS ka he (w + 1) (upH hd w x) := by
      intro x hx hb2 hd H1 H2 j j1 j2 j3 j4
      rw [esu] at j3
      unfold upH
      by_cases q : j = w
      · rw [if_pos q, q, (heads hb2).2 k6, hx hb2]
      · rw [if_neg q]
        by_cases p : bA ka w < j
        · rw [H1 j p (by omega), (heads hb2).1 j p (by omega)]
        · exact H2 j j1 (by omega) j3 p
    have fin : ∀ (R : List E3) (c : Int), (∃ M V, R = M ++ bsS (suA ka w) (opA ka w) V ∧ all5 M ∧ all3 V ∧ (b = true → srF R = cr ka he s (bA ka w) ∧ c = (if ka (bA ka w) = 5 then 0 else 1) ∧ (suA ka w ≠ -1 → srF V = cr ka he s (opA ka w)))) → IvS b ka he (w + 1) ((5, w, c) :: R) := by
      rintro R c ⟨M, V, q1, q2, q3, q4⟩
      refine Or.inr (Or.inl ⟨by rw [e0]; exact k0, ⟨_, _, _, rfl⟩, ?_⟩)
      refine ⟨(5, (w : Int), c) :: M, V, by rw [esu, eo, q1]; rfl, ⟨rfl, q2⟩, q3, fun hb2 => ?_⟩
      obtain ⟨p1, p2, p3⟩ := q4 hb2
      refine ⟨?_, fun z => ?_⟩
      · rw [e0, cr_0 (by omega) k0, hnxt hb2, (heads hb2).2 k6, ext hb2 _ (by omega), ← p1, ← p2, srF, if_pos rfl]
      · have ho := opA_r ka s
        rw [sa.2] at ho
        rw [esu] at z
        rw [eo, ext hb2 _ ho.2.1]
        exact p3 z
    rcases hX with ⟨e, -⟩ | ⟨e, -⟩ | ⟨e, h2, x, c, V, rfl, h3, h4⟩ | ⟨e, x, c, R, rfl, hx, M, V, rfl, h5, h3, h4⟩ | ⟨e, -⟩
    · rw [es2] at e; omega
    · rw [es2] at e; omega
    · rw [es2] at e h4
      rw [sa.1] at h2
      refine ⟨(5, w, 1) :: (3, x, c) :: V, fin _ _ ⟨[], (3, x, c) :: V, ?_, trivial, ⟨rfl, h3⟩, fun hb2 => ⟨?_, ?_, fun z => absurd h2 z⟩⟩, ?_⟩
      · unfold bsS; rw [if_pos h2]; rfl
      · rw [← (h4 hb2).2, srF, srF, if_neg (by omega), if_pos (by omega), if_neg (by omega), if_pos (by omega)]
      · rw [if_neg (by omega)]
      · exact red _ (fun hd => upH hd w x) (fun hd => by simp [nounTop]) (hset x (fun hb2 => (h4 hb2).1))
    · rw [es2] at e h4 hx
      rw [sa.1, sa.2] at h4
      by_cases k4 : ka (bA ka w) = 4
      · have ea : (if ka ((s : Int) - 1) = 4 then (7 : Int) else 6) = 7 := by rw [es2, if_pos k4]
        refine ⟨(5, w, 1) :: (M ++ bsS (suA ka w) (opA ka w) V), fin _ _ ⟨M, V, rfl, h5, h3, fun hb2 => ⟨(h4 hb2).1, by rw [if_neg (by omega)], (h4 hb2).2⟩⟩, ?_⟩
        exact red _ (fun hd => upH hd w x) (fun hd => by rw [ea, sa.1, sa.2]; simp [nounTop]) (hset x hx)
      · have ea : (if ka ((s : Int) - 1) = 4 then (7 : Int) else 6) = 6 := by rw [es2, if_neg k4]
        refine ⟨(5, w, 0) :: (M ++ bsS (suA ka w) (opA ka w) V), fin _ _ ⟨M, V, rfl, h5, h3, fun hb2 => ⟨(h4 hb2).1, by rw [if_pos (by omega)], (h4 hb2).2⟩⟩, ?_⟩
        exact red _ (fun hd => upH hd w x) (fun hd => by rw [ea, sa.1, sa.2]; simp [nounTop]) (hset x hx)
    · rw [es2] at e; omega
end P11
