section P10
/-! the stack of the reference against the chain of heads of the class -/
abbrev R3 : Type := Int × Int × Int
def ownF (ka he : Int → Int) (w y : Int) : List R3 := if ka y = 1 then [(1, y, 0)] else if ka y = 0 ∧ joinedF ka he y (w - y - 1).toNat (y + 1) = false then [(0, y, if ka (he y) = 5 then 0 else 1)] else []
def nxt (he : Int → Int) (y : Int) : Int := if he y < y then he y else -1
def crF (ka he : Int → Int) (w : Int) : Nat → Int → List R3
  | 0, _ => []
  | m + 1, y => if y < 0 then [] else ownF ka he w y ++ crF ka he w m (nxt he y)
def cr (ka he : Int → Int) (w y : Int) : List R3 := crF ka he w 12 y
def srF : List E3 → List R3
  | [] => []
  | (a, b, c) :: T => if a = 5 then (0, b, c) :: srF T else if a = 2 ∨ a = 3 then (1, b, 0) :: srF T else []
theorem nxt_lt {he : Int → Int} {y : Int} (h : 0 ≤ y) : nxt he y < y := by unfold nxt; split <;> omega
theorem crF_st {ka he : Int → Int} {w : Int} : ∀ (m m' : Nat) (y : Int), y < m → y < m' → crF ka he w m y = crF ka he w m' y
  | 0, 0, _, _, _ => rfl
  | 0, m' + 1, y, h, _ => by rw [crF, crF, if_pos (by omega)]
  | m + 1, 0, y, _, h => by rw [crF, crF, if_pos (by omega)]
  | m + 1, m' + 1, y, h1, h2 => by
    rw [crF, crF]
    by_cases z : y < 0
    · rw [if_pos z, if_pos z]
    · have := nxt_lt (he := he) (y := y) (by omega)
      rw [if_neg z, if_neg z, crF_st m m' _ (by omega) (by omega)]
theorem cr_neg {ka he : Int → Int} {w y : Int} (h : y < 0) : cr ka he w y = [] := by unfold cr; rw [crF, if_pos h]
theorem cr_eq {ka he : Int → Int} {w y : Int} (h : 0 ≤ y) (h2 : y < 12) : cr ka he w y = ownF ka he w y ++ cr ka he w (nxt he y) := by
  have := nxt_lt (he := he) h
  unfold cr
  rw [crF, if_neg (by omega), crF_st 11 12 _ (by omega) (by omega)]
theorem own_mem {ka he : Int → Int} {w y : Int} {e : R3} (h : e ∈ ownF ka he w y) : e.2.1 = y := by
  unfold ownF at h
  split at h
  · simp at h; rw [h]
  · split at h
    · simp at h; rw [h]
    · simp at h
theorem cr_mem {ka he : Int → Int} {w : Int} {e : R3} : ∀ (m : Nat) (y : Int), y < m → y < 12 → e ∈ cr ka he w y → 0 ≤ e.2.1 ∧ e.2.1 ≤ y
  | 0, y, h, _, c => by rw [cr_neg (by omega)] at c; simp at c
  | m + 1, y, h, h12, c => by
    by_cases z : y < 0
    · rw [cr_neg z] at c; simp at c
    · have := nxt_lt (he := he) (y := y) (by omega)
      rw [cr_eq (by omega) h12, List.mem_append] at c
      rcases c with c | c
      · have := own_mem c; omega
      · have := cr_mem m _ (by omega) (by omega) c; omega
theorem joined_snoc {ka he : Int → Int} {x : Int} : ∀ (m : Nat) (k : Int), joinedF ka he x (m + 1) k = (joinedF ka he x m k || decide (ka (k + m) = 5 ∧ he (k + m) = x))
  | 0, k => by
    rw [joinedF, joinedF, joinedF]
    simp
  | m + 1, k => by
    rw [joinedF, joined_snoc m (k + 1), joinedF]
    by_cases z : ka k = 5 ∧ he k = x
    · rw [if_pos z, if_pos z]; simp
    · rw [if_neg z, if_neg z, show k + 1 + (m : Int) = k + ((m + 1 : Nat) : Int) by omega]
/-- a word more: the chain's readout stays, but for a noun that is joined by it -/
theorem cr_up {ka he he' : Int → Int} {w : Int} (hw : w < 12) (hh : ∀ j, j < w → he' j = he j) : ∀ (m : Nat) (y : Int), y < m → y < w → (ka w ≠ 5 ∨ ∀ e ∈ cr ka he w y, e.1 = 0 → e.2.1 ≠ he' w) → cr ka he' (w + 1) y = cr ka he w y
  | 0, y, h, _, _ => by rw [cr_neg (by omega), cr_neg (by omega)]
  | m + 1, y, h, hy, hc => by
    by_cases z : y < 0
    · rw [cr_neg z, cr_neg z]
    · have hl := nxt_lt (he := he) (y := y) (by omega)
      have en : nxt he' y = nxt he y := by unfold nxt; rw [hh y hy]
      have eo : ownF ka he' (w + 1) y = ownF ka he w y := by
        unfold ownF
        by_cases k1 : ka y = 1
        · rw [if_pos k1, if_pos k1]
        · rw [if_neg k1, if_neg k1, hh y hy]
          have ej : joinedF ka he' y (w - y - 1).toNat (y + 1) = joinedF ka he y (w - y - 1).toNat (y + 1) := joinedF_congr _ _ (fun j h1 h2 => hh j (by omega))
          rw [show (w + 1 - y - 1).toNat = (w - y - 1).toNat + 1 by omega, joined_snoc, ej, show y + 1 + ((w - y - 1).toNat : Int) = w by omega]
          by_cases k0 : ka y = 0
          · by_cases jn : joinedF ka he y (w - y - 1).toNat (y + 1) = false
            · have nw : ¬ (ka w = 5 ∧ he' w = y) := by
                rintro ⟨q1, q2⟩
                rcases hc with c | c
                · exact c q1
                · refine c (0, y, if ka (he y) = 5 then 0 else 1) ?_ rfl q2.symm
                  rw [cr_eq (by omega) (by omega)]
                  unfold ownF
                  rw [if_neg k1, if_pos ⟨k0, jn⟩]
                  simp
              rw [jn, decide_eq_false nw]
              simp
            · have jt : joinedF ka he y (w - y - 1).toNat (y + 1) = true := by simpa using jn
              rw [jt]
              simp
          · rw [if_neg (fun q => k0 q.1), if_neg (fun q => k0 q.1)]
      have e1 := cr_eq (ka := ka) (he := he') (w := w + 1) (y := y) (by omega) (by omega)
      have e2 := cr_eq (ka := ka) (he := he) (w := w) (y := y) (by omega) (by omega)
      have ih := cr_up hw hh m (nxt he y) (by omega) (by omega) (by
        rcases hc with c | c
        · exact Or.inl c
        · exact Or.inr (fun e he2 => c e (by rw [e2]; exact List.mem_append_right _ he2)))
      rw [e1, e2, en, eo, ih]
/-- adjectives and the like between: the same -/
theorem cr_ext {ka he : Int → Int} {w : Int} : ∀ (d : Nat) (y : Int), w + d ≤ 12 → y < w → (∀ z, w ≤ z → z < w + d → ka z ≠ 5) → cr ka he (w + d) y = cr ka he w y
  | 0, y, _, _, _ => by simp
  | d + 1, y, h, hy, hz => by
    have := cr_up (ka := ka) (he := he) (he' := he) (w := w + d) (by omega) (fun _ _ => rfl) (y.toNat + 1) y (by omega) (by omega) (Or.inl (hz _ (by omega) (by omega)))
    rw [show w + ((d + 1 : Nat) : Int) = w + (d : Int) + 1 by omega, this]
    exact cr_ext d y (by omega) hy (fun z h1 h2 => hz z h1 (by omega))
theorem cr_cons {ka he : Int → Int} {w : Int} {t b c : Int} {R : List R3} : ∀ (m : Nat) (y : Int), y < m → y < 12 → cr ka he w y = (t, b, c) :: R → (0 ≤ b ∧ b ≤ y) ∧ R = cr ka he w (nxt he b) ∧ cr ka he w b = (t, b, c) :: R
  | 0, y, h, _, e => by rw [cr_neg (by omega)] at e; cases e
  | m + 1, y, h, h12, e => by
    by_cases z : y < 0
    · rw [cr_neg z] at e; cases e
    · have hl := nxt_lt (he := he) (y := y) (by omega)
      have e0 := e
      rw [cr_eq (by omega) h12] at e
      cases eo : ownF ka he w y with
      | nil =>
        rw [eo, List.nil_append] at e
        obtain ⟨q1, q2, q3⟩ := cr_cons m _ (by omega) (by omega) e
        exact ⟨by omega, q2, q3⟩
      | cons x l =>
        have hx : x.2.1 = y := own_mem (by rw [eo]; simp)
        have hl2 : l = [] := by
          unfold ownF at eo
          split at eo
          · cases eo; rfl
          · split at eo
            · cases eo; rfl
            · cases eo
        rw [eo, hl2] at e
        simp only [List.cons_append, List.nil_append] at e
        cases e
        dsimp only at hx
        subst hx
        exact ⟨by omega, rfl, e0⟩
/-- whether a part of the readout can hold a word of a kind -/
def hfB (k : Int) (e : R3) : Bool := decide ((e.1 = 1 ∧ k ≠ 5) ∨ (e.1 = 0 ∧ (k = 4 ∨ (k = 5 ∧ e.2.2 = 1))))
theorem hold_own {ka he : Int → Int} {w x : Int} (hk : ka w = 3 ∨ ka w = 4 ∨ ka w = 5) : holdF ka he x w = true ↔ ∃ e ∈ ownF ka he w x, hfB (ka w) e = true := by
  unfold holdF ownF hfB
  by_cases k1 : ka x = 1
  · rw [if_pos k1, if_pos k1]; simp
  · rw [if_neg k1, if_neg k1]
    by_cases k0 : ka x = 0
    · by_cases jn : joinedF ka he x (w - x - 1).toNat (x + 1) = false
      · rw [if_pos (show ka x = 0 ∧ joinedF ka he x (w - x - 1).toNat (x + 1) = false from ⟨k0, jn⟩)]
        by_cases k3 : ka w = 3
        · rw [if_pos (show ka x ≠ 0 ∨ ka w = 3 ∨ joinedF ka he x (w - x - 1).toNat (x + 1) = true from Or.inr (Or.inl k3))]
          simp [k3]
        · rw [if_neg (show ¬ (ka x ≠ 0 ∨ ka w = 3 ∨ joinedF ka he x (w - x - 1).toNat (x + 1) = true) from by rintro (q | q | q); exact q k0; exact k3 q; rw [jn] at q; cases q)]
          simp
          by_cases h5 : ka (he x) = 5
          · simp [h5]
          · simp [h5]; omega
      · have jt : joinedF ka he x (w - x - 1).toNat (x + 1) = true := by simpa using jn
        rw [if_pos (show ka x ≠ 0 ∨ ka w = 3 ∨ joinedF ka he x (w - x - 1).toNat (x + 1) = true from Or.inr (Or.inr jt)), if_neg (fun q => jn q.2)]
        simp
    · rw [if_pos (Or.inl k0), if_neg (fun q => k0 q.1)]
      simp
theorem cr_open {ka he : Int → Int} {w x : Int} (hx : 0 ≤ x) (hk : ka w = 3 ∨ ka w = 4 ∨ ka w = 5) : ∀ (m : Nat) (y : Int), y < m → y < 12 → ((openF he x 12 y = true ∧ holdF ka he x w = true) ↔ ∃ e ∈ cr ka he w y, e.2.1 = x ∧ hfB (ka w) e = true)
  | 0, y, h, _ => by
    rw [cr_neg (by omega), openF_ng (by omega)]
    simp
  | m + 1, y, h, h12 => by
    by_cases z : y < 0
    · rw [cr_neg z, openF_ng z]; simp
    · have hl := nxt_lt (he := he) (y := y) (by omega)
      have ih := cr_open hx hk m (nxt he y) (by omega) (by omega) (ka := ka) (he := he)
      have ci := Ch_iff (f := he) (x := x) (w := y) (by omega) h12
      unfold Ch at ci
      rw [ci, cr_eq (by omega) h12]
      have own := hold_own (ka := ka) (he := he) (w := w) (x := x) hk
      have ent : (0 ≤ he y ∧ he y < y ∧ openF he x 12 (he y) = true) ↔ openF he x 12 (nxt he y) = true := by
        unfold nxt
        by_cases q : he y < y
        · rw [if_pos q]
          by_cases p : 0 ≤ he y
          · exact ⟨fun c => c.2.2, fun c => ⟨p, q, c⟩⟩
          · rw [openF_ng (by omega)]
            constructor
            · intro c; omega
            · intro c; cases c
        · rw [if_neg q, openF_ng (w := -1) (by omega)]
          constructor
          · intro c; omega
          · intro c; cases c
      rw [ent]
      constructor
      · rintro ⟨c | c, h1⟩
        · subst c
          obtain ⟨e, e1, e2⟩ := own.mp h1
          exact ⟨e, List.mem_append_left _ e1, own_mem e1, e2⟩
        · obtain ⟨e, e1, e2⟩ := ih.mp ⟨c, h1⟩
          exact ⟨e, List.mem_append_right _ e1, e2⟩
      · rintro ⟨e, e1, e2, e3⟩
        rcases List.mem_append.mp e1 with q | q
        · have := own_mem q
          have yx : y = x := by omega
          subst yx
          exact ⟨Or.inl rfl, own.mpr ⟨e, q, e3⟩⟩
        · have := ih.mpr ⟨e, q, e2, e3⟩
          exact ⟨Or.inr this.1, this.2⟩
def hdW (S : List E3) : Int := match S with
  | [] => 0
  | e :: _ => e.2.1
theorem cands_sr {k : Int} (hk : k = 3 ∨ k = 4 ∨ k = 5) : ∀ L : List E3, (cands k L).map hdW = ((srF L).filter (hfB k)).map (fun e => e.2.1)
  | [] => rfl
  | (a, b, c) :: T => by
    have ih := cands_sr hk T
    rw [cands, srF]
    by_cases a5 : a = 5
    · subst a5
      rw [if_pos (Or.inl rfl), if_pos rfl, List.filter_cons]
      by_cases k5 : k = 5
      · rw [if_pos k5]
        by_cases c1 : c = 1
        · rw [if_pos ⟨rfl, c1⟩, if_pos (by unfold hfB; exact decide_eq_true (by dsimp only; omega)), List.map_cons, List.map_cons, ih]
          rfl
        · rw [if_neg (fun q => c1 q.2), if_neg (by unfold hfB; intro q; have := of_decide_eq_true q; dsimp only at this; omega), ih]
      · rw [if_neg k5]
        by_cases k4 : k = 4
        · rw [if_pos (Or.inr k4), if_pos (by unfold hfB; exact decide_eq_true (by dsimp only; omega)), List.map_cons, List.map_cons, ih]
          rfl
        · rw [if_neg (by omega), if_neg (by unfold hfB; intro q; have := of_decide_eq_true q; dsimp only at this; omega), ih]
    · by_cases a23 : a = 2 ∨ a = 3
      · rw [if_pos (Or.inr a23), if_neg a5, if_pos a23, List.filter_cons]
        by_cases k5 : k = 5
        · rw [if_pos k5, if_neg (by omega), if_neg (by unfold hfB; intro q; have := of_decide_eq_true q; dsimp only at this; omega), ih]
        · rw [if_neg k5, if_pos (by omega), if_pos (by unfold hfB; exact decide_eq_true (by dsimp only; omega)), List.map_cons, List.map_cons, ih]
          rfl
      · rw [if_neg (by omega), if_neg a5, if_neg a23]
        rfl
theorem cands_cr {ka he : Int → Int} {w k : Int} : ∀ (L : List E3) (y : Int), y < 12 → srF L = cr ka he w y → ∀ S ∈ cands k L, ∃ a b c T, S = (a, b, c) :: T ∧ srF S = cr ka he w b ∧ srF T = cr ka he w (nxt he b) ∧ 0 ≤ b ∧ b ≤ y ∧ (a = 5 ∨ a = 2 ∨ a = 3) ∧ (k = 5 → a = 5 ∧ c = 1)
  | [], _, _, _, S, h => by simp [cands] at h
  | (a, b, c) :: T, y, hy, hs, S, h => by
    rw [cands] at h
    split at h
    · next z =>
      have key : ∃ t c', srF ((a, b, c) :: T) = (t, b, c') :: srF T := by
        rw [srF]
        by_cases a5 : a = 5
        · rw [if_pos a5]; exact ⟨_, _, rfl⟩
        · rw [if_neg a5, if_pos (by omega)]; exact ⟨_, _, rfl⟩
      obtain ⟨t, c', e1⟩ := key
      have q := cr_cons (y.toNat + 1) y (by omega) hy (by rw [← hs, e1])
      have here : (k = 5 → a = 5 ∧ c = 1) → S = (a, b, c) :: T → ∃ a b c T, S = (a, b, c) :: T ∧ srF S = cr ka he w b ∧ srF T = cr ka he w (nxt he b) ∧ 0 ≤ b ∧ b ≤ y ∧ (a = 5 ∨ a = 2 ∨ a = 3) ∧ (k = 5 → a = 5 ∧ c = 1) := by
        rintro k5 rfl
        exact ⟨a, b, c, T, rfl, by rw [e1, q.2.2], q.2.1, q.1.1, q.1.2, z, k5⟩
      have deep : S ∈ cands k T → ∃ a b c T, S = (a, b, c) :: T ∧ srF S = cr ka he w b ∧ srF T = cr ka he w (nxt he b) ∧ 0 ≤ b ∧ b ≤ y ∧ (a = 5 ∨ a = 2 ∨ a = 3) ∧ (k = 5 → a = 5 ∧ c = 1) := by
        intro hT
        have hl := nxt_lt (he := he) q.1.1
        obtain ⟨a2, b2, c2, T2, r1, r2, r3, r4, r5, r6, r7⟩ := cands_cr T (nxt he b) (by omega) q.2.1 S hT
        exact ⟨a2, b2, c2, T2, r1, r2, r3, r4, by omega, r6, r7⟩
      split at h
      · next k5 =>
        split at h
        · next ac =>
          rcases List.mem_cons.mp h with e | e
          · exact here (fun _ => ac) e
          · exact deep e
        · exact deep h
      · next k5 =>
        split at h
        · rcases List.mem_cons.mp h with e | e
          · exact here (fun q => absurd q k5) e
          · exact deep e
        · exact deep h
    · simp at h
end P10
