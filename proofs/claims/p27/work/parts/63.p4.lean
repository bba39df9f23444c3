section P4
theorem dp3_2 {kd : Int → Int} {w j : Int} (hw : w ≤ j) (hk : kd w = 2) : 0 < dp kd 3 w j ↔ w < j ∧ 0 < dp kd 3 (w + 1) j := by
  rw [dpp_3 hw]
  omega
theorem dp4_2 {kd : Int → Int} {w j : Int} (hw : w < j) (hL : j - w ≤ 12) (hk : kd w = 2) : 0 < dp kd 4 w j ↔ 0 < dp kd 4 (w + 1) j := by
  rw [dpp_4 (by omega) hL, dpp_4 (by omega) (by omega), dp3_2 (by omega) hk]
  constructor
  · rintro (h | ⟨k, h1, h2, h3, h4, h5⟩)
    · exact Or.inl h.2
    · have := (dp3_2 (by omega) hk).mp h4
      have q := dp3_n (by omega) this.2
      exact Or.inr ⟨k, by omega, h2, h3, this.2, h5⟩
  · rintro (h | ⟨k, h1, h2, h3, h4, h5⟩)
    · exact Or.inl ⟨hw, h⟩
    · exact Or.inr ⟨k, by omega, h2, h3, (dp3_2 (by omega) hk).mpr ⟨by omega, h4⟩, h5⟩
/-- an adjective where a name is waited for: it's still waited for behind it -/
theorem Cp_adj0 {kd : Int → Int} {n w : Int} (hn : n ≤ 12) (h0 : 0 ≤ w) (hw : w < n) (hk : kd w = 2) : ∀ {L : List E3}, wfA L → (CpP kd n L w ↔ w + 1 < n ∧ (kd (w + 1) = 2 ∨ kd (w + 1) = 0) ∧ CpP kd n L (w + 1))
  | [], wf => by exact absurd wf (by simp [wfA])
  | (a, b, c) :: T, ⟨wf, e⟩ => by
    rcases e with e | e | e | e
    · dsimp only at e; subst e
      rw [Cp0, Cp0]
      constructor
      · rintro ⟨j, h1, h2, h3, h4⟩
        obtain ⟨k, k1, k2, k3, k4, k5⟩ := (dpp_5 h1 (by omega)).mp h3
        have q := (dp4_2 k1 (by omega) hk).mp k4
        have q2 := dp4_n (by omega) (by omega) q
        exact ⟨by omega, by omega, j, by omega, h2, (dpp_5 (by omega) (by omega)).mpr ⟨k, q2.1, k2, k3, q, k5⟩, h4⟩
      · rintro ⟨-, -, j, h1, h2, h3, h4⟩
        obtain ⟨k, k1, k2, k3, k4, k5⟩ := (dpp_5 h1 (by omega)).mp h3
        exact ⟨j, by omega, h2, (dpp_5 (by omega) (by omega)).mpr ⟨k, by omega, k2, k3, (dp4_2 (by omega) (by omega) hk).mpr k4, k5⟩, h4⟩
    · dsimp only at e; subst e
      have wf3T : wf3 T := by
        rcases wf with ⟨e, -⟩ | ⟨-, wf⟩ | ⟨e, -⟩
        · simp at e
        · exact wf
        · simp at e
      rw [Cp2, Cp2]
      constructor
      · rintro ⟨j, h1, h2, h3, h4⟩
        rcases (dpp_6 h1 (by omega)).mp h3 with e | ⟨k, k1, k2, k3, k4⟩
        · have := dp2_n h1 (by omega) e (by omega)
          subst this
          exact absurd h4 (NBn hn h0 hw (Or.inr (Or.inl hk)) (wf3_N wf3T))
        · rcases k3 with k3 | k3
          · have q := (dp4_2 k1 (by omega) hk).mp k3
            have q2 := dp4_n (by omega) (by omega) q
            exact ⟨by omega, by omega, j, by omega, h2, (dpp_6 (by omega) (by omega)).mpr (Or.inr ⟨k, q2.1, k2, Or.inl q, k4⟩), h4⟩
          · omega
      · rintro ⟨g1, g2, j, h1, h2, h3, h4⟩
        rcases (dpp_6 h1 (by omega)).mp h3 with e | ⟨k, k1, k2, k3, k4⟩
        · have := dp2_n h1 (by omega) e (by omega)
          subst this
          exact absurd h4 (NBn hn (by omega) g1 (by omega) (wf3_N wf3T))
        · rcases k3 with k3 | k3
          · exact ⟨j, by omega, h2, (dpp_6 (by omega) (by omega)).mpr (Or.inr ⟨k, by omega, k2, Or.inl ((dp4_2 (by omega) (by omega) hk).mpr k3), k4⟩), h4⟩
          · omega
    · dsimp only at e; subst e
      rw [Cp7, Cp7]
      constructor
      · rintro ⟨j, h1, h2, h3, h4⟩
        have q0 := dp4_n h1 (by omega) h3
        have q := (dp4_2 q0.1 (by omega) hk).mp h3
        have q2 := dp4_n (by omega) (by omega) q
        exact ⟨by omega, by omega, j, by omega, h2, q, h4⟩
      · rintro ⟨-, -, j, h1, h2, h3, h4⟩
        exact ⟨j, by omega, h2, (dp4_2 (by omega) (by omega) hk).mpr h3, h4⟩
    · dsimp only at e; subst e
      rw [Cp6, Cp6]
      constructor
      · rintro ⟨j, h1, h2, h3, h4⟩
        have q := (dp3_2 h1 hk).mp h3
        have q2 := dp3_n (by omega) q.2
        exact ⟨by omega, by omega, j, by omega, h2, q.2, h4⟩
      · rintro ⟨-, -, j, h1, h2, h3, h4⟩
        exact ⟨j, by omega, h2, (dp3_2 (by omega) hk).mpr ⟨by omega, h3⟩, h4⟩
theorem Cp_adj {kd : Int → Int} {n w : Int} (hn : n ≤ 12) (h0 : 0 ≤ w) (hw : w < n) (hk : kd w = 2) {hd : Int → Int} : ∀ {L : List E3}, wfL L → (CpP kd n L w ↔ ∃ L2 hd2, adjStep w L hd = some (L2, hd2) ∧ CpP kd n L2 (w + 1))
  | [], wf => by exact absurd wf (by simp [wfL])
  | (a, b, c) :: T, wf => by
    have one : ∀ (M : List E3) (f : Int → Int), (∃ L2 hd2, some (M, f) = some (L2, hd2) ∧ CpP kd n L2 (w + 1)) ↔ CpP kd n M (w + 1) := by
      intro M f
      constructor
      · rintro ⟨L2, hd2, h, q⟩; cases h; exact q
      · intro q; exact ⟨_, _, rfl, q⟩
    rcases wf with ⟨e, wf⟩ | wf
    · dsimp only at e; subst e
      rw [adjStep, if_pos rfl, one, Cp4, Cp4, Cp_adj0 hn h0 hw hk wf]
      exact ⟨fun h => h.2.2, fun h => ⟨hw, Or.inl hk, h⟩⟩
    · by_cases y : a = 0 ∨ a = 2 ∨ a = 7 ∨ a = 6
      · have e : a ≠ 4 := by omega
        rw [adjStep, if_neg e, if_pos y, one, Cp4, Cp_adj0 hn h0 hw hk (show wfA ((a, b, c) :: T) from ⟨wf, y⟩)]
      · have e : a ≠ 4 := by rcases wf with ⟨e, -⟩ | ⟨e, -⟩ | ⟨e, -⟩ <;> (dsimp only at e; omega)
        rw [adjStep, if_neg e, if_neg y]
        constructor
        · intro h
          have : wfN ((a, b, c) :: T) := by
            rcases wf with ⟨e, wf⟩ | ⟨e, wf⟩ | ⟨e, wf⟩
            · exact Or.inl ⟨e, wf⟩
            · exact Or.inr (Or.inr ⟨by dsimp only at e ⊢; omega, wf⟩)
            · dsimp only at e; omega
          exact absurd h (NBn hn h0 hw (Or.inr (Or.inl hk)) this)
        · rintro ⟨L2, hd2, h, -⟩; cases h
theorem Cp_open {kd : Int → Int} {n w : Int} (hn : n ≤ 12) (h0 : 0 ≤ w) (hw : w < n) (hk : kd w = 6) {hd : Int → Int} {a b c : Int} {T : List E3} (wf : wfX ((a, b, c) :: T)) : CpP kd n ((a, b, c) :: T) w ↔ ∃ L2 hd2, openStep w ((a, b, c) :: T) hd = some (L2, hd2) ∧ CpP kd n L2 (w + 1) := by
  by_cases z : a = 2
  · subst z
    have wf3T : wf3 T := by
      rcases wf with ⟨e, -⟩ | ⟨-, wf⟩ | ⟨e, -⟩
      · simp at e
      · exact wf
      · simp at e
    have e1 : openStep w ((2, b, c) :: T) hd = some ((0, 0, w) :: (3, b, c) :: T, upH hd w b) := by simp [openStep]
    rw [e1]
    have e2 : (∃ L2 hd2, some ((0, 0, w) :: (3, b, c) :: T, upH hd w b) = some (L2, hd2) ∧ CpP kd n L2 (w + 1)) ↔ CpP kd n ((0, 0, w) :: (3, b, c) :: T) (w + 1) := by
      constructor
      · rintro ⟨L2, hd2, h, q⟩; cases h; exact q
      · intro q; exact ⟨_, _, rfl, q⟩
    rw [e2, Cp2, Cp0]
    constructor
    · rintro ⟨j, h1, h2, h3, h4⟩
      rcases (dpp_6 h1 (by omega)).mp h3 with e | ⟨k, k1, k2, k3, k4⟩
      · have := dp2_n h1 (by omega) e (by omega)
        subst this
        exact absurd h4 (NBn hn h0 hw (Or.inr (Or.inr hk)) (wf3_N wf3T))
      · rcases k3 with k3 | k3
        · have := dp4_n (by omega) (by omega) k3
          omega
        · exact ⟨k, by omega, by omega, k3.2, Cp3.mpr ⟨j, k2, h2, k4, h4⟩⟩
    · rintro ⟨k, k1, k2, k3, k4⟩
      obtain ⟨j, h1, h2, h3, h4⟩ := Cp3.mp k4
      exact ⟨j, by omega, h2, (dpp_6 (by omega) (by omega)).mpr (Or.inr ⟨k, by omega, h1, Or.inr ⟨hk, k3⟩, h3⟩), h4⟩
  · have e1 : openStep w ((a, b, c) :: T) hd = none := by simp [openStep, z]
    rw [e1]
    constructor
    · intro h
      exfalso
      rcases wf with ⟨e, wf⟩ | ⟨e, wf⟩ | ⟨e, wf⟩
      · exact NBn hn h0 hw (Or.inr (Or.inr hk)) (show wfN ((a, b, c) :: T) from Or.inl ⟨e, wf⟩) h
      · rcases e with e | e | e
        · exact NBn hn h0 hw (Or.inr (Or.inr hk)) (show wfN ((a, b, c) :: T) from Or.inr (Or.inr ⟨e, wf⟩)) h
        · exact z e
        · dsimp only at e; subst e
          obtain ⟨j, h1, h2, h3, h4⟩ := Cp0.mp h
          have := dp5_n h1 (by omega) h3
          omega
      · rcases e with e | e
        · dsimp only at e; subst e
          obtain ⟨j, h1, h2, h3, h4⟩ := Cp7.mp h
          have := dp4_n h1 (by omega) h3
          omega
        · dsimp only at e; subst e
          obtain ⟨j, h1, h2, h3, h4⟩ := Cp6.mp h
          have := dp3_n h1 h3
          omega
    · rintro ⟨L2, hd2, h, -⟩; cases h
/-- what stands on the stack once a part holds word w -/
def hgS (kd w : Int) : List E3 → List E3
  | [] => []
  | (a, b, c) :: T => if kd = 4 then (7, w, 0) :: ((if a = 2 then 3 else a), b, c) :: T else if kd = 5 then (6, w, c) :: T else ((if a = 2 then 3 else a), b, c) :: T
theorem cands_ne {kd : Int} : ∀ {L S : List E3}, S ∈ cands kd L → S ≠ [] := fun h => (cands_suf kd _ _ h).1
theorem hang_eq {w kd : Int} {i : Nat} {L : List E3} {hd : Int → Int} {S : List E3} (h : (cands kd L)[i]? = some S) : ∃ hd2, hangStep w kd (i : Int) L hd = some (hgS kd w S, hd2) := by
  have hm := cands_ne (List.mem_of_getElem? h)
  cases S with
  | nil => exact absurd rfl hm
  | cons e T =>
    obtain ⟨a, b, c⟩ := e
    unfold hangStep hgS
    rw [Int.toNat_natCast, h]
    dsimp only
    split
    · exact ⟨_, rfl⟩
    · split
      · exact ⟨_, rfl⟩
      · exact ⟨_, rfl⟩
theorem hang_inv {w kd : Int} {i : Nat} {L L2 : List E3} {hd hd2 : Int → Int} (h : hangStep w kd (i : Int) L hd = some (L2, hd2)) : ∃ S, (cands kd L)[i]? = some S ∧ L2 = hgS kd w S := by
  cases e : (cands kd L)[i]? with
  | none =>
    unfold hangStep at h
    rw [Int.toNat_natCast, e] at h
    cases h
  | some S =>
    obtain ⟨hd3, h2⟩ := hang_eq (w := w) (hd := hd) e
    rw [h] at h2
    cases h2
    exact ⟨S, rfl, rfl⟩
theorem Cp_hangN {kd : Int → Int} {n w : Int} (hn : n ≤ 12) (h0 : 0 ≤ w) (hw : w < n) (hk : kd w = 3 ∨ kd w = 4 ∨ kd w = 5) : ∀ {L : List E3}, wfN L → (CpP kd n L w ↔ ∃ S ∈ cands (kd w) L, CpP kd n (hgS (kd w) w S) (w + 1))
  | [], wf => by
    rw [CpP, cands]
    exact ⟨fun h => by omega, fun ⟨S, h, _⟩ => by simp at h⟩
  | (a, b, c) :: T, wf => by
    rcases wf with ⟨e, wf⟩ | ⟨e, wf⟩ | ⟨e, wf⟩
    · dsimp only at e; subst e
      have ih := Cp_hangN hn h0 hw hk wf
      have down : CpP kd n T w → CpP kd n ((5, b, c) :: T) w := fun h => Cp5.mpr ⟨w, by omega, by omega, ⟨w, by omega, by omega, by rw [dp_one (Or.inl rfl)]; omega, Or.inl rfl⟩, h⟩
      rw [cands, if_pos (Or.inl rfl)]
      by_cases k5 : kd w = 5
      · rw [if_pos k5]
        have A : CpP kd n ((5, b, c) :: T) w ↔ CpP kd n T w ∨ (c = 1 ∧ CpP kd n (hgS (kd w) w ((5, b, c) :: T)) (w + 1)) := by
          constructor
          · intro h
            obtain ⟨j, h1, h2, ⟨k, h3, h4, h5, h6⟩, h7⟩ := Cp5.mp h
            have := dp1_n h3 (by omega) h5 (by omega)
            subst this
            rcases h6 with e | ⟨e1, e2, e3, e4⟩
            · subst e; exact Or.inl h7
            · refine Or.inr ⟨e1, ?_⟩
              rw [hgS, if_neg (by omega), if_pos k5]
              exact Cp6.mpr ⟨j, by omega, h2, e4, h7⟩
          · rintro (h | ⟨h1, h2⟩)
            · exact down h
            · rw [hgS, if_neg (by omega), if_pos k5] at h2
              obtain ⟨j, j1, j2, j3, j4⟩ := Cp6.mp h2
              exact Cp5.mpr ⟨j, by omega, j2, ⟨w, by omega, by omega, by rw [dp_one (Or.inl rfl)]; omega, Or.inr ⟨h1, by omega, k5, j3⟩⟩, j4⟩
        rw [A, ih]
        by_cases y : (5 : Int) = 5 ∧ c = 1
        · rw [if_pos y]
          constructor
          · rintro (⟨S, h1, h2⟩ | ⟨h1, h2⟩)
            · exact ⟨S, List.mem_cons_of_mem _ h1, h2⟩
            · exact ⟨_, List.mem_cons_self, h2⟩
          · rintro ⟨S, h1, h2⟩
            rcases List.mem_cons.mp h1 with rfl | h1
            · exact Or.inr ⟨y.2, h2⟩
            · exact Or.inl ⟨S, h1, h2⟩
        · rw [if_neg y]
          constructor
          · rintro (h | ⟨h1, h2⟩)
            · exact h
            · exact absurd ⟨rfl, h1⟩ y
          · exact Or.inl
      · rw [if_neg k5]
        by_cases k4 : kd w = 4
        · rw [if_pos (Or.inr k4)]
          have A : CpP kd n ((5, b, c) :: T) w ↔ CpP kd n T w ∨ CpP kd n (hgS (kd w) w ((5, b, c) :: T)) (w + 1) := by
            rw [hgS, if_pos k4, if_neg (by omega)]
            constructor
            · intro h
              obtain ⟨j, h1, h2, ⟨k, h3, h4, h5, h6⟩, h7⟩ := Cp5.mp h
              rcases (dpp_1 h3 (by omega)).mp h5 with e | ⟨q, q1, q2, q3, q4⟩
              · subst e
                rcases h6 with e | e
                · subst e; exact Or.inl h7
                · omega
              · have q5 := (dpp_0 (by omega)).mp q3
                exact Or.inr (Cp7.mpr ⟨q, by omega, by omega, q5.2.2, Cp5.mpr ⟨j, by omega, h2, ⟨k, q2, h4, q4, h6⟩, h7⟩⟩)
            · rintro (h | h)
              · exact down h
              · obtain ⟨q, q1, q2, q3, q4⟩ := Cp7.mp h
                obtain ⟨j, h1, h2, ⟨k, h3, h4, h5, h6⟩, h7⟩ := Cp5.mp q4
                exact Cp5.mpr ⟨j, by omega, h2, ⟨k, by omega, h4, (dpp_1 (by omega) (by omega)).mpr (Or.inr ⟨q, by omega, h3, (dpp_0 (by omega)).mpr ⟨by omega, k4, q3⟩, h5⟩), h6⟩, h7⟩
          rw [A, ih]
          constructor
          · rintro (⟨S, h1, h2⟩ | h2)
            · exact ⟨S, List.mem_cons_of_mem _ h1, h2⟩
            · exact ⟨_, List.mem_cons_self, h2⟩
          · rintro ⟨S, h1, h2⟩
            rcases List.mem_cons.mp h1 with rfl | h1
            · exact Or.inr h2
            · exact Or.inl ⟨S, h1, h2⟩
        · rw [if_neg (by omega), ← ih]
          constructor
          · intro h
            obtain ⟨j, h1, h2, ⟨k, h3, h4, h5, h6⟩, h7⟩ := Cp5.mp h
            have := dp1_n h3 (by omega) h5 (by omega)
            subst this
            rcases h6 with e | e
            · subst e; exact h7
            · omega
          · exact down
    · dsimp only at e; subst e
      rw [cands, if_neg (by omega)]
      constructor
      · intro h
        obtain ⟨j, h1, h2, ⟨h3, h4, h5⟩, h6⟩ := Cp1.mp h
        omega
      · rintro ⟨S, h, -⟩; simp at h
    · dsimp only at e; subst e
      have ih := Cp_hangN hn h0 hw hk (wf3_N wf)
      have down : CpP kd n T w → CpP kd n ((3, b, c) :: T) w := fun h => Cp3.mpr ⟨w, by omega, by omega, by rw [dp_one (Or.inr (Or.inl rfl))]; omega, h⟩
      rw [cands, if_pos (by omega)]
      by_cases k5 : kd w = 5
      · rw [if_pos k5, if_neg (by omega), ← ih]
        constructor
        · intro h
          obtain ⟨j, h1, h2, h3, h4⟩ := Cp3.mp h
          have := dp2_n h1 (by omega) h3 (by omega)
          subst this
          exact h4
        · exact down
      · rw [if_neg k5, if_pos (by omega)]
        have A : CpP kd n ((3, b, c) :: T) w ↔ CpP kd n T w ∨ CpP kd n (hgS (kd w) w ((3, b, c) :: T)) (w + 1) := by
          constructor
          · intro h
            obtain ⟨j, h1, h2, h3, h4⟩ := Cp3.mp h
            rcases (dpp_2 h1 (by omega)).mp h3 with e | ⟨e1, e2, e3⟩ | ⟨q, q1, q2, q3, q4⟩
            · subst e; exact Or.inl h4
            · refine Or.inr ?_
              rw [hgS, if_neg (by omega), if_neg k5, if_neg (by omega)]
              exact Cp3.mpr ⟨j, by omega, h2, e3, h4⟩
            · have q5 := (dpp_0 (by omega)).mp q3
              refine Or.inr ?_
              rw [hgS, if_pos q5.2.1, if_neg (by omega)]
              exact Cp7.mpr ⟨q, by omega, by omega, q5.2.2, Cp3.mpr ⟨j, q2, h2, q4, h4⟩⟩
          · rintro (h | h)
            · exact down h
            · by_cases k4 : kd w = 4
              · rw [hgS, if_pos k4, if_neg (by omega)] at h
                obtain ⟨q, q1, q2, q3, q4⟩ := Cp7.mp h
                obtain ⟨j, h1, h2, h3, h4⟩ := Cp3.mp q4
                exact Cp3.mpr ⟨j, by omega, h2, (dpp_2 (by omega) (by omega)).mpr (Or.inr (Or.inr ⟨q, by omega, h1, (dpp_0 (by omega)).mpr ⟨by omega, k4, q3⟩, h3⟩)), h4⟩
              · rw [hgS, if_neg k4, if_neg k5, if_neg (by omega)] at h
                obtain ⟨j, h1, h2, h3, h4⟩ := Cp3.mp h
                exact Cp3.mpr ⟨j, by omega, h2, (dpp_2 (by omega) (by omega)).mpr (Or.inr (Or.inl ⟨by omega, by omega, h3⟩)), h4⟩
        rw [A, ih]
        constructor
        · rintro (⟨S, h1, h2⟩ | h2)
          · exact ⟨S, List.mem_cons_of_mem _ h1, h2⟩
          · exact ⟨_, List.mem_cons_self, h2⟩
        · rintro ⟨S, h1, h2⟩
          rcases List.mem_cons.mp h1 with rfl | h1
          · exact Or.inr h2
          · exact Or.inl ⟨S, h1, h2⟩
theorem cands_23 {kd b c : Int} {T : List E3} : cands kd ((2, b, c) :: T) = (if kd = 5 then cands kd T else ((2, b, c) :: T) :: cands kd T) := by
  rw [cands, if_pos (by omega)]
  by_cases z : kd = 5
  · rw [if_pos z, if_pos z, if_neg (by omega)]
  · rw [if_neg z, if_neg z, if_pos (by omega)]
theorem cands_3 {kd b c : Int} {T : List E3} : cands kd ((3, b, c) :: T) = (if kd = 5 then cands kd T else ((3, b, c) :: T) :: cands kd T) := by
  rw [cands, if_pos (by omega)]
  by_cases z : kd = 5
  · rw [if_pos z, if_pos z, if_neg (by omega)]
  · rw [if_neg z, if_neg z, if_pos (by omega)]
theorem hgS_23 {kd w b c : Int} {T : List E3} (h : kd ≠ 5) : hgS kd w ((2, b, c) :: T) = hgS kd w ((3, b, c) :: T) := by
  unfold hgS
  simp [h]
theorem Cp_hang {kd : Int → Int} {n w : Int} (hn : n ≤ 12) (h0 : 0 ≤ w) (hw : w < n) (hk : kd w = 3 ∨ kd w = 4 ∨ kd w = 5) {a b c : Int} {T : List E3} (wf : wfX ((a, b, c) :: T)) : CpP kd n ((a, b, c) :: T) w ↔ ∃ S ∈ cands (kd w) ((a, b, c) :: T), CpP kd n (hgS (kd w) w S) (w + 1) := by
  have nocand : ∀ a, a ≠ 5 → a ≠ 2 → a ≠ 3 → cands (kd w) ((a, b, c) :: T) = [] := fun a h1 h2 h3 => by rw [cands, if_neg (by omega)]
  rcases wf with ⟨e, wf⟩ | ⟨e, wf⟩ | ⟨e, wf⟩
  · exact Cp_hangN hn h0 hw hk (Or.inl ⟨e, wf⟩)
  · rcases e with e | e | e
    · exact Cp_hangN hn h0 hw hk (Or.inr (Or.inr ⟨e, wf⟩))
    · dsimp only at e; subst e
      have h3 := Cp_hangN hn h0 hw hk (L := (3, b, c) :: T) (Or.inr (Or.inr ⟨rfl, wf⟩))
      have A : CpP kd n ((2, b, c) :: T) w ↔ CpP kd n ((3, b, c) :: T) w := by
        rw [Cp2, Cp3]
        constructor
        · rintro ⟨j, h1, h2, h3, h4⟩
          refine ⟨j, h1, h2, ?_, h4⟩
          rcases (dpp_6 h1 (by omega)).mp h3 with e | ⟨k, k1, k2, k3, k4⟩
          · exact e
          · rcases k3 with k3 | k3
            · have := dp4_n (by omega) (by omega) k3
              omega
            · omega
        · rintro ⟨j, h1, h2, h3, h4⟩
          exact ⟨j, h1, h2, (dpp_6 h1 (by omega)).mpr (Or.inl h3), h4⟩
      rw [A, h3, cands_23, cands_3]
      by_cases k5 : kd w = 5
      · rw [if_pos k5, if_pos k5]
      · rw [if_neg k5, if_neg k5]
        constructor
        · rintro ⟨S, h1, h2⟩
          rcases List.mem_cons.mp h1 with rfl | h1
          · exact ⟨_, List.mem_cons_self, by rw [hgS_23 k5]; exact h2⟩
          · exact ⟨S, List.mem_cons_of_mem _ h1, h2⟩
        · rintro ⟨S, h1, h2⟩
          rcases List.mem_cons.mp h1 with rfl | h1
          · exact ⟨_, List.mem_cons_self, by rw [hgS_23 k5] at h2; exact h2⟩
          · exact ⟨S, List.mem_cons_of_mem _ h1, h2⟩
    · dsimp only at e; subst e
      rw [nocand 0 (by omega) (by omega) (by omega)]
      constructor
      · intro h
        obtain ⟨j, h1, h2, h3, h4⟩ := Cp0.mp h
        have := dp5_n h1 (by omega) h3
        omega
      · rintro ⟨S, h, -⟩; simp at h
  · rcases e with e | e
    · dsimp only at e; subst e
      rw [nocand 7 (by omega) (by omega) (by omega)]
      constructor
      · intro h
        obtain ⟨j, h1, h2, h3, h4⟩ := Cp7.mp h
        have := dp4_n h1 (by omega) h3
        omega
      · rintro ⟨S, h, -⟩; simp at h
    · dsimp only at e; subst e
      rw [nocand 6 (by omega) (by omega) (by omega)]
      constructor
      · intro h
        obtain ⟨j, h1, h2, h3, h4⟩ := Cp6.mp h
        have := dp3_n h1 h3
        omega
      · rintro ⟨S, h, -⟩; simp at h
/-- the shapes stay -/
theorem wf_cand {kd : Int} : ∀ {L S : List E3}, wfN L → S ∈ cands kd L → wfN S ∧ ∃ a b c T, S = (a, b, c) :: T ∧ ((a = 5 ∧ wfN T) ∨ (a = 3 ∧ wf3 T ∧ kd ≠ 5))
  | [], S, _, h => by simp [cands] at h
  | (a, b, c) :: T, S, wf, h => by
    rcases wf with ⟨e, wf⟩ | ⟨e, wf⟩ | ⟨e, wf⟩
    · dsimp only at e; subst e
      have ih := wf_cand (kd := kd) (S := S) wf
      rw [cands, if_pos (Or.inl rfl)] at h
      have hd : S = (5, b, c) :: T → wfN S ∧ ∃ a b c T, S = (a, b, c) :: T ∧ ((a = 5 ∧ wfN T) ∨ (a = 3 ∧ wf3 T ∧ kd ≠ 5)) := by
        rintro rfl
        exact ⟨Or.inl ⟨rfl, wf⟩, 5, b, c, T, rfl, Or.inl ⟨rfl, wf⟩⟩
      split at h
      · split at h
        · rcases List.mem_cons.mp h with e | e
          · exact hd e
          · exact ih e
        · exact ih h
      · split at h
        · rcases List.mem_cons.mp h with e | e
          · exact hd e
          · exact ih e
        · exact ih h
    · dsimp only at e; subst e
      rw [cands, if_neg (by omega)] at h
      simp at h
    · dsimp only at e; subst e
      rw [cands_3] at h
      split at h
      · exact wf_cand (wf3_N wf) h
      · next z =>
        rcases List.mem_cons.mp h with e | e
        · subst e
          exact ⟨Or.inr (Or.inr ⟨rfl, wf⟩), 3, b, c, T, rfl, Or.inr ⟨rfl, wf, z⟩⟩
        · exact wf_cand (wf3_N wf) e
theorem wf_hgS {kd w : Int} {L S : List E3} (wf : wfX L) (h : S ∈ cands kd L) : wfL (hgS kd w S) := by
  have fin : ∀ {a b c : Int} {T : List E3}, ((a = 5 ∧ wfN T) ∨ (a = 3 ∧ wf3 T ∧ kd ≠ 5)) → wfL (hgS kd w ((a, b, c) :: T)) := by
    rintro a b c T (⟨rfl, wf⟩ | ⟨rfl, wf, k5⟩)
    · by_cases k4 : kd = 4
      · rw [hgS, if_pos k4, if_neg (by omega)]
        exact Or.inr (Or.inr (Or.inr ⟨Or.inl rfl, Or.inl ⟨rfl, wf⟩⟩))
      · by_cases k5 : kd = 5
        · rw [hgS, if_neg k4, if_pos k5]
          exact Or.inr (Or.inr (Or.inr ⟨Or.inr rfl, wf⟩))
        · rw [hgS, if_neg k4, if_neg k5, if_neg (by omega)]
          exact Or.inr (Or.inl ⟨rfl, wf⟩)
    · by_cases k4 : kd = 4
      · rw [hgS, if_pos k4, if_neg (by omega)]
        exact Or.inr (Or.inr (Or.inr ⟨Or.inl rfl, Or.inr (Or.inr ⟨rfl, wf⟩)⟩))
      · rw [hgS, if_neg k4, if_neg k5, if_neg (by omega)]
        exact Or.inr (Or.inr (Or.inl ⟨Or.inl rfl, wf⟩))
  cases L with
  | nil => exact absurd wf (by simp [wfX])
  | cons e T =>
    obtain ⟨a, b, c⟩ := e
    rcases wf with ⟨e, wf⟩ | ⟨e, wf⟩ | ⟨e, wf⟩
    · obtain ⟨-, a2, b2, c2, T2, rfl, q⟩ := wf_cand (L := (a, b, c) :: T) (Or.inl ⟨e, wf⟩) h
      exact fin q
    · rcases e with e | e | e
      · obtain ⟨-, a2, b2, c2, T2, rfl, q⟩ := wf_cand (L := (a, b, c) :: T) (Or.inr (Or.inr ⟨e, wf⟩)) h
        exact fin q
      · dsimp only at e; subst e
        rw [cands_23] at h
        split at h
        · obtain ⟨-, a2, b2, c2, T2, rfl, q⟩ := wf_cand (wf3_N wf) h
          exact fin q
        · next z =>
          rcases List.mem_cons.mp h with e | e
          · subst e
            rw [hgS_23 z]
            exact fin (Or.inr ⟨rfl, wf, z⟩)
          · obtain ⟨-, a2, b2, c2, T2, rfl, q⟩ := wf_cand (wf3_N wf) e
            exact fin q
      · dsimp only at e; subst e
        rw [cands, if_neg (by omega)] at h
        simp at h
    · dsimp only at e
      rw [cands, if_neg (by omega)] at h
      simp at h
theorem wf_nounTop {w : Int} {hd hd2 : Int → Int} : ∀ {L L2 : List E3}, wfX L → nounTop w L hd = some (L2, hd2) → wfL L2
  | [], _, _, h => by simp [nounTop] at h
  | (a, b, c) :: T, L2, wf, h => by
    simp only [nounTop] at h
    rcases wf with ⟨e, wf⟩ | ⟨e, wf⟩ | ⟨e, wf⟩
    · dsimp only at e; subst e; simp at h
    · rcases e with e | e | e
      · dsimp only at e; subst e; simp at h
      · dsimp only at e; subst e
        simp at h
        rw [← h.1]
        exact Or.inr (Or.inl ⟨rfl, Or.inr (Or.inr ⟨rfl, wf⟩)⟩)
      · dsimp only at e; subst e
        simp at h
        rw [← h.1]
        exact Or.inr (Or.inl ⟨rfl, Or.inr (Or.inl ⟨rfl, wf⟩)⟩)
    · rcases e with e | e
      · dsimp only at e; subst e
        simp at h
        rw [← h.1]
        exact Or.inr (Or.inl ⟨rfl, wf⟩)
      · dsimp only at e; subst e
        simp at h
        rw [← h.1]
        exact Or.inr (Or.inl ⟨rfl, wf⟩)
theorem wf_noun {w : Int} {hd hd2 : Int → Int} : ∀ {L L2 : List E3}, wfL L → nounStep w L hd = some (L2, hd2) → wfL L2
  | [], _, _, h => by simp [nounStep] at h
  | (a, b, c) :: T, L2, wf, h => by
    simp only [nounStep] at h
    rcases wf with ⟨e, wf⟩ | wf
    · dsimp only at e; subst e
      simp only [if_pos rfl] at h
      have wx : wfX T := by
        cases T with
        | nil => exact absurd wf (by simp [wfA])
        | cons x T => exact wf.1
      exact wf_nounTop wx h
    · have e : a ≠ 4 := by rcases wf with ⟨e, -⟩ | ⟨e, -⟩ | ⟨e, -⟩ <;> (dsimp only at e; omega)
      simp only [if_neg e] at h
      exact wf_nounTop wf h
theorem wf_verb {w : Int} {hd hd2 : Int → Int} : ∀ {L L2 : List E3}, wfN L → verbStep w L hd = some (L2, hd2) → wfL L2
  | [], _, _, h => by simp [verbStep] at h
  | (a, b, c) :: T, L2, wf, h => by
    rw [verbStep] at h
    rcases wf with ⟨e, wf⟩ | ⟨e, wf⟩ | ⟨e, wf⟩
    · dsimp only at e; subst e
      rw [if_pos rfl] at h
      exact wf_verb wf h
    · dsimp only at e; subst e
      simp at h
      rw [← h.1]
      exact Or.inr (Or.inr (Or.inl ⟨Or.inr (Or.inl rfl), wf⟩))
    · dsimp only at e; subst e; simp at h
theorem wf_step {kd w : Int} {i : Nat} {hd hd2 : Int → Int} {L L2 : List E3} (wf : wfL L) (h : stepW kd w (i : Int) L hd = some (L2, hd2)) : wfL L2 := by
  unfold stepW at h
  cases L with
  | nil => exact absurd wf (by simp [wfL])
  | cons e T =>
    obtain ⟨a, b, c⟩ := e
    split at h
    · exact wf_noun wf h
    · split at h
      · rcases wf with ⟨e, wf⟩ | wf
        · dsimp only at e; subst e; simp [verbStep] at h
        · by_cases z : a = 5 ∨ a = 3
          · refine wf_verb (L := (a, b, c) :: T) ?_ h
            rcases wf with ⟨e, wf⟩ | ⟨e, wf⟩ | ⟨e, wf⟩
            · exact Or.inl ⟨e, wf⟩
            · exact Or.inr (Or.inr ⟨by dsimp only at e ⊢; omega, wf⟩)
            · dsimp only at e; omega
          · have z1 : a ≠ 1 := by rcases wf with ⟨e, -⟩ | ⟨e, -⟩ | ⟨e, -⟩ <;> (dsimp only at e; omega)
            rw [verbStep, if_neg (by omega), if_neg z1] at h
            cases h
      · split at h
        · simp only [adjStep] at h
          split at h
          · cases h; exact wf
          · next z =>
            split at h
            · next y =>
              cases h
              rcases wf with ⟨e, wf⟩ | wf
              · exact absurd e z
              · exact Or.inl ⟨rfl, wf, y⟩
            · cases h
        · split at h
          · simp only [openStep] at h
            split at h
            · next z =>
              cases h
              rcases wf with ⟨e, wf⟩ | wf
              · dsimp only at e; omega
              · rcases wf with ⟨e, wf⟩ | ⟨e, wf⟩ | ⟨e, wf⟩
                · dsimp only at e; omega
                · exact Or.inr (Or.inr (Or.inl ⟨Or.inr (Or.inr rfl), rfl, wf⟩))
                · dsimp only at e; omega
            · cases h
          · obtain ⟨S, h1, h2⟩ := hang_inv h
            have hm := List.mem_of_getElem? h1
            rcases wf with ⟨e, wf⟩ | wf
            · dsimp only at e; subst e
              rw [cands, if_neg (by omega)] at hm
              simp at hm
            · rw [h2]
              exact wf_hgS wf hm
theorem wf_0 : wfL [(0, 0, -1)] := Or.inr (Or.inr (Or.inl ⟨Or.inr (Or.inr rfl), trivial⟩))
theorem Cp_step {kd : Int → Int} {n w : Int} (hn : n ≤ 12) (h0 : 0 ≤ w) (hw : w < n) (hk : 0 ≤ kd w ∧ kd w ≤ 6) {L : List E3} (wf : wfL L) (hd : Int → Int) : CpP kd n L w ↔ ∃ i : Nat, (i : Int) < canW (kd w) L ∧ ∃ L2 hd2, stepW (kd w) w (i : Int) L hd = some (L2, hd2) ∧ CpP kd n L2 (w + 1) := by
  have nonh : (kd w = 0 ∨ kd w = 1 ∨ kd w = 2 ∨ kd w = 6) → ∀ {f : Option St3}, (∀ i : Nat, stepW (kd w) w (i : Int) L hd = f) → ((∃ i : Nat, (i : Int) < canW (kd w) L ∧ ∃ L2 hd2, stepW (kd w) w (i : Int) L hd = some (L2, hd2) ∧ CpP kd n L2 (w + 1)) ↔ ∃ L2 hd2, f = some (L2, hd2) ∧ CpP kd n L2 (w + 1)) := by
    intro z f hf
    have ec : canW (kd w) L = 1 := if_pos z
    rw [ec]
    constructor
    · rintro ⟨i, -, L2, hd2, h1, h2⟩
      rw [hf] at h1
      exact ⟨L2, hd2, h1, h2⟩
    · rintro ⟨L2, hd2, h1, h2⟩
      exact ⟨0, by omega, L2, hd2, by rw [hf]; exact h1, h2⟩
  cases L with
  | nil => exact absurd wf (by simp [wfL])
  | cons e T =>
    obtain ⟨a, b, c⟩ := e
    by_cases k0 : kd w = 0
    · rw [nonh (Or.inl k0) (f := nounStep w ((a, b, c) :: T) hd) (fun i => by rw [stepW, if_pos k0])]
      exact Cp_noun hn h0 hw k0 wf
    by_cases k1 : kd w = 1
    · rw [nonh (Or.inr (Or.inl k1)) (f := verbStep w ((a, b, c) :: T) hd) (fun i => by rw [stepW, if_neg k0, if_pos k1])]
      rcases wf with ⟨e, wf⟩ | wf
      · dsimp only at e; subst e
        rw [Cp4]
        constructor
        · intro h; omega
        · rintro ⟨L2, hd2, h, -⟩; simp [verbStep] at h
      · exact Cp_verbX hn h0 hw k1 wf
    by_cases k2 : kd w = 2
    · rw [nonh (Or.inr (Or.inr (Or.inl k2))) (f := adjStep w ((a, b, c) :: T) hd) (fun i => by rw [stepW, if_neg k0, if_neg k1, if_pos k2])]
      exact Cp_adj hn h0 hw k2 wf
    by_cases k6 : kd w = 6
    · rw [nonh (Or.inr (Or.inr (Or.inr k6))) (f := openStep w ((a, b, c) :: T) hd) (fun i => by rw [stepW, if_neg k0, if_neg k1, if_neg k2, if_pos k6])]
      rcases wf with ⟨e, wf⟩ | wf
      · dsimp only at e; subst e
        rw [Cp4]
        constructor
        · intro h; omega
        · rintro ⟨L2, hd2, h, -⟩; simp [openStep] at h
      · exact Cp_open hn h0 hw k6 wf
    have hh : ∀ i : Nat, stepW (kd w) w (i : Int) ((a, b, c) :: T) hd = hangStep w (kd w) (i : Int) ((a, b, c) :: T) hd := fun i => by rw [stepW, if_neg k0, if_neg k1, if_neg k2, if_neg k6]
    have ec : canW (kd w) ((a, b, c) :: T) = (cands (kd w) ((a, b, c) :: T)).length := by rw [canW, if_neg (by omega)]
    have B : CpP kd n ((a, b, c) :: T) w ↔ ∃ S ∈ cands (kd w) ((a, b, c) :: T), CpP kd n (hgS (kd w) w S) (w + 1) := by
      rcases wf with ⟨e, wf⟩ | wf
      · dsimp only at e; subst e
        rw [Cp4, cands, if_neg (by omega)]
        constructor
        · intro h; omega
        · rintro ⟨S, h, -⟩; simp at h
      · exact Cp_hang hn h0 hw (by omega) wf
    rw [B, ec]
    constructor
    · rintro ⟨S, h1, h2⟩
      obtain ⟨i, hi⟩ := List.getElem?_of_mem h1
      obtain ⟨hd2, h3⟩ := hang_eq (w := w) (hd := hd) hi
      have := (List.getElem?_eq_some_iff.mp hi).1
      exact ⟨i, by omega, _, hd2, by rw [hh]; exact h3, h2⟩
    · rintro ⟨i, hi, L2, hd2, h1, h2⟩
      rw [hh] at h1
      obtain ⟨S, h3, rfl⟩ := hang_inv h1
      exact ⟨S, List.mem_of_getElem? h3, h2⟩
theorem Cp_end {kd : Int → Int} {n : Int} (hn : 0 ≤ n ∧ n ≤ 12) : ∀ (L : List E3), (CpP kd n L n ↔ ∀ e ∈ L, compl e.1)
  | [] => by rw [CpP]; simp
  | (a, b, c) :: T => by
    have ih := Cp_end hn T (kd := kd)
    have key : CpP kd n ((a, b, c) :: T) n ↔ compl a ∧ CpP kd n T n := by
      rw [CpP]
      dsimp only
      by_cases z : a = 4
      · rw [if_pos z]
        unfold compl
        constructor
        · intro h; omega
        · intro h; omega
      · rw [if_neg z]
        constructor
        · rintro ⟨j, h1, h2, h3, h4⟩
          have : j = n := by omega
          subst this
          refine ⟨?_, h4⟩
          unfold lgP at h3
          unfold compl
          by_cases y0 : a = 0
          · rw [if_pos y0, dp_diag (Or.inr (Or.inr rfl))] at h3; omega
          rw [if_neg y0] at h3
          by_cases y1 : a = 1
          · rw [if_pos y1] at h3; omega
          rw [if_neg y1] at h3
          by_cases y2 : a = 2
          · omega
          rw [if_neg y2] at h3
          by_cases y3 : a = 3
          · omega
          rw [if_neg y3] at h3
          by_cases y5 : a = 5
          · omega
          rw [if_neg y5] at h3
          by_cases y6 : a = 6
          · rw [if_pos y6, dp_diag (Or.inl rfl)] at h3; omega
          rw [if_neg y6] at h3
          by_cases y7 : a = 7
          · rw [if_pos y7, dp_diag (Or.inr (Or.inl rfl))] at h3; omega
          rw [if_neg y7] at h3
          exact absurd h3 id
        · rintro ⟨h1, h2⟩
          refine ⟨n, by omega, by omega, ?_, h2⟩
          unfold compl at h1
          unfold lgP
          rcases h1 with rfl | rfl | rfl
          · rw [if_neg (by omega), if_neg (by omega), if_neg (by omega), if_neg (by omega), if_pos rfl]
            exact ⟨n, by omega, by omega, by rw [dp_one (Or.inl rfl)]; omega, Or.inl rfl⟩
          · rw [if_neg (by omega), if_neg (by omega), if_pos rfl, dp_one (Or.inr (Or.inr rfl))]; omega
          · rw [if_neg (by omega), if_neg (by omega), if_neg (by omega), if_pos rfl, dp_one (Or.inr (Or.inl rfl))]; omega
    rw [key, ih]
    simp
theorem TR_Cp {kd : Int → Int} {n : Int} (hn : 0 < n ∧ n ≤ 12) (hk : ∀ w, 0 ≤ w → w < n → 0 ≤ kd w ∧ kd w ≤ 6) : ∀ (m : Nat) (w : Int) (L : List E3) (H : (Int → Int) → Prop) (out : List (Int → Int)), 0 ≤ w → w + m = n → wfL L → (∃ hd, H hd) → TR kd n m w L H out → (out ≠ [] ↔ CpP kd n L w)
  | 0, w, L, H, out, h0, hw, wf, hH, hT => by
    have : w = n := by omega
    subst this
    rw [Cp_end (by omega)]
    by_cases c : ∀ e ∈ L, compl e.1
    · obtain ⟨f, rfl, -⟩ := hT.1 ⟨hn.1, c⟩
      exact ⟨fun _ => c, fun _ => by simp⟩
    · rw [hT.2 (fun z => c z.2)]
      exact ⟨fun h => absurd rfl h, fun h => absurd h c⟩
  | m + 1, w, L, H, out, h0, hw, wf, ⟨hd, hhd⟩, hT => by
    rw [Cp_step hn.2 h0 (by omega) (hk w h0 (by omega)) wf hd]
    rcases hT with ⟨rfl, hs⟩ | ⟨outs, hne, hlen, h16, rfl, hall⟩
    · refine ⟨fun h => absurd rfl h, ?_⟩
      rintro ⟨i, h1, L2, hd2, h2, h3⟩
      exfalso
      have h4 := hs hd hhd
      by_cases z : kd w = 0 ∨ kd w = 1 ∨ kd w = 2 ∨ kd w = 6
      · have ec : canW (kd w) L = 1 := if_pos z
        rw [show (i : Int) = 0 by omega, h4] at h2
        cases h2
      · have ec : canW (kd w) L = (cands (kd w) L).length := if_neg z
        have hc : 0 < (cands (kd w) L).length := by omega
        obtain ⟨hd3, h5⟩ := hang_eq (w := w) (hd := hd) (List.getElem?_eq_getElem hc)
        have : stepW (kd w) w ((0 : Nat) : Int) L hd = hangStep w (kd w) ((0 : Nat) : Int) L hd := by
          rw [stepW, if_neg (by omega), if_neg (by omega), if_neg (by omega), if_neg (by omega)]
        rw [← this] at h5
        have h6 : stepW (kd w) w ((0 : Nat) : Int) L hd = none := h4
        rw [h6] at h5
        cases h5
    · have ne : outs.reverse.flatten ≠ [] ↔ ∃ o ∈ outs, o ≠ [] := by
        rw [ne_eq, List.flatten_eq_nil_iff]
        constructor
        · intro h
          apply Classical.byContradiction
          intro q
          apply h
          intro l hl
          apply Classical.byContradiction
          intro hl2
          exact q ⟨l, List.mem_reverse.mp hl, hl2⟩
        · rintro ⟨o, h1, h2⟩ h
          exact h2 (h o (List.mem_reverse.mpr h1))
      rw [ne, ← hlen]
      constructor
      · rintro ⟨o, h1, h2⟩
        obtain ⟨i, hi⟩ := List.getElem?_of_mem h1
        obtain ⟨L2, H2, hst, hTR⟩ := hall i o hi
        obtain ⟨hd2, es, hH2⟩ := hst hd hhd
        have := (List.getElem?_eq_some_iff.mp hi).1
        exact ⟨i, by omega, L2, hd2, es, (TR_Cp hn hk m (w + 1) L2 H2 o (by omega) (by omega) (wf_step wf es) ⟨hd2, hH2⟩ hTR).mp h2⟩
      · rintro ⟨i, h1, L2, hd2, h2, h3⟩
        have hil : i < outs.length := by omega
        obtain ⟨L3, H2, hst, hTR⟩ := hall i outs[i] (List.getElem?_eq_getElem hil)
        obtain ⟨hd3, es, hH2⟩ := hst hd hhd
        rw [es] at h2
        cases h2
        exact ⟨outs[i], List.getElem_mem hil, (TR_Cp hn hk m (w + 1) _ H2 _ (by omega) (by omega) (wf_step wf es) ⟨_, hH2⟩ hTR).mpr h3⟩
theorem TR_dp {kd : Int → Int} {n : Int} (hn : 0 ≤ n ∧ n ≤ 12) (hk : ∀ w, 0 ≤ w → w < n → 0 ≤ kd w ∧ kd w ≤ 6) {out : List (Int → Int)} (h : TR kd n n.toNat 0 [(0, 0, -1)] (fun _ => True) out) : out ≠ [] ↔ 0 < dp kd 5 0 n := by
  by_cases z : n = 0
  · subst z
    have : out = [] := h.2 (fun z => by omega)
    subst this
    rw [dp_diag (Or.inr (Or.inr rfl))]
    exact ⟨fun h => absurd rfl h, fun h => by omega⟩
  · rw [TR_Cp ⟨by omega, hn.2⟩ hk n.toNat 0 _ _ out (Int.le_refl _) (by omega) wf_0 ⟨fun _ => 0, trivial⟩ h, Cp0]
    constructor
    · rintro ⟨j, h1, h2, h3, h4⟩
      rw [CpP] at h4
      subst h4
      exact h3
    · intro h
      exact ⟨n, hn.1, by omega, h, by rw [CpP]⟩
end P4
