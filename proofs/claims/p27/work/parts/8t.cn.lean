section CNN
variable {kd : Int → Int} {n : Int}
/-- how many ways a stack can be completed by the words from i on -/
def CN (kd : Int → Int) (n : Int) : List E3 → Int → Int
  | [], i => if i = n then 1 else 0
  | (a, b, c) :: T, i => if a = 0 then Av kd 5 (CN kd n T) i else if a = 1 then (if kd i = 1 then Av kd 6 (CN kd n T) (i + 1) else 0) else if a = 2 then Av kd 6 (CN kd n T) i else if a = 3 then Av kd 2 (CN kd n T) i
    else if a = 4 then (if i < n ∧ (kd i = 2 ∨ kd i = 0) then CN kd n T i else 0) else if a = 5 then (if c = 1 then Av kd 1 (Uv kd (CN kd n T)) i else Av kd 1 (CN kd n T) i) else if a = 6 then Av kd 3 (CN kd n T) i else if a = 7 then Av kd 4 (CN kd n T) i else 0
variable {b c i : Int} {T : List E3}
theorem CN0 : CN kd n ((0, b, c) :: T) i = Av kd 5 (CN kd n T) i := by rw [CN, if_pos rfl]
theorem CN1 : CN kd n ((1, b, c) :: T) i = if kd i = 1 then Av kd 6 (CN kd n T) (i + 1) else 0 := by rw [CN, if_neg (by omega), if_pos rfl]
theorem CN2 : CN kd n ((2, b, c) :: T) i = Av kd 6 (CN kd n T) i := by rw [CN, if_neg (by omega), if_neg (by omega), if_pos rfl]
theorem CN3 : CN kd n ((3, b, c) :: T) i = Av kd 2 (CN kd n T) i := by rw [CN, if_neg (by omega), if_neg (by omega), if_neg (by omega), if_pos rfl]
theorem CN4 : CN kd n ((4, b, c) :: T) i = if i < n ∧ (kd i = 2 ∨ kd i = 0) then CN kd n T i else 0 := by rw [CN, if_neg (by omega), if_neg (by omega), if_neg (by omega), if_neg (by omega), if_pos rfl]
theorem CN5 : CN kd n ((5, b, c) :: T) i = if c = 1 then Av kd 1 (Uv kd (CN kd n T)) i else Av kd 1 (CN kd n T) i := by rw [CN, if_neg (by omega), if_neg (by omega), if_neg (by omega), if_neg (by omega), if_neg (by omega), if_pos rfl]
theorem CN6 : CN kd n ((6, b, c) :: T) i = Av kd 3 (CN kd n T) i := by rw [CN, if_neg (by omega), if_neg (by omega), if_neg (by omega), if_neg (by omega), if_neg (by omega), if_neg (by omega), if_pos rfl]
theorem CN7 : CN kd n ((7, b, c) :: T) i = Av kd 4 (CN kd n T) i := by rw [CN, if_neg (by omega), if_neg (by omega), if_neg (by omega), if_neg (by omega), if_neg (by omega), if_neg (by omega), if_neg (by omega), if_pos rfl]
theorem Uz {v : Int → Int} {m : Int} (h : ∀ k, m < k → v k = 0) : ∀ k, m < k → Uv kd v k = 0 := fun k hk => by
  unfold Uv
  rw [h k hk, Av_z (fun j j1 _ => h j (by omega))]
  split <;> rfl
theorem CNz (hn : 0 ≤ n) : ∀ (L : List E3) (i : Int), n < i → CN kd n L i = 0
  | [], i, h => by rw [CN, if_neg (by omega)]
  | (a, b, c) :: T, i, h => by
    have z := CNz hn T
    have zk : ∀ {i : Int}, n < i → ∀ k, i ≤ k → k ≤ 12 → CN kd n T k = 0 := fun h k k1 _ => z k (by omega)
    have zu : ∀ k, i ≤ k → k ≤ 12 → Uv kd (CN kd n T) k = 0 := fun k k1 _ => Uz (m := n) z k (by omega)
    rw [CN]
    repeat' split
    all_goals first | exact Av_z (zk h) | exact Av_z (zk (by omega)) | exact Av_z zu | rfl | omega
/-- no part below can take a word of these kinds -/
theorem NCn {w : Int} (hn : n ≤ 12) (h0 : 0 ≤ w) (hw : w < n) (hk : kd w = 0 ∨ kd w = 2 ∨ kd w = 6) : ∀ {T : List E3}, wfN T → CN kd n T w = 0
  | [], _ => by rw [CN, if_neg (by omega)]
  | (a, b, c) :: T, wf => by
    rcases wf with ⟨e, wf⟩ | ⟨e, wf⟩ | ⟨e, wf⟩
    · dsimp only at e; subst e
      have ih := NCn hn h0 hw hk wf
      have u : Uv kd (CN kd n T) w = 0 := by
        unfold Uv
        rw [ih, if_neg (by omega)]
        rfl
      rw [CN5]
      split
      · rw [Av1 h0 (by omega), if_neg (by omega), u]
        rfl
      · rw [Av1 h0 (by omega), if_neg (by omega), ih]
        rfl
    · dsimp only at e; subst e
      rw [CN1, if_neg (by omega)]
    · dsimp only at e; subst e
      rw [CN3, Av2 h0 (by omega), if_neg (by omega), if_neg (by omega), NCn hn h0 hw hk (wf3_N wf)]
      rfl
theorem NCv {w : Int} (hn : n ≤ 12) (h0 : 0 ≤ w) (hw : w < n) (hk : kd w = 1 ∨ kd w = 5) : ∀ {T : List E3}, wf3 T → CN kd n T w = 0
  | [], _ => by rw [CN, if_neg (by omega)]
  | (a, b, c) :: T, wf => by
    obtain ⟨e, wf⟩ := wf
    dsimp only at e; subst e
    rw [CN3, Av2 h0 (by omega), if_neg (by omega), if_neg (by omega), NCv hn h0 hw hk wf]
    rfl
/-- what a step's answer says of the count -/
def StR (kd : Int → Int) (n : Int) (r : Option St3) (x w1 : Int) : Prop := match r with
  | some (L2, _) => x = CN kd n L2 w1
  | none => x = 0
/-- rows of A4 and A5 at a word of a kind -/
theorem A3_0 {v : Int → Int} {w : Int} (hk : kd w = 0) : Av kd 3 v w = Av kd 1 v (w + 1) := by rw [Av3, if_pos hk]
theorem A3_2 {v : Int → Int} {w : Int} (hk : kd w = 2) : Av kd 3 v w = Av kd 3 v (w + 1) := by rw [Av3, if_neg (by omega), if_pos hk]
theorem A3_n {v : Int → Int} {w : Int} (hk : kd w ≠ 0) (hk2 : kd w ≠ 2) : Av kd 3 v w = 0 := by rw [Av3, if_neg hk, if_neg hk2]
theorem A4_n {v : Int → Int} {w : Int} (h0 : 0 ≤ w) (hw : w ≤ 12) (hk : kd w ≠ 0) (hk2 : kd w ≠ 2) : Av kd 4 v w = 0 := by rw [Av4 h0 hw, A3_n hk hk2]
theorem A5_n {v : Int → Int} {w : Int} (h0 : 0 ≤ w) (hw : w ≤ 12) (hk : kd w ≠ 0) (hk2 : kd w ≠ 2) : Av kd 5 v w = 0 := by rw [Av5 h0 hw, A4_n h0 hw hk hk2]
theorem A2_n {v : Int → Int} {w : Int} (h0 : 0 ≤ w) (hw : w ≤ 12) (hk : kd w ≠ 3) (hk2 : kd w ≠ 4) : Av kd 2 v w = v w := by
  rw [Av2 h0 hw, if_neg hk, if_neg hk2]
  omega
theorem CN_nounTop {w : Int} (hn : n ≤ 12) (h0 : 0 ≤ w) (hw : w < n) (hk : kd w = 0) {hd : Int → Int} : ∀ {L : List E3}, wfX L → StR kd n (nounTop w L hd) (CN kd n L w) (w + 1)
  | [], wf => by exact absurd wf (by simp [wfX])
  | (a, b, c) :: T, wf => by
    have no : ∀ {T : List E3}, wfN T → CN kd n T w = 0 := fun wf => NCn hn h0 hw (Or.inl hk) wf
    have h12 : w ≤ 12 := by omega
    rcases wf with ⟨e, wf⟩ | ⟨e, wf⟩ | ⟨e, wf⟩
    · dsimp only at e; subst e
      have e1 : nounTop w ((5, b, c) :: T) hd = none := by simp [nounTop]
      rw [e1]
      exact no (Or.inl ⟨rfl, wf⟩)
    · rcases e with e | e | e
      · dsimp only at e; subst e
        have e1 : nounTop w ((3, b, c) :: T) hd = none := by simp [nounTop]
        rw [e1]
        exact no (Or.inr (Or.inr ⟨rfl, wf⟩))
      · dsimp only at e; subst e
        have e1 : nounTop w ((2, b, c) :: T) hd = some ((5, w, 1) :: (3, b, c) :: T, upH hd w b) := by simp [nounTop]
        rw [e1]
        show CN kd n ((2, b, c) :: T) w = CN kd n ((5, w, 1) :: (3, b, c) :: T) (w + 1)
        have e3 : CN kd n ((3, b, c) :: T) = Av kd 2 (CN kd n T) := funext fun _ => CN3
        rw [CN2, CN5, if_pos rfl, e3, Av6 h0 h12, A2_n h0 h12 (by omega) (by omega), if_neg (by omega), no (wf3_N wf), Av4 h0 h12, A3_0 hk]
        omega
      · dsimp only at e; subst e
        have e1 : nounTop w ((0, b, c) :: T) hd = some ((5, w, 1) :: (1, w, c) :: T, hd) := by simp [nounTop]
        rw [e1]
        show CN kd n ((0, b, c) :: T) w = CN kd n ((5, w, 1) :: (1, w, c) :: T) (w + 1)
        have e3 : CN kd n ((1, w, c) :: T) = Kv kd (CN kd n T) := funext fun _ => CN1
        rw [CN0, CN5, if_pos rfl, e3, Av5 h0 h12, Av4 h0 h12, A3_0 hk]
    · rcases e with e | e
      · dsimp only at e; subst e
        have e1 : nounTop w ((7, b, c) :: T) hd = some ((5, w, 1) :: T, upH hd w b) := by simp [nounTop]
        rw [e1]
        show CN kd n ((7, b, c) :: T) w = CN kd n ((5, w, 1) :: T) (w + 1)
        rw [CN7, CN5, if_pos rfl, Av4 h0 h12, A3_0 hk]
      · dsimp only at e; subst e
        have e1 : nounTop w ((6, b, c) :: T) hd = some ((5, w, 0) :: T, upH hd w b) := by simp [nounTop]
        rw [e1]
        show CN kd n ((6, b, c) :: T) w = CN kd n ((5, w, 0) :: T) (w + 1)
        rw [CN6, CN5, if_neg (by omega), A3_0 hk]
theorem CN_noun {w : Int} (hn : n ≤ 12) (h0 : 0 ≤ w) (hw : w < n) (hk : kd w = 0) {hd : Int → Int} : ∀ {L : List E3}, wfL L → StR kd n (nounStep w L hd) (CN kd n L w) (w + 1)
  | [], wf => by exact absurd wf (by simp [wfL])
  | (a, b, c) :: T, wf => by
    rcases wf with ⟨e, wf⟩ | wf
    · dsimp only at e; subst e
      have wx : wfX T := by
        cases T with
        | nil => exact absurd wf (by simp [wfA])
        | cons x T => exact wf.1
      rw [nounStep, if_pos rfl, CN4, if_pos ⟨hw, Or.inr hk⟩]
      exact CN_nounTop hn h0 hw hk wx
    · have e : a ≠ 4 := by rcases wf with ⟨e, -⟩ | ⟨e, -⟩ | ⟨e, -⟩ <;> (dsimp only at e; omega)
      rw [nounStep, if_neg e]
      exact CN_nounTop hn h0 hw hk wf
theorem CN_verb {w : Int} (hn : n ≤ 12) (h0 : 0 ≤ w) (hw : w < n) (hk : kd w = 1) {hd : Int → Int} : ∀ {L : List E3}, wfN L → StR kd n (verbStep w L hd) (CN kd n L w) (w + 1)
  | [], wf => by
    have e1 : verbStep w [] hd = none := by simp [verbStep]
    rw [e1]
    show CN kd n [] w = 0
    rw [CN, if_neg (by omega)]
  | (a, b, c) :: T, wf => by
    have h12 : w ≤ 12 := by omega
    rcases wf with ⟨e, wf⟩ | ⟨e, wf⟩ | ⟨e, wf⟩
    · dsimp only at e; subst e
      rw [verbStep, if_pos rfl]
      have : CN kd n ((5, b, c) :: T) w = CN kd n T w := by
        have u : Uv kd (CN kd n T) w = CN kd n T w := by
          unfold Uv
          rw [if_neg (by omega)]
          omega
        rw [CN5]
        split
        · rw [Av1 h0 h12, if_neg (by omega), u]
          omega
        · rw [Av1 h0 h12, if_neg (by omega)]
          omega
      rw [this]
      exact CN_verb hn h0 hw hk wf
    · dsimp only at e; subst e
      have e1 : verbStep w ((1, b, c) :: T) hd = some ((2, w, c) :: T, upH (upH hd b w) w c) := by simp [verbStep]
      rw [e1]
      show CN kd n ((1, b, c) :: T) w = CN kd n ((2, w, c) :: T) (w + 1)
      rw [CN1, if_pos hk, CN2]
    · dsimp only at e; subst e
      have e1 : verbStep w ((3, b, c) :: T) hd = none := by simp [verbStep]
      rw [e1]
      exact NCv hn h0 hw (Or.inl hk) ⟨rfl, wf⟩
theorem CN_verbX {w : Int} (hn : n ≤ 12) (h0 : 0 ≤ w) (hw : w < n) (hk : kd w = 1) {hd : Int → Int} {a b c : Int} {T : List E3} (wf : wfX ((a, b, c) :: T)) : StR kd n (verbStep w ((a, b, c) :: T) hd) (CN kd n ((a, b, c) :: T) w) (w + 1) := by
  have h12 : w ≤ 12 := by omega
  rcases wf with ⟨e, wf⟩ | ⟨e, wf⟩ | ⟨e, wf⟩
  · exact CN_verb hn h0 hw hk (Or.inl ⟨e, wf⟩)
  · rcases e with e | e | e
    · exact CN_verb hn h0 hw hk (Or.inr (Or.inr ⟨e, wf⟩))
    · dsimp only at e; subst e
      have e1 : verbStep w ((2, b, c) :: T) hd = none := by simp [verbStep]
      rw [e1]
      show CN kd n ((2, b, c) :: T) w = 0
      rw [CN2, Av6 h0 h12, A2_n h0 h12 (by omega) (by omega), A4_n h0 h12 (by omega) (by omega), if_neg (by omega), NCv hn h0 hw (Or.inl hk) wf]
      rfl
    · dsimp only at e; subst e
      have e1 : verbStep w ((0, b, c) :: T) hd = none := by simp [verbStep]
      rw [e1]
      show CN kd n ((0, b, c) :: T) w = 0
      rw [CN0, A5_n h0 h12 (by omega) (by omega)]
  · rcases e with e | e
    · dsimp only at e; subst e
      have e1 : verbStep w ((7, b, c) :: T) hd = none := by simp [verbStep]
      rw [e1]
      show CN kd n ((7, b, c) :: T) w = 0
      rw [CN7, A4_n h0 h12 (by omega) (by omega)]
    · dsimp only at e; subst e
      have e1 : verbStep w ((6, b, c) :: T) hd = none := by simp [verbStep]
      rw [e1]
      show CN kd n ((6, b, c) :: T) w = 0
      rw [CN6, A3_n (by omega) (by omega)]
/-- at the end nothing begins -/
theorem A3_e {v : Int → Int} {i : Int} (hv : ∀ k, i < k → v k = 0) : Av kd 3 v i = 0 := by
  rw [Av3]
  split
  · exact Av_z fun k k1 _ => hv k (by omega)
  · split
    · exact Av_z fun k k1 _ => hv k (by omega)
    · rfl
theorem A4_e {v : Int → Int} {i : Int} (h0 : 0 ≤ i) (hi : i ≤ 12) (hv : ∀ k, i < k → v k = 0) : Av kd 4 v i = 0 := by
  rw [Av4 h0 hi]
  exact A3_e (Uz hv)
theorem A5_e {v : Int → Int} {i : Int} (h0 : 0 ≤ i) (hi : i ≤ 12) (hv : ∀ k, i < k → v k = 0) : Av kd 5 v i = 0 := by
  rw [Av5 h0 hi]
  refine A4_e h0 hi fun k k1 => ?_
  unfold Kv
  split
  · exact Av_z fun j j1 _ => hv j (by omega)
  · rfl
theorem A2_s {v : Int → Int} {m : Int} (hv : ∀ k, m < k → v k = 0) : ∀ k, m < k → Av kd 2 v k = 0 := fun k hk => Av_z fun j j1 _ => hv j (by omega)
/-- an adjective where a name is waited for -/
theorem CN_adj0 {w : Int} (hn : n ≤ 12) (h0 : 0 ≤ w) (hw : w < n) (hk : kd w = 2) : ∀ {L : List E3}, wfA L → CN kd n L w = if w + 1 < n ∧ (kd (w + 1) = 2 ∨ kd (w + 1) = 0) then CN kd n L (w + 1) else 0
  | [], wf => by exact absurd wf (by simp [wfA])
  | (a, b, c) :: T, ⟨wf, e⟩ => by
    have h12 : w ≤ 12 := by omega
    have z := CNz (kd := kd) (n := n) (by omega) T
    have zv : ∀ k, w + 1 < k → n ≤ w + 1 → CN kd n T k = 0 := fun k k1 k2 => z k (by omega)
    rcases e with e | e | e | e
    · dsimp only at e; subst e
      rw [CN0, CN0, Av5 h0 h12, Av4 h0 h12, A3_2 hk]
      split
      · rw [Av5 (by omega) (by omega), Av4 (by omega) (by omega)]
      · next q =>
        by_cases q2 : w + 1 < n
        · exact A3_n (by omega) (by omega)
        · refine A3_e (Uz fun k k1 => ?_)
          unfold Kv
          split
          · exact Av_z fun j j1 _ => zv j (by omega) (by omega)
          · rfl
    · dsimp only at e; subst e
      have wf3T : wf3 T := by
        rcases wf with ⟨e, -⟩ | ⟨-, wf⟩ | ⟨e, -⟩
        · simp at e
        · exact wf
        · simp at e
      rw [CN2, CN2, Av6 h0 h12, A2_n h0 h12 (by omega) (by omega), if_neg (by omega), NCn hn h0 hw (Or.inr (Or.inl hk)) (wf3_N wf3T), Av4 h0 h12, A3_2 hk]
      split
      · next q =>
        rw [Av6 (by omega) (by omega), A2_n (by omega) (by omega) (by omega) (by omega), if_neg (by omega), NCn hn (by omega) q.1 (by omega) (wf3_N wf3T), Av4 (by omega) (by omega)]
      · next q =>
        by_cases q2 : w + 1 < n
        · rw [A3_n (by omega) (by omega)]
          rfl
        · rw [A3_e (Uz (A2_s fun k k1 => zv k k1 (by omega)))]
          rfl
    · dsimp only at e; subst e
      rw [CN7, CN7, Av4 h0 h12, A3_2 hk]
      split
      · rw [Av4 (by omega) (by omega)]
      · next q =>
        by_cases q2 : w + 1 < n
        · exact A3_n (by omega) (by omega)
        · exact A3_e (Uz fun k k1 => zv k k1 (by omega))
    · dsimp only at e; subst e
      rw [CN6, CN6, A3_2 hk]
      split
      · rfl
      · next q =>
        by_cases q2 : w + 1 < n
        · exact A3_n (by omega) (by omega)
        · exact A3_e fun k k1 => zv k k1 (by omega)
theorem CN_adj {w : Int} (hn : n ≤ 12) (h0 : 0 ≤ w) (hw : w < n) (hk : kd w = 2) {hd : Int → Int} : ∀ {L : List E3}, wfL L → StR kd n (adjStep w L hd) (CN kd n L w) (w + 1)
  | [], wf => by exact absurd wf (by simp [wfL])
  | (a, b, c) :: T, wf => by
    rcases wf with ⟨e, wf⟩ | wf
    · dsimp only at e; subst e
      rw [adjStep, if_pos rfl]
      show CN kd n ((4, b, c) :: T) w = CN kd n ((4, b, c) :: T) (w + 1)
      rw [CN4, CN4, if_pos ⟨hw, Or.inl hk⟩, CN_adj0 hn h0 hw hk wf]
    · by_cases y : a = 0 ∨ a = 2 ∨ a = 7 ∨ a = 6
      · have e : a ≠ 4 := by omega
        rw [adjStep, if_neg e, if_pos y]
        show CN kd n ((a, b, c) :: T) w = CN kd n ((4, w, 0) :: (a, b, c) :: T) (w + 1)
        rw [CN4, CN_adj0 hn h0 hw hk (show wfA ((a, b, c) :: T) from ⟨wf, y⟩)]
      · have e : a ≠ 4 := by rcases wf with ⟨e, -⟩ | ⟨e, -⟩ | ⟨e, -⟩ <;> (dsimp only at e; omega)
        rw [adjStep, if_neg e, if_neg y]
        have : wfN ((a, b, c) :: T) := by
          rcases wf with ⟨e, wf⟩ | ⟨e, wf⟩ | ⟨e, wf⟩
          · exact Or.inl ⟨e, wf⟩
          · exact Or.inr (Or.inr ⟨by dsimp only at e ⊢; omega, wf⟩)
          · dsimp only at e; omega
        exact NCn hn h0 hw (Or.inr (Or.inl hk)) this
theorem CN_open {w : Int} (hn : n ≤ 12) (h0 : 0 ≤ w) (hw : w < n) (hk : kd w = 6) {hd : Int → Int} {a b c : Int} {T : List E3} (wf : wfX ((a, b, c) :: T)) : StR kd n (openStep w ((a, b, c) :: T) hd) (CN kd n ((a, b, c) :: T) w) (w + 1) := by
  have h12 : w ≤ 12 := by omega
  by_cases z : a = 2
  · subst z
    have wf3T : wf3 T := by
      rcases wf with ⟨e, -⟩ | ⟨-, wf⟩ | ⟨e, -⟩
      · simp at e
      · exact wf
      · simp at e
    have e1 : openStep w ((2, b, c) :: T) hd = some ((0, 0, w) :: (3, b, c) :: T, upH hd w b) := by simp [openStep]
    rw [e1]
    show CN kd n ((2, b, c) :: T) w = CN kd n ((0, 0, w) :: (3, b, c) :: T) (w + 1)
    have e3 : CN kd n ((3, b, c) :: T) = Av kd 2 (CN kd n T) := funext fun _ => CN3
    rw [CN2, CN0, e3, Av6 h0 h12, A2_n h0 h12 (by omega) (by omega), A4_n h0 h12 (by omega) (by omega), if_pos hk, NCn hn h0 hw (Or.inr (Or.inr hk)) (wf3_N wf3T)]
    omega
  · have e1 : openStep w ((a, b, c) :: T) hd = none := by simp [openStep, z]
    rw [e1]
    show CN kd n ((a, b, c) :: T) w = 0
    rcases wf with ⟨e, wf⟩ | ⟨e, wf⟩ | ⟨e, wf⟩
    · exact NCn hn h0 hw (Or.inr (Or.inr hk)) (show wfN ((a, b, c) :: T) from Or.inl ⟨e, wf⟩)
    · rcases e with e | e | e
      · exact NCn hn h0 hw (Or.inr (Or.inr hk)) (show wfN ((a, b, c) :: T) from Or.inr (Or.inr ⟨e, wf⟩))
      · exact absurd e z
      · dsimp only at e; subst e
        rw [CN0, A5_n h0 h12 (by omega) (by omega)]
    · rcases e with e | e
      · dsimp only at e; subst e
        rw [CN7, A4_n h0 h12 (by omega) (by omega)]
      · dsimp only at e; subst e
        rw [CN6, A3_n (by omega) (by omega)]
/-- a hung word: as many ways as its places have together -/
theorem CN_hangN {w : Int} (hn : n ≤ 12) (h0 : 0 ≤ w) (hw : w < n) (hk : kd w = 3 ∨ kd w = 4 ∨ kd w = 5) : ∀ {L : List E3}, wfN L → CN kd n L w = ((cands (kd w) L).map (fun S => CN kd n (hgS (kd w) w S) (w + 1))).sum
  | [], wf => by
    rw [CN, cands, if_neg (by omega)]
    rfl
  | (a, b, c) :: T, wf => by
    have h12 : w ≤ 12 := by omega
    rcases wf with ⟨e, wf⟩ | ⟨e, wf⟩ | ⟨e, wf⟩
    · dsimp only at e; subst e
      have ih := CN_hangN hn h0 hw hk wf
      rw [cands, if_pos (Or.inl rfl)]
      by_cases k5 : kd w = 5
      · rw [if_pos k5, CN5]
        by_cases c1 : c = 1
        · rw [if_pos c1, if_pos ⟨rfl, c1⟩, List.map_cons, List.sum_cons, ← ih, Av1 h0 h12, if_neg (by omega)]
          have eh : hgS (kd w) w ((5, b, c) :: T) = (6, w, c) :: T := by rw [hgS, if_neg (by omega), if_pos k5]
          rw [eh, CN6]
          unfold Uv
          rw [if_pos k5]
          omega
        · rw [if_neg c1, if_neg (fun z => c1 z.2), ← ih, Av1 h0 h12, if_neg (by omega)]
          omega
      · rw [if_neg k5]
        have eU : Uv kd (CN kd n T) w = CN kd n T w := by
          unfold Uv
          rw [if_neg k5]
          omega
        by_cases k4 : kd w = 4
        · have e5 : ∀ j, CN kd n ((5, b, c) :: T) j = Av kd 1 (if c = 1 then Uv kd (CN kd n T) else CN kd n T) j := fun j => by
            rw [CN5]
            split <;> rfl
          have e5f : CN kd n ((5, b, c) :: T) = Av kd 1 (if c = 1 then Uv kd (CN kd n T) else CN kd n T) := funext e5
          rw [if_pos (Or.inr k4), List.map_cons, List.sum_cons, ← ih, e5, Av1 h0 h12, if_pos k4]
          have eh : hgS (kd w) w ((5, b, c) :: T) = (7, w, 0) :: (5, b, c) :: T := by rw [hgS, if_pos k4, if_neg (by omega)]
          rw [eh, CN7, e5f]
          have : (if c = 1 then Uv kd (CN kd n T) else CN kd n T) w = CN kd n T w := by
            split
            · exact eU
            · rfl
          rw [this]
          omega
        · rw [if_neg (by omega), ← ih, CN5]
          split
          · rw [Av1 h0 h12, if_neg k4, eU]
            omega
          · rw [Av1 h0 h12, if_neg k4]
            omega
    · dsimp only at e; subst e
      rw [cands, if_neg (by omega), CN1, if_neg (by omega)]
      rfl
    · dsimp only at e; subst e
      have ih := CN_hangN hn h0 hw hk (wf3_N wf)
      have e3f : CN kd n ((3, b, c) :: T) = Av kd 2 (CN kd n T) := funext fun _ => CN3
      rw [cands_3]
      by_cases k5 : kd w = 5
      · rw [if_pos k5, ← ih, CN3, A2_n h0 h12 (by omega) (by omega)]
      · rw [if_neg k5, List.map_cons, List.sum_cons, ← ih, CN3, Av2 h0 h12]
        by_cases k4 : kd w = 4
        · have eh : hgS (kd w) w ((3, b, c) :: T) = (7, w, 0) :: (3, b, c) :: T := by rw [hgS, if_pos k4, if_neg (by omega)]
          rw [eh, CN7, e3f, if_pos k4, if_neg (by omega)]
          omega
        · have eh : hgS (kd w) w ((3, b, c) :: T) = (3, b, c) :: T := by rw [hgS, if_neg k4, if_neg k5, if_neg (by omega)]
          rw [eh, CN3, if_neg k4, if_pos (by omega)]
          omega
theorem CN_hang {w : Int} (hn : n ≤ 12) (h0 : 0 ≤ w) (hw : w < n) (hk : kd w = 3 ∨ kd w = 4 ∨ kd w = 5) {a b c : Int} {T : List E3} (wf : wfX ((a, b, c) :: T)) : CN kd n ((a, b, c) :: T) w = ((cands (kd w) ((a, b, c) :: T)).map (fun S => CN kd n (hgS (kd w) w S) (w + 1))).sum := by
  have h12 : w ≤ 12 := by omega
  have nocand : ∀ a, a ≠ 5 → a ≠ 2 → a ≠ 3 → cands (kd w) ((a, b, c) :: T) = [] := fun a h1 h2 h3 => by rw [cands, if_neg (by omega)]
  rcases wf with ⟨e, wf⟩ | ⟨e, wf⟩ | ⟨e, wf⟩
  · exact CN_hangN hn h0 hw hk (Or.inl ⟨e, wf⟩)
  · rcases e with e | e | e
    · exact CN_hangN hn h0 hw hk (Or.inr (Or.inr ⟨e, wf⟩))
    · dsimp only at e; subst e
      have h3 := CN_hangN hn h0 hw hk (L := (3, b, c) :: T) (Or.inr (Or.inr ⟨rfl, wf⟩))
      have A : CN kd n ((2, b, c) :: T) w = CN kd n ((3, b, c) :: T) w := by
        rw [CN2, CN3, Av6 h0 h12, A4_n h0 h12 (by omega) (by omega), if_neg (by omega)]
        omega
      rw [A, h3, cands_23, cands_3]
      by_cases k5 : kd w = 5
      · rw [if_pos k5, if_pos k5]
      · rw [if_neg k5, if_neg k5, List.map_cons, List.map_cons, hgS_23 k5]
    · dsimp only at e; subst e
      rw [nocand 0 (by omega) (by omega) (by omega), CN0, A5_n h0 h12 (by omega) (by omega)]
      rfl
  · rcases e with e | e
    · dsimp only at e; subst e
      rw [nocand 7 (by omega) (by omega) (by omega), CN7, A4_n h0 h12 (by omega) (by omega)]
      rfl
    · dsimp only at e; subst e
      rw [nocand 6 (by omega) (by omega) (by omega), CN6, A3_n (by omega) (by omega)]
      rfl
theorem CN_end (hn : 0 ≤ n ∧ n ≤ 12) : ∀ {L : List E3}, ((∀ e ∈ L, compl e.1) → CN kd n L n = 1) ∧ (¬ (∀ e ∈ L, compl e.1) → CN kd n L n = 0)
  | [] => ⟨fun _ => by rw [CN, if_pos rfl], fun h => absurd (fun e he => by simp at he) h⟩
  | (a, b, c) :: T => by
    obtain ⟨i1, i2⟩ := CN_end hn (L := T)
    have z := CNz (kd := kd) (n := n) hn.1 T
    have hd : (compl a ∧ CN kd n ((a, b, c) :: T) n = CN kd n T n) ∨ (¬ compl a ∧ CN kd n ((a, b, c) :: T) n = 0) := by
      have a2 : Av kd 2 (CN kd n T) n = CN kd n T n := by
        rw [Av2 hn.1 hn.2, Av_z (i := n + 1) (fun k k1 _ => z k (by omega)), Av_z (i := n + 1) (fun k k1 _ => A2_s z k (by omega))]
        repeat' split
        all_goals omega
      have a1 : ∀ {v : Int → Int}, (∀ k, n < k → v k = 0) → Av kd 1 v n = v n := fun {v} hv => by
        rw [Av1 hn.1 hn.2, Av_z (i := n + 1) (fun k k1 _ => Av_z fun j j1 _ => hv j (by omega))]
        split <;> omega
      have uu : Uv kd (CN kd n T) n = CN kd n T n := by
        unfold Uv
        rw [Av_z (i := n + 1) (fun k k1 _ => z k (by omega))]
        split <;> omega
      unfold compl
      by_cases q0 : a = 0
      · subst q0
        exact Or.inr ⟨by omega, by rw [CN0, A5_e hn.1 hn.2 z]⟩
      by_cases q1 : a = 1
      · subst q1
        refine Or.inr ⟨by omega, ?_⟩
        rw [CN1, Av_z (fun k k1 _ => z k (by omega))]
        split <;> rfl
      by_cases q2 : a = 2
      · subst q2
        refine Or.inl ⟨by omega, ?_⟩
        have a5 : Av kd 5 (Av kd 2 (CN kd n T)) (n + 1) = 0 := Av_z fun k k1 _ => A2_s z k (by omega)
        rw [CN2, Av6 hn.1 hn.2, a2, A4_e hn.1 hn.2 (A2_s z), a5]
        split <;> omega
      by_cases q3 : a = 3
      · subst q3
        exact Or.inl ⟨by omega, by rw [CN3, a2]⟩
      by_cases q4 : a = 4
      · subst q4
        exact Or.inr ⟨by omega, by rw [CN4, if_neg (by omega)]⟩
      by_cases q5 : a = 5
      · subst q5
        refine Or.inl ⟨by omega, ?_⟩
        rw [CN5, a1 (Uz z), a1 z, uu]
        split <;> rfl
      by_cases q6 : a = 6
      · subst q6
        exact Or.inr ⟨by omega, by rw [CN6, A3_e z]⟩
      by_cases q7 : a = 7
      · subst q7
        exact Or.inr ⟨by omega, by rw [CN7, A4_e hn.1 hn.2 z]⟩
      exact Or.inr ⟨by omega, by rw [CN, if_neg q0, if_neg q1, if_neg q2, if_neg q3, if_neg q4, if_neg q5, if_neg q6, if_neg q7]⟩
    rcases hd with ⟨p, hd⟩ | ⟨p, hd⟩
    · refine ⟨fun h => hd.trans (i1 fun e he => h e (List.mem_cons_of_mem _ he)), fun h => hd.trans (i2 fun r => h fun e he => ?_)⟩
      rcases List.mem_cons.mp he with rfl | he
      · exact p
      · exact r e he
    · exact ⟨fun h => absurd (h (a, b, c) List.mem_cons_self) p, fun _ => hd⟩
end CNN
