section P13
theorem range_flat {β : Type} {G : Int → List β} {P : Nat → Prop} [DecidablePred P] : ∀ (w : Nat) (D : List Int), D.Pairwise (fun a b => b < a) → (∀ x ∈ D, 0 ≤ x ∧ x < w) → (∀ x : Nat, x < w → (P x ↔ (x : Int) ∈ D)) → (List.range w).flatMap (fun x : Nat => if P x then G x else []) = D.reverse.flatMap G
  | 0, D, _, hr, _ => by
    have : D = [] := by
      cases D with
      | nil => rfl
      | cons d D => have := hr d (by simp); omega
    subst this
    rfl
  | w + 1, D, hD, hr, hP => by
    rw [List.range_succ, List.flatMap_append]
    cases D with
    | nil =>
      rw [range_flat w [] List.Pairwise.nil (fun x h => by simp at h) (fun x hx => hP x (by omega))]
      have : ¬ P w := fun h => by have := (hP w (by omega)).mp h; simp at this
      simp [this]
    | cons d D =>
      rw [List.pairwise_cons] at hD
      have hd := hr d (by simp)
      by_cases e : d = w
      · subst e
        rw [range_flat w D hD.2 (fun x hx => ⟨(hr x (by simp [hx])).1, hD.1 x hx⟩) (fun x hx => by
          rw [hP x (by omega), List.mem_cons]
          constructor
          · rintro (q | q)
            · omega
            · exact q
          · exact Or.inr)]
        have : P w := (hP w (by omega)).mpr (by simp)
        rw [List.reverse_cons, List.flatMap_append]
        simp [this]
      · rw [range_flat w (d :: D) (List.pairwise_cons.mpr hD) (fun x hx => by
          have h1 := hr x hx
          rcases List.mem_cons.mp hx with q | q
          · omega
          · have := hD.1 x q
            omega) (fun x hx => hP x (by omega))]
        have : ¬ P w := fun h => by
          have q := (hP w (by omega)).mp h
          rcases List.mem_cons.mp q with q | q
          · omega
          · have := hD.1 w q
            omega
        simp [this]
theorem cr_pw {ka he : Int → Int} {w : Int} : ∀ (m : Nat) (y : Int), y < m → y < 12 → (cr ka he w y).Pairwise (fun a b => b.2.1 < a.2.1)
  | 0, y, h, _ => by rw [cr_neg (by omega)]; exact List.Pairwise.nil
  | m + 1, y, h, h12 => by
    by_cases z : y < 0
    · rw [cr_neg z]; exact List.Pairwise.nil
    · have hl := nxt_lt (he := he) (y := y) (by omega)
      rw [cr_eq (by omega) h12, List.pairwise_append]
      refine ⟨?_, cr_pw m _ (by omega) (by omega), fun a ha b hb => ?_⟩
      · unfold ownF
        split
        · simp
        · split
          · simp
          · simp
      · have := own_mem ha
        have := cr_mem m _ (by omega) (by omega) hb
        omega
/-- the class's choices are the reference's, turned round -/
theorem hang_list {ka he : Int → Int} {w : Nat} {L : List E3} {β : Type} (hw : w < 12) (kw : ka w = 3 ∨ ka w = 4 ∨ ka w = 5) (hs : srF L = cr ka he w ((w : Int) - 1)) (G : Int → List β) :
    (List.range w).flatMap (fun x : Nat => if openF he (x : Int) 12 ((w : Int) - 1) = true ∧ holdF ka he (x : Int) w = true then G x else []) = ((cands (ka w) L).map (fun S => G (hdW S))).reverse.flatten := by
  have hm : ∀ x : Int, x ∈ (cands (ka w) L).map hdW ↔ ∃ e ∈ cr ka he w ((w : Int) - 1), e.2.1 = x ∧ hfB (ka w) e = true := by
    intro x
    rw [cands_sr kw, hs, List.mem_map]
    constructor
    · rintro ⟨e, e1, e2⟩
      rw [List.mem_filter] at e1
      exact ⟨e, e1.1, e2, e1.2⟩
    · rintro ⟨e, e1, e2, e3⟩
      exact ⟨e, List.mem_filter.mpr ⟨e1, e3⟩, e2⟩
  rw [range_flat w ((cands (ka w) L).map hdW) ?_ ?_ ?_]
  · rw [List.flatMap_def, List.map_reverse, List.map_map]; rfl
  · rw [cands_sr kw, hs, List.pairwise_map]
    exact (cr_pw w _ (by omega) (by omega)).filter _
  · intro x hx
    obtain ⟨e, e1, e2, -⟩ := (hm x).mp hx
    have := cr_mem w _ (by omega) (by omega) e1
    omega
  · intro x hx
    rw [hm]
    exact cr_open (by omega) kw w _ (by omega) (by omega)
theorem compl_all {M V : List E3} : all5 M → (∀ e ∈ V, compl e.1) → ∀ e ∈ M ++ V, compl e.1 := by
  induction M with
  | nil => exact fun _ h => h
  | cons x M ih =>
    intro h1 h2 e he
    rcases List.mem_cons.mp he with q | q
    · rw [q]; exact Or.inl h1.1
    · exact ih h1.2 h2 e q
theorem all3_compl : ∀ {V : List E3}, all3 V → ∀ e ∈ V, compl e.1
  | [], _, e, he => by simp at he
  | x :: V, h, e, he => by
    rcases List.mem_cons.mp he with q | q
    · rw [q]; exact Or.inr (Or.inr h.1)
    · exact all3_compl h.2 e q
theorem hang_eq2 {w kd : Int} {i : Nat} {L : List E3} {hd : Int → Int} {S : List E3} (h : (cands kd L)[i]? = some S) : hangStep w kd (i : Int) L hd = some (hgS kd w S, upH hd w (hdW S)) := by
  have hm := cands_ne (List.mem_of_getElem? h)
  cases S with
  | nil => exact absurd rfl hm
  | cons e T =>
    obtain ⟨a, b, c⟩ := e
    unfold hangStep hgS hdW
    rw [Int.toNat_natCast, h]
    dsimp only
    split
    · rfl
    · split
      · rfl
      · rfl
theorem step_h {k w : Int} {i : Int} {L : List E3} {hd : Int → Int} (hk : k = 3 ∨ k = 4 ∨ k = 5) : stepW k w i L hd = hangStep w k i L hd := by
  rw [stepW, if_neg (by omega), if_neg (by omega), if_neg (by omega), if_neg (by omega)]
theorem hang_nil {k w : Int} {L : List E3} {hd : Int → Int} (h : cands k L = []) : hangStep w k 0 L hd = none := by
  unfold hangStep
  rw [h]
  rfl
theorem kAt_in {kd : Int → Int} {n w : Nat} (h : w < n) : kAt kd n w = kd w := by
  unfold kAt
  rw [if_pos (by omega)]
theorem single {α : Type} {x o : α} {i : Nat} (h : [x][i]? = some o) : i = 0 ∧ o = x := by
  cases i with
  | zero => simp at h; exact ⟨rfl, h.symm⟩
  | succ i => simp at h
theorem TR_T {kd : Int → Int} {n : Nat} (hn : n ≤ 12) (hkd : ∀ w, 0 ≤ w → w < (n : Int) → 0 ≤ kd w ∧ kd w ≤ 6) (hs : suA (kAt kd n) n = -1) (he0 : kAt kd n ((n : Int) - 1) = 0 ∨ kAt kd n ((n : Int) - 1) = 1 ∨ kAt kd n ((n : Int) - 1) = 3) :
    ∀ (m w : Nat) (L : List E3) (he : Int → Int), w + m = n → okL w L → IvS true (kAt kd n) he w L → FcP (kAt kd n) he 0 n → TR kd n m w L (HdS (kAt kd n) he w) (hangF (kAt kd n) m w he) := by
  have hk := kAt_n hkd
  have hk1 : kAt kd n (-1) = 6 := by unfold kAt; rw [if_neg (by omega)]
  intro m
  induction m with
  | zero =>
    intro w L he hw ok I F
    have wn : w = n := by omega
    subst wn
    have n0 : 0 < w := by
      apply Classical.byContradiction
      intro q
      have : (w : Int) - 1 = -1 := by omega
      rw [this, hk1] at he0
      omega
    have hc : ∀ e ∈ L, compl e.1 := by
      obtain ⟨M, V, h1, h2, h3, -⟩ := InX_last (IvS_last I he0) he0
      unfold bsS at h1
      rw [if_pos hs] at h1
      subst h1
      refine compl_all h2 ?_
      rcases h3 with h3 | ⟨-, -, -, x, c, V2, rfl, h3⟩
      · exact all3_compl h3
      · intro e he2
        rcases List.mem_cons.mp he2 with q | q
        · rw [q]; exact Or.inr (Or.inl rfl)
        · exact all3_compl h3 e q
    refine ⟨fun _ => ⟨he, rfl, fun hd H j j0 j1 => ?_⟩, fun z => absurd ⟨by omega, hc⟩ z⟩
    have eb := bA_pre hk1 (w := w) (by omega)
    exact H j j0 (by omega) (by omega) (by omega)
  | succ m ih =>
    intro w L he hw ok I F
    have wn : w < n := by omega
    have hf : ∀ v : Nat, v ≤ w → follows (kAt kd n ((v : Int) - 1)) (kAt kd n v) := fun v hv => (F v (by omega) (by omega)).1
    have ek := kAt_in (kd := kd) wn
    have e1 : ((w + 1 : Nat) : Int) = (w : Int) + 1 := by omega
    have nonh : ∀ (st : List E3 → (Int → Int) → Option St3), (kAt kd n w = 0 ∨ kAt kd n w = 1 ∨ kAt kd n w = 2 ∨ kAt kd n w = 6) → (∀ (i : Int) (hd : Int → Int), stepW (kd w) w i L hd = st L hd) →
        (∃ L2, IvS true (kAt kd n) he (w + 1) L2 ∧ ∀ hd : Int → Int, ∃ hd2, st L hd = some (L2, hd2) ∧ (true = true → HdS (kAt kd n) he w hd → HdS (kAt kd n) he (w + 1) hd2)) → TR kd n (m + 1) w L (HdS (kAt kd n) he w) (hangF (kAt kd n) (m + 1) w he) := by
      rintro st z hst ⟨L2, I2, h2⟩
      have eh : hangF (kAt kd n) (m + 1) w he = hangF (kAt kd n) m ((w : Int) + 1) he := by rw [hangF, if_neg (by omega)]
      rw [eh]
      refine Or.inr ⟨[hangF (kAt kd n) m ((w : Int) + 1) he], by simp, ?_, by simp, by simp, fun i o hi => ?_⟩
      · rw [canW, if_pos (by rw [← ek]; exact z)]; rfl
      · obtain ⟨-, rfl⟩ := single hi
        obtain ⟨hd2, q1, -⟩ := h2 (fun _ => 0)
        refine ⟨L2, HdS (kAt kd n) he (w + 1), fun hd H => ?_, ?_⟩
        · obtain ⟨hd3, q2, q3⟩ := h2 hd
          exact ⟨hd3, by rw [hst]; exact q2, q3 rfl H⟩
        · have := ih (w + 1) L2 he (by omega) (by rw [e1]; exact okL_step (cw := 0) ⟨by omega, by omega⟩ ok (by rw [hst]; exact q1)) I2 F
          rw [e1] at this
          exact this
    have hkw := hk w
    by_cases k0 : kAt kd n w = 0
    · exact nonh (fun L hd => nounStep w L hd) (by omega) (fun i hd => by rw [stepW, if_pos (by omega)]) (st_noun hn wn hk hk1 hf (fun _ => ⟨F, hs⟩) I k0)
    by_cases k1 : kAt kd n w = 1
    · exact nonh (fun L hd => verbStep w L hd) (by omega) (fun i hd => by rw [stepW, if_neg (by omega), if_pos (by omega)]) (st_verb hn wn hk hf (fun _ => F) I k1 ((F w (by omega) wn).2.2.1 k1).1 hk1)
    by_cases k2 : kAt kd n w = 2
    · exact nonh (fun L hd => adjStep w L hd) (by omega) (fun i hd => by rw [stepW, if_neg (by omega), if_neg (by omega), if_pos (by omega)]) (st_adj wn hk hk1 hf I k2)
    by_cases k6 : kAt kd n w = 6
    · exact nonh (fun L hd => openStep w L hd) (by omega) (fun i hd => by rw [stepW, if_neg (by omega), if_neg (by omega), if_neg (by omega), if_pos (by omega)]) (st_open hn wn hk hk1 hf (fun _ => F) I k6)
    have kw : kAt kd n w = 3 ∨ kAt kd n w = 4 ∨ kAt kd n w = 5 := by omega
    have kw2 : kd w = 3 ∨ kd w = 4 ∨ kd w = 5 := by rw [← ek]; exact kw
    have hp0 := fol_pre (hf w (Nat.le_refl _)) (hk _)
    have hp : kAt kd n ((w : Int) - 1) = 0 ∨ kAt kd n ((w : Int) - 1) = 1 ∨ kAt kd n ((w : Int) - 1) = 3 := by
      by_cases y : kAt kd n w = 5
      · exact Or.inl (hp0.2.1 y)
      · exact hp0.1 (by omega)
    obtain ⟨M, V, -, -, -, hro⟩ := InX_last (IvS_last I hp) hp
    have eh : hangF (kAt kd n) (m + 1) w he = ((cands (kAt kd n w) L).map (fun S => hangF (kAt kd n) m ((w : Int) + 1) (upH he w (hdW S)))).reverse.flatten := by
      rw [hangF, if_pos kw, Int.toNat_natCast]
      exact hang_list (by omega) kw (hro rfl).1 (fun x => hangF (kAt kd n) m ((w : Int) + 1) (upH he w x))
    rw [eh, ek]
    by_cases cn : cands (kd w) L = []
    · refine Or.inl ⟨by rw [cn]; rfl, fun hd _ => ?_⟩
      rw [step_h kw2]
      exact hang_nil cn
    · refine Or.inr ⟨_, ?_, ?_, ?_, rfl, fun i o hi => ?_⟩
      · intro z
        exact cn (List.map_eq_nil_iff.mp z)
      · rw [canW, if_neg (by omega), List.length_map]
      · rw [List.length_map]
        have : ∀ L : List E3, (cands (kd w) L).length ≤ L.length := by
          intro L
          induction L with
          | nil => simp [cands]
          | cons e T ih =>
            obtain ⟨a, b, c⟩ := e
            rw [cands]
            repeat' split
            all_goals (simp; try omega)
        have := this L
        have := ok.2.2.2
        omega
      · rw [List.getElem?_map] at hi
        cases eS : (cands (kd w) L)[i]? with
        | none => rw [eS] at hi; simp at hi
        | some S =>
          rw [eS] at hi
          simp only [Option.map_some, Option.some.injEq] at hi
          subst hi
          have hSm := List.mem_of_getElem? eS
          have eb := bA_pre hk1 (w := w) (by omega)
          refine ⟨hgS (kd w) w S, HdS (kAt kd n) (upH he w (hdW S)) (w + 1), fun hd H => ⟨upH hd w (hdW S), by rw [step_h kw2]; exact hang_eq2 eS, ?_⟩, ?_⟩
          · intro j j0 j1 j2 j3
            unfold upH
            by_cases q : j = w
            · rw [if_pos q, if_pos q]
            · rw [if_neg q, if_neg q]
              refine H j j0 (by omega) ?_ (by omega)
              rw [suA, if_neg (by omega), if_neg (by omega)] at j2
              exact j2
          · have := ih (w + 1) (hgS (kd w) w S) (upH he w (hdW S)) (by omega) (by rw [e1]; exact okL_step (hd := fun _ => 0) ⟨by omega, by omega⟩ ok (by rw [step_h kw2]; exact hang_eq2 eS)) (by
              have := st_hang hn wn hk hf I kw (S := S) (by rw [ek]; exact hSm)
              rw [ek] at this
              exact this) (F.congr hk (fun j hj => by
                unfold upH
                rw [if_neg]
                rintro rfl
                exact hj kw))
            rw [e1] at this
            exact this
/-- where the kinds don't follow, the reference's step fails too -/
theorem st_bad {ka he : Int → Int} {w : Nat} {L : List E3} (hk : ∀ w, 0 ≤ ka w ∧ ka w ≤ 6) (I : IvS false ka he w L) (h : ¬ follows (ka ((w : Int) - 1)) (ka w)) (hd : Int → Int) : stepW (ka w) w 0 L hd = none := by
  have kw := hk w
  have kp := hk ((w : Int) - 1)
  unfold follows at h
  have top : ∀ a x c T, L = (a, x, c) :: T → (a = 5 ∧ (ka w = 0 ∨ ka w = 2 ∨ ka w = 6)) ∨ ((a = 7 ∨ a = 6 ∨ a = 0 ∨ a = 4) ∧ (ka w = 1 ∨ ka w = 3 ∨ ka w = 4 ∨ ka w = 5 ∨ ka w = 6)) → stepW (ka w) w 0 L hd = none := by
    rintro a x c T rfl (⟨rfl, hw⟩ | ⟨ha, hw⟩)
    · unfold stepW
      rcases hw with e | e | e
      · rw [if_pos e]; simp [nounStep, nounTop]
      · rw [if_neg (by omega), if_neg (by omega), if_pos e]; simp [adjStep]
      · rw [if_neg (by omega), if_neg (by omega), if_neg (by omega), if_pos e]; simp [openStep]
    · by_cases y : ka w = 3 ∨ ka w = 4 ∨ ka w = 5
      · rw [step_h y]
        exact hang_nil (by rw [cands, if_neg (by omega)])
      · unfold stepW
        by_cases e : ka w = 1
        · rw [if_neg (by omega), if_pos e, verbStep, if_neg (by omega), if_neg]
          intro e1
          omega
        · rw [if_neg (by omega), if_neg (by omega), if_neg (by omega), if_pos (by omega), openStep, if_neg (by omega)]
  have three : ∀ V : List E3, all3 V → (ka w = 0 ∨ ka w = 1 ∨ ka w = 2 ∨ ka w = 5 ∨ ka w = 6) → stepW (ka w) w 0 V hd = none := by
    intro V hV hw
    by_cases y : ka w = 5
    · rw [step_h (Or.inr (Or.inr y))]
      refine hang_nil ?_
      rw [y]
      cases e : cands 5 V with
      | nil => rfl
      | cons S l => exact absurd rfl (cands_all3 hV (S := S) (by rw [e]; simp)).1
    · cases V with
      | nil =>
        unfold stepW
        by_cases e0 : ka w = 0
        · rw [if_pos e0]; rfl
        rw [if_neg e0]
        by_cases e1 : ka w = 1
        · rw [if_pos e1]; rfl
        rw [if_neg e1]
        by_cases e2 : ka w = 2
        · rw [if_pos e2]; rfl
        rw [if_neg e2, if_pos (by omega)]; rfl
      | cons e T =>
        obtain ⟨a, x, c⟩ := e
        have a3 : a = 3 := hV.1
        subst a3
        unfold stepW
        by_cases e0 : ka w = 0
        · rw [if_pos e0]; simp [nounStep, nounTop]
        rw [if_neg e0]
        by_cases e1 : ka w = 1
        · rw [if_pos e1]; simp [verbStep]
        rw [if_neg e1]
        by_cases e2 : ka w = 2
        · rw [if_pos e2]; simp [adjStep]
        rw [if_neg e2, if_pos (by omega)]; simp [openStep]
  rcases I with ⟨e, -, st, c, X, rfl, -, -⟩ | I
  · rw [e, if_neg (by omega), if_neg (by omega), if_neg (by omega)] at h
    exact top _ _ _ _ rfl (Or.inr ⟨by omega, by omega⟩)
  · rcases I with ⟨e, ⟨x, c, T, rfl⟩, -⟩ | ⟨e, -, h3, -⟩ | ⟨e, -, x, c, V, rfl, h3, -⟩ | ⟨e, x, c, R, rfl, -, -⟩ | ⟨e, -, x, V, rfl, -, -⟩
    · rw [e, if_pos rfl] at h
      exact top _ _ _ _ rfl (Or.inl ⟨rfl, by omega⟩)
    · rw [e, if_neg (by omega), if_neg (by omega), if_pos rfl] at h
      exact three L h3 (by omega)
    · rw [e, if_neg (by omega), if_pos rfl] at h
      by_cases y : ka w = 5
      · rw [step_h (Or.inr (Or.inr y))]
        refine hang_nil ?_
        rw [y, cands_23, if_pos rfl]
        cases e : cands 5 V with
        | nil => rfl
        | cons S l => exact absurd rfl (cands_all3 h3 (S := S) (by rw [e]; simp)).1
      · have : ka w = 1 := by omega
        unfold stepW
        rw [if_neg (by omega), if_pos this]; simp [verbStep]
    · rw [if_neg (by omega), if_neg (by omega), if_neg (by omega)] at h
      exact top _ _ _ _ rfl (Or.inr ⟨by split <;> omega, by omega⟩)
    · rw [e, if_neg (by omega), if_neg (by omega), if_neg (by omega)] at h
      exact top _ _ _ _ rfl (Or.inr ⟨by omega, by omega⟩)
theorem TR_F {kd : Int → Int} {n : Nat} (hn : n ≤ 12) (hkd : ∀ w, 0 ≤ w → w < (n : Int) → 0 ≤ kd w ∧ kd w ≤ 6) {he : Int → Int} :
    ∀ (m w : Nat) (L : List E3), w + m = n → okL w L → IvS false (kAt kd n) he w L → (∀ v : Nat, v < w → follows (kAt kd n ((v : Int) - 1)) (kAt kd n v)) →
      ((∃ v : Nat, w ≤ v ∧ v < n ∧ (¬ follows (kAt kd n ((v : Int) - 1)) (kAt kd n v) ∨ (kAt kd n v = 1 ∧ suA (kAt kd n) v = -1))) ∨ ¬ (0 < n ∧ suA (kAt kd n) n = -1 ∧ (kAt kd n ((n : Int) - 1) = 0 ∨ kAt kd n ((n : Int) - 1) = 1 ∨ kAt kd n ((n : Int) - 1) = 3))) →
      TR kd n m w L (fun _ => True) [] := by
  have hk := kAt_n hkd
  have hk1 : kAt kd n (-1) = 6 := by unfold kAt; rw [if_neg (by omega)]
  intro m
  induction m with
  | zero =>
    intro w L hw ok I hf bad
    have wn : w = n := by omega
    subst wn
    refine ⟨fun hc => ?_, fun _ => rfl⟩
    exfalso
    rcases bad with ⟨v, v1, v2, -⟩ | bad
    · omega
    · have kp := hk ((w : Int) - 1)
      rcases I with ⟨e, -, st, c, X, rfl, -, -⟩ | I
      · have := hc.2 _ (List.mem_cons_self)
        unfold compl at this; dsimp only at this; omega
      · rcases I with ⟨e, -, M, V, rfl, -, -, -⟩ | ⟨e, h1, -⟩ | ⟨e, h1, -⟩ | ⟨e, x, c, R, rfl, -, -⟩ | ⟨e, -, x, V, rfl, -, -⟩
        · by_cases z : suA (kAt kd w) w = -1
          · exact bad ⟨by omega, z, by omega⟩
          · have := hc.2 (1, suA (kAt kd w) w, opA (kAt kd w) w) (by unfold bsS; rw [if_neg z]; simp)
            unfold compl at this; dsimp only at this; omega
        · exact bad ⟨by omega, h1, by omega⟩
        · exact bad ⟨by omega, h1, by omega⟩
        · have := hc.2 _ (List.mem_cons_self)
          unfold compl at this; dsimp only at this
          split at this <;> omega
        · have := hc.2 _ (List.mem_cons_self)
          unfold compl at this; dsimp only at this; omega
  | succ m ih =>
    intro w L hw ok I hf bad
    have wn : w < n := by omega
    have ek := kAt_in (kd := kd) wn
    have e1 : ((w + 1 : Nat) : Int) = (w : Int) + 1 := by omega
    by_cases fo : follows (kAt kd n ((w : Int) - 1)) (kAt kd n w)
    · by_cases vb : kAt kd n w = 1 ∧ suA (kAt kd n) w = -1
      · refine Or.inl ⟨rfl, fun hd _ => ?_⟩
        have hp := (fol_pre fo (hk _)).2.2.1 vb.1
        obtain ⟨M, V, h1, h2, h3, -⟩ := InX_last (IvS_last I (Or.inl hp)) (Or.inl hp)
        have h3 : all3 V := by
          rcases h3 with h3 | ⟨e, -⟩
          · exact h3
          · omega
        unfold bsS at h1
        rw [if_pos vb.2] at h1
        rw [stepW, if_neg (by omega), if_pos (by omega), h1]
        exact verb_no h3 h2
      · have bad2 : (∃ v : Nat, w + 1 ≤ v ∧ v < n ∧ (¬ follows (kAt kd n ((v : Int) - 1)) (kAt kd n v) ∨ (kAt kd n v = 1 ∧ suA (kAt kd n) v = -1))) ∨ ¬ (0 < n ∧ suA (kAt kd n) n = -1 ∧ (kAt kd n ((n : Int) - 1) = 0 ∨ kAt kd n ((n : Int) - 1) = 1 ∨ kAt kd n ((n : Int) - 1) = 3)) := by
          rcases bad with ⟨v, v1, v2, v3⟩ | bad
          · by_cases y : v = w
            · subst y
              rcases v3 with v3 | v3
              · exact absurd fo v3
              · exact absurd v3 vb
            · exact Or.inl ⟨v, by omega, v2, v3⟩
          · exact Or.inr bad
        have hf2 : ∀ v : Nat, v ≤ w → follows (kAt kd n ((v : Int) - 1)) (kAt kd n v) := by
          intro v hv
          by_cases y : v = w
          · rw [y]; exact fo
          · exact hf v (by omega)
        have nonh : ∀ (st : List E3 → (Int → Int) → Option St3), (kAt kd n w = 0 ∨ kAt kd n w = 1 ∨ kAt kd n w = 2 ∨ kAt kd n w = 6) → (∀ (i : Int) (hd : Int → Int), stepW (kd w) w i L hd = st L hd) →
            (∃ L2, IvS false (kAt kd n) he (w + 1) L2 ∧ ∀ hd : Int → Int, ∃ hd2, st L hd = some (L2, hd2) ∧ (false = true → HdS (kAt kd n) he w hd → HdS (kAt kd n) he (w + 1) hd2)) → TR kd n (m + 1) w L (fun _ => True) [] := by
          rintro st z hst ⟨L2, I2, h2⟩
          refine Or.inr ⟨[[]], by simp, ?_, by simp, by simp, fun i o hi => ?_⟩
          · rw [canW, if_pos (by rw [← ek]; exact z)]; rfl
          · obtain ⟨-, rfl⟩ := single hi
            obtain ⟨hd2, q1, -⟩ := h2 (fun _ => 0)
            refine ⟨L2, fun _ => True, fun hd H => ?_, ?_⟩
            · obtain ⟨hd3, q2, -⟩ := h2 hd
              exact ⟨hd3, by rw [hst]; exact q2, trivial⟩
            · have := ih (w + 1) L2 (by omega) (by rw [e1]; exact okL_step (cw := 0) ⟨by omega, by omega⟩ ok (by rw [hst]; exact q1)) I2 (fun v hv => hf2 v (by omega)) bad2
              rw [e1] at this
              exact this
        have hkw := hk w
        by_cases k0 : kAt kd n w = 0
        · exact nonh (fun L hd => nounStep w L hd) (by omega) (fun i hd => by rw [stepW, if_pos (by omega)]) (st_noun hn wn hk hk1 hf2 (fun z => by cases z) I k0)
        by_cases k1 : kAt kd n w = 1
        · exact nonh (fun L hd => verbStep w L hd) (by omega) (fun i hd => by rw [stepW, if_neg (by omega), if_pos (by omega)]) (st_verb hn wn hk hf2 (fun z => by cases z) I k1 (fun z => vb ⟨k1, z⟩) hk1)
        by_cases k2 : kAt kd n w = 2
        · exact nonh (fun L hd => adjStep w L hd) (by omega) (fun i hd => by rw [stepW, if_neg (by omega), if_neg (by omega), if_pos (by omega)]) (st_adj wn hk hk1 hf2 I k2)
        by_cases k6 : kAt kd n w = 6
        · exact nonh (fun L hd => openStep w L hd) (by omega) (fun i hd => by rw [stepW, if_neg (by omega), if_neg (by omega), if_neg (by omega), if_pos (by omega)]) (st_open hn wn hk hk1 hf2 (fun z => by cases z) I k6)
        have kw : kAt kd n w = 3 ∨ kAt kd n w = 4 ∨ kAt kd n w = 5 := by omega
        have kw2 : kd w = 3 ∨ kd w = 4 ∨ kd w = 5 := by rw [← ek]; exact kw
        by_cases cn : cands (kd w) L = []
        · refine Or.inl ⟨rfl, fun hd _ => ?_⟩
          rw [step_h kw2]
          exact hang_nil cn
        · refine Or.inr ⟨(cands (kd w) L).map (fun _ => []), ?_, ?_, ?_, ?_, fun i o hi => ?_⟩
          · intro z
            exact cn (List.map_eq_nil_iff.mp z)
          · rw [canW, if_neg (by omega), List.length_map]
          · rw [List.length_map]
            have : ∀ L : List E3, (cands (kd w) L).length ≤ L.length := by
              intro L
              induction L with
              | nil => simp [cands]
              | cons e T ih =>
                obtain ⟨a, b, c⟩ := e
                rw [cands]
                repeat' split
                all_goals (simp; try omega)
            have := this L
            have := ok.2.2.2
            omega
          · symm
            rw [List.flatten_eq_nil_iff]
            intro l hl
            obtain ⟨S, -, q⟩ := List.mem_map.mp (List.mem_reverse.mp hl)
            exact q.symm
          · rw [List.getElem?_map] at hi
            cases eS : (cands (kd w) L)[i]? with
            | none => rw [eS] at hi; simp at hi
            | some S =>
              rw [eS] at hi
              simp only [Option.map_some, Option.some.injEq] at hi
              subst hi
              have hSm := List.mem_of_getElem? eS
              refine ⟨hgS (kd w) w S, fun _ => True, fun hd H => ⟨upH hd w (hdW S), by rw [step_h kw2]; exact hang_eq2 eS, trivial⟩, ?_⟩
              have I2 := st_hang hn wn hk hf2 I kw (S := S) (by rw [ek]; exact hSm)
              rw [ek] at I2
              have I3 : IvS false (kAt kd n) he (w + 1) (hgS (kd w) w S) := by
                unfold IvS InX ICr at I2 ⊢
                simpa using I2
              have := ih (w + 1) (hgS (kd w) w S) (by omega) (by rw [e1]; exact okL_step (hd := fun _ => 0) ⟨by omega, by omega⟩ ok (by rw [step_h kw2]; exact hang_eq2 eS)) I3 (fun v hv => hf2 v (by omega)) bad2
              rw [e1] at this
              exact this
    · refine Or.inl ⟨rfl, fun hd _ => ?_⟩
      rw [← ek]
      exact st_bad hk I fo hd
/-- the reference's run over all choices lays the class's readings -/
theorem TR_rds {kd : Int → Int} {n : Nat} (hn : n ≤ 12) (hkd : ∀ w, 0 ≤ w → w < (n : Int) → 0 ≤ kd w ∧ kd w ≤ 6) (h0 : Int → Int) : TR kd n n 0 [(0, 0, -1)] (fun _ => True) (rdsH (kAt kd n) n h0) := by
  have hk := kAt_n hkd
  have hk1 : kAt kd n (-1) = 6 := by unfold kAt; rw [if_neg (by omega)]
  have I0 : ∀ b he, IvS b (kAt kd n) he 0 [(0, 0, -1)] := fun b he => Or.inr (Or.inr (Or.inr (Or.inr (Or.inr ⟨hk1, rfl, 0, [], rfl, trivial, fun _ => by
    rw [show opA (kAt kd n) 0 = -1 from rfl, cr_neg (by omega)]; rfl⟩))))
  unfold rdsH
  rw [Int.toNat_natCast]
  cases e : forcF (kAt kd n) n 0 (-1) (-1) h0 with
  | none =>
    obtain ⟨v, v1, v2, v3⟩ := forc_none n 0 h0 e
    exact TR_F hn hkd (he := fun _ => 0) n 0 _ (by omega) okL_0 (I0 _ _) (fun v hv => by omega) (Or.inl ⟨v, v1, by omega, v3⟩)
  | some p =>
    obtain ⟨he, s⟩ := p
    obtain ⟨c1, c2, c3⟩ := forc_some hk n 0 h0 he s e
    rw [Nat.zero_add] at c1 c2
    dsimp only
    split
    · next z =>
      have t := TR_T hn hkd (by rw [← c1]; exact z.2.1) z.2.2 n 0 [(0, 0, -1)] he (by omega) okL_0 (I0 _ _) c2
      -- at the start every row of heads will do
      have mono : ∀ (m : Nat) (w : Int) (L : List E3) (H H' : (Int → Int) → Prop) (out : List (Int → Int)), (∀ hd, H' hd → H hd) → TR kd n m w L H out → TR kd n m w L H' out := by
        intro m w L H H' out hH
        cases m with
        | zero =>
          rintro ⟨q1, q2⟩
          refine ⟨fun c => ?_, q2⟩
          obtain ⟨f, f1, f2⟩ := q1 c
          exact ⟨f, f1, fun hd h => f2 hd (hH hd h)⟩
        | succ m =>
          rintro (⟨q1, q2⟩ | ⟨outs, q1, q2, q3, q4, q5⟩)
          · exact Or.inl ⟨q1, fun hd h => q2 hd (hH hd h)⟩
          · refine Or.inr ⟨outs, q1, q2, q3, q4, fun i o hi => ?_⟩
            obtain ⟨L2, H2, r1, r2⟩ := q5 i o hi
            exact ⟨L2, H2, fun hd h => r1 hd (hH hd h), r2⟩
      exact mono _ _ _ _ _ _ (fun hd _ j j0 j1 => by omega) t
    · next z =>
      exact TR_F hn hkd (he := fun _ => 0) n 0 _ (by omega) okL_0 (I0 _ _) (fun v hv => by omega) (Or.inr (fun q => z ⟨by omega, by rw [c1]; exact q.2.1, q.2.2⟩))
/-- two runs of the same sentence lay the same -/
theorem TR_same {kd : Int → Int} {n : Int} : ∀ (m : Nat) (w : Int) (L : List E3) (H1 H2 : (Int → Int) → Prop) (o1 o2 : List (Int → Int)), (∃ hd, H1 hd ∧ H2 hd) → TR kd n m w L H1 o1 → TR kd n m w L H2 o2 → o1.length = o2.length ∧ ∀ (i : Nat) (f g : Int → Int), o1[i]? = some f → o2[i]? = some g → ∀ w, 0 ≤ w → w < n → f w = g w
  | 0, w, L, H1, H2, o1, o2, ⟨hd, h1, h2⟩, t1, t2 => by
    by_cases c : 0 < n ∧ ∀ e ∈ L, compl e.1
    · obtain ⟨f, rfl, f2⟩ := t1.1 c
      obtain ⟨g, rfl, g2⟩ := t2.1 c
      refine ⟨rfl, fun i a b ha hb w w0 w1 => ?_⟩
      obtain ⟨-, rfl⟩ := single ha
      obtain ⟨-, rfl⟩ := single hb
      rw [← f2 hd h1 w w0 w1, g2 hd h2 w w0 w1]
    · rw [t1.2 c, t2.2 c]
      exact ⟨rfl, fun i a b ha => by simp at ha⟩
  | m + 1, w, L, H1, H2, o1, o2, ⟨hd, h1, h2⟩, t1, t2 => by
    rcases t1 with ⟨rfl, s1⟩ | ⟨outs1, a1, a2, a3, rfl, a5⟩
    · rcases t2 with ⟨rfl, s2⟩ | ⟨outs2, b1, b2, b3, rfl, b5⟩
      · exact ⟨rfl, fun i a b ha => by simp at ha⟩
      · have hl : 0 < outs2.length := List.length_pos_iff.mpr b1
        obtain ⟨L2, H, q1, -⟩ := b5 0 outs2[0] (List.getElem?_eq_getElem hl)
        obtain ⟨hd2, q2, -⟩ := q1 hd h2
        have q3 : stepW (kd w) w ((0 : Nat) : Int) L hd = none := s1 hd h1
        rw [q3] at q2
        cases q2
    · rcases t2 with ⟨rfl, s2⟩ | ⟨outs2, b1, b2, b3, rfl, b5⟩
      · have hl : 0 < outs1.length := List.length_pos_iff.mpr a1
        obtain ⟨L2, H, q1, -⟩ := a5 0 outs1[0] (List.getElem?_eq_getElem hl)
        obtain ⟨hd2, q2, -⟩ := q1 hd h1
        have q3 : stepW (kd w) w ((0 : Nat) : Int) L hd = none := s2 hd h2
        rw [q3] at q2
        cases q2
      · have el : outs1.length = outs2.length := by omega
        have pt : ∀ (i : Nat) (x y : List (Int → Int)), outs1[i]? = some x → outs2[i]? = some y → x.length = y.length ∧ ∀ (i : Nat) (f g : Int → Int), x[i]? = some f → y[i]? = some g → ∀ w, 0 ≤ w → w < n → f w = g w := by
          intro i x y hx hy
          obtain ⟨L2, K1, p1, p2⟩ := a5 i x hx
          obtain ⟨L3, K2, r1, r2⟩ := b5 i y hy
          obtain ⟨hd2, p3, p4⟩ := p1 hd h1
          obtain ⟨hd3, r3, r4⟩ := r1 hd h2
          rw [p3] at r3
          cases r3
          exact TR_same m (w + 1) L2 K1 K2 x y ⟨hd2, p4, r4⟩ p2 r2
        clear a1 a2 a3 a5 b1 b2 b3 b5
        induction outs1 generalizing outs2 with
        | nil =>
          cases outs2 with
          | nil => exact ⟨rfl, fun i a b ha => by simp at ha⟩
          | cons y outs2 => simp at el
        | cons x outs1 ih =>
          cases outs2 with
          | nil => simp at el
          | cons y outs2 =>
            obtain ⟨i1, i2⟩ := ih outs2 (by simpa using el) (fun i a b ha hb => pt (i + 1) a b (by simpa using ha) (by simpa using hb))
            obtain ⟨j1, j2⟩ := pt 0 x y rfl rfl
            rw [List.reverse_cons, List.reverse_cons, List.flatten_append, List.flatten_append]
            simp only [List.flatten_cons, List.flatten_nil, List.append_nil]
            refine ⟨by rw [List.length_append, List.length_append, i1, j1], fun i f g hf hg => ?_⟩
            by_cases lt : i < outs1.reverse.flatten.length
            · rw [List.getElem?_append_left lt] at hf
              rw [List.getElem?_append_left (by omega)] at hg
              exact i2 i f g hf hg
            · rw [List.getElem?_append_right (by omega)] at hf
              rw [List.getElem?_append_right (by omega)] at hg
              rw [i1] at hf
              exact j2 _ f g hf hg
theorem rds_ok : RdsOk := by
  intro kd n hn hk
  obtain ⟨u, eu⟩ : ∃ u : Nat, n = u := ⟨n.toNat, by omega⟩
  subst eu
  have t := TR_rds (by omega) hk (fun _ => 0)
  have t2 : TR kd u (u : Int).toNat 0 [(0, 0, -1)] (fun _ => True) (rds kd u) := by rw [Int.toNat_natCast]; exact t
  refine ⟨fun cw hz => TR_run hn t2 cw hz, rdsH_pw, TR_42 hn hk t2, fun f hf => ?_⟩
  have hk1 : kAt kd u (-1) = 6 := by unfold kAt; rw [if_neg (by omega)]
  have := rd_all (by omega) (kAt_n hk) hk1 (rdsH_P hk hf)
  exact ⟨this.1, this.2.1⟩
/-- what the class's tables need of its own list, whatever stood in its heads -/
theorem rdsH_ok {kd : Int → Int} {n : Int} (hn : 0 ≤ n ∧ n ≤ 12) (hk : ∀ w, 0 ≤ w → w < n → 0 ≤ kd w ∧ kd w ≤ 6) (h0 : Int → Int) :
    (rdsH (kAt kd n) n h0).length = (rds kd n).length ∧ (∀ (i : Nat) (f g : Int → Int), (rdsH (kAt kd n) n h0)[i]? = some f → (rds kd n)[i]? = some g → ∀ w, 0 ≤ w → w < n → f w = g w) ∧ ((rds kd n).length ≤ 42) ∧ (rds kd n ≠ [] ↔ 0 < dp kd 5 0 n) ∧ ∀ f ∈ rds kd n, rok n f ∧ rtd n f ∧ rdOk n f ∧ nounOk n kd f := by
  obtain ⟨u, eu⟩ : ∃ u : Nat, n = u := ⟨n.toNat, by omega⟩
  subst eu
  have t := TR_rds (by omega) hk (fun _ => 0)
  have t1 := TR_rds (by omega) hk h0
  have t2 : TR kd u (u : Int).toNat 0 [(0, 0, -1)] (fun _ => True) (rds kd u) := by rw [Int.toNat_natCast]; exact t
  obtain ⟨s1, s2⟩ := TR_same _ _ _ _ _ _ _ ⟨fun _ => 0, trivial, trivial⟩ t1 t
  refine ⟨s1, s2, TR_42 hn hk t2, TR_dp hn hk t2, fun f hf => ?_⟩
  have hk1 : kAt kd u (-1) = 6 := by unfold kAt; rw [if_neg (by omega)]
  obtain ⟨q1, q2, q3, q4⟩ := rd_all (by omega) (kAt_n hk) hk1 (rdsH_P hk hf)
  refine ⟨q1, q2, q3, fun w w0 w1 kw fw => ?_⟩
  obtain ⟨v, ev⟩ : ∃ v : Nat, w = v := ⟨w.toNat, by omega⟩
  subst ev
  have r := q1 v w0 w1
  have e := q4 v (by omega) (by rw [kAt_in (by omega)]; exact kw)
  have e2 : kAt kd u (f v) = kd (f v) := by unfold kAt; rw [if_pos (by omega)]
  rw [e2] at e
  exact e
end P13
