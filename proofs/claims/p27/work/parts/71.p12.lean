section P12
/-- what stands on the stack behind a noun, an adverb or a verb -/
theorem InX_last {b : Bool} {ka he : Int → Int} {w : Nat} {L : List E3} (h : InX b ka he w L) (hp : ka ((w : Int) - 1) = 0 ∨ ka ((w : Int) - 1) = 1 ∨ ka ((w : Int) - 1) = 3) :
    ∃ M V, L = M ++ bsS (suA ka w) (opA ka w) V ∧ all5 M ∧ (all3 V ∨ (ka ((w : Int) - 1) = 1 ∧ M = [] ∧ suA ka w = -1 ∧ ∃ x c V2, V = (2, x, c) :: V2 ∧ all3 V2)) ∧ (b = true → srF L = cr ka he w ((w : Int) - 1) ∧ (suA ka w ≠ -1 → srF V = cr ka he w (opA ka w))) := by
  rcases h with ⟨-, -, M, V, h1, h2, h3, h4⟩ | ⟨-, h1, h2, h3⟩ | ⟨e, h1, x, c, V, h2, h3, h4⟩ | ⟨e, -⟩ | ⟨e, -⟩
  · exact ⟨M, V, h1, h2, Or.inl h3, h4⟩
  · exact ⟨[], L, by unfold bsS; rw [if_pos h1]; rfl, trivial, Or.inl h2, fun hb => ⟨h3 hb, fun z => absurd h1 z⟩⟩
  · exact ⟨[], L, by unfold bsS; rw [if_pos h1]; rfl, trivial, Or.inr ⟨e, rfl, h1, x, c, V, h2, h3⟩, fun hb => ⟨(h4 hb).2, fun z => absurd h1 z⟩⟩
  · omega
  · omega
theorem IvS_last {b : Bool} {ka he : Int → Int} {w : Nat} {L : List E3} (h : IvS b ka he w L) (hp : ka ((w : Int) - 1) = 0 ∨ ka ((w : Int) - 1) = 1 ∨ ka ((w : Int) - 1) = 3) : InX b ka he w L := by
  rcases h with ⟨e, -⟩ | h
  · omega
  · exact h
theorem verb_go {w x c : Int} {hd : Int → Int} {V : List E3} : ∀ {M : List E3}, all5 M → verbStep w (M ++ (1, x, c) :: V) hd = some ((2, w, c) :: V, upH (upH hd x w) w c)
  | [], _ => by
    rw [List.nil_append, verbStep, if_neg (by omega), if_pos rfl]
  | (a, b, d) :: M, h => by
    have h1 : a = 5 := h.1
    rw [List.cons_append, verbStep, if_pos h1]
    exact verb_go h.2
theorem verb_no {w : Int} {hd : Int → Int} {V : List E3} (hV : all3 V) : ∀ {M : List E3}, all5 M → verbStep w (M ++ V) hd = none
  | [], _ => by
    cases V with
    | nil => rfl
    | cons e T =>
      obtain ⟨a, b, c⟩ := e
      have h1 : a = 3 := hV.1
      rw [List.nil_append, verbStep, if_neg (by omega), if_neg (by omega)]
  | (a, b, d) :: M, h => by
    have h1 : a = 5 := h.1
    rw [List.cons_append, verbStep, if_pos h1]
    exact verb_no hV h.2
theorem st_verb {b : Bool} {ka he : Int → Int} {w n : Nat} {L : List E3} (hn : n ≤ 12) (hw : w < n) (hk : ∀ w, 0 ≤ ka w ∧ ka w ≤ 6) (hf : ∀ v : Nat, v ≤ w → follows (ka ((v : Int) - 1)) (ka v)) (hF : b = true → FcP ka he 0 n) (I : IvS b ka he w L) (k1 : ka w = 1) (hs : suA ka w ≠ -1) (hk1 : ka (-1) = 6) :
    ∃ L2, IvS b ka he (w + 1) L2 ∧ ∀ hd : Int → Int, ∃ hd2, verbStep w L hd = some (L2, hd2) ∧ (b = true → HdS ka he w hd → HdS ka he (w + 1) hd2) := by
  have hp := (fol_pre (hf w (Nat.le_refl _)) (hk _)).2.2.1 k1
  obtain ⟨M, V, h1, h2, h3, h4⟩ := InX_last (IvS_last I (Or.inl hp)) (Or.inl hp)
  have h3 : all3 V := by
    rcases h3 with h3 | ⟨e, -⟩
    · exact h3
    · omega
  have ho := opA_r ka w
  have e0 : ((w + 1 : Nat) : Int) - 1 = w := by omega
  have esu : suA ka (w + 1) = -1 := by rw [suA, if_neg (by omega), if_pos k1]
  unfold bsS at h1
  rw [if_neg hs] at h1
  subst h1
  refine ⟨(2, w, opA ka w) :: V, Or.inr (Or.inr (Or.inr (Or.inl ⟨by rw [e0]; exact k1, esu, w, _, V, rfl, h3, fun hb => ⟨e0.symm, ?_⟩⟩))), fun hd => ⟨_, verb_go h2, fun hb H j j1 j2 j3 j4 => ?_⟩⟩
  · have fw := ((hF hb) w (by omega) hw).2.2.1 k1
    rw [e0, cr_1 (by omega) k1, srF, if_neg (by omega), if_pos (by omega), (h4 hb).2 hs]
    have en : nxt he w = opA ka w := by unfold nxt; rw [fw.2.2, if_pos ho.2.1]
    rw [en]
    congr 1
    have := cr_ext (ka := ka) (he := he) (w := (w : Int)) 1 (opA ka w) (by omega) ho.2.1 (fun z z1 z2 => by rw [show z = w by omega, k1]; omega)
    exact this.symm
  · have fw := ((hF hb) w (by omega) hw).2.2.1 k1
    have hbp := bA_pre hk1 (w := w) (by omega)
    unfold upH
    by_cases q : j = w
    · rw [if_pos q, q, fw.2.2]
    · rw [if_neg q]
      by_cases p : j = suA ka w
      · rw [if_pos p, p, fw.2.1]
      · rw [if_neg p]
        exact H j j1 (by omega) p (by omega)
theorem st_adj {b : Bool} {ka he : Int → Int} {w n : Nat} {L : List E3} (hw : w < n) (hk : ∀ w, 0 ≤ ka w ∧ ka w ≤ 6) (hk1 : ka (-1) = 6) (hf : ∀ v : Nat, v ≤ w → follows (ka ((v : Int) - 1)) (ka v)) (I : IvS b ka he w L) (k2 : ka w = 2) :
    ∃ L2, IvS b ka he (w + 1) L2 ∧ ∀ hd : Int → Int, ∃ hd2, adjStep w L hd = some (L2, hd2) ∧ (b = true → HdS ka he w hd → HdS ka he (w + 1) hd2) := by
  have hp := fol_pre (hf w (Nat.le_refl _)) (hk _)
  obtain ⟨X, hX, kb, hL⟩ := IvS_want hk1 I (by have := hp.2.2.2.2.1 (Or.inr k2); omega)
  have hb := bA_r ka w
  have eb1 : bA ka (w + 1) = bA ka w := bA_adj k2
  have e0 : ((w + 1 : Nat) : Int) - 1 = w := by omega
  have esu : suA ka (w + 1) = suA ka w := by rw [suA, if_neg (by omega), if_neg (by omega)]
  have heads : ∀ hd, HdS ka he w hd → HdS ka he (w + 1) hd := by
    intro hd H j j1 j2 j3 j4
    rw [esu] at j3
    rw [eb1] at j4
    exact H j j1 (by omega) j3 j4
  have es2 : (((bA ka w + 1).toNat : Nat) : Int) - 1 = bA ka w := by omega
  rcases hL with ⟨n2, rfl⟩ | ⟨y2, st, c, rfl, hst⟩
  · have eb := bA_pre hk1 n2
    have top : ∃ a x c T, L = (a, x, c) :: T ∧ (a = 0 ∨ a = 2 ∨ a = 7 ∨ a = 6) := by
      rcases hX with ⟨e, -⟩ | ⟨e, -⟩ | ⟨-, -, x, c, V, rfl, -⟩ | ⟨-, x, c, R, rfl, -⟩ | ⟨-, -, x, V, rfl, -⟩
      · rw [es2] at e; omega
      · rw [es2] at e; omega
      · exact ⟨_, _, _, _, rfl, by omega⟩
      · exact ⟨_, _, _, _, rfl, by split <;> omega⟩
      · exact ⟨_, _, _, _, rfl, by omega⟩
    obtain ⟨a, x, c, T, rfl, ha⟩ := top
    refine ⟨(4, w, 0) :: (a, x, c) :: T, Or.inl ⟨by rw [e0]; exact k2, by rw [eb1]; exact kb, w, 0, _, rfl, fun _ => by rw [eb1]; omega, by rw [eb1]; exact hX⟩, fun hd => ⟨hd, by rw [adjStep, if_neg (by omega), if_pos ha], fun _ => heads hd⟩⟩
  · refine ⟨(4, st, c) :: X, Or.inl ⟨by rw [e0]; exact k2, by rw [eb1]; exact kb, st, c, X, rfl, fun hb2 => by rw [eb1]; exact hst hb2, by rw [eb1]; exact hX⟩, fun hd => ⟨hd, by rw [adjStep, if_pos rfl], fun _ => heads hd⟩⟩
theorem st_open {b : Bool} {ka he : Int → Int} {w n : Nat} {L : List E3} (hn : n ≤ 12) (hw : w < n) (hk : ∀ w, 0 ≤ ka w ∧ ka w ≤ 6) (hk1 : ka (-1) = 6) (hf : ∀ v : Nat, v ≤ w → follows (ka ((v : Int) - 1)) (ka v)) (hF : b = true → FcP ka he 0 n) (I : IvS b ka he w L) (k6 : ka w = 6) :
    ∃ L2, IvS b ka he (w + 1) L2 ∧ ∀ hd : Int → Int, ∃ hd2, openStep w L hd = some (L2, hd2) ∧ (b = true → HdS ka he w hd → HdS ka he (w + 1) hd2) := by
  have hp := (fol_pre (hf w (Nat.le_refl _)) (hk _)).2.2.2.1 k6
  have e0 : ((w + 1 : Nat) : Int) - 1 = w := by omega
  have eop : opA ka (w + 1) = w := by rw [opA, if_pos k6]
  rcases IvS_last I (Or.inr (Or.inl hp)) with ⟨e, -⟩ | ⟨e, -⟩ | ⟨-, h1, x, c, V, rfl, h3, h4⟩ | ⟨e, -⟩ | ⟨e, -⟩
  · omega
  · omega
  · have esu : suA ka (w + 1) = -1 := by rw [suA, if_neg (by omega), if_neg (by omega), h1]
    refine ⟨(0, 0, w) :: (3, x, c) :: V, Or.inr (Or.inr (Or.inr (Or.inr (Or.inr ⟨by rw [e0]; exact k6, esu, 0, (3, x, c) :: V, by rw [eop], ⟨rfl, h3⟩, fun hb => ?_⟩)))), fun hd => ⟨upH hd w x, by simp [openStep], fun hb H j j1 j2 j3 j4 => ?_⟩⟩
    · have fw := ((hF hb) w (by omega) hw).2.2.2 k6
      have en : nxt he w = (w : Int) - 1 := by unfold nxt; rw [fw, if_pos (by omega)]
      rw [eop, cr_x _ (by omega) (by omega), en]
      have := cr_ext (ka := ka) (he := he) (w := (w : Int)) 1 ((w : Int) - 1) (by omega) (by omega) (fun z z1 z2 => by rw [show z = w by omega, k6]; omega)
      rw [show ((w + 1 : Nat) : Int) = (w : Int) + ((1 : Nat) : Int) by omega, this, ← (h4 hb).2]
      simp [srF]
    · have fw := ((hF hb) w (by omega) hw).2.2.2 k6
      have hbp := bA_pre hk1 (w := w) (by omega)
      unfold upH
      by_cases q : j = w
      · rw [if_pos q, q, fw, (h4 hb).1]
      · rw [if_neg q]
        exact H j j1 (by omega) (by rw [h1]; omega) (by omega)
  · omega
  · omega
theorem cands_all3 {k : Int} {S : List E3} : ∀ {V : List E3}, all3 V → S ∈ cands k V → k ≠ 5 ∧ all3 S ∧ ∃ b c T, S = (3, b, c) :: T
  | [], _, h => by simp [cands] at h
  | (a, b, c) :: T, hV, h => by
    have h1 : a = 3 := hV.1
    subst h1
    rw [cands_3] at h
    split at h
    · exact cands_all3 hV.2 h
    · next z =>
      rcases List.mem_cons.mp h with e | e
      · subst e; exact ⟨z, hV, b, c, T, rfl⟩
      · exact cands_all3 hV.2 e
theorem cands_core {k sub op : Int} {S V : List E3} (hV : all3 V) : ∀ {M : List E3}, all5 M → S ∈ cands k (M ++ bsS sub op V) → (∃ b c M2, S = (5, b, c) :: (M2 ++ bsS sub op V) ∧ all5 M2 ∧ k ≠ 3) ∨ (sub = -1 ∧ k ≠ 5 ∧ all3 S ∧ ∃ b c T, S = (3, b, c) :: T)
  | [], _, h => by
    rw [List.nil_append] at h
    unfold bsS at h
    split at h
    · next z =>
      obtain ⟨q1, q2, q3⟩ := cands_all3 hV h
      exact Or.inr ⟨z, q1, q2, q3⟩
    · rw [cands, if_neg (by omega)] at h
      simp at h
  | (a, b, c) :: M, hM, h => by
    have h1 : a = 5 := hM.1
    subst h1
    have ih := cands_core (k := k) (S := S) (sub := sub) (op := op) hV hM.2
    rw [List.cons_append, cands, if_pos (Or.inl rfl)] at h
    split at h
    · next k5 =>
      split at h
      · rcases List.mem_cons.mp h with e | e
        · exact Or.inl ⟨b, c, M, e, hM.2, by omega⟩
        · exact ih e
      · exact ih h
    · next k5 =>
      split at h
      · next z =>
        rcases List.mem_cons.mp h with e | e
        · exact Or.inl ⟨b, c, M, e, hM.2, by omega⟩
        · exact ih e
      · exact ih h
theorem sr_fix {b c : Int} {T : List E3} : srF ((3, b, c) :: T) = srF ((2, b, c) :: T) := by simp [srF]
/-- a word that hangs -/
theorem st_hang {b : Bool} {ka he : Int → Int} {w n : Nat} {L S : List E3} (hn : n ≤ 12) (hw : w < n) (hk : ∀ w, 0 ≤ ka w ∧ ka w ≤ 6) (hf : ∀ v : Nat, v ≤ w → follows (ka ((v : Int) - 1)) (ka v)) (I : IvS b ka he w L) (kw : ka w = 3 ∨ ka w = 4 ∨ ka w = 5) (hS : S ∈ cands (ka w) L) : IvS b ka (upH he w (hdW S)) (w + 1) (hgS (ka w) w S) := by
  have hp0 := fol_pre (hf w (Nat.le_refl _)) (hk _)
  have hp : ka ((w : Int) - 1) = 0 ∨ ka ((w : Int) - 1) = 1 ∨ ka ((w : Int) - 1) = 3 := by
    by_cases y : ka w = 5
    · exact Or.inl (hp0.2.1 y)
    · exact hp0.1 (by omega)
  obtain ⟨M, V, h1, h2, h3, h4⟩ := InX_last (IvS_last I hp) hp
  have e0 : ((w + 1 : Nat) : Int) - 1 = w := by omega
  have ew : ((w + 1 : Nat) : Int) = (w : Int) + 1 := by omega
  have esu : suA ka (w + 1) = suA ka w := by rw [suA, if_neg (by omega), if_neg (by omega)]
  have eop : opA ka (w + 1) = opA ka w := by rw [opA, if_neg (by omega)]
  have ho := opA_r ka w
  -- the readout, one word more
  have up : b = true → ∀ y : Int, y < w → (ka w ≠ 5 ∨ ∀ e ∈ cr ka he w y, e.1 = 0 → e.2.1 ≠ hdW S) → cr ka (upH he w (hdW S)) ((w + 1 : Nat) : Int) y = cr ka he w y := by
    intro hb y hy hc
    rw [ew]
    refine cr_up (he' := upH he w (hdW S)) (by omega) (fun j hj => by unfold upH; rw [if_neg (by omega)]) (y.toNat + 1) y (by omega) hy ?_
    have e : upH he w (hdW S) w = hdW S := by unfold upH; rw [if_pos rfl]
    rw [e]; exact hc
  have nw : b = true → hdW S < w → cr ka (upH he w (hdW S)) ((w + 1 : Nat) : Int) w = cr ka (upH he w (hdW S)) ((w + 1 : Nat) : Int) (hdW S) := by
    intro hb hl
    rw [cr_x _ (by omega) (by omega)]
    congr 1
    unfold nxt upH
    rw [if_pos rfl, if_pos hl]
  have info : b = true → ∃ a x c T, S = (a, x, c) :: T ∧ srF S = cr ka he w x ∧ srF T = cr ka he w (nxt he x) ∧ 0 ≤ x ∧ x ≤ (w : Int) - 1 := by
    intro hb
    obtain ⟨a, x, c, T, q1, q2, q3, q4, q5, -, -⟩ := cands_cr (ka := ka) (he := he) (w := w) L ((w : Int) - 1) (by omega) (h4 hb).1 S hS
    exact ⟨a, x, c, T, q1, q2, q3, q4, q5⟩
  have verbs : b = true → suA ka w ≠ -1 → all3 V → srF V = cr ka (upH he w (hdW S)) ((w + 1 : Nat) : Int) (opA ka w) := by
    intro hb hs hV
    have q := (h4 hb).2 hs
    rw [up hb _ ho.2.1 (Or.inr (fun e he2 h0 => by
      rw [← q] at he2
      have := all3_sr hV e he2
      omega))]
    exact q
  -- what S is
  have cases : (∃ x c M2, S = (5, x, c) :: (M2 ++ bsS (suA ka w) (opA ka w) V) ∧ all5 M2 ∧ ka w ≠ 3 ∧ all3 V) ∨ (suA ka w = -1 ∧ ka w ≠ 5 ∧ ∃ a x c T, S = (a, x, c) :: T ∧ (a = 2 ∨ a = 3) ∧ all3 T) := by
    rcases h3 with h3 | ⟨e, rfl, hs, x, c, V2, rfl, h3⟩
    · rw [h1] at hS
      rcases cands_core h3 h2 hS with ⟨x, c, M2, q1, q2, q3⟩ | ⟨q1, q2, q3, x, c, T, rfl⟩
      · exact Or.inl ⟨x, c, M2, q1, q2, q3, h3⟩
      · exact Or.inr ⟨q1, q2, 3, x, c, T, rfl, Or.inr rfl, q3.2⟩
    · have k5 : ka w ≠ 5 := fun y => by have := hp0.2.1 y; omega
      rw [h1, List.nil_append] at hS
      unfold bsS at hS
      rw [if_pos hs, cands_23, if_neg k5] at hS
      rcases List.mem_cons.mp hS with q | q
      · exact Or.inr ⟨hs, k5, 2, x, c, V2, q, Or.inl rfl, h3⟩
      · obtain ⟨q1, q2, x2, c2, T, rfl⟩ := cands_all3 h3 q
        exact Or.inr ⟨hs, k5, 3, x2, c2, T, rfl, Or.inr rfl, q2.2⟩
  rcases cases with ⟨x, c, M2, rfl, hM2, k3, hV⟩ | ⟨hs, k5, a, x, c, T, rfl, ha, hT⟩
  · by_cases k4 : ka w = 4
    · rw [hgS, if_pos k4, if_neg (by omega)]
      refine Or.inr (Or.inr (Or.inr (Or.inr (Or.inl ⟨by rw [e0]; exact Or.inl k4, w, 0, _, by rw [e0, if_pos k4], fun _ => e0.symm, ?_⟩))))
      refine ⟨(5, x, c) :: M2, V, by rw [esu, eop]; rfl, ⟨rfl, hM2⟩, hV, fun hb => ⟨?_, fun z => ?_⟩⟩
      · obtain ⟨a', x', c', T', q1, q2, q3, q4, q5⟩ := info hb
        cases q1
        rw [e0, nw hb (by show x < _; omega)]
        show _ = cr ka _ _ x
        rw [up hb _ (by omega) (Or.inl (by omega))]
        exact q2
      · rw [esu] at z
        rw [eop]; exact verbs hb z hV
    · have k5 : ka w = 5 := by omega
      rw [hgS, if_neg k4, if_pos k5]
      refine Or.inr (Or.inr (Or.inr (Or.inr (Or.inl ⟨by rw [e0]; exact Or.inr k5, w, c, _, by rw [e0, if_neg k4], fun _ => e0.symm, ?_⟩))))
      refine ⟨M2, V, by rw [esu, eop], hM2, hV, fun hb => ⟨?_, fun z => ?_⟩⟩
      · obtain ⟨a', x', c', T', q1, q2, q3, q4, q5⟩ := info hb
        cases q1
        rw [e0, nw hb (by show x < _; omega)]
        show _ = cr ka (upH he w x) _ x
        -- the noun is joined now
        have eq1 : cr ka (upH he w x) ((w + 1 : Nat) : Int) x = cr ka (upH he w x) ((w + 1 : Nat) : Int) (nxt he x) := by
          rw [cr_eq q4 (by omega)]
          have ex : upH he w x x = he x := by unfold upH; rw [if_neg (by omega)]
          have en : nxt (upH he w x) x = nxt he x := by unfold nxt; rw [ex]
          rw [en]
          have eo : ownF ka (upH he w x) ((w + 1 : Nat) : Int) x = [] := by
            have k1 : ka x ≠ 1 := by
              intro k1
              rw [cr_eq q4 (by omega), ownF, if_pos k1, srF, if_pos rfl] at q2
              cases q2
            unfold ownF
            rw [if_neg k1, if_neg]
            rintro ⟨-, q⟩
            rw [show (((w + 1 : Nat) : Int) - x - 1).toNat = ((w : Int) - x - 1).toNat + 1 by omega, joined_snoc, show x + 1 + (((w : Int) - x - 1).toNat : Int) = w by omega] at q
            have : upH he w x w = x := by unfold upH; rw [if_pos rfl]
            rw [this, decide_eq_true ⟨k5, rfl⟩] at q
            simp at q
          rw [eo]; rfl
        have hl := nxt_lt (he := he) q4
        rw [eq1]
        refine (q3.trans ?_)
        exact (up hb _ (by omega) (Or.inr (fun e he2 _ => by
          have := cr_mem (ka := ka) (he := he) ((nxt he x).toNat + 1) (nxt he x) (by omega) (by omega) he2
          show e.2.1 ≠ x
          omega))).symm
      · rw [esu] at z
        rw [eop]; exact verbs hb z hV
  · have fx : hgS (ka w) w ((a, x, c) :: T) = hgS (ka w) w ((3, x, c) :: T) := by
      rcases ha with rfl | rfl
      · exact hgS_23 k5
      · rfl
    have sx : srF ((a, x, c) :: T) = srF ((3, x, c) :: T) := by
      rcases ha with rfl | rfl
      · exact sr_fix.symm
      · rfl
    have ro : b = true → srF ((3, x, c) :: T) = cr ka (upH he w x) ((w + 1 : Nat) : Int) w := by
      intro hb
      obtain ⟨a', x', c', T', q1, q2, q3, q4, q5⟩ := info hb
      cases q1
      have e1 := nw hb (by show x < _; omega)
      have e2 := up hb x (by omega) (Or.inl k5)
      rw [← sx, q2]
      exact (e1.trans e2).symm
    rw [fx, hgS, if_neg (by omega : ¬ (3 : Int) = 2), if_neg k5]
    by_cases k4 : ka w = 4
    · rw [if_pos k4]
      refine Or.inr (Or.inr (Or.inr (Or.inr (Or.inl ⟨by rw [e0]; exact Or.inl k4, w, 0, _, by rw [e0, if_pos k4], fun _ => e0.symm, ?_⟩))))
      refine ⟨[], (3, x, c) :: T, by rw [esu, hs]; rfl, trivial, ⟨rfl, hT⟩, fun hb => ⟨by rw [e0]; exact ro hb, fun z => absurd (esu.trans hs) z⟩⟩
    · rw [if_neg k4]
      exact Or.inr (Or.inr (Or.inl ⟨by rw [e0]; omega, esu.trans hs, ⟨rfl, hT⟩, fun hb => by rw [e0]; exact ro hb⟩))
end P12
