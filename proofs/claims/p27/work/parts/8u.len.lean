section CNL
variable {kd : Int → Int} {n : Int}
theorem sumlen : ∀ outs : List (List (Int → Int)), (outs.reverse.flatten.length : Int) = (outs.map (fun o => (o.length : Int))).sum
  | [] => rfl
  | o :: outs => by
    rw [List.reverse_cons, List.flatten_append, List.length_append, List.map_cons, List.sum_cons, ← sumlen outs]
    simp
    omega
theorem CN_non {w : Int} (hn : n ≤ 12) (h0 : 0 ≤ w) (hw : w < n) (hk : kd w = 0 ∨ kd w = 1 ∨ kd w = 2 ∨ kd w = 6) {L : List E3} (wf : wfL L) (i : Int) (hd : Int → Int) : StR kd n (stepW (kd w) w i L hd) (CN kd n L w) (w + 1) := by
  cases L with
  | nil => exact absurd wf (by simp [wfL])
  | cons e T =>
    obtain ⟨a, b, c⟩ := e
    by_cases k0 : kd w = 0
    · rw [stepW, if_pos k0]
      exact CN_noun hn h0 hw k0 wf
    by_cases k1 : kd w = 1
    · rw [stepW, if_neg k0, if_pos k1]
      rcases wf with ⟨e, wf⟩ | wf
      · dsimp only at e; subst e
        have e1 : verbStep w ((4, b, c) :: T) hd = none := by simp [verbStep]
        rw [e1]
        show CN kd n ((4, b, c) :: T) w = 0
        rw [CN4, if_neg (by omega)]
      · exact CN_verbX hn h0 hw k1 wf
    by_cases k2 : kd w = 2
    · rw [stepW, if_neg k0, if_neg k1, if_pos k2]
      exact CN_adj hn h0 hw k2 wf
    have k6 : kd w = 6 := by omega
    rw [stepW, if_neg k0, if_neg k1, if_neg k2, if_pos k6]
    rcases wf with ⟨e, wf⟩ | wf
    · dsimp only at e; subst e
      have e1 : openStep w ((4, b, c) :: T) hd = none := by simp [openStep]
      rw [e1]
      show CN kd n ((4, b, c) :: T) w = 0
      rw [CN4, if_neg (by omega)]
    · exact CN_open hn h0 hw k6 wf
theorem CN_hng {w : Int} (hn : n ≤ 12) (h0 : 0 ≤ w) (hw : w < n) (hk : kd w = 3 ∨ kd w = 4 ∨ kd w = 5) {L : List E3} (wf : wfL L) : CN kd n L w = ((cands (kd w) L).map (fun S => CN kd n (hgS (kd w) w S) (w + 1))).sum := by
  cases L with
  | nil => exact absurd wf (by simp [wfL])
  | cons e T =>
    obtain ⟨a, b, c⟩ := e
    rcases wf with ⟨e, wf⟩ | wf
    · dsimp only at e; subst e
      rw [cands, if_neg (by omega), CN4, if_neg (by omega)]
      rfl
    · exact CN_hang hn h0 hw hk wf
/-- the run over all choices lays as many readings as the stack has completions -/
theorem TR_CN (hn : 0 < n ∧ n ≤ 12) (hk : ∀ w, 0 ≤ w → w < n → 0 ≤ kd w ∧ kd w ≤ 6) : ∀ (m : Nat) (w : Int) (L : List E3) (H : (Int → Int) → Prop) (out : List (Int → Int)), 0 ≤ w → w + m = n → wfL L → (∃ hd, H hd) → TR kd n m w L H out → (out.length : Int) = CN kd n L w
  | 0, w, L, H, out, h0, hw, wf, hH, hT => by
    have : w = n := by omega
    subst this
    obtain ⟨q1, q2⟩ := CN_end (kd := kd) (n := w) (by omega) (L := L)
    by_cases c : ∀ e ∈ L, compl e.1
    · obtain ⟨f, rfl, -⟩ := hT.1 ⟨hn.1, c⟩
      rw [q1 c]
      rfl
    · rw [hT.2 (fun z => c z.2), q2 c]
      rfl
  | m + 1, w, L, H, out, h0, hw, wf, ⟨hd, hhd⟩, hT => by
    have hkw := hk w h0 (by omega)
    have hh : ∀ i : Nat, ¬ (kd w = 0 ∨ kd w = 1 ∨ kd w = 2 ∨ kd w = 6) → stepW (kd w) w (i : Int) L hd = hangStep w (kd w) (i : Int) L hd := fun i z => by rw [stepW, if_neg (by omega), if_neg (by omega), if_neg (by omega), if_neg (by omega)]
    rcases hT with ⟨rfl, hs⟩ | ⟨outs, hne, hlen, h16, rfl, hall⟩
    · by_cases z : kd w = 0 ∨ kd w = 1 ∨ kd w = 2 ∨ kd w = 6
      · have h := CN_non hn.2 h0 (by omega) z wf 0 hd
        rw [hs hd hhd] at h
        exact h.symm
      · rw [CN_hng hn.2 h0 (by omega) (by omega) wf]
        cases hc : cands (kd w) L with
        | nil => rfl
        | cons S R =>
          exfalso
          obtain ⟨hd3, h5⟩ := hang_eq (w := w) (kd := kd w) (L := L) (hd := hd) (i := 0) (S := S) (by rw [hc]; rfl)
          rw [← hh 0 z] at h5
          have h6 := hs hd hhd
          rw [show ((0 : Nat) : Int) = 0 from rfl, h6] at h5
          cases h5
    · rw [sumlen]
      by_cases z : kd w = 0 ∨ kd w = 1 ∨ kd w = 2 ∨ kd w = 6
      · have ec : canW (kd w) L = 1 := if_pos z
        rw [ec] at hlen
        match outs, hlen, hall with
        | [o], _, hall =>
          obtain ⟨L2, H2, hst, hTR⟩ := hall 0 o rfl
          obtain ⟨hd2, es, hH2⟩ := hst hd hhd
          have h := CN_non hn.2 h0 (by omega) z wf ((0 : Nat) : Int) hd
          rw [es] at h
          have ih := TR_CN hn hk m (w + 1) L2 H2 o (by omega) (by omega) (wf_step wf es) ⟨hd2, hH2⟩ hTR
          show (o.length : Int) + 0 = _
          rw [ih, h]
          omega
        | [], hlen, _ => simp at hlen
        | _ :: _ :: _, hlen, _ => simp at hlen; omega
      · have ec : canW (kd w) L = (cands (kd w) L).length := if_neg z
        rw [CN_hng hn.2 h0 (by omega) (by omega) wf]
        congr 1
        apply List.ext_getElem?
        intro i
        rw [List.getElem?_map, List.getElem?_map]
        by_cases hi : i < outs.length
        · have hi2 : i < (cands (kd w) L).length := by omega
          rw [List.getElem?_eq_getElem hi, List.getElem?_eq_getElem hi2]
          obtain ⟨L2, H2, hst, hTR⟩ := hall i outs[i] (List.getElem?_eq_getElem hi)
          obtain ⟨hd2, es, hH2⟩ := hst hd hhd
          have ih := TR_CN hn hk m (w + 1) L2 H2 _ (by omega) (by omega) (wf_step wf es) ⟨hd2, hH2⟩ hTR
          rw [hh i z] at es
          obtain ⟨S, s1, s2⟩ := hang_inv es
          rw [List.getElem?_eq_getElem hi2] at s1
          cases s1
          simp only [Option.map_some]
          rw [ih, s2]
        · rw [List.getElem?_eq_none (by omega), List.getElem?_eq_none (by omega)]
          rfl
/-- count(1) is count(2) -/
theorem rds_cnt (hn : 0 ≤ n ∧ n ≤ 12) (hk : ∀ w, 0 ≤ w → w < n → 0 ≤ kd w ∧ kd w ≤ 6) : ((rds kd n).length : Int) = dp kd 5 0 n := by
  obtain ⟨u, eu⟩ : ∃ u : Nat, n = u := ⟨n.toNat, by omega⟩
  subst eu
  have t := TR_rds (by omega) hk (fun _ => 0)
  have t2 : TR kd u u 0 [(0, 0, -1)] (fun _ => True) (rds kd u) := t
  by_cases z : u = 0
  · subst z
    have : rds kd ((0 : Nat) : Int) = [] := t2.2 (fun z => by omega)
    rw [this]
    show (0 : Int) = dp kd 5 0 0
    rw [dp_diag (Or.inr (Or.inr rfl))]
  · rw [TR_CN (by omega) hk u 0 _ _ _ (Int.le_refl _) (by omega) wf_0 ⟨fun _ => 0, trivial⟩ t2, CN0]
    unfold Av
    rw [S0_one (a := (u : Int)) (by omega) (by omega) (fun k _ _ h => by rw [CN, if_neg h, Int.mul_zero]), CN, if_pos rfl, EE_p (by omega)]
    omega
end CNL
