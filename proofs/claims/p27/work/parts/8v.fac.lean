section FAC
/-- a reading has one root, a verb -/
theorem rd_one {ka f : Int → Int} {n : Nat} (hn : n ≤ 12) (hk : ∀ w, 0 ≤ ka w ∧ ka w ≤ 6) (hk1 : ka (-1) = 6) (P : RdP ka n f) : ∀ v w : Nat, v < w → w < n → f v = -1 → f w = -1 → False := by
  intro v w vw wn hv hw
  have ev := (rd_edge hn hk hk1 P v (by omega)).2.2.2.1 hv
  have ew := (rd_edge hn hk hk1 P w wn).2.2.2.1 hw
  obtain ⟨n0, hF, hsn, hend, hfree⟩ := P
  have hf : ∀ x : Nat, x < n → follows (ka ((x : Int) - 1)) (ka x) := fun x hx => (hF x (by omega) hx).1
  have sw := ((hF w (by omega) wn).2.2.1 ew.1).1
  have q := su_char (f := f) hk1 w (fun x hx => hf x (by omega)) sw
  obtain ⟨q1, q2, q3, q4, q5, q6, q7, q8⟩ := q
  rw [ew.2] at q8
  have hb := bA_r ka (suA ka w).toNat
  rw [← q8] at hb
  by_cases c : suA ka w ≤ v
  · exact q6 v c (by omega) ev.1
  · have := hb.2.2.1 v (by omega) (by omega)
    omega
theorem reach_ex {n : Int} {f : Int → Int} (hr : rok n f) : ∀ (m : Nat) (w : Int), 0 ≤ w → w < n → reachF f m w → ∃ x, 0 ≤ x ∧ x < n ∧ f x = -1
  | 0, w, h0, h1, h => ⟨w, h0, h1, h⟩
  | m + 1, w, h0, h1, h => by
    rcases h with h | h
    · exact ⟨w, h0, h1, h⟩
    · by_cases e : f w = -1
      · exact ⟨w, h0, h1, e⟩
      · have := hr w h0 h1
        exact reach_ex hr m (f w) (by omega) (by omega) h
theorem reach_ne {f : Int → Int} : ∀ (m : Nat) (w : Int), 0 ≤ w → reachF f m w → f w ≠ w
  | 0, w, h0, h => by
    have : f w = -1 := h
    omega
  | m + 1, w, h0, h => by
    intro e
    rcases h with h | h
    · omega
    · rw [e] at h
      exact reach_ne m w h0 h e
theorem rds_root {kd : Int → Int} {n : Int} (hn : 0 ≤ n ∧ n ≤ 12) (hk : ∀ w, 0 ≤ w → w < n → 0 ≤ kd w ∧ kd w ≤ 6) {f : Int → Int} (hf : f ∈ rds kd n) : (∀ w, 0 ≤ w → w < n → f w = -1 → kd w = 1) ∧ ∀ v w, 0 ≤ v → v < n → 0 ≤ w → w < n → f v = -1 → f w = -1 → v = w := by
  obtain ⟨u, eu⟩ : ∃ u : Nat, n = u := ⟨n.toNat, by omega⟩
  subst eu
  have hk1 : kAt kd u (-1) = 6 := by unfold kAt; rw [if_neg (by omega)]
  have P := rdsH_P hk (h0 := fun _ => 0) hf
  refine ⟨fun w h0 h1 h => ?_, fun v w v0 v1 w0 w1 hv hw => ?_⟩
  · have := ((rd_edge (by omega) (kAt_n hk) hk1 P w.toNat (by omega)).2.2.2.1 (by rw [show ((w.toNat : Nat) : Int) = w by omega]; exact h)).1
    rw [show ((w.toNat : Nat) : Int) = w by omega] at this
    unfold kAt at this
    rwa [if_pos ⟨h0, h1⟩] at this
  · have one := rd_one (by omega) (kAt_n hk) hk1 P
    apply Classical.byContradiction
    intro ne
    rcases (by omega : v < w ∨ w < v) with c | c
    · exact one v.toNat w.toNat (by omega) (by omega) (by rw [show ((v.toNat : Nat) : Int) = v by omega]; exact hv) (by rw [show ((w.toNat : Nat) : Int) = w by omega]; exact hw)
    · exact one w.toNat v.toNat (by omega) (by omega) (by rw [show ((w.toNat : Nat) : Int) = w by omega]; exact hw) (by rw [show ((v.toNat : Nat) : Int) = v by omega]; exact hv)
/-- a sum of ones over a range with one place -/
theorem sum_at {p : Int → Prop} [∀ k, Decidable (p k)] {m : Nat} {k x : Int} (hx : k ≤ x ∧ x < k + m) (hp : p x) (h : ∀ j, k ≤ j → j < k + m → p j → j = x) : sumF (fun j => if p j then 1 else 0) m k = 1 := by
  rw [show m = (x - k).toNat + (1 + (m - (x - k).toNat - 1)) by omega, sumF_app, sumF_app]
  rw [sumF_z (x - k).toNat k (fun j j1 j2 => if_neg fun q => by have := h j j1 (by omega) q; omega)]
  rw [sumF_z (m - (x - k).toNat - 1) _ (fun j j1 j2 => if_neg fun q => by have := h j (by omega) (by omega) q; omega)]
  rw [sumF, sumF, show k + ((x - k).toNat : Nat) = x by omega, if_pos hp]
  omega
variable {c : Cs}
theorem row_mem (I : okS c) {k : Int} (h1 : 0 ≤ k) (h2 : k < (AS c).length) : rowA (AS c) k ∈ AS c := by
  have hl : k.toNat < (AS c).length := by omega
  unfold rowA
  rw [List.getElem?_eq_getElem hl]
  exact List.getElem_mem hl
/-- the drawn reading -/
noncomputable def fD (c : Cs) : Int → Int := rowA (AS c) (drS c)
theorem drS_r (I : okS c) (h : 0 < (lfS c).length) : 0 ≤ c 1 ∧ c 1 < (lfS c).length ∧ 0 ≤ drS c ∧ drS c < (AS c).length := by
  have h1 := I.2.2.2.1
  have h2 : c 1 < (lfS c).length := by rcases h1.2 with e | e <;> omega
  have := lfA_r (c := c) h1.1 h2
  exact ⟨h1.1, h2, this.1, this.2⟩
theorem fD_ok (I : okS c) (h : 0 < (lfS c).length) : rok (nS c) (fD c) ∧ rtd (nS c) (fD c) ∧ (∀ w, 0 ≤ w → w < nS c → fD c w = -1 → kdS c w = 1) ∧ ∀ v w, 0 ≤ v → v < nS c → 0 ≤ w → w < nS c → fD c v = -1 → fD c w = -1 → v = w := by
  obtain ⟨d1, d2, d3, d4⟩ := drS_r I h
  have r := row_ok I d3 d4
  have q := rds_root I.1 I.2.1 (row_mem I d3 d4)
  exact ⟨r.1, r.2.1, q.1, q.2⟩
theorem nS_pos (I : okS c) (h : 0 < (lfS c).length) : 0 < nS c := by
  have h1 := I.1.1
  by_cases e : nS c = 0
  · exfalso
    have h2 : (AS c) ≠ [] := fun z => by
      have := (drS_r I h).2.2
      rw [z] at this
      simp at this
      omega
    have h3 := rds_cnt I.1 I.2.1
    rw [e, dp_diag (Or.inr (Or.inr rfl))] at h3
    apply h2
    unfold AS
    rw [e]
    exact List.length_eq_zero_iff.mp (by omega)
  · omega
theorem root_sum (I : okS c) (h : 0 < (lfS c).length) : sumF (fun w => if fD c w = -1 then 1 else 0) (nS c).toNat 0 = 1 := by
  obtain ⟨hr, ht, -, h1⟩ := fD_ok I h
  have hp := nS_pos I h
  obtain ⟨x, x0, x1, hx⟩ := reach_ex hr 11 0 (by omega) hp (ht 0 (by omega) hp)
  exact sum_at (p := fun w => fD c w = -1) ⟨x0, by omega⟩ hx (fun j j0 j1 hj => h1 j x j0 (by omega) x0 x1 hj hx)
theorem held_sum (I : okS c) (h : 0 < (lfS c).length) : sumF (fun w => hldF (nS c) (fD c) w) (nS c).toNat 0 = nS c - 1 := by
  obtain ⟨hr, -, -, -⟩ := fD_ok I h
  have hp := nS_pos I h
  have e1 : sumF (fun w => hldF (nS c) (fD c) w) (nS c).toNat 0 = sumF (fun k => sumF (fun w => if fD c k = w then 1 else 0) (nS c).toNat 0) (nS c).toNat 0 := (sumF_swap (F := fun k w => if fD c k = w then 1 else 0) (nS c).toNat 0 (nS c).toNat 0).symm
  have e2 : sumF (fun k => sumF (fun w => if fD c k = w then 1 else 0) (nS c).toNat 0) (nS c).toNat 0 + sumF (fun w => if fD c w = -1 then 1 else 0) (nS c).toNat 0 = sumF (fun _ => 1) (nS c).toNat 0 := by
    rw [sumF_add]
    refine sumF_congr _ _ fun k k1 k2 => ?_
    have := hr k k1 (by omega)
    by_cases q : fD c k = -1
    · rw [if_pos q, sumF_z _ _ (fun w w1 w2 => if_neg (by omega))]
      rfl
    · rw [if_neg q, sum_at (p := fun w => fD c k = w) (x := fD c k) ⟨by omega, by omega⟩ rfl (fun j _ _ e => e.symm)]
      rfl
  have e3 : ∀ (m : Nat) (k : Int), sumF (fun _ => 1) m k = m := by
    intro m
    induction m with
    | zero => intro k; rfl
    | succ m ih =>
      intro k
      rw [sumF, ih]
      omega
  rw [root_sum I h, e3] at e2
  rw [e1]
  omega
theorem lev_step (I : okS c) (h : 0 < (lfS c).length) {w : Int} (h0 : 0 ≤ w) (h1 : w < nS c) (hf : fD c w ≠ -1) : levF (kdS c) (fD c) 12 w - levF (kdS c) (fD c) 12 (fD c w) = stepF (kdS c) (fD c) w := by
  obtain ⟨hr, ht, -, -⟩ := fD_ok I h
  rw [lev_eq ht hr h0 h1 hf]
  omega
theorem stepF_1 (kd hd : Int → Int) (w : Int) : -1 ≤ stepF kd hd w ∧ stepF kd hd w ≤ 1 := by
  unfold stepF
  repeat' split
  all_goals omega
theorem held_0 (kd hd : Int → Int) (w : Int) : heldF kd hd w = 0 ↔ hd w = -1 := by
  unfold heldF
  repeat' split
  all_goals omega
theorem held_3 {kd hd : Int → Int} {w : Int} (hk : 0 ≤ kd w ∧ kd w ≤ 6) (h : hd w = -1 → kd w = 1) : heldF kd hd w = 3 ↔ 1 < kd w ∧ kd w < 5 := by
  unfold heldF
  repeat' split
  all_goals omega
theorem fit_left (I : okS c) {i : Int} (h0 : 0 ≤ i) (h1 : i < (lfS c).length) {w : Int} (w0 : 0 ≤ w) (w1 : w < nS c) (hf : 0 < fxS c w) : rowA (AS c) (lfA (lfS c) i) w = fxS c w - 2 := by
  have hm : lfA (lfS c) i ∈ lfS c := List.mem_of_getElem? (lfA_at h0 h1)
  have key : ∀ (m : Nat) (k : Int), ∀ z ∈ lfF (fun k => fitsP (nS c) (-1) (fxS c) (rowA (AS c) k)) m k, fitsP (nS c) (-1) (fxS c) (rowA (AS c) z) := by
    intro m
    induction m with
    | zero => intro k z hz; simp [lfF] at hz
    | succ m ih =>
      intro k z hz
      rw [lfF, List.mem_append] at hz
      rcases hz with hz | hz
      · by_cases q : fitsP (nS c) (-1) (fxS c) (rowA (AS c) k)
        · rw [whI_t q, if_pos rfl] at hz
          simp at hz
          rw [hz]
          exact q
        · rw [whI_f q, if_neg (by omega)] at hz
          simp at hz
      · exact ih (k + 1) z hz
  exact key _ _ _ hm w w0 w1 ⟨hf, by omega⟩
theorem hds_0 (h : (lfS c).length = 0) (w : Int) : hdsS c w = 0 := by
  refine sumF_z _ _ fun z _ _ => if_neg fun q => ?_
  obtain ⟨i, i0, i1, -⟩ := (hvS_pos w z).mp q
  omega
theorem hds_fix (I : okS c) (h : 0 < (lfS c).length) {w : Int} (w0 : 0 ≤ w) (w1 : w < nS c) (hf : 0 < fxS c w) : hdsS c w = 1 := by
  obtain ⟨d1, d2, d3, d4⟩ := drS_r I h
  have e := fit_left I d1 d2 w0 w1 hf
  have hr := (fD_ok I h).1 w w0 w1
  have e2 : fD c w = fxS c w - 2 := e
  refine sum_at (p := fun z => 0 < hvS c w z) (x := fxS c w - 2) ⟨by omega, by omega⟩ ((hvS_pos w _).mpr ⟨c 1, d1, d2, e⟩) fun z _ _ hz => ?_
  obtain ⟨i, i0, i1, hi⟩ := (hvS_pos w z).mp hz
  rw [← hi]
  exact fit_left I i0 i1 w0 w1 hf
theorem lf_le : (lfS c).length ≤ (AS c).length := lfF_len _ _
theorem lf_all (h : fwS c = 0) (hn : 0 ≤ nS c) : (lfS c).length = (AS c).length := by
  have z : ∀ w, 0 ≤ w → w < nS c → ¬ 0 < fxS c w := by
    intro w w0 w1 q
    have hs := (sumF_pos (f := fun k => if 0 < fxS c k then 1 else 0) (nS c).toNat 0 (fun j _ _ => by split <;> omega)).mpr ⟨w, w0, by omega, by rw [if_pos q]; omega⟩
    unfold fwS at h
    omega
  have key : ∀ (m : Nat) (k : Int), (lfF (fun k => fitsP (nS c) (-1) (fxS c) (rowA (AS c) k)) m k).length = m := by
    intro m
    induction m with
    | zero => intro k; rfl
    | succ m ih =>
      intro k
      have hf : fitsP (nS c) (-1) (fxS c) (rowA (AS c) k) := fun w w0 w1 q => absurd q.1 (z w w0 w1)
      rw [lfF, whI_t hf, if_pos rfl, List.length_append, ih]
      simp
      omega
  exact key _ _
theorem cnt_12 (I : okS c) : ((AS c).length : Int) = dp (kdS c) 5 0 (nS c) := rds_cnt I.1 I.2.1
theorem askF_n {hd mo : Int → Int} : ∀ (m : Nat) (k b f : Int), 0 ≤ k → (askF hd mo m k b f = -1 ↔ b = -1 ∧ ∀ j, k ≤ j → j < k + m → ¬ 1 < hd j)
  | 0, k, b, f, h0 => by
    rw [askF]
    exact ⟨fun h => ⟨h, fun j j1 j2 => by omega⟩, fun h => h.1⟩
  | m + 1, k, b, f, h0 => by
    rw [askF]
    split
    · next q =>
      rw [askF_n m (k + 1) k (mo k) (by omega)]
      exact ⟨fun h => by omega, fun h => absurd q.1 (h.2 k (by omega) (by omega))⟩
    · next q =>
      rw [askF_n m (k + 1) b f (by omega)]
      constructor
      · rintro ⟨h1, h2⟩
        refine ⟨h1, fun j j1 j2 => ?_⟩
        by_cases e : j = k
        · subst e
          intro z
          exact q ⟨z, Or.inl h1⟩
        · exact h2 j (by omega) (by omega)
      · rintro ⟨h1, h2⟩
        exact ⟨h1, fun j j1 j2 => h2 j (by omega) (by omega)⟩
theorem ask_ww (hn : 0 ≤ nS c) : askS c = -1 ↔ wwS c 1 = 0 := by
  unfold askS wwS
  rw [askF_n _ _ _ _ (by omega)]
  have hs := sumF_pos (f := fun k => if (if (1 : Int) = 0 then hdsS c k = 1 else 1 < hdsS c k) then 1 else 0) (nS c).toNat 0 (fun j _ _ => by split <;> omega)
  have h0 := sumF_nn (f := fun k => if (if (1 : Int) = 0 then hdsS c k = 1 else 1 < hdsS c k) then 1 else 0) (nS c).toNat 0 (fun j _ _ => by split <;> omega)
  constructor
  · rintro ⟨-, h⟩
    apply Classical.byContradiction
    intro ne
    obtain ⟨j, j1, j2, j3⟩ := hs.mp (by omega)
    refine h j j1 j2 ?_
    apply Classical.byContradiction
    intro q
    rw [if_neg (by simpa using q)] at j3
    omega
  · intro e
    refine ⟨rfl, fun j j1 j2 q => ?_⟩
    have := hs.mpr ⟨j, j1, j2, by rw [if_pos (by simpa using q)]; omega⟩
    omega
end FAC
