section P9
theorem flat_pw {α β : Type} {R : β → β → Prop} {g : α → List β} : ∀ l : List α, (∀ x ∈ l, (g x).Pairwise R) → l.Pairwise (fun x y => ∀ a ∈ g x, ∀ b ∈ g y, R a b) → (l.flatMap g).Pairwise R
  | [], _, _ => by simp
  | x :: l, h1, h2 => by
    rw [List.flatMap_cons, List.pairwise_append]
    rw [List.pairwise_cons] at h2
    refine ⟨h1 x (by simp), flat_pw l (fun y hy => h1 y (by simp [hy])) h2.2, fun a ha b hb => ?_⟩
    obtain ⟨y, hy, hb2⟩ := List.mem_flatMap.mp hb
    exact h2.1 y hy a ha b hb2
theorem range'_pw : ∀ (m k : Nat), (List.range' k m).Pairwise (· < ·)
  | 0, _ => by simp
  | m + 1, k => by
    rw [List.range'_succ, List.pairwise_cons]
    refine ⟨fun x hx => ?_, range'_pw m (k + 1)⟩
    rw [List.mem_range'_1] at hx
    omega
theorem ra_pw {f : Int → Int} {n : Nat} (hr : ∀ w : Nat, w < n → -1 ≤ f w ∧ f w < n) (hE : ∀ w : Nat, w < n → f w ≠ -1 → ∀ z, ((w : Int) < z ∧ z < f w) ∨ (f w < z ∧ z < w) → anc f (f w) z) (hc : ∀ w : Nat, w < n → rch f w) : ∀ (m : Nat) (w : Int), (raF n f m w).Pairwise (· < ·)
  | 0, w => by simp [raF]
  | m + 1, w => by
    rw [raF]
    split
    · next c =>
      have cv := convex hr hE
      obtain ⟨wn, ew⟩ : ∃ u : Nat, w = u := ⟨w.toNat, by omega⟩
      have rw' : rch f w := by rw [ew]; exact hc wn (by omega)
      -- a word's descendants lie on its own side
      have sep : ∀ (x z : Int), f x = w → anc f x z → 0 ≤ z → z < n → (x < w → z < w) ∧ (w < x → w < z) := by
        intro x z fx ha z0 zn
        obtain ⟨u, eu⟩ : ∃ u : Nat, z = u := ⟨z.toNat, by omega⟩
        have no : ¬ anc f x w := by
          rintro ⟨k, hk⟩
          have := Pt_rot hk (by rw [fx]; omega)
          rw [fx] at this
          exact rch_ac rw' k this
        subst eu
        obtain ⟨k, hk⟩ := ha
        constructor
        · intro lt
          apply Classical.byContradiction
          intro y
          exact no (cv k u x (by omega) hk w (Or.inr ⟨by omega, by omega⟩))
        · intro lt
          apply Classical.byContradiction
          intro y
          exact no (cv k u x (by omega) hk w (Or.inl ⟨by omega, by omega⟩))
      have two : ∀ (x x' z z' : Int), f x = w → f x' = w → x < x' → anc f x z → anc f x' z' → 0 ≤ z → z < n → 0 ≤ z' → z' < n → z < z' := by
        intro x x' z z' e1 e2 lt a1 a2 z0 zn z0' zn'
        apply Classical.byContradiction
        intro y
        obtain ⟨u, eu⟩ : ∃ u : Nat, z = u := ⟨z.toNat, by omega⟩
        obtain ⟨u', eu'⟩ : ∃ u : Nat, z' = u := ⟨z'.toNat, by omega⟩
        subst eu eu'
        obtain ⟨k1, p1⟩ := a1
        obtain ⟨k2, p2⟩ := a2
        by_cases q : (u' : Int) ≤ x
        · have := cv k2 u' x' (by omega) p2 x (Or.inl ⟨q, by omega⟩)
          have := anc_uniq rw' (by omega) e1 e2 anc_rf this
          omega
        · have := cv k1 u x (by omega) p1 u' (Or.inr ⟨by omega, by omega⟩)
          have := anc_uniq rw' (by omega) e1 e2 this ⟨k2, p2⟩
          omega
      have side : ∀ (k j : Nat), ((List.range' k j).flatMap (fun x : Nat => if f x = w then raF n f m x else [])).Pairwise (· < ·) := by
        intro k j
        refine flat_pw _ (fun x _ => ?_) ((range'_pw j k).imp (fun {x y} lt a ha b hb => ?_))
        · split
          · exact ra_pw hr hE hc m x
          · simp
        · split at ha
          · next e1 =>
            split at hb
            · next e2 =>
              obtain ⟨q1, q2, q3⟩ := ra_mem m x a ha
              obtain ⟨q4, q5, q6⟩ := ra_mem m y b hb
              exact two x y a b e1 e2 (by omega) q3 q6 q1.1 q1.2 q4.1 q4.2
            · simp at hb
          · simp at ha
      have lf : ∀ a ∈ (List.range' 0 w.toNat).flatMap (fun x : Nat => if f x = w then raF n f m x else []), a < w := by
        intro a ha
        obtain ⟨x, hx, h2⟩ := List.mem_flatMap.mp ha
        rw [List.mem_range'_1] at hx
        split at h2
        · next e =>
          obtain ⟨q1, q2, q3⟩ := ra_mem m x a h2
          exact (sep x a e q3 q1.1 q1.2).1 (by omega)
        · simp at h2
      have rg : ∀ a ∈ (List.range' (w + 1).toNat ((n : Int) - w - 1).toNat).flatMap (fun x : Nat => if f x = w then raF n f m x else []), w < a := by
        intro a ha
        obtain ⟨x, hx, h2⟩ := List.mem_flatMap.mp ha
        rw [List.mem_range'_1] at hx
        split at h2
        · next e =>
          obtain ⟨q1, q2, q3⟩ := ra_mem m x a h2
          exact (sep x a e q3 q1.1 q1.2).2 (by omega)
        · simp at h2
      rw [List.pairwise_append]
      refine ⟨side _ _, List.pairwise_cons.mpr ⟨rg, side _ _⟩, fun a ha b hb => ?_⟩
      have := lf a ha
      rcases List.mem_cons.mp hb with e | e
      · omega
      · have := rg b e
        omega
    · simp
theorem sorted_ext : ∀ (l1 l2 : List Int), l1.Pairwise (· < ·) → l2.Pairwise (· < ·) → (∀ z, z ∈ l1 ↔ z ∈ l2) → l1 = l2
  | [], [], _, _, _ => rfl
  | [], y :: l2, _, _, h => by have := (h y).mpr (by simp); simp at this
  | x :: l1, [], _, _, h => by have := (h x).mp (by simp); simp at this
  | x :: l1, y :: l2, h1, h2, h => by
    rw [List.pairwise_cons] at h1 h2
    have e : x = y := by
      have a := (h x).mp (by simp)
      have b := (h y).mpr (by simp)
      rcases List.mem_cons.mp a with a | a
      · exact a
      · rcases List.mem_cons.mp b with b | b
        · exact b.symm
        · have := h1.1 y b
          have := h2.1 x a
          omega
    subst e
    congr 1
    refine sorted_ext l1 l2 h1.2 h2.2 (fun z => ⟨fun hz => ?_, fun hz => ?_⟩)
    · have := h1.1 z hz
      rcases List.mem_cons.mp ((h z).mp (by simp [hz])) with e | e
      · omega
      · exact e
    · have := h2.1 z hz
      rcases List.mem_cons.mp ((h z).mpr (by simp [hz])) with e | e
      · omega
      · exact e
theorem nodup_len : ∀ (n : Nat) (l : List Int), l.Nodup → (∀ x ∈ l, 0 ≤ x ∧ x < n) → l.length ≤ n
  | 0, [], _, _ => by simp
  | 0, x :: l, _, h => by have := h x (by simp); omega
  | n + 1, l, hd, h => by
    by_cases c : (n : Int) ∈ l
    · have e1 := List.length_erase_of_mem c
      have ih := nodup_len n (l.erase (n : Int)) (hd.erase _) (fun x hx => by
        have q := (List.Nodup.mem_erase_iff hd).mp hx
        have := h x q.2
        have := q.1
        omega)
      omega
    · have := nodup_len n l hd (fun x hx => by
        have q := h x hx
        have : x ≠ n := by
          rintro rfl
          exact c hx
        omega)
      omega
def paL (f : Int → Int) : Nat → Int → List Int
  | 0, z => [z]
  | m + 1, z => z :: paL f m (f z)
theorem paL_len {f : Int → Int} : ∀ (m : Nat) (z : Int), (paL f m z).length = m + 1
  | 0, _ => rfl
  | m + 1, z => by rw [paL, List.length_cons, paL_len m]
theorem paL_mem {f : Int → Int} : ∀ (m : Nat) (z x y : Int), Pt f m z x → y ∈ paL f m z → ∃ a, Pt f a z y
  | 0, z, x, y, _, h => by
    simp [paL] at h
    exact ⟨0, h.symm⟩
  | m + 1, z, x, y, p, h => by
    rw [paL] at h
    rcases List.mem_cons.mp h with e | e
    · exact ⟨0, e.symm⟩
    · obtain ⟨a, ha⟩ := paL_mem m (f z) x y p.2 e
      exact ⟨a + 1, p.1, ha⟩
theorem Pt_rng {f : Int → Int} {n : Nat} (hr : ∀ w : Nat, w < n → -1 ≤ f w ∧ f w < n) : ∀ (k : Nat) (z : Nat) (y : Int), z < n → Pt f k z y → 0 ≤ y ∧ y < n
  | 0, z, y, hz, q => by
    have e : (z : Int) = y := q
    omega
  | k + 1, z, y, hz, q => by
    have r := hr z hz
    obtain ⟨u, eu⟩ : ∃ u : Nat, f z = u := ⟨(f z).toNat, by have := q.1; omega⟩
    have q2 := q.2
    rw [eu] at q2
    exact Pt_rng hr k u y (by omega) q2
theorem path_short {f : Int → Int} {n : Nat} (hr : ∀ w : Nat, w < n → -1 ≤ f w ∧ f w < n) (hc : ∀ w : Nat, w < n → rch f w) {k : Nat} {z : Nat} {x : Int} (hz : z < n) (p : Pt f k z x) : k + 1 ≤ n := by
  have nd : ∀ (k : Nat) (z : Nat), z < n → Pt f k z x → (paL f k z).Nodup := by
    intro k
    induction k with
    | zero => intro z _ _; simp [paL]
    | succ k ih =>
      intro z hz p
      have r := hr z hz
      obtain ⟨u, eu⟩ : ∃ u : Nat, f z = u := ⟨(f z).toNat, by have := p.1; omega⟩
      have p2 := p.2
      rw [paL, List.nodup_cons]
      refine ⟨fun h => ?_, ?_⟩
      · obtain ⟨a, ha⟩ := paL_mem k (f z) x z p2 h
        exact rch_ac (hc z hz) a ⟨p.1, ha⟩
      · rw [eu] at p2 ⊢
        exact ih u (by omega) p2
  have := nodup_len n (paL f k z) (nd k z hz p) (fun y hy => by
    obtain ⟨a, ha⟩ := paL_mem k z x y p hy
    exact Pt_rng hr a z y hz ha)
  rw [paL_len] at this
  exact this
theorem reach_root {f : Int → Int} {n : Nat} (hr : ∀ w : Nat, w < n → -1 ≤ f w ∧ f w < n) : ∀ (m : Nat) (z : Nat), z < n → reachF f m z → ∃ (k : Nat) (x : Nat), Pt f k z x ∧ f x = -1 ∧ x < n
  | 0, z, hz, h => ⟨0, z, rfl, h, hz⟩
  | m + 1, z, hz, h => by
    by_cases e : f z = -1
    · exact ⟨0, z, rfl, e, hz⟩
    · have r := hr z hz
      obtain ⟨u, eu⟩ : ∃ u : Nat, f z = u := ⟨(f z).toNat, by omega⟩
      rcases h with h | h
      · exact absurd h e
      · rw [eu] at h
        obtain ⟨k, x, p, e2, e3⟩ := reach_root hr m u (by omega) h
        exact ⟨k + 1, x, ⟨e, by rw [eu]; exact p⟩, e2, e3⟩
theorem Pt_reach {f : Int → Int} : ∀ (k m : Nat) (z x : Int), Pt f k z x → f x = -1 → k ≤ m → reachF f m z
  | 0, 0, z, x, p, e, _ => by
    have q : z = x := p
    rw [q]; exact e
  | 0, m + 1, z, x, p, e, _ => by
    have q : z = x := p
    rw [q]; exact Or.inl e
  | k + 1, 0, _, _, _, _, h => by omega
  | k + 1, m + 1, z, x, p, e, h => Or.inr (Pt_reach k m (f z) x p.2 e (by omega))
theorem rtF_eq {f : Int → Int} {n : Nat} {r : Int} : ∀ (m : Nat) (k a : Int), (∀ j : Int, k ≤ j → j < k + m → ((0 ≤ f j ∧ f j < n) ↔ j ≠ r)) → rtF n f m k a = if k ≤ r ∧ r < k + m then r else a
  | 0, k, a, _ => by rw [rtF, if_neg (by omega)]
  | m + 1, k, a, h => by
    have h0 := h k (by omega) (by omega)
    rw [rtF, rtF_eq m (k + 1) _ (fun j h1 h2 => h j (by omega) (by omega))]
    by_cases e : k = r
    · rw [if_neg (by omega), if_neg (fun z => h0.mp z e), if_pos (by omega), e]
    · rw [if_pos (h0.mpr e)]
      by_cases c : k + 1 ≤ r ∧ r < k + 1 + m
      · rw [if_pos c, if_pos (by omega)]
      · rw [if_neg c, if_neg (by omega)]
/-- what is to be shown of a reading -/
theorem rd_all {ka f : Int → Int} {n : Nat} (hn : n ≤ 12) (hk : ∀ w, 0 ≤ ka w ∧ ka w ≤ 6) (hk1 : ka (-1) = 6) (P : RdP ka n f) : rok n f ∧ rtd n f ∧ rdOk n f ∧ ∀ w : Nat, w < n → ka w = 0 → ka (f w) = 1 ∨ ka (f w) = 4 ∨ ka (f w) = 5 := by
  have hc := rd_rch hn hk hk1 P
  have hed := rd_edge hn hk hk1 P
  have hr : ∀ w : Nat, w < n → -1 ≤ f w ∧ f w < n := fun w hw => ⟨(hed w hw).1, (hed w hw).2.1⟩
  have hE : ∀ w : Nat, w < n → f w ≠ -1 → ∀ z, ((w : Int) < z ∧ z < f w) ∨ (f w < z ∧ z < w) → anc f (f w) z := fun w hw => (hed w hw).2.2.1
  have hrt : rtd n f := by
    intro w h0 h1
    obtain ⟨u, eu⟩ : ∃ u : Nat, w = u := ⟨w.toNat, by omega⟩
    subst eu
    obtain ⟨m, hm⟩ := hc u (by omega)
    obtain ⟨k, x, p, e2, e3⟩ := reach_root hr m u (by omega) hm
    have := path_short hr hc (by omega) p
    exact Pt_reach k 11 u x p e2 (by omega)
  refine ⟨fun w h0 h1 => ?_, hrt, ?_, fun w hw h0 => (hed w hw).2.2.2.2 h0⟩
  · obtain ⟨u, eu⟩ : ∃ u : Nat, w = u := ⟨w.toNat, by omega⟩
    subst eu
    exact hr u (by omega)
  · obtain ⟨n0, hF, hsn, hend, hfree⟩ := P
    have hf : ∀ v : Nat, v < n → follows (ka ((v : Int) - 1)) (ka v) := fun v hv => (hF v (by omega) hv).1
    have hs : ∀ v : Nat, v < n → ka v = 1 → suA ka v ≠ -1 := fun v hv kv => ((hF v (by omega) hv).2.2.1 kv).1
    obtain ⟨m, hm⟩ := hc 0 n0
    obtain ⟨k, r, p, e2, e3⟩ := reach_root hr m 0 n0 hm
    have one : ∀ w : Nat, w < n → f w = -1 → w = r := by
      intro w hw e
      have a1 := (hed w hw).2.2.2.1 e
      have a2 := (hed r e3).2.2.2.1 e2
      rcases Nat.lt_trichotomy w r with h | h | h
      · exact absurd a2.2 (root_one hk1 hf hs h e3 a1.1 a2.1)
      · exact h
      · exact absurd a1.2 (root_one hk1 hf hs h hw a2.1 a1.1)
    have er : rtF n f (n : Int).toNat 0 (-1) = r := by
      rw [Int.toNat_natCast, rtF_eq (r := r) n 0 (-1) (fun j h0 h1 => ?_), if_pos (by omega)]
      obtain ⟨u, eu⟩ : ∃ u : Nat, j = u := ⟨j.toNat, by omega⟩
      subst eu
      have q := hr u (by omega)
      constructor
      · rintro c e
        rw [e, e2] at c
        omega
      · intro ne
        have : f u ≠ -1 := fun e => ne (by rw [one u (by omega) e])
        omega
    unfold rdOk
    rw [er, Int.toNat_natCast]
    refine sorted_ext _ _ (ra_pw hr hE hc 13 r) ?_ (fun z => ?_)
    · rw [List.pairwise_map, List.range_eq_range']
      exact (range'_pw n 0).imp (fun {a b} h => by omega)
    · rw [List.mem_map]
      constructor
      · intro hz
        have q := (ra_mem 13 r z hz).1
        exact ⟨z.toNat, List.mem_range.mpr (by omega), by omega⟩
      · rintro ⟨u, hu, rfl⟩
        have hu := List.mem_range.mp hu
        obtain ⟨m, hm⟩ := hc u hu
        obtain ⟨k9, x, p9, q2, q3⟩ := reach_root hr m u hu hm
        have e9 := one x q3 q2
        rw [e9] at p9
        have := path_short hr hc hu p9
        exact ra_all hr hc 13 k9 r u (by omega) hu (by omega) p9
theorem ahead_at {f g : Int → Int} : ∀ (a m : Nat) (k : Int), (∀ j, k ≤ j → j < k + a → f j = g j) → f (k + a) < g (k + a) → a < m → aheadF f g m k = true
  | a, 0, _, _, _, h => by omega
  | 0, m + 1, k, h1, h2, _ => by
    rw [show k + ((0 : Nat) : Int) = k by omega] at h2
    rw [aheadF, if_neg (by omega)]
    exact decide_eq_true h2
  | a + 1, m + 1, k, h1, h2, h3 => by
    rw [aheadF, if_pos (h1 k (by omega) (by omega))]
    exact ahead_at a m (k + 1) (fun j j1 j2 => h1 j (by omega) (by omega)) (by rw [show k + 1 + (a : Int) = k + ((a + 1 : Nat) : Int) by omega]; exact h2) (by omega)
theorem hang_pw {ka : Int → Int} {n : Nat} : ∀ (m w : Nat) (he : Int → Int), w + m = n → (hangF ka m w he).Pairwise (ahd n)
  | 0, w, he, _ => by rw [hangF]; simp
  | m + 1, w, he, hw => by
    rw [hangF]
    split
    · refine flat_pw _ (fun x _ => ?_) ?_
      · split
        · exact hang_pw m (w + 1) _ (by omega)
        · simp
      · rw [List.range_eq_range']
        refine (range'_pw _ 0).imp (fun {x y} lt a ha b hb => ?_)
        split at ha
        · split at hb
          · have q1 := (hang_char m (w + 1) _ a ha).1
            have q2 := (hang_char m (w + 1) _ b hb).1
            unfold ahd
            rw [Int.toNat_natCast]
            refine ahead_at w n 0 (fun j j0 j1 => ?_) ?_ (by omega)
            · rw [q1 j (Or.inl (by omega)), q2 j (Or.inl (by omega))]
              unfold upH
              rw [if_neg (by omega), if_neg (by omega)]
            · rw [Int.zero_add, q1 w (Or.inl (by omega)), q2 w (Or.inl (by omega))]
              unfold upH
              rw [if_pos rfl, if_pos rfl]
              omega
          · simp at hb
        · simp at ha
    · exact hang_pw m (w + 1) he (by omega)
theorem rdsH_pw {ka h0 : Int → Int} {n : Nat} : (rdsH ka n h0).Pairwise (ahd n) := by
  unfold rdsH
  split
  · simp
  · split
    · rw [Int.toNat_natCast]; exact hang_pw n 0 _ (by omega)
    · simp
end P9
