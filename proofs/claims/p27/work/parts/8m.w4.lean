section BRC
/-- the cell at q, what stood below N, and the new cells from N on -/
def W4 (N : Nat) (f : Nat → va_E) (q : Nat) (Q : va_E) (L : List va_E) : Nat → va_E := fun i => if i = q then Q else if i < N then f i else (L[i - N]?).getD (.inr (0, []))
def w4 (b0 N : Nat) (f : Nat → va_E) (q : Nat) (Q : va_E) (L : List va_E) : va_W := wl b0 (N + L.length) (W4 N f q Q L)
variable {N q : Nat} {f : Nat → va_E} {Q e : va_E} {L : List va_E}
theorem W4_q : W4 N f q Q L q = Q := if_pos rfl
theorem W4_j (hq : q < N) {j : Nat} (hj : L[j]? = some e) : W4 N f q Q L (N + j) = e := by
  unfold W4
  rw [if_neg (by omega), if_neg (by omega), Nat.add_sub_cancel_left, hj]
  rfl
theorem W4_f {i : Nat} (h : i < N) (hi : i ≠ q) : W4 N f q Q L i = f i := by
  unfold W4
  rw [if_neg hi, if_pos h]
theorem W4_upq : up (W4 N f q Q L) q e = W4 N f q e L := by
  funext i
  unfold up W4
  by_cases h : i = q
  · rw [if_pos h, if_pos h]
  · rw [if_neg h, if_neg h, if_neg h]
theorem W4_upj (hq : q < N) {j : Nat} (hj : j < L.length) : up (W4 N f q Q L) (N + j) e = W4 N f q Q (L.set j e) := by
  funext i
  unfold up W4
  by_cases h : i = N + j
  · subst h
    rw [if_pos rfl, if_neg (by omega), if_neg (by omega), Nat.add_sub_cancel_left, List.getElem?_set_self hj]
    rfl
  · rw [if_neg h]
    by_cases h1 : i = q
    · rw [if_pos h1, if_pos h1]
    · rw [if_neg h1, if_neg h1]
      by_cases h2 : i < N
      · rw [if_pos h2, if_pos h2]
      · rw [if_neg h2, if_neg h2, List.getElem?_set_ne (by omega)]
theorem W4_push (hq : q < N) : up (W4 N f q Q L) (N + L.length) e = W4 N f q Q (L ++ [e]) := by
  funext i
  unfold up W4
  by_cases h : i = N + L.length
  · subst h
    rw [if_pos rfl, if_neg (by omega), if_neg (by omega), Nat.add_sub_cancel_left, List.getElem?_append_right (Nat.le_refl _), Nat.sub_self]
    rfl
  · rw [if_neg h]
    by_cases h1 : i = q
    · rw [if_pos h1, if_pos h1]
    · rw [if_neg h1, if_neg h1]
      by_cases h2 : i < N
      · rw [if_pos h2, if_pos h2]
      · rw [if_neg h2, if_neg h2]
        by_cases h3 : i - N < L.length
        · rw [List.getElem?_append_left h3]
        · rw [List.getElem?_eq_none (by omega), List.getElem?_eq_none (by simp; omega)]
theorem W4_call (hq : q < N) {j : Nat} {Q2 : va_E} {L2 : List va_E} (hj : j < L.length) : W4 (N + L.length) (W4 N f q Q L) (N + j) Q2 L2 = W4 N f q Q (L.set j Q2 ++ L2) := by
  funext i
  unfold W4
  by_cases h : i = N + j
  · subst h
    rw [if_pos rfl, if_neg (by omega), if_neg (by omega), Nat.add_sub_cancel_left, List.getElem?_append_left (by rw [List.length_set]; exact hj), List.getElem?_set_self hj]
    rfl
  · rw [if_neg h]
    by_cases h0 : i < N + L.length
    · rw [if_pos h0]
      by_cases h1 : i = q
      · rw [if_pos h1, if_pos h1]
      · rw [if_neg h1, if_neg h1]
        by_cases h2 : i < N
        · rw [if_pos h2, if_pos h2]
        · rw [if_neg h2, if_neg h2, List.getElem?_append_left (by rw [List.length_set]; omega), List.getElem?_set_ne (by omega)]
    · rw [if_neg h0, if_neg (by omega), if_neg (by omega), List.getElem?_append_right (by rw [List.length_set]; omega), List.length_set]
      congr 2
      omega
theorem w4_start {b0 : Nat} (hf : f q = Q) : wl b0 N f = w4 b0 N f q Q [] := wl_eq fun i hi => by
  unfold W4
  by_cases h : i = q
  · rw [if_pos h, h]; exact hf
  · rw [if_neg h, if_pos hi]
theorem w4_call {b0 : Nat} (hq : q < N) {j : Nat} {Q2 : va_E} {L2 : List va_E} (hj : j < L.length) : w4 b0 (N + L.length) (W4 N f q Q L) (N + j) Q2 L2 = w4 b0 N f q Q (L.set j Q2 ++ L2) := by
  unfold w4
  rw [W4_call hq hj, List.length_append, List.length_set, Nat.add_assoc]
theorem arrV_eq {c : ClassId} {n : Nat} {g g1 : Nat → Value} (h : ∀ j, j < n → g j = g1 j) : arrV c n g = arrV c n g1 := by
  have : (fun j : Fin n => g j.val) = fun j => g1 j.val := funext fun j => h j.val j.isLt
  unfold arrV
  rw [this]
/-- the same cell in memory -/
def EQ (a b : va_E) : Prop := a = b ∨ ∃ c x y, a = .inl (c, x) ∧ b = .inl (c, y) ∧ vp_cell c x = vp_cell c y
theorem EQ.rf {a : va_E} : EQ a a := Or.inl rfl
theorem EQ.is {c : ClassId} {n : Nat} {g g1 : Nat → Int32} (h : ∀ j, j < n → g j = g1 j) : EQ (.inl (c, n, .inl g)) (.inl (c, n, .inl g1)) := Or.inr ⟨c, _, _, rfl, rfl, by
  rw [vp_cell_i, vp_cell_i]
  exact arrV_eq fun j hj => by rw [h j hj]⟩
theorem EQ.qs {c : ClassId} {n : Nat} {g g1 : Nat → Option Nat} (h : ∀ j, j < n → g j = g1 j) : EQ (.inl (c, n, .inr (.inr (.inr (.inr g))))) (.inl (c, n, .inr (.inr (.inr (.inr g1))))) := Or.inr ⟨c, _, _, rfl, rfl, by
  rw [vp_cell_q, vp_cell_q]
  exact arrV_eq fun j hj => by rw [h j hj]⟩
theorem va_P_eqv {D : va_G} {b0 M : Nat} {f g : Nat → va_E} {H : Heap} (h : ∀ i, i < M → EQ (f i) (g i)) (hP : va_P D vwCl (wl b0 M f) H) : va_P D vwCl (wl b0 M g) H := by
  intro i p hp
  have hl := (List.getElem?_eq_some_iff.mp hp).1
  rw [wl_len] at hl
  have h1 := hP i _ (wl_get hl)
  rw [wl_get hl] at hp
  cases hp
  rcases h i hl with h2 | ⟨c, x, y, h2, h3, h4⟩
  · rw [h2] at h1
    exact h1
  · rw [h2] at h1
    rw [h3]
    show H[b0 + i]? = some (vp_cell c y)
    rw [← h4]
    exact h1
variable {X : Cxt} {own : String} {cc : ByteArray} {d kc ks k n pc b0 z0 M : Nat} {ls : List (Option Value)} {st : List Value} {cA0 : Nat → ClassId}
theorem BV_eqv {g : Nat → va_E} (h : ∀ i, i < M → EQ (f i) (g i)) (kk : BV X b0 k n pc ls st (wl b0 M g)) : BV X b0 k n pc ls st (wl b0 M f) := by
  obtain ⟨p, l, e, R, s, m, args, below, meth, c, D, cA, A, Dp, Q, σ, nL⟩ := X
  intro H locs d0 lr g1 g0 g2 g3 g4
  exact kk H locs d0 lr g1 (by rw [g0, wl_len, wl_len]) (va_P_eqv h g2) g3 g4
theorem R4_new (G : BG X own cc d kc ks b0 z0 cA0) (hq : q < N) {index ci nf m : Nat} {fs : List Value} {L1 : List va_E} (F : NB own index ci nf fs) (hd : decode cc pc = .ok (.new index, 3)) (hm : L.length = m) (hL : L ++ [.inr (ci, fs)] = L1) (hk : k + 1 ≤ kc) (hn : n + nf ≤ ks) (kk : BV X b0 (k + 1) (n + nf) (pc + 3) ls (.ref (b0 + (N + m)) :: st) (w4 b0 N f q Q L1)) : BV X b0 k n pc ls st (w4 b0 N f q Q L) := by
  subst hm; subst hL
  refine B_new G F hk hn hd ?_
  rw [W4_push hq]
  simpa [w4, Nat.add_assoc] using kk

theorem R4_newi (G : BG X own cc d kc ks b0 z0 cA0) (hq : q < N) {z : Int} {n9 m : Nat} {L1 : List va_E} (hd : decode cc pc = .ok (.newarray .int, 2)) (hz : z = (n9 : Int)) (hN : n9 ≤ 5000) (hm : L.length = m) (hL : L ++ [.inl (cA0 0, n9, .inl (fun _ => 0))] = L1) (hk : k + 1 ≤ kc) (hn : n + n9 ≤ ks) (kk : BV X b0 (k + 1) (n + n9) (pc + 2) ls (.ref (b0 + (N + m)) :: st) (w4 b0 N f q Q L1)) : BV X b0 k n pc ls (.int (Int32.ofInt z) :: st) (w4 b0 N f q Q L) := by
  subst hm; subst hL
  refine B_newi G hz hN hk hn hd ?_
  rw [W4_push hq]
  simpa [w4, Nat.add_assoc] using kk
theorem R4_newl (G : BG X own cc d kc ks b0 z0 cA0) (hq : q < N) {z : Int} {n9 m : Nat} {L1 : List va_E} (hd : decode cc pc = .ok (.newarray .long, 2)) (hz : z = (n9 : Int)) (hN : n9 ≤ 5000) (hm : L.length = m) (hL : L ++ [.inl (cA0 1, n9, .inr (.inl (fun _ => 0)))] = L1) (hk : k + 1 ≤ kc) (hn : n + n9 ≤ ks) (kk : BV X b0 (k + 1) (n + n9) (pc + 2) ls (.ref (b0 + (N + m)) :: st) (w4 b0 N f q Q L1)) : BV X b0 k n pc ls (.int (Int32.ofInt z) :: st) (w4 b0 N f q Q L) := by
  subst hm; subst hL
  refine B_newl G hz hN hk hn hd ?_
  rw [W4_push hq]
  simpa [w4, Nat.add_assoc] using kk
theorem R4_newz (G : BG X own cc d kc ks b0 z0 cA0) (hq : q < N) {z : Int} {n9 m : Nat} {L1 : List va_E} (hd : decode cc pc = .ok (.newarray .boolean, 2)) (hz : z = (n9 : Int)) (hN : n9 ≤ 5000) (hm : L.length = m) (hL : L ++ [.inl (cA0 2, n9, .inl (fun _ => 0))] = L1) (hk : k + 1 ≤ kc) (hn : n + n9 ≤ ks) (kk : BV X b0 (k + 1) (n + n9) (pc + 2) ls (.ref (b0 + (N + m)) :: st) (w4 b0 N f q Q L1)) : BV X b0 k n pc ls (.int (Int32.ofInt z) :: st) (w4 b0 N f q Q L) := by
  subst hm; subst hL
  refine B_newz G hz hN hk hn hd ?_
  rw [W4_push hq]
  simpa [w4, Nat.add_assoc] using kk
theorem R4_newq (G : BG X own cc d kc ks b0 z0 cA0) (hq : q < N) {idx : Nat} {z : Int} {n9 m : Nat} {L1 : List va_E} (hl : Cond.classLink own idx "java/lang/Object" ∈ tw) (hd : decode cc pc = .ok (.anewarray idx, 3)) (hz : z = (n9 : Int)) (hN : n9 ≤ 5000) (hm : L.length = m) (hL : L ++ [.inl (cA0 3, n9, .inr (.inr (.inr (.inr (fun _ => none)))))] = L1) (hk : k + 1 ≤ kc) (hn : n + n9 ≤ ks) (kk : BV X b0 (k + 1) (n + n9) (pc + 3) ls (.ref (b0 + (N + m)) :: st) (w4 b0 N f q Q L1)) : BV X b0 k n pc ls (.int (Int32.ofInt z) :: st) (w4 b0 N f q Q L) := by
  subst hm; subst hL
  refine B_newq G hl hz hN hk hn hd ?_
  rw [W4_push hq]
  simpa [w4, Nat.add_assoc] using kk
theorem R4_put (G : BG X own cc d kc ks b0 z0 cA0) (hq : q < N) {idx ci j : Nat} {v : Value} {ty : FieldType} {fs fs1 : List Value} {fin : Bool} (hF : PB own idx ci j ty fin) (hI : fin = true → BI X) (hd : decode cc pc = .ok (.putfield idx, 3)) (hnar : narrow ty v = v) (hfit : fits ty v = true) (hl : j < fs.length) (hs : fs.set j v = fs1) (kk : BV X b0 k n (pc + 3) ls st (w4 b0 N f q (.inr (ci, fs1)) L)) : BV X b0 k n pc ls (v :: .ref (b0 + q) :: st) (w4 b0 N f q (.inr (ci, fs)) L) := by
  subst hs
  refine B_put G hF hI hd (by omega) W4_q hnar hfit hl ?_
  rw [W4_upq]
  exact kk
theorem R4_get (G : BG X own cc d kc ks b0 z0 cA0) (hq : q < N) {idx ci j : Nat} {fs : List Value} {v : Value} (hF : FL own idx ci j) (hd : decode cc pc = .ok (.getfield idx, 3)) (hv : fs[j]? = some v) (kk : BV X b0 k n (pc + 3) ls (v :: st) (w4 b0 N f q (.inr (ci, fs)) L)) : BV X b0 k n pc ls (.ref (b0 + q) :: st) (w4 b0 N f q (.inr (ci, fs)) L) :=
  B_get G hF hd (by omega) W4_q hv kk
theorem R4_cI (G : BG X own cc d kc ks b0 z0 cA0) (hq : q < N) {idx j maxL d1 kc1 ks1 m : Nat} {y : MethodName} {bytes : ByteArray} {Q2 : va_E} {L2 L1 : List va_E} (F : MI own idx y bytes maxL 0) (hd : decode cc pc = .ok (.invokespecial idx, 3)) (hm : L.length = m) (hj : j < m) (hC : CB X.2.1 d1 kc1 ks1 y bytes maxL none cA0 b0 z0 [.ref (b0 + (N + j))] (wl b0 (N + m) (W4 N f q Q L)) (w4 b0 (N + m) (W4 N f q Q L) (N + j) Q2 L2) none) (hL : L.set j Q2 ++ L2 = L1) (hdd : d1 + 1 ≤ d) (hk : k + kc1 ≤ kc) (hn : n + ks1 ≤ ks) (hst : (st.map fun v => v.category).sum ≤ 8) (kk : BV X b0 (k + kc1) (n + ks1) (pc + 3) ls st (w4 b0 N f q Q L1)) : BV X b0 k n pc ls (.ref (b0 + (N + j)) :: st) (w4 b0 N f q Q L) := by
  subst hm; subst hL
  rw [w4_call hq hj] at hC
  exact B_cI0 G F hd hC hdd hk hn hst kk
theorem R4_cI1 (G : BG X own cc d kc ks b0 z0 cA0) (hq : q < N) {idx j maxL d1 kc1 ks1 m : Nat} {v0 : Value} {y : MethodName} {bytes : ByteArray} {Q2 : va_E} {L2 L1 : List va_E} (F : MI own idx y bytes maxL 1) (hd : decode cc pc = .ok (.invokespecial idx, 3)) (hm : L.length = m) (hj : j < m) (hC : CB X.2.1 d1 kc1 ks1 y bytes maxL none cA0 b0 z0 [.ref (b0 + (N + j)), v0] (wl b0 (N + m) (W4 N f q Q L)) (w4 b0 (N + m) (W4 N f q Q L) (N + j) Q2 L2) none) (hL : L.set j Q2 ++ L2 = L1) (hdd : d1 + 1 ≤ d) (hk : k + kc1 ≤ kc) (hn : n + ks1 ≤ ks) (hst : (st.map fun v => v.category).sum ≤ 8) (kk : BV X b0 (k + kc1) (n + ks1) (pc + 3) ls st (w4 b0 N f q Q L1)) : BV X b0 k n pc ls (v0 :: .ref (b0 + (N + j)) :: st) (w4 b0 N f q Q L) := by
  subst hm; subst hL
  rw [w4_call hq hj] at hC
  exact B_cI1 G F hd hC hdd hk hn hst kk
/-- a constructor of the upper class, of this object -/
theorem R4_cIq (G : BG X own cc d kc ks b0 z0 cA0) {idx maxL d1 : Nat} {y : MethodName} {bytes : ByteArray} {Q1 : va_E} (F : MI own idx y bytes maxL 0) (hd : decode cc pc = .ok (.invokespecial idx, 3)) (hC : CB X.2.1 d1 0 0 y bytes maxL none cA0 b0 z0 [.ref (b0 + q)] (w4 b0 N f q Q L) (w4 b0 N f q Q1 L) none) (hdd : d1 + 1 ≤ d) (hk : k ≤ kc) (hn : n ≤ ks) (hst : (st.map fun v => v.category).sum ≤ 8) (kk : BV X b0 k n (pc + 3) ls st (w4 b0 N f q Q1 L)) : BV X b0 k n pc ls (.ref (b0 + q) :: st) (w4 b0 N f q Q L) :=
  B_cI0 G F hd hC hdd hk hn hst kk
theorem R4_retv {rt : Option FieldType} {ws' : va_W} (E : EB X cc rt kc ks b0 ws' none) (hd : decode cc pc = .ok (.return_, 1)) (hr : rt = none) (he : w4 b0 N f q Q L = ws') (h1 : k ≤ kc) (h2 : n ≤ ks) : BV X b0 k n pc ls [] (w4 b0 N f q Q L) := by
  subst he
  exact B_retv E hd hr rfl h1 h2
end BRC
section BFC
theorem nb_L_13 : NB RL 13 7 15 [.null, .null, .null, .null, .int 0, .null, .null, .null, .null, .null, .int 0, .null, .null, .null, .int 0] := ⟨RX6, TX6, tyX6, rfl, in_X6, tyX6_ok, tw_in (List.mem_of_getElem? (i := 73) (by decide +kernel)) (by decide +kernel), tw_in (List.mem_of_getElem? (i := 74) (by decide +kernel)) (by decide +kernel), tw_in (List.mem_of_getElem? (i := 50) (by decide +kernel)) (by decide +kernel), by decide +kernel⟩
theorem mi_L_65 : MI RL 65 yX6_init cX6_init 1 0 := ⟨Or.inl (tw_in (List.mem_of_getElem? (i := 75) (by decide +kernel)) (by decide +kernel)), tw_in (List.mem_of_getElem? (i := 76) (by decide +kernel)) (by decide +kernel), tw_in (List.mem_of_getElem? (i := 50) (by decide +kernel)) (by decide +kernel), tw_in (List.mem_of_getElem? (i := 77) (by decide +kernel)) (by decide +kernel), by decide +kernel, rfl, by decide⟩
theorem ob_X6_3 : OB0 RX6 3 := ⟨tw_in (List.mem_of_getElem? (i := 78) (by decide +kernel)) (by decide +kernel), tw_in (List.mem_of_getElem? (i := 79) (by decide +kernel)) (by decide +kernel), tw_in (List.mem_of_getElem? (i := 80) (by decide +kernel)) (by decide +kernel)⟩
theorem nb_X6_9 : NB RX6 9 5 4 [.null, .null, .int 0, .int 0] := ⟨RX4, TX4, tyX4, rfl, in_X4, tyX4_ok, tw_in (List.mem_of_getElem? (i := 81) (by decide +kernel)) (by decide +kernel), tw_in (List.mem_of_getElem? (i := 82) (by decide +kernel)) (by decide +kernel), tw_in (List.mem_of_getElem? (i := 51) (by decide +kernel)) (by decide +kernel), by decide +kernel⟩
theorem mi_X6_11 : MI RX6 11 yX4_init cX4_init 1 0 := ⟨Or.inl (tw_in (List.mem_of_getElem? (i := 83) (by decide +kernel)) (by decide +kernel)), tw_in (List.mem_of_getElem? (i := 84) (by decide +kernel)) (by decide +kernel), tw_in (List.mem_of_getElem? (i := 51) (by decide +kernel)) (by decide +kernel), tw_in (List.mem_of_getElem? (i := 85) (by decide +kernel)) (by decide +kernel), by decide +kernel, rfl, by decide⟩
theorem ob_X4_3 : OB0 RX4 3 := ⟨tw_in (List.mem_of_getElem? (i := 86) (by decide +kernel)) (by decide +kernel), tw_in (List.mem_of_getElem? (i := 79) (by decide +kernel)) (by decide +kernel), tw_in (List.mem_of_getElem? (i := 80) (by decide +kernel)) (by decide +kernel)⟩
theorem nb_X6_16 : NB RX6 16 4 5 [.null, .int 0, .null, .null, .int 0] := ⟨RX3, TX3, tyX3, rfl, in_X3, tyX3_ok, tw_in (List.mem_of_getElem? (i := 104) (by decide +kernel)) (by decide +kernel), tw_in (List.mem_of_getElem? (i := 105) (by decide +kernel)) (by decide +kernel), tw_in (List.mem_of_getElem? (i := 53) (by decide +kernel)) (by decide +kernel), by decide +kernel⟩
theorem mi_X6_18 : MI RX6 18 yX3_init cX3_init 1 0 := ⟨Or.inr (List.mem_of_getElem? (i := 0) rfl), tw_in (List.mem_of_getElem? (i := 107) (by decide +kernel)) (by decide +kernel), tw_in (List.mem_of_getElem? (i := 53) (by decide +kernel)) (by decide +kernel), tw_in (List.mem_of_getElem? (i := 108) (by decide +kernel)) (by decide +kernel), by decide +kernel, rfl, by decide⟩
theorem ob_X3_3 : OB0 RX3 3 := ⟨tw_in (List.mem_of_getElem? (i := 109) (by decide +kernel)) (by decide +kernel), tw_in (List.mem_of_getElem? (i := 79) (by decide +kernel)) (by decide +kernel), tw_in (List.mem_of_getElem? (i := 80) (by decide +kernel)) (by decide +kernel)⟩
theorem nb_X6_23 : NB RX6 23 3 7 [.null, .null, .null, .null, .null, .null, .null] := ⟨RX2, TX2, tyX2, rfl, in_X2, tyX2_ok, tw_in (List.mem_of_getElem? (i := 127) (by decide +kernel)) (by decide +kernel), tw_in (List.mem_of_getElem? (i := 128) (by decide +kernel)) (by decide +kernel), tw_in (List.mem_of_getElem? (i := 54) (by decide +kernel)) (by decide +kernel), by decide +kernel⟩
theorem mi_X6_25 : MI RX6 25 yX2_init cX2_init 1 0 := ⟨Or.inr (List.mem_of_getElem? (i := 1) rfl), tw_in (List.mem_of_getElem? (i := 130) (by decide +kernel)) (by decide +kernel), tw_in (List.mem_of_getElem? (i := 54) (by decide +kernel)) (by decide +kernel), tw_in (List.mem_of_getElem? (i := 131) (by decide +kernel)) (by decide +kernel), by decide +kernel, rfl, by decide⟩
theorem ob_X2_3 : OB0 RX2 3 := ⟨tw_in (List.mem_of_getElem? (i := 132) (by decide +kernel)) (by decide +kernel), tw_in (List.mem_of_getElem? (i := 79) (by decide +kernel)) (by decide +kernel), tw_in (List.mem_of_getElem? (i := 80) (by decide +kernel)) (by decide +kernel)⟩
theorem nb_X2_9 : NB RX2 9 2 1 [.null] := ⟨RX1, TX1, tyX1, rfl, in_X1, tyX1_ok, tw_in (List.mem_of_getElem? (i := 133) (by decide +kernel)) (by decide +kernel), tw_in (List.mem_of_getElem? (i := 134) (by decide +kernel)) (by decide +kernel), tw_in (List.mem_of_getElem? (i := 55) (by decide +kernel)) (by decide +kernel), by decide +kernel⟩
theorem mi_X2_11 : MI RX2 11 yX1_init cX1_init 1 0 := ⟨Or.inr (List.mem_of_getElem? (i := 2) rfl), tw_in (List.mem_of_getElem? (i := 136) (by decide +kernel)) (by decide +kernel), tw_in (List.mem_of_getElem? (i := 55) (by decide +kernel)) (by decide +kernel), tw_in (List.mem_of_getElem? (i := 137) (by decide +kernel)) (by decide +kernel), by decide +kernel, rfl, by decide⟩
theorem ob_X1_3 : OB0 RX1 3 := ⟨tw_in (List.mem_of_getElem? (i := 138) (by decide +kernel)) (by decide +kernel), tw_in (List.mem_of_getElem? (i := 79) (by decide +kernel)) (by decide +kernel), tw_in (List.mem_of_getElem? (i := 80) (by decide +kernel)) (by decide +kernel)⟩
theorem nb_X6_38 : NB RX6 38 1 8 [.null, .null, .null, .null, .null, .null, .int 0, .int 0] := ⟨RX0, TX0, tyX0, rfl, in_X0, tyX0_ok, tw_in (List.mem_of_getElem? (i := 165) (by decide +kernel)) (by decide +kernel), tw_in (List.mem_of_getElem? (i := 166) (by decide +kernel)) (by decide +kernel), tw_in (List.mem_of_getElem? (i := 56) (by decide +kernel)) (by decide +kernel), by decide +kernel⟩
theorem mi_X6_40 : MI RX6 40 yX0_init cX0_init 1 0 := ⟨Or.inr (List.mem_of_getElem? (i := 3) rfl), tw_in (List.mem_of_getElem? (i := 168) (by decide +kernel)) (by decide +kernel), tw_in (List.mem_of_getElem? (i := 56) (by decide +kernel)) (by decide +kernel), tw_in (List.mem_of_getElem? (i := 169) (by decide +kernel)) (by decide +kernel), by decide +kernel, rfl, by decide⟩
theorem ob_X0_3 : OB0 RX0 3 := ⟨tw_in (List.mem_of_getElem? (i := 170) (by decide +kernel)) (by decide +kernel), tw_in (List.mem_of_getElem? (i := 79) (by decide +kernel)) (by decide +kernel), tw_in (List.mem_of_getElem? (i := 80) (by decide +kernel)) (by decide +kernel)⟩
theorem nb_X6_54 : NB RX6 54 6 1 [.null] := ⟨RX5, TX5, tyX5, rfl, in_X5, tyX5_ok, tw_in (List.mem_of_getElem? (i := 196) (by decide +kernel)) (by decide +kernel), tw_in (List.mem_of_getElem? (i := 197) (by decide +kernel)) (by decide +kernel), tw_in (List.mem_of_getElem? (i := 57) (by decide +kernel)) (by decide +kernel), by decide +kernel⟩
theorem mi_X6_56 : MI RX6 56 yX5_init cX5_init 3 1 := ⟨Or.inl (tw_in (List.mem_of_getElem? (i := 198) (by decide +kernel)) (by decide +kernel)), tw_in (List.mem_of_getElem? (i := 199) (by decide +kernel)) (by decide +kernel), tw_in (List.mem_of_getElem? (i := 57) (by decide +kernel)) (by decide +kernel), tw_in (List.mem_of_getElem? (i := 200) (by decide +kernel)) (by decide +kernel), by decide +kernel, rfl, by decide⟩
theorem ob_X5_1 : OB0 RX5 1 := ⟨tw_in (List.mem_of_getElem? (i := 201) (by decide +kernel)) (by decide +kernel), tw_in (List.mem_of_getElem? (i := 79) (by decide +kernel)) (by decide +kernel), tw_in (List.mem_of_getElem? (i := 80) (by decide +kernel)) (by decide +kernel)⟩
theorem nb_X5_7 : NB RX5 7 0 3 [.int 0, .null, .int 0] := ⟨RJx4a65c, TJx4a65c, tyJx4a65c, rfl, in_Jx4a65c, tyJx4a65c_ok, tw_in (List.mem_of_getElem? (i := 202) (by decide +kernel)) (by decide +kernel), tw_in (List.mem_of_getElem? (i := 203) (by decide +kernel)) (by decide +kernel), tw_in (List.mem_of_getElem? (i := 60) (by decide +kernel)) (by decide +kernel), by decide +kernel⟩
theorem mi_X5_9 : MI RX5 9 yJx4a65c_init_da8c8 cJx4a65c_init_da8c8 1 0 := ⟨Or.inl (tw_in (List.mem_of_getElem? (i := 204) (by decide +kernel)) (by decide +kernel)), tw_in (List.mem_of_getElem? (i := 205) (by decide +kernel)) (by decide +kernel), tw_in (List.mem_of_getElem? (i := 60) (by decide +kernel)) (by decide +kernel), tw_in (List.mem_of_getElem? (i := 206) (by decide +kernel)) (by decide +kernel), by decide +kernel, rfl, by decide⟩
theorem mi_Jx4a65c_1 : MI RJx4a65c 1 yJxc12de_init_da8c8 cJxc12de_init_da8c8 1 0 := ⟨Or.inl (tw_in (List.mem_of_getElem? (i := 207) (by decide +kernel)) (by decide +kernel)), tw_in (List.mem_of_getElem? (i := 208) (by decide +kernel)) (by decide +kernel), tw_in (List.mem_of_getElem? (i := 59) (by decide +kernel)) (by decide +kernel), tw_in (List.mem_of_getElem? (i := 209) (by decide +kernel)) (by decide +kernel), by decide +kernel, rfl, by decide⟩
theorem mi_Jxc12de_1 : MI RJxc12de 1 yJxa1e45_init_da8c8 cJxa1e45_init_da8c8 1 0 := ⟨Or.inl (tw_in (List.mem_of_getElem? (i := 210) (by decide +kernel)) (by decide +kernel)), tw_in (List.mem_of_getElem? (i := 211) (by decide +kernel)) (by decide +kernel), tw_in (List.mem_of_getElem? (i := 58) (by decide +kernel)) (by decide +kernel), tw_in (List.mem_of_getElem? (i := 212) (by decide +kernel)) (by decide +kernel), by decide +kernel, rfl, by decide⟩
theorem ob_Jxa1e45_1 : OB0 RJxa1e45 1 := ⟨tw_in (List.mem_of_getElem? (i := 213) (by decide +kernel)) (by decide +kernel), tw_in (List.mem_of_getElem? (i := 79) (by decide +kernel)) (by decide +kernel), tw_in (List.mem_of_getElem? (i := 80) (by decide +kernel)) (by decide +kernel)⟩
theorem nb_X5_16 : NB RX5 16 5 4 [.null, .null, .int 0, .int 0] := ⟨RX4, TX4, tyX4, rfl, in_X4, tyX4_ok, tw_in (List.mem_of_getElem? (i := 228) (by decide +kernel)) (by decide +kernel), tw_in (List.mem_of_getElem? (i := 82) (by decide +kernel)) (by decide +kernel), tw_in (List.mem_of_getElem? (i := 51) (by decide +kernel)) (by decide +kernel), by decide +kernel⟩
theorem mi_X5_18 : MI RX5 18 yX4_init cX4_init 1 0 := ⟨Or.inl (tw_in (List.mem_of_getElem? (i := 229) (by decide +kernel)) (by decide +kernel)), tw_in (List.mem_of_getElem? (i := 84) (by decide +kernel)) (by decide +kernel), tw_in (List.mem_of_getElem? (i := 51) (by decide +kernel)) (by decide +kernel), tw_in (List.mem_of_getElem? (i := 85) (by decide +kernel)) (by decide +kernel), by decide +kernel, rfl, by decide⟩
theorem pb_X4_9 : PB RX4 9 5 0 (.array .int) true := ⟨RX4, RX4, TX4, 4, tyX4, rfl, in_X4, by decide, tw_in (List.mem_of_getElem? (i := 90) (by decide +kernel)) (by decide +kernel), Or.inl rfl, tyX4_ok, nmX4, ⟨rfl, fun h => rfl⟩, by decide +kernel⟩
theorem pb_X4_15 : PB RX4 15 5 1 (.array .int) true := ⟨RX4, RX4, TX4, 4, tyX4, rfl, in_X4, by decide, tw_in (List.mem_of_getElem? (i := 91) (by decide +kernel)) (by decide +kernel), Or.inl rfl, tyX4_ok, nmX4, ⟨rfl, fun h => rfl⟩, by decide +kernel⟩
theorem pb_X4_18 : PB RX4 18 5 2 (.int) false := ⟨RX4, RX4, TX4, 4, tyX4, rfl, in_X4, by decide, tw_in (List.mem_of_getElem? (i := 92) (by decide +kernel)) (by decide +kernel), Or.inl rfl, tyX4_ok, nmX4, ⟨rfl, fun h => (by cases h)⟩, by decide +kernel⟩
theorem pb_X4_22 : PB RX4 22 5 3 (.int) false := ⟨RX4, RX4, TX4, 4, tyX4, rfl, in_X4, by decide, tw_in (List.mem_of_getElem? (i := 93) (by decide +kernel)) (by decide +kernel), Or.inl rfl, tyX4_ok, nmX4, ⟨rfl, fun h => (by cases h)⟩, by decide +kernel⟩
theorem pb_X3_9 : PB RX3 9 4 0 (.array .long) true := ⟨RX3, RX3, TX3, 5, tyX3, rfl, in_X3, by decide, tw_in (List.mem_of_getElem? (i := 110) (by decide +kernel)) (by decide +kernel), Or.inl rfl, tyX3_ok, nmX3, ⟨rfl, fun h => rfl⟩, by decide +kernel⟩
theorem pb_X3_15 : PB RX3 15 4 1 (.int) false := ⟨RX3, RX3, TX3, 5, tyX3, rfl, in_X3, by decide, tw_in (List.mem_of_getElem? (i := 111) (by decide +kernel)) (by decide +kernel), Or.inl rfl, tyX3_ok, nmX3, ⟨rfl, fun h => (by cases h)⟩, by decide +kernel⟩
theorem pb_X3_19 : PB RX3 19 4 2 (.array .int) true := ⟨RX3, RX3, TX3, 5, tyX3, rfl, in_X3, by decide, tw_in (List.mem_of_getElem? (i := 112) (by decide +kernel)) (by decide +kernel), Or.inl rfl, tyX3_ok, nmX3, ⟨rfl, fun h => rfl⟩, by decide +kernel⟩
theorem pb_X3_23 : PB RX3 23 4 3 (.array .int) true := ⟨RX3, RX3, TX3, 5, tyX3, rfl, in_X3, by decide, tw_in (List.mem_of_getElem? (i := 113) (by decide +kernel)) (by decide +kernel), Or.inl rfl, tyX3_ok, nmX3, ⟨rfl, fun h => rfl⟩, by decide +kernel⟩
theorem pb_X3_26 : PB RX3 26 4 4 (.int) false := ⟨RX3, RX3, TX3, 5, tyX3, rfl, in_X3, by decide, tw_in (List.mem_of_getElem? (i := 114) (by decide +kernel)) (by decide +kernel), Or.inl rfl, tyX3_ok, nmX3, ⟨rfl, fun h => (by cases h)⟩, by decide +kernel⟩
theorem pb_X1_11 : PB RX1 11 2 0 (.array .int) true := ⟨RX1, RX1, TX1, 1, tyX1, rfl, in_X1, by decide, tw_in (List.mem_of_getElem? (i := 139) (by decide +kernel)) (by decide +kernel), Or.inl rfl, tyX1_ok, nmX1, ⟨rfl, fun h => rfl⟩, by decide +kernel⟩
theorem pb_X2_12 : PB RX2 12 3 0 (.object "SlantSlate$Grid") true := ⟨RX2, RX2, TX2, 7, tyX2, rfl, in_X2, by decide, tw_in (List.mem_of_getElem? (i := 143) (by decide +kernel)) (by decide +kernel), Or.inl rfl, tyX2_ok, nmX2, ⟨rfl, fun h => rfl⟩, by decide +kernel⟩
theorem pb_X2_18 : PB RX2 18 3 1 (.object "SlantSlate$Grid") true := ⟨RX2, RX2, TX2, 7, tyX2, rfl, in_X2, by decide, tw_in (List.mem_of_getElem? (i := 144) (by decide +kernel)) (by decide +kernel), Or.inl rfl, tyX2_ok, nmX2, ⟨rfl, fun h => rfl⟩, by decide +kernel⟩
theorem pb_X2_21 : PB RX2 21 3 2 (.object "SlantSlate$Grid") true := ⟨RX2, RX2, TX2, 7, tyX2, rfl, in_X2, by decide, tw_in (List.mem_of_getElem? (i := 145) (by decide +kernel)) (by decide +kernel), Or.inl rfl, tyX2_ok, nmX2, ⟨rfl, fun h => rfl⟩, by decide +kernel⟩
theorem pb_X2_24 : PB RX2 24 3 3 (.object "SlantSlate$Grid") true := ⟨RX2, RX2, TX2, 7, tyX2, rfl, in_X2, by decide, tw_in (List.mem_of_getElem? (i := 146) (by decide +kernel)) (by decide +kernel), Or.inl rfl, tyX2_ok, nmX2, ⟨rfl, fun h => rfl⟩, by decide +kernel⟩
theorem pb_X2_27 : PB RX2 27 3 4 (.object "SlantSlate$Grid") true := ⟨RX2, RX2, TX2, 7, tyX2, rfl, in_X2, by decide, tw_in (List.mem_of_getElem? (i := 147) (by decide +kernel)) (by decide +kernel), Or.inl rfl, tyX2_ok, nmX2, ⟨rfl, fun h => rfl⟩, by decide +kernel⟩
theorem pb_X2_30 : PB RX2 30 3 5 (.object "SlantSlate$Grid") true := ⟨RX2, RX2, TX2, 7, tyX2, rfl, in_X2, by decide, tw_in (List.mem_of_getElem? (i := 148) (by decide +kernel)) (by decide +kernel), Or.inl rfl, tyX2_ok, nmX2, ⟨rfl, fun h => rfl⟩, by decide +kernel⟩
theorem pb_X2_33 : PB RX2 33 3 6 (.object "SlantSlate$Grid") true := ⟨RX2, RX2, TX2, 7, tyX2, rfl, in_X2, by decide, tw_in (List.mem_of_getElem? (i := 149) (by decide +kernel)) (by decide +kernel), Or.inl rfl, tyX2_ok, nmX2, ⟨rfl, fun h => rfl⟩, by decide +kernel⟩
theorem pb_X0_9 : PB RX0 9 1 0 (.array .int) true := ⟨RX0, RX0, TX0, 8, tyX0, rfl, in_X0, by decide, tw_in (List.mem_of_getElem? (i := 171) (by decide +kernel)) (by decide +kernel), Or.inl rfl, tyX0_ok, nmX0, ⟨rfl, fun h => rfl⟩, by decide +kernel⟩
theorem pb_X0_15 : PB RX0 15 1 1 (.array .int) true := ⟨RX0, RX0, TX0, 8, tyX0, rfl, in_X0, by decide, tw_in (List.mem_of_getElem? (i := 172) (by decide +kernel)) (by decide +kernel), Or.inl rfl, tyX0_ok, nmX0, ⟨rfl, fun h => rfl⟩, by decide +kernel⟩
theorem pb_X0_18 : PB RX0 18 1 2 (.array .int) true := ⟨RX0, RX0, TX0, 8, tyX0, rfl, in_X0, by decide, tw_in (List.mem_of_getElem? (i := 173) (by decide +kernel)) (by decide +kernel), Or.inl rfl, tyX0_ok, nmX0, ⟨rfl, fun h => rfl⟩, by decide +kernel⟩
theorem pb_X0_21 : PB RX0 21 1 3 (.array .int) true := ⟨RX0, RX0, TX0, 8, tyX0, rfl, in_X0, by decide, tw_in (List.mem_of_getElem? (i := 174) (by decide +kernel)) (by decide +kernel), Or.inl rfl, tyX0_ok, nmX0, ⟨rfl, fun h => rfl⟩, by decide +kernel⟩
theorem pb_X0_24 : PB RX0 24 1 4 (.array .int) true := ⟨RX0, RX0, TX0, 8, tyX0, rfl, in_X0, by decide, tw_in (List.mem_of_getElem? (i := 175) (by decide +kernel)) (by decide +kernel), Or.inl rfl, tyX0_ok, nmX0, ⟨rfl, fun h => rfl⟩, by decide +kernel⟩
theorem pb_X0_27 : PB RX0 27 1 5 (.array .int) true := ⟨RX0, RX0, TX0, 8, tyX0, rfl, in_X0, by decide, tw_in (List.mem_of_getElem? (i := 176) (by decide +kernel)) (by decide +kernel), Or.inl rfl, tyX0_ok, nmX0, ⟨rfl, fun h => rfl⟩, by decide +kernel⟩
theorem pb_X0_30 : PB RX0 30 1 6 (.int) false := ⟨RX0, RX0, TX0, 8, tyX0, rfl, in_X0, by decide, tw_in (List.mem_of_getElem? (i := 177) (by decide +kernel)) (by decide +kernel), Or.inl rfl, tyX0_ok, nmX0, ⟨rfl, fun h => (by cases h)⟩, by decide +kernel⟩
theorem pb_X0_34 : PB RX0 34 1 7 (.int) false := ⟨RX0, RX0, TX0, 8, tyX0, rfl, in_X0, by decide, tw_in (List.mem_of_getElem? (i := 178) (by decide +kernel)) (by decide +kernel), Or.inl rfl, tyX0_ok, nmX0, ⟨rfl, fun h => (by cases h)⟩, by decide +kernel⟩
theorem pb_Jx4a65c_9 : PB RJx4a65c 9 0 1 (.array (.object "java/lang/Object")) false := ⟨RJx4a65c, RJx4a65c, TJx4a65c, 3, tyJx4a65c, rfl, in_Jx4a65c, by decide, tw_in (List.mem_of_getElem? (i := 216) (by decide +kernel)) (by decide +kernel), Or.inl rfl, tyJx4a65c_ok, nmJx4a65c, ⟨rfl, fun h => (by cases h)⟩, by decide +kernel⟩
theorem pb_Jx4a65c_48 : PB RJx4a65c 48 0 2 (.int) false := ⟨RJx4a65c, RJx4a65c, TJx4a65c, 3, tyJx4a65c, rfl, in_Jx4a65c, by decide, tw_in (List.mem_of_getElem? (i := 217) (by decide +kernel)) (by decide +kernel), Or.inl rfl, tyJx4a65c_ok, nmJx4a65c, ⟨rfl, fun h => (by cases h)⟩, by decide +kernel⟩
theorem pb_Jxc12de_7 : PB RJxc12de 7 0 0 (.int) false := ⟨RJx4a65c, RJxc12de, TJx4a65c, 3, tyJx4a65c, rfl, in_Jx4a65c, by decide, tw_in (List.mem_of_getElem? (i := 218) (by decide +kernel)) (by decide +kernel), Or.inl rfl, tyJx4a65c_ok, nmJx4a65c, ⟨rfl, fun h => (by cases h)⟩, by decide +kernel⟩
theorem pb_Jx4a65c_63 : PB RJx4a65c 63 0 0 (.int) false := ⟨RJx4a65c, RJx4a65c, TJx4a65c, 3, tyJx4a65c, rfl, in_Jx4a65c, by decide, tw_in (List.mem_of_getElem? (i := 219) (by decide +kernel)) (by decide +kernel), Or.inr (tw_in (List.mem_of_getElem? (i := 220) (by decide +kernel)) (by decide +kernel)), tyJx4a65c_ok, nmJx4a65c, ⟨rfl, fun h => (by cases h)⟩, by decide +kernel⟩
theorem pb_X5_10 : PB RX5 10 6 0 (.object "java/util/ArrayList") true := ⟨RX5, RX5, TX5, 1, tyX5, rfl, in_X5, by decide, tw_in (List.mem_of_getElem? (i := 288) (by decide +kernel)) (by decide +kernel), Or.inl rfl, tyX5_ok, nmX5, ⟨rfl, fun h => rfl⟩, by decide +kernel⟩
theorem pb_X6_12 : PB RX6 12 7 0 (.object "SlantSlate$State") true := ⟨RX6, RX6, TX6, 15, tyX6, rfl, in_X6, by decide, tw_in (List.mem_of_getElem? (i := 292) (by decide +kernel)) (by decide +kernel), Or.inl rfl, tyX6_ok, nmX6, ⟨rfl, fun h => rfl⟩, by decide +kernel⟩
theorem pb_X6_19 : PB RX6 19 7 1 (.object "SlantSlate$Readings") true := ⟨RX6, RX6, TX6, 15, tyX6, rfl, in_X6, by decide, tw_in (List.mem_of_getElem? (i := 293) (by decide +kernel)) (by decide +kernel), Or.inl rfl, tyX6_ok, nmX6, ⟨rfl, fun h => rfl⟩, by decide +kernel⟩
theorem pb_X6_26 : PB RX6 26 7 2 (.object "SlantSlate$Parts") true := ⟨RX6, RX6, TX6, 15, tyX6, rfl, in_X6, by decide, tw_in (List.mem_of_getElem? (i := 294) (by decide +kernel)) (by decide +kernel), Or.inl rfl, tyX6_ok, nmX6, ⟨rfl, fun h => rfl⟩, by decide +kernel⟩
theorem pb_X6_30 : PB RX6 30 7 3 (.array .int) true := ⟨RX6, RX6, TX6, 15, tyX6, rfl, in_X6, by decide, tw_in (List.mem_of_getElem? (i := 295) (by decide +kernel)) (by decide +kernel), Or.inl rfl, tyX6_ok, nmX6, ⟨rfl, fun h => rfl⟩, by decide +kernel⟩
theorem pb_X6_34 : PB RX6 34 7 4 (.int) false := ⟨RX6, RX6, TX6, 15, tyX6, rfl, in_X6, by decide, tw_in (List.mem_of_getElem? (i := 296) (by decide +kernel)) (by decide +kernel), Or.inl rfl, tyX6_ok, nmX6, ⟨rfl, fun h => (by cases h)⟩, by decide +kernel⟩
theorem pb_X6_41 : PB RX6 41 7 5 (.object "SlantSlate$Drawing") true := ⟨RX6, RX6, TX6, 15, tyX6, rfl, in_X6, by decide, tw_in (List.mem_of_getElem? (i := 297) (by decide +kernel)) (by decide +kernel), Or.inl rfl, tyX6_ok, nmX6, ⟨rfl, fun h => rfl⟩, by decide +kernel⟩
theorem pb_X6_45 : PB RX6 45 7 6 (.object "SlantSlate$Drawing") true := ⟨RX6, RX6, TX6, 15, tyX6, rfl, in_X6, by decide, tw_in (List.mem_of_getElem? (i := 298) (by decide +kernel)) (by decide +kernel), Or.inl rfl, tyX6_ok, nmX6, ⟨rfl, fun h => rfl⟩, by decide +kernel⟩
theorem pb_X6_48 : PB RX6 48 7 7 (.object "SlantSlate$State") true := ⟨RX6, RX6, TX6, 15, tyX6, rfl, in_X6, by decide, tw_in (List.mem_of_getElem? (i := 299) (by decide +kernel)) (by decide +kernel), Or.inl rfl, tyX6_ok, nmX6, ⟨rfl, fun h => rfl⟩, by decide +kernel⟩
theorem pb_X6_51 : PB RX6 51 7 8 (.object "SlantSlate$Readings") true := ⟨RX6, RX6, TX6, 15, tyX6, rfl, in_X6, by decide, tw_in (List.mem_of_getElem? (i := 300) (by decide +kernel)) (by decide +kernel), Or.inl rfl, tyX6_ok, nmX6, ⟨rfl, fun h => rfl⟩, by decide +kernel⟩
theorem pb_X6_59 : PB RX6 59 7 9 (.object "SlantSlate$States") true := ⟨RX6, RX6, TX6, 15, tyX6, rfl, in_X6, by decide, tw_in (List.mem_of_getElem? (i := 301) (by decide +kernel)) (by decide +kernel), Or.inl rfl, tyX6_ok, nmX6, ⟨rfl, fun h => rfl⟩, by decide +kernel⟩
theorem pb_X6_63 : PB RX6 63 7 10 (.int) false := ⟨RX6, RX6, TX6, 15, tyX6, rfl, in_X6, by decide, tw_in (List.mem_of_getElem? (i := 302) (by decide +kernel)) (by decide +kernel), Or.inl rfl, tyX6_ok, nmX6, ⟨rfl, fun h => (by cases h)⟩, by decide +kernel⟩
theorem pb_X6_66 : PB RX6 66 7 11 (.object "SlantSlate$States") true := ⟨RX6, RX6, TX6, 15, tyX6, rfl, in_X6, by decide, tw_in (List.mem_of_getElem? (i := 303) (by decide +kernel)) (by decide +kernel), Or.inl rfl, tyX6_ok, nmX6, ⟨rfl, fun h => rfl⟩, by decide +kernel⟩
theorem pb_X6_69 : PB RX6 69 7 12 (.array .boolean) true := ⟨RX6, RX6, TX6, 15, tyX6, rfl, in_X6, by decide, tw_in (List.mem_of_getElem? (i := 304) (by decide +kernel)) (by decide +kernel), Or.inl rfl, tyX6_ok, nmX6, ⟨rfl, fun h => rfl⟩, by decide +kernel⟩
theorem pb_X6_73 : PB RX6 73 7 13 (.array .int) true := ⟨RX6, RX6, TX6, 15, tyX6, rfl, in_X6, by decide, tw_in (List.mem_of_getElem? (i := 305) (by decide +kernel)) (by decide +kernel), Or.inl rfl, tyX6_ok, nmX6, ⟨rfl, fun h => rfl⟩, by decide +kernel⟩
theorem pb_X6_76 : PB RX6 76 7 14 (.int) false := ⟨RX6, RX6, TX6, 15, tyX6, rfl, in_X6, by decide, tw_in (List.mem_of_getElem? (i := 306) (by decide +kernel)) (by decide +kernel), Or.inl rfl, tyX6_ok, nmX6, ⟨rfl, fun h => (by cases h)⟩, by decide +kernel⟩
theorem cl_obj : Cond.classLink RJx4a65c 7 "java/lang/Object" ∈ tw := tw_in (List.mem_of_getElem? (i := 287) (by decide +kernel)) (by decide +kernel)
theorem fz_39 : Cond.fieldLink RJx4a65c 39 "java/util/ArrayList" "DEFAULTCAPACITY_EMPTY_ELEMENTDATA" "[Ljava/lang/Object;" ∈ tw := tw_in (List.mem_of_getElem? (i := 214) (by decide +kernel)) (by decide +kernel)
end BFC
