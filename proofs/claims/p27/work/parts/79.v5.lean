section VX5
variable {X : Cxt} {own : String} {cc : ByteArray} {d kc ks k n pc : Nat} {ls : List (Option Value)} {st : List Value} {h : Hp}
theorem cl_X5_16 : Cond.classLink RX5 16 "SlantSlate$State" ∈ tw := tw_in (List.mem_of_getElem? (i := 228) (by decide +kernel)) (by decide +kernel)
theorem V_null (G : Gd X own cc d kc ks) (hd : decode cc pc = .ok (.aconst_null, 1)) (kk : V X k n (pc + 1) ls (.null :: st) h) : V X k n pc ls st h := by
  obtain ⟨p, l, e, R, s, m, args, below, meth, c, D, cA, A, Dp, Q, σ, nL⟩ := X
  obtain ⟨hx, hb, hml, hown, hts, hK, hadr, hA, hGE, hlk, hfr, hlo, hkc, hks⟩ := G
  intro H locs d0 lr g1 g2 g3 g4
  exact lv_null hx hb hd (kk H locs d0 lr g1 g2 g3 g4)
theorem V_dupx1 (G : Gd X own cc d kc ks) {v v2 : Value} (hd : decode cc pc = .ok (.dup_x1, 1)) (hc : v.category = 1) (hc2 : v2.category = 1) (kk : V X k n (pc + 1) ls (v :: v2 :: v :: st) h) : V X k n pc ls (v :: v2 :: st) h := by
  obtain ⟨p, l, e, R, s, m, args, below, meth, c, D, cA, A, Dp, Q, σ, nL⟩ := X
  obtain ⟨hx, hb, hml, hown, hts, hK, hadr, hA, hGE, hlk, hfr, hlo, hkc, hks⟩ := G
  intro H locs d0 lr g1 g2 g3 g4
  exact lv_dup_x1 hx hb hd (by rw [vm_cat]; exact hc) (by rw [vm_cat]; exact hc2) (kk H locs d0 lr g1 g2 g3 g4)
theorem hR_sR {h : Hp} {q q2 : Nat} {j j2 : Int} {v : Option Nat} : hR (sR h q j v) q2 j2 = if q2 = q ∧ j2 = j then v else hR h q2 j2 := rfl
theorem hI_sR {h : Hp} {q : Nat} {j : Int} {v : Option Nat} : hI (sR h q j v) = hI h := rfl
theorem hL_sR {h : Hp} {q : Nat} {j : Int} {v : Option Nat} : hL (sR h q j v) = hL h := rfl
theorem vwSt : ∃ (T : u_T) (N : Nat), vwCl[5]? = some ("SlantSlate$State", T, N) := ⟨_, _, rfl⟩
theorem V_castSt (G : Gd X own cc d kc ks) {idx q : Nat} (hl : Cond.classLink own idx "SlantSlate$State" ∈ tw) (hd : decode cc pc = .ok (.checkcast idx, 3)) (hq : q < NN) (hs : SH q = .inl 5) (kk : V X k n (pc + 3) ls (.ref q :: st) h) : V X k n pc ls (.ref q :: st) h := by
  obtain ⟨p, l, e, R, s, m, args, below, meth, c, D, cA, A, Dp, Q, σ, nL⟩ := X
  obtain ⟨hx, hb, hml, hown, hts, hK, hadr, hA, hGE, hlk, hfr, hlo, hkc, hks⟩ := G
  intro H locs d0 lr g1 g2 g3 g4
  obtain ⟨T, N, hc⟩ := vwSt
  exact va_castE (s := s.setDrawn d0) hx hb hown (dr_words hts d0 _ hl) (va_recv (s := s.setDrawn d0) hK g2 hc (by rw [wd_get hq, ce_obj hs])) hd (kk H locs d0 lr g1 g2 g3 g4)
theorem V_aald (G : Gd X own cc d kc ks) {q N x : Nat} {i : Int} (hd : decode cc pc = .ok (.aaload, 1)) (hq : q < NN) (hs : SH q = .inr (3, N)) (hN : N ≤ 5000) (hin : 0 ≤ i ∧ i < N) (hr : hR h q i = some x) (kk : V X k n (pc + 1) ls (.ref x :: st) h) : V X k n pc ls (.int (Int32.ofInt i) :: .ref q :: st) h := by
  obtain ⟨p, l, e, R, s, m, args, below, meth, c, D, cA, A, Dp, Q, σ, nL⟩ := X
  obtain ⟨hx, hb, hml, hown, hts, hK, hadr, hA, hGE, hlk, hfr, hlo, hkc, hks⟩ := G
  intro H locs d0 lr g1 g2 g3 g4
  have e2 := zi_cast hin hN
  have kk2 := kk H locs d0 lr g1 g2 g3 g4
  refine va_aldq (s := s.setDrawn d0) (f := fun j : Nat => (hR h q j).map σ) hx hb hK g2 q 3 (by rw [wd_get hq, ce_q hs]) rfl (zi_in hin hN) hd ?_
  show W p l e R _ m args below meth c H locs k n Q (F0 m (pc + 1) lr (va_rf ((hR h q (((Int32.ofInt i).toNatClampNeg : Nat) : Int)).map σ) :: st.map (vm σ)))
  rw [e2, hr]
  exact kk2
theorem ceR {σ : Nat → Nat} {cA : Nat → ClassId} {h : Hp} {q N : Nat} {i : Int} {v : Option Nat} (hs : SH q = .inr (3, N)) (hN : N ≤ 5000) (hin : 0 ≤ i ∧ i < N) : ce σ cA (sR h q i v) q = .inl (cA 3, N, .inr (.inr (.inr (.inr (va_up (fun j : Nat => (hR h q j).map σ) (Int32.ofInt i).toNatClampNeg (v.map σ)))))) := by
  rw [ce_q hs]
  have e2 := zi_cast hin hN
  refine congrArg (fun f => (Sum.inl (cA 3, N, .inr (.inr (.inr (.inr f)))) : va_E)) (funext fun (j : Nat) => ?_)
  show (u2 h.2.2 q i v q (j : Int)).map σ = _
  unfold u2 va_up
  by_cases hj : (j : Int) = i
  · rw [if_pos ⟨rfl, hj⟩, if_pos (by omega)]
  · rw [if_neg (fun z => hj z.2), if_neg (by omega)]
    rfl
theorem V_aast (G : Gd X own cc d kc ks) {q N x : Nat} {i : Int} (hd : decode cc pc = .ok (.aastore, 1)) (hq : q < NN) (hs : SH q = .inr (3, N)) (hN : N ≤ 5000) (hin : 0 ≤ i ∧ i < N) (hx1 : x < NN) (hx2 : SH x = .inl 5) (kk : V X k n (pc + 1) ls st (sR h q i (some x))) : V X k n pc ls (.ref x :: .int (Int32.ofInt i) :: .ref q :: st) h := by
  obtain ⟨p, l, e, R, s, m, args, below, meth, c, D, cA, A, Dp, Q, σ, nL⟩ := X
  obtain ⟨hx, hb, hml, hown, hts, hK, hadr, hA, hGE, hlk, hfr, hlo, hkc, hks⟩ := G
  intro H locs d0 lr g1 g2 g3 g4
  obtain ⟨T, N2, hc⟩ := vwSt
  refine va_astqO (s := s.setDrawn d0) (f := fun j : Nat => (hR h q j).map σ) hx hb hK g2 (adr_D hadr) g3 q 3 x 5 (by rw [wd_get hq, ce_q hs]) rfl (va_Nw.same rfl rfl (hGE.2.1 ("SlantSlate$State", "java/lang/Object") (by simp [csl]))) (by rw [wd_get hx1, ce_obj hx2]) hc (zi_in hin hN) hd (fun H1 locs1 hP1 _ hS1 => kk H1 locs1 d0 lr g1 ?_ hS1 g4)
  have ec := ceR (σ := σ) (cA := cA) (h := h) (v := some x) hs hN hin
  simp only [Option.map_some] at ec
  rwa [wd_set (h' := sR h q i (some x)) hq ec ce_sR] at hP1
theorem V_aastN (G : Gd X own cc d kc ks) {q N : Nat} {i : Int} (hd : decode cc pc = .ok (.aastore, 1)) (hq : q < NN) (hs : SH q = .inr (3, N)) (hN : N ≤ 5000) (hin : 0 ≤ i ∧ i < N) (kk : V X k n (pc + 1) ls st (sR h q i none)) : V X k n pc ls (.null :: .int (Int32.ofInt i) :: .ref q :: st) h := by
  obtain ⟨p, l, e, R, s, m, args, below, meth, c, D, cA, A, Dp, Q, σ, nL⟩ := X
  obtain ⟨hx, hb, hml, hown, hts, hK, hadr, hA, hGE, hlk, hfr, hlo, hkc, hks⟩ := G
  intro H locs d0 lr g1 g2 g3 g4
  refine va_astqN (s := s.setDrawn d0) (f := fun j : Nat => (hR h q j).map σ) hx hb hK g2 (adr_D hadr) g3 q 3 (by rw [wd_get hq, ce_q hs]) rfl (zi_in hin hN) hd (fun H1 locs1 hP1 _ hS1 => kk H1 locs1 d0 lr g1 ?_ hS1 g4)
  have ec := ceR (σ := σ) (cA := cA) (h := h) (v := none) hs hN hin
  simp only [Option.map_none] at ec
  rwa [wd_set (h' := sR h q i none) hq ec ce_sR] at hP1
/-- a copy within, or between, arrays of references -/
def cpR (h : Hp) (q0 q1 : Nat) (sp dp m : Int) : Hp := (h.1, h.2.1, fun a b => if a = q1 ∧ dp ≤ b ∧ b < dp + m then h.2.2 q0 (sp + (b - dp)) else h.2.2 a b)
theorem hR_cpR {h : Hp} {q0 q1 a : Nat} {sp dp m b : Int} : hR (cpR h q0 q1 sp dp m) a b = if a = q1 ∧ dp ≤ b ∧ b < dp + m then hR h q0 (sp + (b - dp)) else hR h a b := rfl
theorem hI_cpR {h : Hp} {q0 q1 : Nat} {sp dp m : Int} : hI (cpR h q0 q1 sp dp m) = hI h := rfl
theorem hL_cpR {h : Hp} {q0 q1 : Nat} {sp dp m : Int} : hL (cpR h q0 q1 sp dp m) = hL h := rfl
theorem ce_cpR {σ : Nat → Nat} {cA : Nat → ClassId} {h : Hp} {q0 q1 : Nat} {sp dp m : Int} : ∀ j, j ≠ q1 → ce σ cA (cpR h q0 q1 sp dp m) j = ce σ cA h j := by
  intro j hj
  have e : (fun b => hR (cpR h q0 q1 sp dp m) j b) = fun b => hR h j b := by
    funext b
    rw [hR_cpR, if_neg (fun z => hj z.1)]
  show cek σ cA j _ _ (fun b => hR (cpR h q0 q1 sp dp m) j b) _ = cek σ cA j _ _ (fun b => hR h j b) _
  rw [e]
  rfl
theorem V_copyR (G : Gd X own cc d kc ks) {idx q0 q1 N0 N1 : Nat} {sp dp mm : Int} (hl : Cond.methodLink own idx arraycopyName ∈ tw) (hd : decode cc pc = .ok (.invokestatic idx, 3)) (hq0 : q0 < NN) (hq1 : q1 < NN) (hs0 : SH q0 = .inr (3, N0)) (hs1 : SH q1 = .inr (3, N1)) (hN0 : N0 ≤ 5000) (hN1 : N1 ≤ 5000) (h1 : 0 ≤ sp) (h2 : 0 ≤ dp) (h3 : 0 ≤ mm) (h4 : sp + mm ≤ N0) (h5 : dp + mm ≤ N1) (hel : ∀ j : Int, sp ≤ j → j < sp + mm → ∀ x, hR h q0 j = some x → x < NN ∧ SH x = .inl 5) (hst : (st.map fun v => v.category).sum ≤ 8) (hdd : 1 ≤ d) (kk : V X k n (pc + 3) ls st (cpR h q0 q1 sp dp mm)) : V X k n pc ls (.int (Int32.ofInt mm) :: .int (Int32.ofInt dp) :: .ref q1 :: .int (Int32.ofInt sp) :: .ref q0 :: st) h := by
  obtain ⟨p, l, e, R, s, m, args, below, meth, c, D, cA, A, Dp, Q, σ, nL⟩ := X
  obtain ⟨hx, hb, hml, hown, hts, hK, hadr, hA, hGE, hlk, hfr, hlo, hkc, hks⟩ := G
  intro H locs d0 lr g1 g2 g3 g4
  have e1 : (Int32.ofInt sp).toNatClampNeg = sp.toNat := Int32.toNatClampNeg_ofInt_of_le (by omega) (by omega)
  have e2 : (Int32.ofInt dp).toNatClampNeg = dp.toNat := Int32.toNatClampNeg_ofInt_of_le (by omega) (by omega)
  have e3 : (Int32.ofInt mm).toNatClampNeg = mm.toNat := Int32.toNatClampNeg_ofInt_of_le (by omega) (by omega)
  have ng : ∀ z : Int, 0 ≤ z → z ≤ 5000 → ¬ Int32.ofInt z < 0 := fun z z1 z2 q => by
    rw [Int32.lt_iff_toInt_lt, Int32.toInt_ofInt_of_le (by omega) (by omega)] at q
    simp at q
    omega
  have nw : nativeFrameWords "java/lang/System" "arraycopy" 5 ≤ 10 := by decide
  obtain ⟨T, N2, hc⟩ := vwSt
  have hcast : va_Nw (.castable "SlantSlate$State" "java/lang/Object") (s.setDrawn d0) := va_Nw.same rfl rfl (hGE.2.1 ("SlantSlate$State", "java/lang/Object") (by simp [csl]))
  refine va_copyq (s := s.setDrawn d0) (f := fun j : Nat => (hR h q0 j).map σ) (g := fun j : Nat => (hR h q1 j).map σ) (E0 := "java/lang/Object") (E1 := "java/lang/Object") (C := "SlantSlate$State") hx hb (hml.trans g4.2.1.symm) hown (dr_words hts d0 _ hl) (dr_words hts d0 _ ac_nat) (dr_words hts d0 _ ac_st) (dr_words hts d0 _ ac_in) hK g2 (adr_D hadr) g3 q0 q1 3 3 (by rw [wd_get hq0, ce_q hs0]) (by rw [wd_get hq1, ce_q hs1]) rfl rfl (ng sp h1 (by omega)) (ng dp h2 (by omega)) (ng mm h3 (by omega)) (by omega) (by omega) ?_ ?_ (by omega) (by have e : ((st.map (vm σ)).map fun v => v.category) = st.map fun v => v.category := (by simp [vm_cat]); rw [e]; omega) hd ?_
  · intro i hi y hy
    rw [e1] at hy
    rw [e3] at hi
    obtain ⟨x, hx1, hx2⟩ := Option.map_eq_some_iff.mp hy
    obtain ⟨a1, a2⟩ := hel _ (by omega) (by omega) x hx1
    subst hx2
    exact va_recv (s := s.setDrawn d0) hK g2 hc (by rw [wd_get a1, ce_obj a2])
  · intro comp c0 f1 f2
    obtain ⟨c3, t3, w1, w2, w3⟩ := Cond.castable_spec (va_Nw.use (A := args) rfl hcast)
    cases f1.symm.trans w2
    cases f2.symm.trans w1
    exact w3
  intro H1 locs1 hP1 hD1 hS1
  refine kk H1 locs1 d0 lr g1 ?_ hS1 g4
  rw [e1, e2, e3] at hP1
  rw [wd_set (h' := cpR h q0 q1 sp dp mm) hq1 ?_ ce_cpR] at hP1
  · exact hP1
  · rw [ce_q hs1]
    refine congrArg (fun f => (Sum.inl (cA 3, N1, .inr (.inr (.inr (.inr f)))) : va_E)) (funext fun (j : Nat) => ?_)
    show (hR (cpR h q0 q1 sp dp mm) q1 (j : Int)).map σ = _
    have ej : (va_cpy (fun j : Nat => (hR h q0 j).map σ) (fun j : Nat => (hR h q1 j).map σ) sp.toNat dp.toNat mm.toNat) j = if dp.toNat ≤ j ∧ j < dp.toNat + mm.toNat then (hR h q0 ((sp.toNat + (j - dp.toNat) : Nat) : Int)).map σ else (hR h q1 j).map σ := rfl
    rw [ej, hR_cpR]
    by_cases z : dp ≤ (j : Int) ∧ (j : Int) < dp + mm
    · rw [if_pos ⟨rfl, z⟩, if_pos (by omega)]
      congr 2
      omega
    · rw [if_neg (fun y => z y.2), if_neg (by omega)]

end VX5
