section VX4
variable {X : Cxt} {own : String} {cc : ByteArray} {d kc ks k n pc : Nat} {ls : List (Option Value)} {st : List Value} {h : Hp}
theorem V_dconst0 (G : Gd X own cc d kc ks) (hd : decode cc pc = .ok (.dconst 0, 1)) (kk : V X k n (pc + 1) ls (.double FP.dconst0 :: st) h) : V X k n pc ls st h := by
  obtain ⟨p, l, e, R, s, m, args, below, meth, c, D, cA, A, Dp, Q, σ, nL⟩ := X
  obtain ⟨hx, hb, hml, hown, hts, hK, hadr, hA, hGE, hlk, hfr, hlo, hkc, hks⟩ := G
  intro H locs d0 lr g1 g2 g3 g4
  exact lv_dconst0 hx hb hd (kk H locs d0 lr g1 g2 g3 g4)
theorem V_dconst1 (G : Gd X own cc d kc ks) (hd : decode cc pc = .ok (.dconst 1, 1)) (kk : V X k n (pc + 1) ls (.double FP.dconst1 :: st) h) : V X k n pc ls st h := by
  obtain ⟨p, l, e, R, s, m, args, below, meth, c, D, cA, A, Dp, Q, σ, nL⟩ := X
  obtain ⟨hx, hb, hml, hown, hts, hK, hadr, hA, hGE, hlk, hfr, hlo, hkc, hks⟩ := G
  intro H locs d0 lr g1 g2 g3 g4
  exact lv_dconst1 hx hb hd (kk H locs d0 lr g1 g2 g3 g4)
theorem ac_nat : Cond.native arraycopyName ∈ tw := tw_in (List.mem_of_getElem? (i := 285) (by decide +kernel)) (by decide +kernel)
theorem ac_st : Cond.static arraycopyName ∈ tw := tw_in (List.mem_of_getElem? (i := 284) (by decide +kernel)) (by decide +kernel)
theorem ac_in : Cond.initialized "java/lang/System" ∈ tw := tw_in (List.mem_of_getElem? (i := 63) (by decide +kernel)) (by decide +kernel)
theorem ac_X4 : Cond.methodLink RX4 31 arraycopyName ∈ tw := tw_in (List.mem_of_getElem? (i := 437) (by decide +kernel)) (by decide +kernel)
theorem ac_JL : Cond.methodLink RJx4a65c 112 arraycopyName ∈ tw := tw_in (List.mem_of_getElem? (i := 758) (by decide +kernel)) (by decide +kernel)
/-- a copy within, or between, arrays of ints -/
def cpH (h : Hp) (q0 q1 : Nat) (sp dp m : Int) : Hp := (fun a b => if a = q1 ∧ dp ≤ b ∧ b < dp + m then h.1 q0 (sp + (b - dp)) else h.1 a b, h.2)
theorem hI_cpH {h : Hp} {q0 q1 a : Nat} {sp dp m b : Int} : hI (cpH h q0 q1 sp dp m) a b = if a = q1 ∧ dp ≤ b ∧ b < dp + m then hI h q0 (sp + (b - dp)) else hI h a b := rfl
theorem ce_cpH {σ : Nat → Nat} {cA : Nat → ClassId} {h : Hp} {q0 q1 : Nat} {sp dp m : Int} : ∀ j, j ≠ q1 → ce σ cA (cpH h q0 q1 sp dp m) j = ce σ cA h j := by
  intro j hj
  have e : (fun b => hI (cpH h q0 q1 sp dp m) j b) = fun b => hI h j b := by
    funext b
    rw [hI_cpH, if_neg (fun z => hj z.1)]
  show cek σ cA j (fun b => hI (cpH h q0 q1 sp dp m) j b) _ _ _ = cek σ cA j (fun b => hI h j b) _ _ _
  rw [e]
  rfl

theorem V_copyi (G : Gd X own cc d kc ks) {idx q0 q1 N0 N1 : Nat} {sp dp mm : Int} (hl : Cond.methodLink own idx arraycopyName ∈ tw) (hd : decode cc pc = .ok (.invokestatic idx, 3)) (hq0 : q0 < NN) (hq1 : q1 < NN) (hs0 : SH q0 = .inr (0, N0)) (hs1 : SH q1 = .inr (0, N1)) (hN0 : N0 ≤ 5000) (hN1 : N1 ≤ 5000) (h1 : 0 ≤ sp) (h2 : 0 ≤ dp) (h3 : 0 ≤ mm) (h4 : sp + mm ≤ N0) (h5 : dp + mm ≤ N1) (hst : (st.map fun v => v.category).sum ≤ 8) (hdd : 1 ≤ d) (kk : V X k n (pc + 3) ls st (cpH h q0 q1 sp dp mm)) : V X k n pc ls (.int (Int32.ofInt mm) :: .int (Int32.ofInt dp) :: .ref q1 :: .int (Int32.ofInt sp) :: .ref q0 :: st) h := by
  obtain ⟨p, l, e, R, s, m, args, below, meth, c, D, cA, A, Dp, Q, σ, nL⟩ := X
  obtain ⟨hx, hb, hml, hown, hts, hK, hadr, hA, hGE, hlk, hfr, hlo, hkc, hks⟩ := G
  intro H locs d0 lr g1 g2 g3 g4
  have e1 : (Int32.ofInt sp).toNatClampNeg = sp.toNat := Int32.toNatClampNeg_ofInt_of_le (by omega) (by omega)
  have e2 : (Int32.ofInt dp).toNatClampNeg = dp.toNat := Int32.toNatClampNeg_ofInt_of_le (by omega) (by omega)
  have e3 : (Int32.ofInt mm).toNatClampNeg = mm.toNat := Int32.toNatClampNeg_ofInt_of_le (by omega) (by omega)
  have ng : ∀ z : Int, 0 ≤ z → z ≤ 5000 → ¬ Int32.ofInt z < 0 := fun z z1 z2 q => by
    rw [Int32.lt_iff_toInt_lt, Int32.toInt_ofInt_of_le (by omega) (by omega)] at q
    simp at q
    omega
  have nw : nativeFrameWords "java/lang/System" "arraycopy" 5 ≤ 10 := by decide
  refine va_copyi (s := s.setDrawn d0) hx hb (hml.trans g4.2.1.symm) hown (dr_words hts d0 _ hl) (dr_words hts d0 _ ac_nat) (dr_words hts d0 _ ac_st) (dr_words hts d0 _ ac_in) hK g2 (adr_D hadr) g3 q0 q1 0 0 (by rw [wd_get hq0, ce_i hs0]) (by rw [wd_get hq1, ce_i hs1]) rfl rfl rfl (ng sp h1 (by omega)) (ng dp h2 (by omega)) (ng mm h3 (by omega)) (by omega) (by omega) (fun i _ => rfl) (by omega) (by have e : ((st.map (vm σ)).map fun v => v.category) = st.map fun v => v.category := (by simp [vm_cat]); rw [e]; omega) hd ?_
  intro H1 locs1 hP1 hD1 hS1
  refine kk H1 locs1 d0 lr g1 ?_ hS1 g4
  rw [e1, e2, e3] at hP1
  rw [wd_set (h' := cpH h q0 q1 sp dp mm) hq1 ?_ ce_cpH] at hP1
  · exact hP1
  · rw [ce_i hs1]
    congr 4
    funext j
    have ej : (va_cpy (fun j : Nat => Int32.ofInt (hI h q0 j)) (fun j : Nat => Int32.ofInt (hI h q1 j)) sp.toNat dp.toNat mm.toNat) j = if dp.toNat ≤ j ∧ j < dp.toNat + mm.toNat then Int32.ofInt (hI h q0 ((sp.toNat + (j - dp.toNat) : Nat) : Int)) else Int32.ofInt (hI h q1 j) := rfl
    rw [ej, hI_cpH]
    by_cases z : dp ≤ (j : Int) ∧ (j : Int) < dp + mm
    · rw [if_pos ⟨rfl, z⟩, if_pos (by omega)]
      congr 2
      omega
    · rw [if_neg (fun y => z y.2), if_neg (by omega)]

end VX4
