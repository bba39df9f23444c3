section C24
variable {X : Cxt} {own : String} {cc : ByteArray} {d kc ks k n pc : Nat} {ls : List (Option Value)} {st : List Value} {h : Hp}

def MSW (own : String) (idx : Nat) (y : MethodName) (bytes : ByteArray) (maxL : Nat) (ret : Option FieldType) (hh : List (Nat × Nat × Nat × Nat)) (na : Nat) : Prop := Cond.methodLink own idx y ∈ tw ∧ Cond.static y ∈ tw ∧ Cond.initialized y.cls ∈ tw ∧ Cond.codeWith y bytes maxL ret hh ∈ tw ∧ (y.cls ≠ "java/lang/invoke/MethodHandle" ∧ y.cls ≠ "java/lang/invoke/VarHandle" ∧ (parseMethodDescriptor y.desc).map (fun d => d.parameters.length) = some na) ∧ maxL ≤ 45
theorem gi_wsS {own : String} {idx : Nat} {y : MethodName} {bytes : ByteArray} {maxL : Nat} {ret : Option FieldType} {hh : List (Nat × Nat × Nat × Nat)} {na : Nat} (M : MSW own idx y bytes maxL ret hh na) : GoodIn tw (va_wsS own idx y (Cond.codeWith y bytes maxL ret hh :: tw)) := by
  obtain ⟨w1, w2, w3, w4, -⟩ := M
  intro w hw
  have hm : w ∈ tw := by
    unfold va_wsS at hw
    simp only [List.cons_append, List.nil_append, List.mem_cons] at hw
    rcases hw with rfl | rfl | rfl | rfl | hw
    · exact w1
    · exact w2
    · exact w3
    · exact w4
    · exact hw
  exact ⟨hm, good_of_word (tw_good hm)⟩
theorem lcmp_self (v : Int64) : lg_cmp v v = 0 := by simp [lg_cmp]
/-- the law's script, at place 98 -/
def SC (X : Cxt) (L : Nat) (xs : Nat → Int32) : Prop := match X with
  | (p, l, e, R, s, m, args, below, meth, c, D, cA, A, Dp, Q, σ, nL) => ∃ b, σ 98 = b ∧ b < s.heap.size ∧ ¬ A b ∧ va_X b L xs s s.heap
def xv (xs : Nat → Int32) (i : Int) : Int := (xs i.toNat).toInt
theorem xv_r (xs : Nat → Int32) (i : Int) : inr (xv xs i) := i32_inr _
theorem V_slen (G : Gd X own cc d kc ks) {L : Nat} {xs : Nat → Int32} (Y : SC X L xs) (hd : decode cc pc = .ok (.arraylength, 1)) (kk : V X k n (pc + 1) ls (.int (Int32.ofInt L) :: st) h) : V X k n pc ls (.ref 98 :: st) h := by
  obtain ⟨p, l, e, R, s, m, args, below, meth, c, D, cA, A, Dp, Q, σ, nL⟩ := X
  obtain ⟨hx, hb, hml, hown, hts, hK, hadr, hA, hGE, hlk, hfr, hlo, hkc, hks⟩ := G
  intro H locs d0 lr g1 g2 g3 g4
  obtain ⟨b, y1, y2, y3, y4⟩ := Y
  have kk2 := kk H locs d0 lr g1 g2 g3 g4
  rw [Int32.ofInt_eq_ofNat] at kk2
  show W p l e R _ m args below meth c H locs k n Q (F0 m pc lr (.ref (σ 98) :: st.map (vm σ)))
  rw [y1]
  exact va_slen (s := s.setDrawn d0) (H0 := s.heap) (A := A) hx hb y4 y2 y3 g3 hd kk2
theorem V_sld (G : Gd X own cc d kc ks) {L : Nat} {xs : Nat → Int32} (Y : SC X L xs) (hL : L ≤ 5000) {i : Int} (hd : decode cc pc = .ok (.iaload, 1)) (hin : 0 ≤ i ∧ i < L) (kk : V X k n (pc + 1) ls (.int (Int32.ofInt (xv xs i)) :: st) h) : V X k n pc ls (.int (Int32.ofInt i) :: .ref 98 :: st) h := by
  obtain ⟨p, l, e, R, s, m, args, below, meth, c, D, cA, A, Dp, Q, σ, nL⟩ := X
  obtain ⟨hx, hb, hml, hown, hts, hK, hadr, hA, hGE, hlk, hfr, hlo, hkc, hks⟩ := G
  intro H locs d0 lr g1 g2 g3 g4
  obtain ⟨b, y1, y2, y3, y4⟩ := Y
  have kk2 := kk H locs d0 lr g1 g2 g3 g4
  have e2 := zi_cast hin hL
  show W p l e R _ m args below meth c H locs k n Q (F0 m pc lr (.int (Int32.ofInt i) :: .ref (σ 98) :: st.map (vm σ)))
  rw [y1]
  refine va_sld (s := s.setDrawn d0) (H0 := s.heap) (A := A) hx hb y4 y2 y3 g3 (zi_in hin hL) hd ?_
  rw [show (Int32.ofInt i).toNatClampNeg = i.toNat by omega, ← Int32.ofInt_toInt (xs i.toNat)]
  exact kk2

theorem V_hS2 (G : Gd X own cc d kc ks) {idx maxL d1 kc1 ks1 : Nat} {y : MethodName} {bytes : ByteArray} {ret : Option FieldType} {hh : List (Nat × Nat × Nat × Nat)} {P : Int → Hp → Prop} {v0 v1 : Value} (M : MSW own idx y bytes maxL ret hh 2) (hd : decode cc pc = .ok (.invokestatic idx, 3)) (hC : CH X.2.1 d1 kc1 ks1 y bytes maxL ret hh [v0, v1] h (pI P)) (hdd : d1 + 1 ≤ d) (hk : k + kc1 ≤ kc) (hn : n + ks1 ≤ ks) (hst : (st.map fun v => v.category).sum ≤ 8) (kk : ∀ (x : Int) (h1 : Hp), P x h1 → V X (k + kc1) (n + ks1) (pc + 3) ls (.int (Int32.ofInt x) :: st) h1) : V X k n pc ls (v1 :: v0 :: st) h := by
  obtain ⟨p, l, e, R, s, m, args, below, meth, c, D, cA, A, Dp, Q, σ, nL⟩ := X
  obtain ⟨hx, hb, hml, hown, hts, hK, hadr, hA, hGE, hlk, hfr, hlo, hkc, hks⟩ := G
  intro H locs d0 lr g1 g2 g3 g4
  have gi := gi_wsS M
  obtain ⟨w1, w2, w3, w4, w5, w6⟩ := M
  have hst2 : ((st.map (vm σ)).map fun v => v.category).sum ≤ 8 := by
    rw [List.map_map, show ((fun v : Value => v.category) ∘ vm σ) = fun v => v.category from funext fun v => vm_cat]; exact hst
  refine va_callG (vx_runSW (As := [vm σ v0, vm σ v1]) (rest := st.map (vm σ)) (nL := nL) ⟨hx, hb, hml, hown, dr_words hts d0⟩ (hC D cA σ H.size) (vx_cwSW 2 (dr_words hts d0) gi rfl rfl rfl w5 ⟨by show d1 + 1 ≤ R.frames; omega, by show 8 + (maxL + 11) + 64 * d1 ≤ R.locals; omega⟩) ⟨blind_PCd, fun U hU hW => ⟨rfl, by rw [hU], by rw [hU]; exact g2, va_K.moved hW.alike hK, adr_of hadr _ (fun _ _ => trivial), by rw [hU]; exact GE.pass hGE g3 (show s.WarmedH U.vm from hW) (fun q hq1 hq2 => by
    rcases hq2 with ⟨i, hi, rfl⟩ | hq2
    · exact hadr.2 i hi
    · omega)⟩⟩ rfl rfl g4.2.1 rfl (lv_room hst2) hd ⟨by omega, by omega⟩) g3 (fun q hq1 hq2 => by
      rcases hq2 with ⟨i, hi, rfl⟩ | hq2
      · exact hadr.2 i hi
      · omega) (fun q hq2 => by
      rcases hq2 with ⟨i, hi, rfl⟩ | hq2
      · exact hadr.2 i hi
      · exact hA q (Nat.le_trans g3.1 hq2)) (fun r h1 H1 locs1 hp hP1 hS1 => ?_)
  obtain ⟨x, rfl, hp⟩ := hp
  exact kk x h1 hp H1 locs1 d0 lr g1 hP1 hS1 g4
theorem V_hS3 (G : Gd X own cc d kc ks) {idx maxL d1 kc1 ks1 : Nat} {y : MethodName} {bytes : ByteArray} {ret : Option FieldType} {hh : List (Nat × Nat × Nat × Nat)} {P : Int → Hp → Prop} {v0 v1 v2 : Value} (M : MSW own idx y bytes maxL ret hh 3) (hd : decode cc pc = .ok (.invokestatic idx, 3)) (hC : CH X.2.1 d1 kc1 ks1 y bytes maxL ret hh [v0, v1, v2] h (pI P)) (hdd : d1 + 1 ≤ d) (hk : k + kc1 ≤ kc) (hn : n + ks1 ≤ ks) (hst : (st.map fun v => v.category).sum ≤ 8) (kk : ∀ (x : Int) (h1 : Hp), P x h1 → V X (k + kc1) (n + ks1) (pc + 3) ls (.int (Int32.ofInt x) :: st) h1) : V X k n pc ls (v2 :: v1 :: v0 :: st) h := by
  obtain ⟨p, l, e, R, s, m, args, below, meth, c, D, cA, A, Dp, Q, σ, nL⟩ := X
  obtain ⟨hx, hb, hml, hown, hts, hK, hadr, hA, hGE, hlk, hfr, hlo, hkc, hks⟩ := G
  intro H locs d0 lr g1 g2 g3 g4
  have gi := gi_wsS M
  obtain ⟨w1, w2, w3, w4, w5, w6⟩ := M
  have hst2 : ((st.map (vm σ)).map fun v => v.category).sum ≤ 8 := by
    rw [List.map_map, show ((fun v : Value => v.category) ∘ vm σ) = fun v => v.category from funext fun v => vm_cat]; exact hst
  refine va_callG (vx_runSW (As := [vm σ v0, vm σ v1, vm σ v2]) (rest := st.map (vm σ)) (nL := nL) ⟨hx, hb, hml, hown, dr_words hts d0⟩ (hC D cA σ H.size) (vx_cwSW 3 (dr_words hts d0) gi rfl rfl rfl w5 ⟨by show d1 + 1 ≤ R.frames; omega, by show 8 + (maxL + 11) + 64 * d1 ≤ R.locals; omega⟩) ⟨blind_PCd, fun U hU hW => ⟨rfl, by rw [hU], by rw [hU]; exact g2, va_K.moved hW.alike hK, adr_of hadr _ (fun _ _ => trivial), by rw [hU]; exact GE.pass hGE g3 (show s.WarmedH U.vm from hW) (fun q hq1 hq2 => by
    rcases hq2 with ⟨i, hi, rfl⟩ | hq2
    · exact hadr.2 i hi
    · omega)⟩⟩ rfl rfl g4.2.1 rfl (lv_room hst2) hd ⟨by omega, by omega⟩) g3 (fun q hq1 hq2 => by
      rcases hq2 with ⟨i, hi, rfl⟩ | hq2
      · exact hadr.2 i hi
      · omega) (fun q hq2 => by
      rcases hq2 with ⟨i, hi, rfl⟩ | hq2
      · exact hadr.2 i hi
      · exact hA q (Nat.le_trans g3.1 hq2)) (fun r h1 H1 locs1 hp hP1 hS1 => ?_)
  obtain ⟨x, rfl, hp⟩ := hp
  exact kk x h1 hp H1 locs1 d0 lr g1 hP1 hS1 g4
theorem V_hS4 (G : Gd X own cc d kc ks) {idx maxL d1 kc1 ks1 : Nat} {y : MethodName} {bytes : ByteArray} {ret : Option FieldType} {hh : List (Nat × Nat × Nat × Nat)} {P : Int → Hp → Prop} {v0 v1 v2 v3 : Value} (M : MSW own idx y bytes maxL ret hh 4) (hd : decode cc pc = .ok (.invokestatic idx, 3)) (hC : CH X.2.1 d1 kc1 ks1 y bytes maxL ret hh [v0, v1, v2, v3] h (pI P)) (hdd : d1 + 1 ≤ d) (hk : k + kc1 ≤ kc) (hn : n + ks1 ≤ ks) (hst : (st.map fun v => v.category).sum ≤ 8) (kk : ∀ (x : Int) (h1 : Hp), P x h1 → V X (k + kc1) (n + ks1) (pc + 3) ls (.int (Int32.ofInt x) :: st) h1) : V X k n pc ls (v3 :: v2 :: v1 :: v0 :: st) h := by
  obtain ⟨p, l, e, R, s, m, args, below, meth, c, D, cA, A, Dp, Q, σ, nL⟩ := X
  obtain ⟨hx, hb, hml, hown, hts, hK, hadr, hA, hGE, hlk, hfr, hlo, hkc, hks⟩ := G
  intro H locs d0 lr g1 g2 g3 g4
  have gi := gi_wsS M
  obtain ⟨w1, w2, w3, w4, w5, w6⟩ := M
  have hst2 : ((st.map (vm σ)).map fun v => v.category).sum ≤ 8 := by
    rw [List.map_map, show ((fun v : Value => v.category) ∘ vm σ) = fun v => v.category from funext fun v => vm_cat]; exact hst
  refine va_callG (vx_runSW (As := [vm σ v0, vm σ v1, vm σ v2, vm σ v3]) (rest := st.map (vm σ)) (nL := nL) ⟨hx, hb, hml, hown, dr_words hts d0⟩ (hC D cA σ H.size) (vx_cwSW 4 (dr_words hts d0) gi rfl rfl rfl w5 ⟨by show d1 + 1 ≤ R.frames; omega, by show 8 + (maxL + 11) + 64 * d1 ≤ R.locals; omega⟩) ⟨blind_PCd, fun U hU hW => ⟨rfl, by rw [hU], by rw [hU]; exact g2, va_K.moved hW.alike hK, adr_of hadr _ (fun _ _ => trivial), by rw [hU]; exact GE.pass hGE g3 (show s.WarmedH U.vm from hW) (fun q hq1 hq2 => by
    rcases hq2 with ⟨i, hi, rfl⟩ | hq2
    · exact hadr.2 i hi
    · omega)⟩⟩ rfl rfl g4.2.1 rfl (lv_room hst2) hd ⟨by omega, by omega⟩) g3 (fun q hq1 hq2 => by
      rcases hq2 with ⟨i, hi, rfl⟩ | hq2
      · exact hadr.2 i hi
      · omega) (fun q hq2 => by
      rcases hq2 with ⟨i, hi, rfl⟩ | hq2
      · exact hadr.2 i hi
      · exact hA q (Nat.le_trans g3.1 hq2)) (fun r h1 H1 locs1 hp hP1 hS1 => ?_)
  obtain ⟨x, rfl, hp⟩ := hp
  exact kk x h1 hp H1 locs1 d0 lr g1 hP1 hS1 g4
theorem V_hS5 (G : Gd X own cc d kc ks) {idx maxL d1 kc1 ks1 : Nat} {y : MethodName} {bytes : ByteArray} {ret : Option FieldType} {hh : List (Nat × Nat × Nat × Nat)} {P : Int → Hp → Prop} {v0 v1 v2 v3 v4 : Value} (M : MSW own idx y bytes maxL ret hh 5) (hd : decode cc pc = .ok (.invokestatic idx, 3)) (hC : CH X.2.1 d1 kc1 ks1 y bytes maxL ret hh [v0, v1, v2, v3, v4] h (pI P)) (hdd : d1 + 1 ≤ d) (hk : k + kc1 ≤ kc) (hn : n + ks1 ≤ ks) (hst : (st.map fun v => v.category).sum ≤ 8) (kk : ∀ (x : Int) (h1 : Hp), P x h1 → V X (k + kc1) (n + ks1) (pc + 3) ls (.int (Int32.ofInt x) :: st) h1) : V X k n pc ls (v4 :: v3 :: v2 :: v1 :: v0 :: st) h := by
  obtain ⟨p, l, e, R, s, m, args, below, meth, c, D, cA, A, Dp, Q, σ, nL⟩ := X
  obtain ⟨hx, hb, hml, hown, hts, hK, hadr, hA, hGE, hlk, hfr, hlo, hkc, hks⟩ := G
  intro H locs d0 lr g1 g2 g3 g4
  have gi := gi_wsS M
  obtain ⟨w1, w2, w3, w4, w5, w6⟩ := M
  have hst2 : ((st.map (vm σ)).map fun v => v.category).sum ≤ 8 := by
    rw [List.map_map, show ((fun v : Value => v.category) ∘ vm σ) = fun v => v.category from funext fun v => vm_cat]; exact hst
  refine va_callG (vx_runSW (As := [vm σ v0, vm σ v1, vm σ v2, vm σ v3, vm σ v4]) (rest := st.map (vm σ)) (nL := nL) ⟨hx, hb, hml, hown, dr_words hts d0⟩ (hC D cA σ H.size) (vx_cwSW 5 (dr_words hts d0) gi rfl rfl rfl w5 ⟨by show d1 + 1 ≤ R.frames; omega, by show 8 + (maxL + 11) + 64 * d1 ≤ R.locals; omega⟩) ⟨blind_PCd, fun U hU hW => ⟨rfl, by rw [hU], by rw [hU]; exact g2, va_K.moved hW.alike hK, adr_of hadr _ (fun _ _ => trivial), by rw [hU]; exact GE.pass hGE g3 (show s.WarmedH U.vm from hW) (fun q hq1 hq2 => by
    rcases hq2 with ⟨i, hi, rfl⟩ | hq2
    · exact hadr.2 i hi
    · omega)⟩⟩ rfl rfl g4.2.1 rfl (lv_room hst2) hd ⟨by omega, by omega⟩) g3 (fun q hq1 hq2 => by
      rcases hq2 with ⟨i, hi, rfl⟩ | hq2
      · exact hadr.2 i hi
      · omega) (fun q hq2 => by
      rcases hq2 with ⟨i, hi, rfl⟩ | hq2
      · exact hadr.2 i hi
      · exact hA q (Nat.le_trans g3.1 hq2)) (fun r h1 H1 locs1 hp hP1 hS1 => ?_)
  obtain ⟨x, rfl, hp⟩ := hp
  exact kk x h1 hp H1 locs1 d0 lr g1 hP1 hS1 g4
theorem mw_L_77 : MSW RL 77 yL_add cL_add 4 (Option.some Jvm.ClassFile.FieldType.int) [(0, 9, 12, 13), (0, 9, 15, 15)] 3 := ⟨tw_in (List.mem_of_getElem? (i := 728) (by decide +kernel)) (by decide +kernel), tw_in (List.mem_of_getElem? (i := 729) (by decide +kernel)) (by decide +kernel), tw_in (List.mem_of_getElem? (i := 113) (by decide +kernel)) (by decide +kernel), tw_in (List.mem_of_getElem? (i := 730) (by decide +kernel)) (by decide +kernel), by decide +kernel, by decide⟩
theorem mw_L_86 : MSW RL 86 yL_change cL_change 5 (Option.some Jvm.ClassFile.FieldType.int) [(0, 10, 13, 21), (0, 10, 17, 13)] 4 := ⟨tw_in (List.mem_of_getElem? (i := 925) (by decide +kernel)) (by decide +kernel), tw_in (List.mem_of_getElem? (i := 926) (by decide +kernel)) (by decide +kernel), tw_in (List.mem_of_getElem? (i := 113) (by decide +kernel)) (by decide +kernel), tw_in (List.mem_of_getElem? (i := 927) (by decide +kernel)) (by decide +kernel), by decide +kernel, by decide⟩
theorem mw_L_90 : MSW RL 90 yL_wipe cL_wipe 4 (Option.some Jvm.ClassFile.FieldType.int) [(0, 9, 12, 21)] 3 := ⟨tw_in (List.mem_of_getElem? (i := 958) (by decide +kernel)) (by decide +kernel), tw_in (List.mem_of_getElem? (i := 959) (by decide +kernel)) (by decide +kernel), tw_in (List.mem_of_getElem? (i := 113) (by decide +kernel)) (by decide +kernel), tw_in (List.mem_of_getElem? (i := 960) (by decide +kernel)) (by decide +kernel), by decide +kernel, by decide⟩
theorem mw_L_93 : MSW RL 93 yL_fix cL_fix 5 (Option.some Jvm.ClassFile.FieldType.int) [(0, 10, 13, 21), (0, 10, 17, 15)] 4 := ⟨tw_in (List.mem_of_getElem? (i := 969) (by decide +kernel)) (by decide +kernel), tw_in (List.mem_of_getElem? (i := 970) (by decide +kernel)) (by decide +kernel), tw_in (List.mem_of_getElem? (i := 113) (by decide +kernel)) (by decide +kernel), tw_in (List.mem_of_getElem? (i := 971) (by decide +kernel)) (by decide +kernel), by decide +kernel, by decide⟩
theorem mw_L_96 : MSW RL 96 yL_loosen cL_loosen 4 (Option.some Jvm.ClassFile.FieldType.int) [(0, 9, 12, 21)] 3 := ⟨tw_in (List.mem_of_getElem? (i := 990) (by decide +kernel)) (by decide +kernel), tw_in (List.mem_of_getElem? (i := 991) (by decide +kernel)) (by decide +kernel), tw_in (List.mem_of_getElem? (i := 113) (by decide +kernel)) (by decide +kernel), tw_in (List.mem_of_getElem? (i := 992) (by decide +kernel)) (by decide +kernel), by decide +kernel, by decide⟩
theorem mw_L_99 : MSW RL 99 yL_draw cL_draw 4 (Option.some Jvm.ClassFile.FieldType.int) [(0, 9, 12, 21)] 3 := ⟨tw_in (List.mem_of_getElem? (i := 997) (by decide +kernel)) (by decide +kernel), tw_in (List.mem_of_getElem? (i := 998) (by decide +kernel)) (by decide +kernel), tw_in (List.mem_of_getElem? (i := 113) (by decide +kernel)) (by decide +kernel), tw_in (List.mem_of_getElem? (i := 999) (by decide +kernel)) (by decide +kernel), by decide +kernel, by decide⟩
theorem mw_L_102 : MSW RL 102 yL_flatten cL_flatten 3 (Option.some Jvm.ClassFile.FieldType.int) [(0, 8, 11, 15)] 2 := ⟨tw_in (List.mem_of_getElem? (i := 1009) (by decide +kernel)) (by decide +kernel), tw_in (List.mem_of_getElem? (i := 1010) (by decide +kernel)) (by decide +kernel), tw_in (List.mem_of_getElem? (i := 113) (by decide +kernel)) (by decide +kernel), tw_in (List.mem_of_getElem? (i := 1011) (by decide +kernel)) (by decide +kernel), by decide +kernel, by decide⟩
theorem mw_L_106 : MSW RL 106 yL_append cL_append 4 (Option.some Jvm.ClassFile.FieldType.int) [(0, 9, 12, 13), (0, 9, 15, 15)] 3 := ⟨tw_in (List.mem_of_getElem? (i := 1021) (by decide +kernel)) (by decide +kernel), tw_in (List.mem_of_getElem? (i := 1022) (by decide +kernel)) (by decide +kernel), tw_in (List.mem_of_getElem? (i := 113) (by decide +kernel)) (by decide +kernel), tw_in (List.mem_of_getElem? (i := 1023) (by decide +kernel)) (by decide +kernel), by decide +kernel, by decide⟩
theorem mw_L_117 : MSW RL 117 yL_load cL_load 3 (Option.some Jvm.ClassFile.FieldType.int) [(0, 8, 11, 13)] 2 := ⟨tw_in (List.mem_of_getElem? (i := 1034) (by decide +kernel)) (by decide +kernel), tw_in (List.mem_of_getElem? (i := 1035) (by decide +kernel)) (by decide +kernel), tw_in (List.mem_of_getElem? (i := 113) (by decide +kernel)) (by decide +kernel), tw_in (List.mem_of_getElem? (i := 1036) (by decide +kernel)) (by decide +kernel), by decide +kernel, by decide⟩
theorem mw_L_120 : MSW RL 120 yL_write cL_write 3 (Option.some Jvm.ClassFile.FieldType.int) [(0, 8, 11, 15)] 2 := ⟨tw_in (List.mem_of_getElem? (i := 1046) (by decide +kernel)) (by decide +kernel), tw_in (List.mem_of_getElem? (i := 1047) (by decide +kernel)) (by decide +kernel), tw_in (List.mem_of_getElem? (i := 113) (by decide +kernel)) (by decide +kernel), tw_in (List.mem_of_getElem? (i := 1048) (by decide +kernel)) (by decide +kernel), by decide +kernel, by decide⟩
theorem mw_L_123 : MSW RL 123 yL_keep cL_keep 4 (Option.some Jvm.ClassFile.FieldType.int) [(0, 9, 12, 13)] 3 := ⟨tw_in (List.mem_of_getElem? (i := 1061) (by decide +kernel)) (by decide +kernel), tw_in (List.mem_of_getElem? (i := 1062) (by decide +kernel)) (by decide +kernel), tw_in (List.mem_of_getElem? (i := 113) (by decide +kernel)) (by decide +kernel), tw_in (List.mem_of_getElem? (i := 1063) (by decide +kernel)) (by decide +kernel), by decide +kernel, by decide⟩
theorem mw_L_126 : MSW RL 126 yL_goBack cL_goBack 4 (Option.some Jvm.ClassFile.FieldType.int) [(0, 9, 12, 13), (0, 9, 15, 15)] 3 := ⟨tw_in (List.mem_of_getElem? (i := 1073) (by decide +kernel)) (by decide +kernel), tw_in (List.mem_of_getElem? (i := 1074) (by decide +kernel)) (by decide +kernel), tw_in (List.mem_of_getElem? (i := 113) (by decide +kernel)) (by decide +kernel), tw_in (List.mem_of_getElem? (i := 1075) (by decide +kernel)) (by decide +kernel), by decide +kernel, by decide⟩
theorem mw_L_129 : MSW RL 129 yL_undo cL_undo 3 (Option.some Jvm.ClassFile.FieldType.int) [(0, 8, 11, 15)] 2 := ⟨tw_in (List.mem_of_getElem? (i := 1085) (by decide +kernel)) (by decide +kernel), tw_in (List.mem_of_getElem? (i := 1086) (by decide +kernel)) (by decide +kernel), tw_in (List.mem_of_getElem? (i := 113) (by decide +kernel)) (by decide +kernel), tw_in (List.mem_of_getElem? (i := 1087) (by decide +kernel)) (by decide +kernel), by decide +kernel, by decide⟩
theorem mw_L_132 : MSW RL 132 yL_wordOf cL_wordOf 5 (Option.some Jvm.ClassFile.FieldType.int) [(0, 10, 13, 21), (0, 10, 17, 13)] 4 := ⟨tw_in (List.mem_of_getElem? (i := 1093) (by decide +kernel)) (by decide +kernel), tw_in (List.mem_of_getElem? (i := 1094) (by decide +kernel)) (by decide +kernel), tw_in (List.mem_of_getElem? (i := 113) (by decide +kernel)) (by decide +kernel), tw_in (List.mem_of_getElem? (i := 1095) (by decide +kernel)) (by decide +kernel), by decide +kernel, by decide⟩
theorem mw_L_135 : MSW RL 135 yL_readingOf cL_readingOf 5 (Option.some Jvm.ClassFile.FieldType.int) [(0, 10, 13, 21), (0, 10, 17, 13)] 4 := ⟨tw_in (List.mem_of_getElem? (i := 1105) (by decide +kernel)) (by decide +kernel), tw_in (List.mem_of_getElem? (i := 1106) (by decide +kernel)) (by decide +kernel), tw_in (List.mem_of_getElem? (i := 113) (by decide +kernel)) (by decide +kernel), tw_in (List.mem_of_getElem? (i := 1107) (by decide +kernel)) (by decide +kernel), by decide +kernel, by decide⟩
theorem mw_L_138 : MSW RL 138 yL_count cL_count 4 (Option.some Jvm.ClassFile.FieldType.int) [(0, 9, 12, 13)] 3 := ⟨tw_in (List.mem_of_getElem? (i := 1112) (by decide +kernel)) (by decide +kernel), tw_in (List.mem_of_getElem? (i := 1113) (by decide +kernel)) (by decide +kernel), tw_in (List.mem_of_getElem? (i := 113) (by decide +kernel)) (by decide +kernel), tw_in (List.mem_of_getElem? (i := 1114) (by decide +kernel)) (by decide +kernel), by decide +kernel, by decide⟩
theorem mw_L_141 : MSW RL 141 yL_part cL_part 6 (Option.some Jvm.ClassFile.FieldType.int) [(0, 12, 15, 21), (0, 12, 19, 13)] 5 := ⟨tw_in (List.mem_of_getElem? (i := 1119) (by decide +kernel)) (by decide +kernel), tw_in (List.mem_of_getElem? (i := 1120) (by decide +kernel)) (by decide +kernel), tw_in (List.mem_of_getElem? (i := 113) (by decide +kernel)) (by decide +kernel), tw_in (List.mem_of_getElem? (i := 1121) (by decide +kernel)) (by decide +kernel), by decide +kernel, by decide⟩
theorem mw_L_145 : MSW RL 145 yL_ifFixed cL_ifFixed 5 (Option.some Jvm.ClassFile.FieldType.int) [(0, 10, 13, 21)] 4 := ⟨tw_in (List.mem_of_getElem? (i := 1127) (by decide +kernel)) (by decide +kernel), tw_in (List.mem_of_getElem? (i := 1128) (by decide +kernel)) (by decide +kernel), tw_in (List.mem_of_getElem? (i := 113) (by decide +kernel)) (by decide +kernel), tw_in (List.mem_of_getElem? (i := 1129) (by decide +kernel)) (by decide +kernel), by decide +kernel, by decide⟩

theorem inv_opWord {g : Sg} (I : InvS g) (w q : Int) : InvS (opWord g w q).2.2 := by
  unfold opWord
  repeat' split
  all_goals exact I
theorem inv_opRead {g : Sg} (I : InvS g) (p q : Int) : InvS (opRead g p q).2.2 := by
  unfold opRead
  repeat' split
  all_goals exact I
theorem inv_opCount {g : Sg} (I : InvS g) (q : Int) : InvS (opCount g q).2.2 := by
  unfold opCount
  repeat' split
  all_goals exact I
theorem inv_opPart {g : Sg} (I : InvS g) (i j q : Int) : InvS (opPart g i j q).2.2 := by
  unfold opPart
  repeat' split
  all_goals exact I
theorem inv_opIf {g : Sg} (I : InvS g) (w z : Int) : InvS (opIf g w z).2.2 := by
  unfold opIf
  repeat' split
  all_goals exact I
theorem RepC.m {g : Sg} {h h1 : Hp} (R : RepC g h) (e : ∀ a j, a < 77 → hI h1 a j = hI h a j) (eL : ∀ a j, a < 77 → hL h1 a j = hL h a j) (eR : hR h1 = hR h) : RepC g h1 := by
  obtain ⟨P, W⟩ := R.2.1
  exact ⟨R.1.eq (fun z j q => e z j (by omega)) (fun j => eL 5 j (by decide)), ⟨P, W.eq (fun z j q => e z j (by simp [SV] at q; omega)) (fun j => by rw [eR])⟩, R.2.2.1.eq (fun z j q => e z j (by omega)) (fun j => by rw [eR]), R.2.2.2.eq (e 0 14 (by decide)) (fun j => e 76 j (by decide))⟩
theorem SM_f {a : Nat} {j : Int} (h : a < 77 ∨ 96 < a) : SM a j = false := by simp [SM]; omega
theorem RepC.sm {g : Sg} {h h1 : Hp} (R : RepC g h) (e : eqx SM h h1) : RepC g h1 := R.m (fun a j q => e.1 a j (SM_f (Or.inl q))) (fun a j q => by rw [e.2.1]) e.2.2
theorem RepM.kp {g : Sg} {h h1 : Hp} (R : RepM g h) (e : ∀ a j, 77 ≤ a → hI h1 a j = hI h a j) : RepM g h1 := R.eq (fun q j z => e q j (by omega))
theorem dcmp_z {c : Cs} (hn : 0 ≤ nS c ∧ nS c ≤ 12) : Op.cmpValue (FP.dcmp (shS c) (shS c)) .l = Int32.ofInt 0 := by rw [shS_e hn]; rfl
/-- the law's end -/
def LE (X : Cxt) (kc ks : Nat) : Prop := ∀ (k n : Nat) (ls : List (Option Value)) (h : Hp), k ≤ kc → n ≤ ks → V X k n 1306 ls [.int (Int32.ofInt 1)] h

set_option maxRecDepth 100000 in
set_option maxHeartbeats 8000000 in
theorem law_loop {X : Cxt} {d kc ks : Nat} {L : Nat} {xs : Nat → Int32} (hlt : X.2.1.stackTraces = false) (G : Gd X RL cL_law d kc ks) (SCX : SC X L xs) (hLen : L ≤ 2048) (EL : LE X kc ks) (hd : 42 ≤ d) {k0 n0 : Nat} (hk0 : k0 + 1542 ≤ kc) (hn0 : n0 + 9252 ≤ ks) {g : Sg} {h : Hp} (I : InvS g) (RC : RepC g h) (RM : RepM g h) (r : Rg h) (a5 a6 a7 a8 : Option Value) : V X k0 n0 23 [some (.ref 98), some (.ref 0), some (.ref 77), some (.ref 97), some (.int (Int32.ofInt 0)), a5, a6, a7, a8] [] h := by
  have lp : ∀ (m : Nat) (i : Int) (k n : Nat) (g : Sg) (h : Hp) (a5 a6 a7 a8 : Option Value), (L : Int) - i ≤ 4 * m → 0 ≤ i → i ≤ (L : Int) + 4 → k + 3 * m ≤ kc → n + 18 * m ≤ ks → InvS g → RepC g h → RepM g h → Rg h → V X k n 23 [some (.ref 98), some (.ref 0), some (.ref 77), some (.ref 97), some (.int (Int32.ofInt i)), a5, a6, a7, a8] [] h := by
    intro m
    induction m with
    | zero =>
      intro i k n g h a5 a6 a7 a8 hm hi hi2 hk hn I RC RM r
      refine V_iload4 G dL_law_23 ?_
      refine V_aload0 G dL_law_25 ?_
      refine V_slen G SCX dL_law_26 ?_
      refine V_iconst G dL_law_27 ?_
      refine V_isub G dL_law_28 ?_
      refine V_icmpgt G dL_law_29 (tgt := 1305) (by decide) (by first | exact r _ _ | assumption | exact ⟨by omega, by omega⟩) (by first | exact r _ _ | assumption | exact ⟨by omega, by omega⟩) (fun c_29 => ?_) (fun c_29 => ?_)
      ·
        refine V_iconst G dL_law_1305 ?_
        exact EL _ _ _ _ (by omega) (by omega)
      · omega
    | succ m ih =>
      intro i k n g h a5 a6 a7 a8 hm hi hi2 hk hn I RC RM r
      have hl6 := I.2.2.2.2.1
      have hb20 := I.2.2.2.2.2.1
      have join : ∀ (k1 n1 : Nat) (g1 : Sg) (h1 : Hp) (b5 b6 b7 b8 : Option Value), k1 ≤ k + 3 → n1 ≤ n + 18 → InvS g1 → RepC g1 h1 → RepM g1 h1 → Rg h1 → i ≤ (L : Int) → V X k1 n1 1299 [some (.ref 98), some (.ref 0), some (.ref 77), some (.ref 97), some (.int (Int32.ofInt i)), b5, b6, b7, b8] [] h1 := by
        intro k1 n1 g1 h1 b5 b6 b7 b8 q1 q2 I1 RC1 RM1 r1 hiL
        refine V_iinc4 G dL_law_1299 rfl ?_
        refine V_goto G dL_law_1302 (tgt := 23) (by decide) ?_
        exact ih (i + 4) k1 n1 g1 h1 _ _ _ _ (by omega) (by omega) (by omega) (by omega) (by omega) I1 RC1 RM1 r1
      refine V_iload4 G dL_law_23 ?_
      refine V_aload0 G dL_law_25 ?_
      refine V_slen G SCX dL_law_26 ?_
      refine V_iconst G dL_law_27 ?_
      refine V_isub G dL_law_28 ?_
      refine V_icmpgt G dL_law_29 (tgt := 1305) (by decide) (by first | exact r _ _ | assumption | exact ⟨by omega, by omega⟩) (by first | exact r _ _ | assumption | exact ⟨by omega, by omega⟩) (fun c_29 => ?_) (fun c_29 => ?_)
      ·
        refine V_iconst G dL_law_1305 ?_
        exact EL _ _ _ _ (by omega) (by omega)
      ·
        refine V_aload0 G dL_law_32 ?_
        refine V_iload4 G dL_law_33 ?_
        refine V_sld G SCX (by omega) dL_law_35 ⟨by omega, by omega⟩ ?_
        refine V_bipush G dL_law_36 (by decide) ?_
        refine V_iand_ G dL_law_38 ?_
        refine V_ibit G (z := _) (rfl) ?_
        have hz0 := i32_inr (Int32.ofInt (xv xs i) &&& Int32.ofInt 31)
        generalize (Int32.ofInt (xv xs i) &&& Int32.ofInt 31).toInt = z at hz0 ⊢
        rcases (by omega : z = 0 ∨ z = 1 ∨ z = 2 ∨ z = 3 ∨ z = 4 ∨ z = 5 ∨ z = 6 ∨ z = 7 ∨ z = 8 ∨ z = 9 ∨ z = 10 ∨ z = 11 ∨ z = 12 ∨ z = 13 ∨ z = 14 ∨ z = 15 ∨ z = 16 ∨ z = 17 ∨ z = 18 ∨ z = 19 ∨ z = 20 ∨ z = 21 ∨ z = 22 ∨ z = 23 ∨ (z < 0 ∨ 23 < z)) with e_39 | e_39 | e_39 | e_39 | e_39 | e_39 | e_39 | e_39 | e_39 | e_39 | e_39 | e_39 | e_39 | e_39 | e_39 | e_39 | e_39 | e_39 | e_39 | e_39 | e_39 | e_39 | e_39 | e_39 | e_39
        · rw [e_39]
          refine V_tableIn G dL_law_39 (tgt := 148) ⟨by decide, by decide⟩ (by decide) (by decide) rfl (by decide) ?_
          refine V_aload1 G dL_law_148 ?_
          refine V_aload0 G dL_law_149 ?_
          refine V_iload4 G dL_law_150 ?_
          refine V_iconst G dL_law_152 ?_
          refine V_iadd G dL_law_153 ?_
          refine V_sld G SCX (by omega) dL_law_154 ⟨by omega, by omega⟩ ?_
          refine V_aload3 G dL_law_155 ?_
          refine V_hS3 (d1 := 41) (kc1 := 2) (ks1 := 12) G mw_L_77 dL_law_156 (c_L_add hlt r RC I (xv_r _ _)) (by omega) (by omega) (by omega) (Nat.le_of_ble_eq_true rfl) (fun x1 h1 hp1 => ?_)
          obtain ⟨p1, p2, p3, r1, p5⟩ := hp1
          have M1 := RM.kp p5.1
          refine V_istore5 G dL_law_159 rfl ?_
          refine V_aload2 G dL_law_161 ?_
          refine V_aload0 G dL_law_162 ?_
          refine V_iload4 G dL_law_163 ?_
          refine V_iconst G dL_law_165 ?_
          refine V_iadd G dL_law_166 ?_
          refine V_sld G SCX (by omega) dL_law_167 ⟨by omega, by omega⟩ ?_
          refine V_cV1i (d1 := 14) G m_L_82 dL_law_168 (by first | decide | assumption) (by first | rfl | assumption) (c_X7_add r1 rds_ok M1 I.1 hl6 (xv_r _ _)) (by omega) (by omega) (by omega) (Nat.le_of_ble_eq_true rfl) (fun x2 h2 hp2 => ?_)
          obtain ⟨e1, r2, o1, o2, o3⟩ := hp2
          refine V_istore6 G dL_law_171 rfl ?_
          refine V_aload2 G dL_law_173 ?_
          refine V_cV0i (d1 := 1) G m_L_83 dL_law_174 (by first | decide | assumption) (by first | rfl | assumption) (c_X7_thrown) (by omega) (by omega) (by omega) (Nat.le_of_ble_eq_true rfl) (fun x3 h3 hp3 => ?_)
          rw [show x3 = (opAdd g (xv xs (i + 1))).1 from hp3.1.trans o1, hp3.2, p1]
          have po : inr (opAdd g (xv xs (i + 1))).1 := by rw [← o1]; exact r2 _ _
          refine V_iload5 G dL_law_177 ?_
          refine V_icmpeq G dL_law_179 (tgt := 184) (by decide) po po (fun c_179 => ?_) (fun c_179 => ?_)
          ·
            refine V_iload5 G dL_law_184 ?_
            refine V_ifne G dL_law_186 (tgt := 201) (by decide) po (fun c_186 => ?_) (fun c_186 => ?_)
            ·
              refine V_goto G dL_law_201 (tgt := 1299) (by decide) ?_
              exact join _ _ (opAdd g (xv xs (i + 1))).2.2 h2 _ _ _ _ (by omega) (by omega) (inv_opAdd I _) (p3.sm e1) o2 r2 (by omega)
            ·
              refine V_aload3 G dL_law_189 ?_
              refine V_iconst G dL_law_190 ?_
              refine V_lalde G dL_law_191 (by first | decide | assumption) (by first | rfl | assumption) (by decide) ⟨by omega, by omega⟩ ((by rw [e1.2.1]; exact p2 c_186) : hL h2 97 0 = z2l (opAdd g (xv xs (i + 1))).2.1) ?_
              refine V_iload6 G dL_law_192 ?_
              refine V_i2l_ G dL_law_194 ?_
              rw [o3 c_186]
              refine V_lcmp_ G dL_law_195 ?_
              rw [show lg_cmp (z2l (opAdd g (xv xs (i + 1))).2.1) (Int32.ofInt (opAdd g (xv xs (i + 1))).2.1).toInt64 = Int32.ofInt 0 from lcmp_self _]
              refine V_ifeq G dL_law_196 (tgt := 201) (by decide) (by first | exact r _ _ | assumption | exact ⟨by omega, by omega⟩) (fun c_196 => ?_) (fun c_196 => ?_)
              ·
                refine V_goto G dL_law_201 (tgt := 1299) (by decide) ?_
                exact join _ _ (opAdd g (xv xs (i + 1))).2.2 h2 _ _ _ _ (by omega) (by omega) (inv_opAdd I _) (p3.sm e1) o2 r2 (by omega)
              · exact absurd rfl c_196
          · exact absurd rfl c_179
        · rw [e_39]
          refine V_tableIn G dL_law_39 (tgt := 204) ⟨by decide, by decide⟩ (by decide) (by decide) rfl (by decide) ?_
          refine V_aload1 G dL_law_204 ?_
          refine V_aload0 G dL_law_205 ?_
          refine V_iload4 G dL_law_206 ?_
          refine V_iconst G dL_law_208 ?_
          refine V_iadd G dL_law_209 ?_
          refine V_sld G SCX (by omega) dL_law_210 ⟨by omega, by omega⟩ ?_
          refine V_aload0 G dL_law_211 ?_
          refine V_iload4 G dL_law_212 ?_
          refine V_iconst G dL_law_214 ?_
          refine V_iadd G dL_law_215 ?_
          refine V_sld G SCX (by omega) dL_law_216 ⟨by omega, by omega⟩ ?_
          refine V_aload3 G dL_law_217 ?_
          refine V_hS4 (d1 := 41) (kc1 := 2) (ks1 := 12) G mw_L_86 dL_law_218 (c_L_change hlt r RC I (xv_r _ _) (xv_r _ _)) (by omega) (by omega) (by omega) (Nat.le_of_ble_eq_true rfl) (fun x1 h1 hp1 => ?_)
          obtain ⟨p1, p2, p3, r1, p5⟩ := hp1
          have M1 := RM.kp p5.1
          refine V_istore5 G dL_law_221 rfl ?_
          refine V_aload2 G dL_law_223 ?_
          refine V_aload0 G dL_law_224 ?_
          refine V_iload4 G dL_law_225 ?_
          refine V_iconst G dL_law_227 ?_
          refine V_iadd G dL_law_228 ?_
          refine V_sld G SCX (by omega) dL_law_229 ⟨by omega, by omega⟩ ?_
          refine V_aload0 G dL_law_230 ?_
          refine V_iload4 G dL_law_231 ?_
          refine V_iconst G dL_law_233 ?_
          refine V_iadd G dL_law_234 ?_
          refine V_sld G SCX (by omega) dL_law_235 ⟨by omega, by omega⟩ ?_
          refine V_cV2i (d1 := 14) G m_L_89 dL_law_236 (by first | decide | assumption) (by first | rfl | assumption) (c_X7_change r1 rds_ok M1 I.1 hl6 (xv_r _ _) (xv_r _ _)) (by omega) (by omega) (by omega) (Nat.le_of_ble_eq_true rfl) (fun x2 h2 hp2 => ?_)
          obtain ⟨e1, r2, o1, o2, o3⟩ := hp2
          refine V_istore6 G dL_law_239 rfl ?_
          refine V_aload2 G dL_law_241 ?_
          refine V_cV0i (d1 := 1) G m_L_83 dL_law_242 (by first | decide | assumption) (by first | rfl | assumption) (c_X7_thrown) (by omega) (by omega) (by omega) (Nat.le_of_ble_eq_true rfl) (fun x3 h3 hp3 => ?_)
          rw [show x3 = (opChange g (xv xs (i + 1)) (xv xs (i + 2))).1 from hp3.1.trans o1, hp3.2, p1]
          have po : inr (opChange g (xv xs (i + 1)) (xv xs (i + 2))).1 := by rw [← o1]; exact r2 _ _
          refine V_iload5 G dL_law_245 ?_
          refine V_icmpeq G dL_law_247 (tgt := 252) (by decide) po po (fun c_247 => ?_) (fun c_247 => ?_)
          ·
            refine V_iload5 G dL_law_252 ?_
            refine V_ifne G dL_law_254 (tgt := 269) (by decide) po (fun c_254 => ?_) (fun c_254 => ?_)
            ·
              refine V_goto G dL_law_269 (tgt := 1299) (by decide) ?_
              exact join _ _ (opChange g (xv xs (i + 1)) (xv xs (i + 2))).2.2 h2 _ _ _ _ (by omega) (by omega) (inv_opChange I _ _) (p3.sm e1) o2 r2 (by omega)
            ·
              refine V_aload3 G dL_law_257 ?_
              refine V_iconst G dL_law_258 ?_
              refine V_lalde G dL_law_259 (by first | decide | assumption) (by first | rfl | assumption) (by decide) ⟨by omega, by omega⟩ ((by rw [e1.2.1]; exact p2 c_254) : hL h2 97 0 = z2l (opChange g (xv xs (i + 1)) (xv xs (i + 2))).2.1) ?_
              refine V_iload6 G dL_law_260 ?_
              refine V_i2l_ G dL_law_262 ?_
              rw [o3 c_254]
              refine V_lcmp_ G dL_law_263 ?_
              rw [show lg_cmp (z2l (opChange g (xv xs (i + 1)) (xv xs (i + 2))).2.1) (Int32.ofInt (opChange g (xv xs (i + 1)) (xv xs (i + 2))).2.1).toInt64 = Int32.ofInt 0 from lcmp_self _]
              refine V_ifeq G dL_law_264 (tgt := 269) (by decide) (by first | exact r _ _ | assumption | exact ⟨by omega, by omega⟩) (fun c_264 => ?_) (fun c_264 => ?_)
              ·
                refine V_goto G dL_law_269 (tgt := 1299) (by decide) ?_
                exact join _ _ (opChange g (xv xs (i + 1)) (xv xs (i + 2))).2.2 h2 _ _ _ _ (by omega) (by omega) (inv_opChange I _ _) (p3.sm e1) o2 r2 (by omega)
              · exact absurd rfl c_264
          · exact absurd rfl c_247
        · rw [e_39]
          refine V_tableIn G dL_law_39 (tgt := 272) ⟨by decide, by decide⟩ (by decide) (by decide) rfl (by decide) ?_
          refine V_aload1 G dL_law_272 ?_
          refine V_aload0 G dL_law_273 ?_
          refine V_iload4 G dL_law_274 ?_
          refine V_iconst G dL_law_276 ?_
          refine V_iadd G dL_law_277 ?_
          refine V_sld G SCX (by omega) dL_law_278 ⟨by omega, by omega⟩ ?_
          refine V_aload3 G dL_law_279 ?_
          refine V_hS3 (d1 := 41) (kc1 := 2) (ks1 := 12) G mw_L_90 dL_law_280 (c_L_wipe hlt r RC I (xv_r _ _)) (by omega) (by omega) (by omega) (Nat.le_of_ble_eq_true rfl) (fun x1 h1 hp1 => ?_)
          obtain ⟨p1, p2, p3, r1, p5⟩ := hp1
          have M1 := RM.kp p5.1
          refine V_istore5 G dL_law_283 rfl ?_
          refine V_aload2 G dL_law_285 ?_
          refine V_aload0 G dL_law_286 ?_
          refine V_iload4 G dL_law_287 ?_
          refine V_iconst G dL_law_289 ?_
          refine V_iadd G dL_law_290 ?_
          refine V_sld G SCX (by omega) dL_law_291 ⟨by omega, by omega⟩ ?_
          refine V_cV1i (d1 := 14) G m_L_92 dL_law_292 (by first | decide | assumption) (by first | rfl | assumption) (c_X7_wipe r1 rds_ok M1 I.1 hl6 (xv_r _ _)) (by omega) (by omega) (by omega) (Nat.le_of_ble_eq_true rfl) (fun x2 h2 hp2 => ?_)
          obtain ⟨e1, r2, o1, o2, o3⟩ := hp2
          refine V_istore6 G dL_law_295 rfl ?_
          refine V_aload2 G dL_law_297 ?_
          refine V_cV0i (d1 := 1) G m_L_83 dL_law_298 (by first | decide | assumption) (by first | rfl | assumption) (c_X7_thrown) (by omega) (by omega) (by omega) (Nat.le_of_ble_eq_true rfl) (fun x3 h3 hp3 => ?_)
          rw [show x3 = (opWipe g (xv xs (i + 1))).1 from hp3.1.trans o1, hp3.2, p1]
          have po : inr (opWipe g (xv xs (i + 1))).1 := by rw [← o1]; exact r2 _ _
          refine V_iload5 G dL_law_301 ?_
          refine V_icmpeq G dL_law_303 (tgt := 308) (by decide) po po (fun c_303 => ?_) (fun c_303 => ?_)
          ·
            refine V_iload5 G dL_law_308 ?_
            refine V_ifne G dL_law_310 (tgt := 325) (by decide) po (fun c_310 => ?_) (fun c_310 => ?_)
            ·
              refine V_goto G dL_law_325 (tgt := 1299) (by decide) ?_
              exact join _ _ (opWipe g (xv xs (i + 1))).2.2 h2 _ _ _ _ (by omega) (by omega) (inv_opWipe I _) (p3.sm e1) o2 r2 (by omega)
            ·
              refine V_aload3 G dL_law_313 ?_
              refine V_iconst G dL_law_314 ?_
              refine V_lalde G dL_law_315 (by first | decide | assumption) (by first | rfl | assumption) (by decide) ⟨by omega, by omega⟩ ((by rw [e1.2.1]; exact p2 c_310) : hL h2 97 0 = z2l (opWipe g (xv xs (i + 1))).2.1) ?_
              refine V_iload6 G dL_law_316 ?_
              refine V_i2l_ G dL_law_318 ?_
              rw [o3 c_310]
              refine V_lcmp_ G dL_law_319 ?_
              rw [show lg_cmp (z2l (opWipe g (xv xs (i + 1))).2.1) (Int32.ofInt (opWipe g (xv xs (i + 1))).2.1).toInt64 = Int32.ofInt 0 from lcmp_self _]
              refine V_ifeq G dL_law_320 (tgt := 325) (by decide) (by first | exact r _ _ | assumption | exact ⟨by omega, by omega⟩) (fun c_320 => ?_) (fun c_320 => ?_)
              ·
                refine V_goto G dL_law_325 (tgt := 1299) (by decide) ?_
                exact join _ _ (opWipe g (xv xs (i + 1))).2.2 h2 _ _ _ _ (by omega) (by omega) (inv_opWipe I _) (p3.sm e1) o2 r2 (by omega)
              · exact absurd rfl c_320
          · exact absurd rfl c_303
        · rw [e_39]
          refine V_tableIn G dL_law_39 (tgt := 328) ⟨by decide, by decide⟩ (by decide) (by decide) rfl (by decide) ?_
          refine V_aload1 G dL_law_328 ?_
          refine V_aload0 G dL_law_329 ?_
          refine V_iload4 G dL_law_330 ?_
          refine V_iconst G dL_law_332 ?_
          refine V_iadd G dL_law_333 ?_
          refine V_sld G SCX (by omega) dL_law_334 ⟨by omega, by omega⟩ ?_
          refine V_aload0 G dL_law_335 ?_
          refine V_iload4 G dL_law_336 ?_
          refine V_iconst G dL_law_338 ?_
          refine V_iadd G dL_law_339 ?_
          refine V_sld G SCX (by omega) dL_law_340 ⟨by omega, by omega⟩ ?_
          refine V_aload3 G dL_law_341 ?_
          refine V_hS4 (d1 := 41) (kc1 := 3) (ks1 := 18) G mw_L_93 dL_law_342 (c_L_fix hlt r RC I (xv_r _ _) (xv_r _ _)) (by omega) (by omega) (by omega) (Nat.le_of_ble_eq_true rfl) (fun x1 h1 hp1 => ?_)
          obtain ⟨p1, p2, p3, r1, p5⟩ := hp1
          have M1 := RM.kp p5.1
          refine V_istore5 G dL_law_345 rfl ?_
          refine V_aload2 G dL_law_347 ?_
          refine V_aload0 G dL_law_348 ?_
          refine V_iload4 G dL_law_349 ?_
          refine V_iconst G dL_law_351 ?_
          refine V_iadd G dL_law_352 ?_
          refine V_sld G SCX (by omega) dL_law_353 ⟨by omega, by omega⟩ ?_
          refine V_aload0 G dL_law_354 ?_
          refine V_iload4 G dL_law_355 ?_
          refine V_iconst G dL_law_357 ?_
          refine V_iadd G dL_law_358 ?_
          refine V_sld G SCX (by omega) dL_law_359 ⟨by omega, by omega⟩ ?_
          refine V_cV2i (d1 := 14) G m_L_95 dL_law_360 (by first | decide | assumption) (by first | rfl | assumption) (c_X7_fix r1 rds_ok M1 I.1 hl6 (xv_r _ _) (xv_r _ _)) (by omega) (by omega) (by omega) (Nat.le_of_ble_eq_true rfl) (fun x2 h2 hp2 => ?_)
          obtain ⟨e1, r2, o1, o2, o3⟩ := hp2
          refine V_istore6 G dL_law_363 rfl ?_
          refine V_aload2 G dL_law_365 ?_
          refine V_cV0i (d1 := 1) G m_L_83 dL_law_366 (by first | decide | assumption) (by first | rfl | assumption) (c_X7_thrown) (by omega) (by omega) (by omega) (Nat.le_of_ble_eq_true rfl) (fun x3 h3 hp3 => ?_)
          rw [show x3 = (opFix g (xv xs (i + 1)) (xv xs (i + 2))).1 from hp3.1.trans o1, hp3.2, p1]
          have po : inr (opFix g (xv xs (i + 1)) (xv xs (i + 2))).1 := by rw [← o1]; exact r2 _ _
          refine V_iload5 G dL_law_369 ?_
          refine V_icmpeq G dL_law_371 (tgt := 376) (by decide) po po (fun c_371 => ?_) (fun c_371 => ?_)
          ·
            refine V_iload5 G dL_law_376 ?_
            refine V_ifne G dL_law_378 (tgt := 393) (by decide) po (fun c_378 => ?_) (fun c_378 => ?_)
            ·
              refine V_goto G dL_law_393 (tgt := 1299) (by decide) ?_
              exact join _ _ (opFix g (xv xs (i + 1)) (xv xs (i + 2))).2.2 h2 _ _ _ _ (by omega) (by omega) (inv_opFix I _ _) (p3.sm e1) o2 r2 (by omega)
            ·
              refine V_aload3 G dL_law_381 ?_
              refine V_iconst G dL_law_382 ?_
              refine V_lalde G dL_law_383 (by first | decide | assumption) (by first | rfl | assumption) (by decide) ⟨by omega, by omega⟩ ((by rw [e1.2.1]; exact p2 c_378) : hL h2 97 0 = z2l (opFix g (xv xs (i + 1)) (xv xs (i + 2))).2.1) ?_
              refine V_iload6 G dL_law_384 ?_
              refine V_i2l_ G dL_law_386 ?_
              rw [o3 c_378]
              refine V_lcmp_ G dL_law_387 ?_
              rw [show lg_cmp (z2l (opFix g (xv xs (i + 1)) (xv xs (i + 2))).2.1) (Int32.ofInt (opFix g (xv xs (i + 1)) (xv xs (i + 2))).2.1).toInt64 = Int32.ofInt 0 from lcmp_self _]
              refine V_ifeq G dL_law_388 (tgt := 393) (by decide) (by first | exact r _ _ | assumption | exact ⟨by omega, by omega⟩) (fun c_388 => ?_) (fun c_388 => ?_)
              ·
                refine V_goto G dL_law_393 (tgt := 1299) (by decide) ?_
                exact join _ _ (opFix g (xv xs (i + 1)) (xv xs (i + 2))).2.2 h2 _ _ _ _ (by omega) (by omega) (inv_opFix I _ _) (p3.sm e1) o2 r2 (by omega)
              · exact absurd rfl c_388
          · exact absurd rfl c_371
        · rw [e_39]
          refine V_tableIn G dL_law_39 (tgt := 396) ⟨by decide, by decide⟩ (by decide) (by decide) rfl (by decide) ?_
          refine V_aload1 G dL_law_396 ?_
          refine V_aload0 G dL_law_397 ?_
          refine V_iload4 G dL_law_398 ?_
          refine V_iconst G dL_law_400 ?_
          refine V_iadd G dL_law_401 ?_
          refine V_sld G SCX (by omega) dL_law_402 ⟨by omega, by omega⟩ ?_
          refine V_aload3 G dL_law_403 ?_
          refine V_hS3 (d1 := 41) (kc1 := 2) (ks1 := 12) G mw_L_96 dL_law_404 (c_L_loosen hlt r RC I (xv_r _ _)) (by omega) (by omega) (by omega) (Nat.le_of_ble_eq_true rfl) (fun x1 h1 hp1 => ?_)
          obtain ⟨p1, p2, p3, r1, p5⟩ := hp1
          have M1 := RM.kp p5.1
          refine V_istore5 G dL_law_407 rfl ?_
          refine V_aload2 G dL_law_409 ?_
          refine V_aload0 G dL_law_410 ?_
          refine V_iload4 G dL_law_411 ?_
          refine V_iconst G dL_law_413 ?_
          refine V_iadd G dL_law_414 ?_
          refine V_sld G SCX (by omega) dL_law_415 ⟨by omega, by omega⟩ ?_
          refine V_cV1i (d1 := 14) G m_L_98 dL_law_416 (by first | decide | assumption) (by first | rfl | assumption) (c_X7_loosen r1 rds_ok M1 I.1 hl6 (xv_r _ _)) (by omega) (by omega) (by omega) (Nat.le_of_ble_eq_true rfl) (fun x2 h2 hp2 => ?_)
          obtain ⟨e1, r2, o1, o2, o3⟩ := hp2
          refine V_istore6 G dL_law_419 rfl ?_
          refine V_aload2 G dL_law_421 ?_
          refine V_cV0i (d1 := 1) G m_L_83 dL_law_422 (by first | decide | assumption) (by first | rfl | assumption) (c_X7_thrown) (by omega) (by omega) (by omega) (Nat.le_of_ble_eq_true rfl) (fun x3 h3 hp3 => ?_)
          rw [show x3 = (opLoosen g (xv xs (i + 1))).1 from hp3.1.trans o1, hp3.2, p1]
          have po : inr (opLoosen g (xv xs (i + 1))).1 := by rw [← o1]; exact r2 _ _
          refine V_iload5 G dL_law_425 ?_
          refine V_icmpeq G dL_law_427 (tgt := 432) (by decide) po po (fun c_427 => ?_) (fun c_427 => ?_)
          ·
            refine V_iload5 G dL_law_432 ?_
            refine V_ifne G dL_law_434 (tgt := 449) (by decide) po (fun c_434 => ?_) (fun c_434 => ?_)
            ·
              refine V_goto G dL_law_449 (tgt := 1299) (by decide) ?_
              exact join _ _ (opLoosen g (xv xs (i + 1))).2.2 h2 _ _ _ _ (by omega) (by omega) (inv_opLoosen I _) (p3.sm e1) o2 r2 (by omega)
            ·
              refine V_aload3 G dL_law_437 ?_
              refine V_iconst G dL_law_438 ?_
              refine V_lalde G dL_law_439 (by first | decide | assumption) (by first | rfl | assumption) (by decide) ⟨by omega, by omega⟩ ((by rw [e1.2.1]; exact p2 c_434) : hL h2 97 0 = z2l (opLoosen g (xv xs (i + 1))).2.1) ?_
              refine V_iload6 G dL_law_440 ?_
              refine V_i2l_ G dL_law_442 ?_
              rw [o3 c_434]
              refine V_lcmp_ G dL_law_443 ?_
              rw [show lg_cmp (z2l (opLoosen g (xv xs (i + 1))).2.1) (Int32.ofInt (opLoosen g (xv xs (i + 1))).2.1).toInt64 = Int32.ofInt 0 from lcmp_self _]
              refine V_ifeq G dL_law_444 (tgt := 449) (by decide) (by first | exact r _ _ | assumption | exact ⟨by omega, by omega⟩) (fun c_444 => ?_) (fun c_444 => ?_)
              ·
                refine V_goto G dL_law_449 (tgt := 1299) (by decide) ?_
                exact join _ _ (opLoosen g (xv xs (i + 1))).2.2 h2 _ _ _ _ (by omega) (by omega) (inv_opLoosen I _) (p3.sm e1) o2 r2 (by omega)
              · exact absurd rfl c_444
          · exact absurd rfl c_427
        · rw [e_39]
          refine V_tableIn G dL_law_39 (tgt := 452) ⟨by decide, by decide⟩ (by decide) (by decide) rfl (by decide) ?_
          refine V_aload1 G dL_law_452 ?_
          refine V_aload0 G dL_law_453 ?_
          refine V_iload4 G dL_law_454 ?_
          refine V_iconst G dL_law_456 ?_
          refine V_iadd G dL_law_457 ?_
          refine V_sld G SCX (by omega) dL_law_458 ⟨by omega, by omega⟩ ?_
          refine V_aload3 G dL_law_459 ?_
          refine V_hS3 (d1 := 41) (kc1 := 2) (ks1 := 12) G mw_L_99 dL_law_460 (c_L_draw hlt r RC I (xv_r _ _)) (by omega) (by omega) (by omega) (Nat.le_of_ble_eq_true rfl) (fun x1 h1 hp1 => ?_)
          obtain ⟨p1, p2, p3, r1, p5⟩ := hp1
          have M1 := RM.kp p5.1
          refine V_istore5 G dL_law_463 rfl ?_
          refine V_aload2 G dL_law_465 ?_
          refine V_aload0 G dL_law_466 ?_
          refine V_iload4 G dL_law_467 ?_
          refine V_iconst G dL_law_469 ?_
          refine V_iadd G dL_law_470 ?_
          refine V_sld G SCX (by omega) dL_law_471 ⟨by omega, by omega⟩ ?_
          refine V_cV1i (d1 := 14) G m_L_101 dL_law_472 (by first | decide | assumption) (by first | rfl | assumption) (c_X7_draw r1 rds_ok M1 I.1 hl6 (xv_r _ _)) (by omega) (by omega) (by omega) (Nat.le_of_ble_eq_true rfl) (fun x2 h2 hp2 => ?_)
          obtain ⟨e1, r2, o1, o2, o3⟩ := hp2
          refine V_istore6 G dL_law_475 rfl ?_
          refine V_aload2 G dL_law_477 ?_
          refine V_cV0i (d1 := 1) G m_L_83 dL_law_478 (by first | decide | assumption) (by first | rfl | assumption) (c_X7_thrown) (by omega) (by omega) (by omega) (Nat.le_of_ble_eq_true rfl) (fun x3 h3 hp3 => ?_)
          rw [show x3 = (opDraw g (xv xs (i + 1))).1 from hp3.1.trans o1, hp3.2, p1]
          have po : inr (opDraw g (xv xs (i + 1))).1 := by rw [← o1]; exact r2 _ _
          refine V_iload5 G dL_law_481 ?_
          refine V_icmpeq G dL_law_483 (tgt := 488) (by decide) po po (fun c_483 => ?_) (fun c_483 => ?_)
          ·
            refine V_iload5 G dL_law_488 ?_
            refine V_ifne G dL_law_490 (tgt := 505) (by decide) po (fun c_490 => ?_) (fun c_490 => ?_)
            ·
              refine V_goto G dL_law_505 (tgt := 1299) (by decide) ?_
              exact join _ _ (opDraw g (xv xs (i + 1))).2.2 h2 _ _ _ _ (by omega) (by omega) (inv_opDraw I _) (p3.sm e1) o2 r2 (by omega)
            ·
              refine V_aload3 G dL_law_493 ?_
              refine V_iconst G dL_law_494 ?_
              refine V_lalde G dL_law_495 (by first | decide | assumption) (by first | rfl | assumption) (by decide) ⟨by omega, by omega⟩ ((by rw [e1.2.1]; exact p2 c_490) : hL h2 97 0 = z2l (opDraw g (xv xs (i + 1))).2.1) ?_
              refine V_iload6 G dL_law_496 ?_
              refine V_i2l_ G dL_law_498 ?_
              rw [o3 c_490]
              refine V_lcmp_ G dL_law_499 ?_
              rw [show lg_cmp (z2l (opDraw g (xv xs (i + 1))).2.1) (Int32.ofInt (opDraw g (xv xs (i + 1))).2.1).toInt64 = Int32.ofInt 0 from lcmp_self _]
              refine V_ifeq G dL_law_500 (tgt := 505) (by decide) (by first | exact r _ _ | assumption | exact ⟨by omega, by omega⟩) (fun c_500 => ?_) (fun c_500 => ?_)
              ·
                refine V_goto G dL_law_505 (tgt := 1299) (by decide) ?_
                exact join _ _ (opDraw g (xv xs (i + 1))).2.2 h2 _ _ _ _ (by omega) (by omega) (inv_opDraw I _) (p3.sm e1) o2 r2 (by omega)
              · exact absurd rfl c_500
          · exact absurd rfl c_483
        · rw [e_39]
          refine V_tableIn G dL_law_39 (tgt := 508) ⟨by decide, by decide⟩ (by decide) (by decide) rfl (by decide) ?_
          refine V_aload1 G dL_law_508 ?_
          refine V_aload3 G dL_law_509 ?_
          refine V_hS2 (d1 := 41) (kc1 := 2) (ks1 := 12) G mw_L_102 dL_law_510 (c_L_flatten hlt r RC I) (by omega) (by omega) (by omega) (Nat.le_of_ble_eq_true rfl) (fun x1 h1 hp1 => ?_)
          obtain ⟨p1, p2, p3, r1, p5⟩ := hp1
          have M1 := RM.kp p5.1
          refine V_istore5 G dL_law_513 rfl ?_
          refine V_aload2 G dL_law_515 ?_
          refine V_cV0i (d1 := 14) G m_L_105 dL_law_516 (by first | decide | assumption) (by first | rfl | assumption) (c_X7_flatten r1 rds_ok M1 I.1 hl6) (by omega) (by omega) (by omega) (Nat.le_of_ble_eq_true rfl) (fun x2 h2 hp2 => ?_)
          obtain ⟨e1, r2, o1, o2, o3⟩ := hp2
          refine V_istore6 G dL_law_519 rfl ?_
          refine V_aload2 G dL_law_521 ?_
          refine V_cV0i (d1 := 1) G m_L_83 dL_law_522 (by first | decide | assumption) (by first | rfl | assumption) (c_X7_thrown) (by omega) (by omega) (by omega) (Nat.le_of_ble_eq_true rfl) (fun x3 h3 hp3 => ?_)
          rw [show x3 = (opFlat g).1 from hp3.1.trans o1, hp3.2, p1]
          have po : inr (opFlat g).1 := by rw [← o1]; exact r2 _ _
          refine V_iload5 G dL_law_525 ?_
          refine V_icmpeq G dL_law_527 (tgt := 532) (by decide) po po (fun c_527 => ?_) (fun c_527 => ?_)
          ·
            refine V_iload5 G dL_law_532 ?_
            refine V_ifne G dL_law_534 (tgt := 549) (by decide) po (fun c_534 => ?_) (fun c_534 => ?_)
            ·
              refine V_goto G dL_law_549 (tgt := 1299) (by decide) ?_
              exact join _ _ (opFlat g).2.2 h2 _ _ _ _ (by omega) (by omega) (inv_opFlat I) (p3.sm e1) o2 r2 (by omega)
            ·
              refine V_aload3 G dL_law_537 ?_
              refine V_iconst G dL_law_538 ?_
              refine V_lalde G dL_law_539 (by first | decide | assumption) (by first | rfl | assumption) (by decide) ⟨by omega, by omega⟩ ((by rw [e1.2.1]; exact p2 c_534) : hL h2 97 0 = z2l (opFlat g).2.1) ?_
              refine V_iload6 G dL_law_540 ?_
              refine V_i2l_ G dL_law_542 ?_
              rw [o3 c_534]
              refine V_lcmp_ G dL_law_543 ?_
              rw [show lg_cmp (z2l (opFlat g).2.1) (Int32.ofInt (opFlat g).2.1).toInt64 = Int32.ofInt 0 from lcmp_self _]
              refine V_ifeq G dL_law_544 (tgt := 549) (by decide) (by first | exact r _ _ | assumption | exact ⟨by omega, by omega⟩) (fun c_544 => ?_) (fun c_544 => ?_)
              ·
                refine V_goto G dL_law_549 (tgt := 1299) (by decide) ?_
                exact join _ _ (opFlat g).2.2 h2 _ _ _ _ (by omega) (by omega) (inv_opFlat I) (p3.sm e1) o2 r2 (by omega)
              · exact absurd rfl c_544
          · exact absurd rfl c_527
        · rw [e_39]
          refine V_tableIn G dL_law_39 (tgt := 552) ⟨by decide, by decide⟩ (by decide) (by decide) rfl (by decide) ?_
          refine V_aload1 G dL_law_552 ?_
          refine V_aload0 G dL_law_553 ?_
          refine V_iload4 G dL_law_554 ?_
          refine V_iconst G dL_law_556 ?_
          refine V_iadd G dL_law_557 ?_
          refine V_sld G SCX (by omega) dL_law_558 ⟨by omega, by omega⟩ ?_
          refine V_aload3 G dL_law_559 ?_
          refine V_hS3 (d1 := 41) (kc1 := 1) (ks1 := 6) G mw_L_106 dL_law_560 (c_L_append hlt r RC I (xv_r _ _)) (by omega) (by omega) (by omega) (Nat.le_of_ble_eq_true rfl) (fun x1 h1 hp1 => ?_)
          obtain ⟨p1, p2, p3, r1, p5⟩ := hp1
          have M1 := RM.kp p5.1
          refine V_istore5 G dL_law_563 rfl ?_
          refine V_aload2 G dL_law_565 ?_
          refine V_aload0 G dL_law_566 ?_
          refine V_iload4 G dL_law_567 ?_
          refine V_iconst G dL_law_569 ?_
          refine V_iadd G dL_law_570 ?_
          refine V_sld G SCX (by omega) dL_law_571 ⟨by omega, by omega⟩ ?_
          refine V_cV1i (d1 := 14) G m_L_108 dL_law_572 (by first | decide | assumption) (by first | rfl | assumption) (c_X7_append r1 M1 hb20 (xv_r _ _)) (by omega) (by omega) (by omega) (Nat.le_of_ble_eq_true rfl) (fun x2 h2 hp2 => ?_)
          obtain ⟨e1, r2, o1, o2, o3⟩ := hp2
          refine V_istore6 G dL_law_575 rfl ?_
          refine V_aload2 G dL_law_577 ?_
          refine V_cV0i (d1 := 1) G m_L_83 dL_law_578 (by first | decide | assumption) (by first | rfl | assumption) (c_X7_thrown) (by omega) (by omega) (by omega) (Nat.le_of_ble_eq_true rfl) (fun x3 h3 hp3 => ?_)
          rw [show x3 = (opAppend g (xv xs (i + 1))).1 from hp3.1.trans o1, hp3.2, p1]
          have po : inr (opAppend g (xv xs (i + 1))).1 := by rw [← o1]; exact r2 _ _
          refine V_iload5 G dL_law_581 ?_
          refine V_icmpeq G dL_law_583 (tgt := 588) (by decide) po po (fun c_583 => ?_) (fun c_583 => ?_)
          ·
            refine V_iload5 G dL_law_588 ?_
            refine V_ifne G dL_law_590 (tgt := 605) (by decide) po (fun c_590 => ?_) (fun c_590 => ?_)
            ·
              refine V_goto G dL_law_605 (tgt := 1299) (by decide) ?_
              exact join _ _ (opAppend g (xv xs (i + 1))).2.2 h2 _ _ _ _ (by omega) (by omega) (inv_opAppend I _) (p3.sm e1) o2 r2 (by omega)
            ·
              refine V_aload3 G dL_law_593 ?_
              refine V_iconst G dL_law_594 ?_
              refine V_lalde G dL_law_595 (by first | decide | assumption) (by first | rfl | assumption) (by decide) ⟨by omega, by omega⟩ ((by rw [e1.2.1]; exact p2 c_590) : hL h2 97 0 = z2l (opAppend g (xv xs (i + 1))).2.1) ?_
              refine V_iload6 G dL_law_596 ?_
              refine V_i2l_ G dL_law_598 ?_
              rw [o3 c_590]
              refine V_lcmp_ G dL_law_599 ?_
              rw [show lg_cmp (z2l (opAppend g (xv xs (i + 1))).2.1) (Int32.ofInt (opAppend g (xv xs (i + 1))).2.1).toInt64 = Int32.ofInt 0 from lcmp_self _]
              refine V_ifeq G dL_law_600 (tgt := 605) (by decide) (by first | exact r _ _ | assumption | exact ⟨by omega, by omega⟩) (fun c_600 => ?_) (fun c_600 => ?_)
              ·
                refine V_goto G dL_law_605 (tgt := 1299) (by decide) ?_
                exact join _ _ (opAppend g (xv xs (i + 1))).2.2 h2 _ _ _ _ (by omega) (by omega) (inv_opAppend I _) (p3.sm e1) o2 r2 (by omega)
              · exact absurd rfl c_600
          · exact absurd rfl c_583
        · rw [e_39]
          refine V_tableIn G dL_law_39 (tgt := 608) ⟨by decide, by decide⟩ (by decide) (by decide) rfl (by decide) ?_
          refine V_aload1 G dL_law_608 ?_
          refine V_cV0i (d1 := 40) G m_L_109 dL_law_609 (by first | decide | assumption) (by first | rfl | assumption) (c_X6_clearBuffer r RC) (by omega) (by omega) (by omega) (Nat.le_of_ble_eq_true rfl) (fun x1 h1 hp1 => ?_)
          obtain ⟨p1, p2, p3, r1, p5⟩ := hp1
          have M1 := RM.kp p5.1
          refine V_aload2 G dL_law_612 ?_
          refine V_cV0i (d1 := 14) G m_L_112 dL_law_613 (by first | decide | assumption) (by first | rfl | assumption) (c_X7_clearBuffer r1 M1 hb20) (by omega) (by omega) (by omega) (Nat.le_of_ble_eq_true rfl) (fun x2 h2 hp2 => ?_)
          obtain ⟨e1, r2, o1, o2, o3⟩ := hp2
          rw [p2, o3 p1]
          refine V_icmpeq_ G dL_law_616 (tgt := 1299) (by decide) (fun _ => ?_) (fun q => absurd rfl q)
          exact join _ _ (opClear g).2.2 h2 _ _ _ _ (by omega) (by omega) (inv_opClear I) (p3.sm e1) o2 r2 (by omega)
        · rw [e_39]
          refine V_tableIn G dL_law_39 (tgt := 621) ⟨by decide, by decide⟩ (by decide) (by decide) rfl (by decide) ?_
          refine V_aload1 G dL_law_621 ?_
          refine V_cV0i (d1 := 40) G m_L_113 dL_law_622 (by first | decide | assumption) (by first | rfl | assumption) (c_X6_firstError r RC I) (by omega) (by omega) (by omega) (Nat.le_of_ble_eq_true rfl) (fun x1 h1 hp1 => ?_)
          obtain ⟨p1, p2, p3, r1, p5⟩ := hp1
          have M1 := RM.kp p5.1
          refine V_aload2 G dL_law_625 ?_
          refine V_cV0i (d1 := 14) G m_L_116 dL_law_626 (by first | decide | assumption) (by first | rfl | assumption) (c_X7_firstError r1 M1 hb20) (by omega) (by omega) (by omega) (Nat.le_of_ble_eq_true rfl) (fun x2 h2 hp2 => ?_)
          obtain ⟨e1, r2, o1, o2, o3⟩ := hp2
          rw [p2, o3 p1]
          refine V_icmpeq_ G dL_law_629 (tgt := 1299) (by decide) (fun _ => ?_) (fun q => absurd rfl q)
          exact join _ _ (opFE g).2.2 h2 _ _ _ _ (by omega) (by omega) (I) (p3.sm e1) o2 r2 (by omega)
        · rw [e_39]
          refine V_tableIn G dL_law_39 (tgt := 634) ⟨by decide, by decide⟩ (by decide) (by decide) rfl (by decide) ?_
          refine V_aload1 G dL_law_634 ?_
          refine V_aload3 G dL_law_635 ?_
          refine V_hS2 (d1 := 41) (kc1 := 1) (ks1 := 6) G mw_L_117 dL_law_636 (c_L_load hlt r RC I) (by omega) (by omega) (by omega) (Nat.le_of_ble_eq_true rfl) (fun x1 h1 hp1 => ?_)
          obtain ⟨p1, p2, p3, r1, p5⟩ := hp1
          have M1 := RM.kp p5.1
          refine V_istore5 G dL_law_639 rfl ?_
          refine V_aload2 G dL_law_641 ?_
          refine V_cV0i (d1 := 14) G m_L_119 dL_law_642 (by first | decide | assumption) (by first | rfl | assumption) (c_X7_load r1 rds_ok M1 I.1 hl6 hb20) (by omega) (by omega) (by omega) (Nat.le_of_ble_eq_true rfl) (fun x2 h2 hp2 => ?_)
          obtain ⟨e1, r2, o1, o2, o3⟩ := hp2
          refine V_istore6 G dL_law_645 rfl ?_
          refine V_aload2 G dL_law_647 ?_
          refine V_cV0i (d1 := 1) G m_L_83 dL_law_648 (by first | decide | assumption) (by first | rfl | assumption) (c_X7_thrown) (by omega) (by omega) (by omega) (Nat.le_of_ble_eq_true rfl) (fun x3 h3 hp3 => ?_)
          rw [show x3 = (opLoad g).1 from hp3.1.trans o1, hp3.2, p1]
          have po : inr (opLoad g).1 := by rw [← o1]; exact r2 _ _
          refine V_iload5 G dL_law_651 ?_
          refine V_icmpeq G dL_law_653 (tgt := 658) (by decide) po po (fun c_653 => ?_) (fun c_653 => ?_)
          ·
            refine V_iload5 G dL_law_658 ?_
            refine V_ifne G dL_law_660 (tgt := 675) (by decide) po (fun c_660 => ?_) (fun c_660 => ?_)
            ·
              refine V_goto G dL_law_675 (tgt := 1299) (by decide) ?_
              exact join _ _ (opLoad g).2.2 h2 _ _ _ _ (by omega) (by omega) (inv_opLoad I) (p3.sm e1) o2 r2 (by omega)
            ·
              refine V_aload3 G dL_law_663 ?_
              refine V_iconst G dL_law_664 ?_
              refine V_lalde G dL_law_665 (by first | decide | assumption) (by first | rfl | assumption) (by decide) ⟨by omega, by omega⟩ ((by rw [e1.2.1]; exact p2 c_660) : hL h2 97 0 = z2l (opLoad g).2.1) ?_
              refine V_iload6 G dL_law_666 ?_
              refine V_i2l_ G dL_law_668 ?_
              rw [o3 c_660]
              refine V_lcmp_ G dL_law_669 ?_
              rw [show lg_cmp (z2l (opLoad g).2.1) (Int32.ofInt (opLoad g).2.1).toInt64 = Int32.ofInt 0 from lcmp_self _]
              refine V_ifeq G dL_law_670 (tgt := 675) (by decide) (by first | exact r _ _ | assumption | exact ⟨by omega, by omega⟩) (fun c_670 => ?_) (fun c_670 => ?_)
              ·
                refine V_goto G dL_law_675 (tgt := 1299) (by decide) ?_
                exact join _ _ (opLoad g).2.2 h2 _ _ _ _ (by omega) (by omega) (inv_opLoad I) (p3.sm e1) o2 r2 (by omega)
              · exact absurd rfl c_670
          · exact absurd rfl c_653
        · rw [e_39]
          refine V_tableIn G dL_law_39 (tgt := 678) ⟨by decide, by decide⟩ (by decide) (by decide) rfl (by decide) ?_
          refine V_aload1 G dL_law_678 ?_
          refine V_aload3 G dL_law_679 ?_
          refine V_hS2 (d1 := 41) (kc1 := 1) (ks1 := 6) G mw_L_120 dL_law_680 (c_L_write hlt r RC I) (by omega) (by omega) (by omega) (Nat.le_of_ble_eq_true rfl) (fun x1 h1 hp1 => ?_)
          obtain ⟨p1, p2, p3, r1, p5⟩ := hp1
          have M1 := RM.kp p5.1
          refine V_istore5 G dL_law_683 rfl ?_
          refine V_aload2 G dL_law_685 ?_
          refine V_cV0i (d1 := 14) G m_L_122 dL_law_686 (by first | decide | assumption) (by first | rfl | assumption) (c_X7_write r1 rds_ok M1 I.1 hl6) (by omega) (by omega) (by omega) (Nat.le_of_ble_eq_true rfl) (fun x2 h2 hp2 => ?_)
          obtain ⟨e1, r2, o1, o2, o3⟩ := hp2
          refine V_istore6 G dL_law_689 rfl ?_
          refine V_aload2 G dL_law_691 ?_
          refine V_cV0i (d1 := 1) G m_L_83 dL_law_692 (by first | decide | assumption) (by first | rfl | assumption) (c_X7_thrown) (by omega) (by omega) (by omega) (Nat.le_of_ble_eq_true rfl) (fun x3 h3 hp3 => ?_)
          rw [show x3 = (opWrite g).1 from hp3.1.trans o1, hp3.2, p1]
          have po : inr (opWrite g).1 := by rw [← o1]; exact r2 _ _
          refine V_iload5 G dL_law_695 ?_
          refine V_icmpeq G dL_law_697 (tgt := 702) (by decide) po po (fun c_697 => ?_) (fun c_697 => ?_)
          ·
            refine V_iload5 G dL_law_702 ?_
            refine V_ifne G dL_law_704 (tgt := 719) (by decide) po (fun c_704 => ?_) (fun c_704 => ?_)
            ·
              refine V_goto G dL_law_719 (tgt := 1299) (by decide) ?_
              exact join _ _ (opWrite g).2.2 h2 _ _ _ _ (by omega) (by omega) (inv_opWrite I) (p3.sm e1) o2 r2 (by omega)
            ·
              refine V_aload3 G dL_law_707 ?_
              refine V_iconst G dL_law_708 ?_
              refine V_lalde G dL_law_709 (by first | decide | assumption) (by first | rfl | assumption) (by decide) ⟨by omega, by omega⟩ ((by rw [e1.2.1]; exact p2 c_704) : hL h2 97 0 = z2l (opWrite g).2.1) ?_
              refine V_iload6 G dL_law_710 ?_
              refine V_i2l_ G dL_law_712 ?_
              rw [o3 c_704]
              refine V_lcmp_ G dL_law_713 ?_
              rw [show lg_cmp (z2l (opWrite g).2.1) (Int32.ofInt (opWrite g).2.1).toInt64 = Int32.ofInt 0 from lcmp_self _]
              refine V_ifeq G dL_law_714 (tgt := 719) (by decide) (by first | exact r _ _ | assumption | exact ⟨by omega, by omega⟩) (fun c_714 => ?_) (fun c_714 => ?_)
              ·
                refine V_goto G dL_law_719 (tgt := 1299) (by decide) ?_
                exact join _ _ (opWrite g).2.2 h2 _ _ _ _ (by omega) (by omega) (inv_opWrite I) (p3.sm e1) o2 r2 (by omega)
              · exact absurd rfl c_714
          · exact absurd rfl c_697
        · rw [e_39]
          refine V_tableIn G dL_law_39 (tgt := 722) ⟨by decide, by decide⟩ (by decide) (by decide) rfl (by decide) ?_
          refine V_aload1 G dL_law_722 ?_
          refine V_aload0 G dL_law_723 ?_
          refine V_iload4 G dL_law_724 ?_
          refine V_iconst G dL_law_726 ?_
          refine V_iadd G dL_law_727 ?_
          refine V_sld G SCX (by omega) dL_law_728 ⟨by omega, by omega⟩ ?_
          refine V_aload3 G dL_law_729 ?_
          refine V_hS3 (d1 := 41) (kc1 := 1) (ks1 := 6) G mw_L_123 dL_law_730 (c_L_keep hlt r RC I (xv_r _ _)) (by omega) (by omega) (by omega) (Nat.le_of_ble_eq_true rfl) (fun x1 h1 hp1 => ?_)
          obtain ⟨p1, p2, p3, r1, p5⟩ := hp1
          have M1 := RM.kp p5.1
          refine V_istore5 G dL_law_733 rfl ?_
          refine V_aload2 G dL_law_735 ?_
          refine V_aload0 G dL_law_736 ?_
          refine V_iload4 G dL_law_737 ?_
          refine V_iconst G dL_law_739 ?_
          refine V_iadd G dL_law_740 ?_
          refine V_sld G SCX (by omega) dL_law_741 ⟨by omega, by omega⟩ ?_
          refine V_cV1i (d1 := 14) G m_L_125 dL_law_742 (by first | decide | assumption) (by first | rfl | assumption) (c_X7_keep r1 rds_ok M1 I.1 hl6 (xv_r _ _)) (by omega) (by omega) (by omega) (Nat.le_of_ble_eq_true rfl) (fun x2 h2 hp2 => ?_)
          obtain ⟨e1, r2, o1, o2, o3⟩ := hp2
          refine V_istore6 G dL_law_745 rfl ?_
          refine V_aload2 G dL_law_747 ?_
          refine V_cV0i (d1 := 1) G m_L_83 dL_law_748 (by first | decide | assumption) (by first | rfl | assumption) (c_X7_thrown) (by omega) (by omega) (by omega) (Nat.le_of_ble_eq_true rfl) (fun x3 h3 hp3 => ?_)
          rw [show x3 = (opKeep g (xv xs (i + 1))).1 from hp3.1.trans o1, hp3.2, p1]
          have po : inr (opKeep g (xv xs (i + 1))).1 := by rw [← o1]; exact r2 _ _
          refine V_iload5 G dL_law_751 ?_
          refine V_icmpeq G dL_law_753 (tgt := 758) (by decide) po po (fun c_753 => ?_) (fun c_753 => ?_)
          ·
            refine V_iload5 G dL_law_758 ?_
            refine V_ifne G dL_law_760 (tgt := 775) (by decide) po (fun c_760 => ?_) (fun c_760 => ?_)
            ·
              refine V_goto G dL_law_775 (tgt := 1299) (by decide) ?_
              exact join _ _ (opKeep g (xv xs (i + 1))).2.2 h2 _ _ _ _ (by omega) (by omega) (inv_opKeep I _) (p3.sm e1) o2 r2 (by omega)
            ·
              refine V_aload3 G dL_law_763 ?_
              refine V_iconst G dL_law_764 ?_
              refine V_lalde G dL_law_765 (by first | decide | assumption) (by first | rfl | assumption) (by decide) ⟨by omega, by omega⟩ ((by rw [e1.2.1]; exact p2 c_760) : hL h2 97 0 = z2l (opKeep g (xv xs (i + 1))).2.1) ?_
              refine V_iload6 G dL_law_766 ?_
              refine V_i2l_ G dL_law_768 ?_
              rw [o3 c_760]
              refine V_lcmp_ G dL_law_769 ?_
              rw [show lg_cmp (z2l (opKeep g (xv xs (i + 1))).2.1) (Int32.ofInt (opKeep g (xv xs (i + 1))).2.1).toInt64 = Int32.ofInt 0 from lcmp_self _]
              refine V_ifeq G dL_law_770 (tgt := 775) (by decide) (by first | exact r _ _ | assumption | exact ⟨by omega, by omega⟩) (fun c_770 => ?_) (fun c_770 => ?_)
              ·
                refine V_goto G dL_law_775 (tgt := 1299) (by decide) ?_
                exact join _ _ (opKeep g (xv xs (i + 1))).2.2 h2 _ _ _ _ (by omega) (by omega) (inv_opKeep I _) (p3.sm e1) o2 r2 (by omega)
              · exact absurd rfl c_770
          · exact absurd rfl c_753
        · rw [e_39]
          refine V_tableIn G dL_law_39 (tgt := 778) ⟨by decide, by decide⟩ (by decide) (by decide) rfl (by decide) ?_
          refine V_aload1 G dL_law_778 ?_
          refine V_aload0 G dL_law_779 ?_
          refine V_iload4 G dL_law_780 ?_
          refine V_iconst G dL_law_782 ?_
          refine V_iadd G dL_law_783 ?_
          refine V_sld G SCX (by omega) dL_law_784 ⟨by omega, by omega⟩ ?_
          refine V_aload3 G dL_law_785 ?_
          refine V_hS3 (d1 := 41) (kc1 := 2) (ks1 := 12) G mw_L_126 dL_law_786 (c_L_goBack hlt r RC I (xv_r _ _)) (by omega) (by omega) (by omega) (Nat.le_of_ble_eq_true rfl) (fun x1 h1 hp1 => ?_)
          obtain ⟨p1, p2, p3, r1, p5⟩ := hp1
          have M1 := RM.kp p5.1
          refine V_istore5 G dL_law_789 rfl ?_
          refine V_aload2 G dL_law_791 ?_
          refine V_aload0 G dL_law_792 ?_
          refine V_iload4 G dL_law_793 ?_
          refine V_iconst G dL_law_795 ?_
          refine V_iadd G dL_law_796 ?_
          refine V_sld G SCX (by omega) dL_law_797 ⟨by omega, by omega⟩ ?_
          refine V_cV1i (d1 := 14) G m_L_128 dL_law_798 (by first | decide | assumption) (by first | rfl | assumption) (c_X7_goBack r1 rds_ok M1 I.1 hl6 (xv_r _ _)) (by omega) (by omega) (by omega) (Nat.le_of_ble_eq_true rfl) (fun x2 h2 hp2 => ?_)
          obtain ⟨e1, r2, o1, o2, o3⟩ := hp2
          refine V_istore6 G dL_law_801 rfl ?_
          refine V_aload2 G dL_law_803 ?_
          refine V_cV0i (d1 := 1) G m_L_83 dL_law_804 (by first | decide | assumption) (by first | rfl | assumption) (c_X7_thrown) (by omega) (by omega) (by omega) (Nat.le_of_ble_eq_true rfl) (fun x3 h3 hp3 => ?_)
          rw [show x3 = (opBack g (xv xs (i + 1))).1 from hp3.1.trans o1, hp3.2, p1]
          have po : inr (opBack g (xv xs (i + 1))).1 := by rw [← o1]; exact r2 _ _
          refine V_iload5 G dL_law_807 ?_
          refine V_icmpeq G dL_law_809 (tgt := 814) (by decide) po po (fun c_809 => ?_) (fun c_809 => ?_)
          ·
            refine V_iload5 G dL_law_814 ?_
            refine V_ifne G dL_law_816 (tgt := 831) (by decide) po (fun c_816 => ?_) (fun c_816 => ?_)
            ·
              refine V_goto G dL_law_831 (tgt := 1299) (by decide) ?_
              exact join _ _ (opBack g (xv xs (i + 1))).2.2 h2 _ _ _ _ (by omega) (by omega) (inv_opBack I _) (p3.sm e1) o2 r2 (by omega)
            ·
              refine V_aload3 G dL_law_819 ?_
              refine V_iconst G dL_law_820 ?_
              refine V_lalde G dL_law_821 (by first | decide | assumption) (by first | rfl | assumption) (by decide) ⟨by omega, by omega⟩ ((by rw [e1.2.1]; exact p2 c_816) : hL h2 97 0 = z2l (opBack g (xv xs (i + 1))).2.1) ?_
              refine V_iload6 G dL_law_822 ?_
              refine V_i2l_ G dL_law_824 ?_
              rw [o3 c_816]
              refine V_lcmp_ G dL_law_825 ?_
              rw [show lg_cmp (z2l (opBack g (xv xs (i + 1))).2.1) (Int32.ofInt (opBack g (xv xs (i + 1))).2.1).toInt64 = Int32.ofInt 0 from lcmp_self _]
              refine V_ifeq G dL_law_826 (tgt := 831) (by decide) (by first | exact r _ _ | assumption | exact ⟨by omega, by omega⟩) (fun c_826 => ?_) (fun c_826 => ?_)
              ·
                refine V_goto G dL_law_831 (tgt := 1299) (by decide) ?_
                exact join _ _ (opBack g (xv xs (i + 1))).2.2 h2 _ _ _ _ (by omega) (by omega) (inv_opBack I _) (p3.sm e1) o2 r2 (by omega)
              · exact absurd rfl c_826
          · exact absurd rfl c_809
        · rw [e_39]
          refine V_tableIn G dL_law_39 (tgt := 834) ⟨by decide, by decide⟩ (by decide) (by decide) rfl (by decide) ?_
          refine V_aload1 G dL_law_834 ?_
          refine V_aload3 G dL_law_835 ?_
          refine V_hS2 (d1 := 41) (kc1 := 1) (ks1 := 6) G mw_L_129 dL_law_836 (c_L_undo hlt r RC I) (by omega) (by omega) (by omega) (Nat.le_of_ble_eq_true rfl) (fun x1 h1 hp1 => ?_)
          obtain ⟨p1, p2, p3, r1, p5⟩ := hp1
          have M1 := RM.kp p5.1
          refine V_istore5 G dL_law_839 rfl ?_
          refine V_aload2 G dL_law_841 ?_
          refine V_cV0i (d1 := 14) G m_L_131 dL_law_842 (by first | decide | assumption) (by first | rfl | assumption) (c_X7_undo r1 rds_ok M1 I.1 hl6) (by omega) (by omega) (by omega) (Nat.le_of_ble_eq_true rfl) (fun x2 h2 hp2 => ?_)
          obtain ⟨e1, r2, o1, o2, o3⟩ := hp2
          refine V_istore6 G dL_law_845 rfl ?_
          refine V_aload2 G dL_law_847 ?_
          refine V_cV0i (d1 := 1) G m_L_83 dL_law_848 (by first | decide | assumption) (by first | rfl | assumption) (c_X7_thrown) (by omega) (by omega) (by omega) (Nat.le_of_ble_eq_true rfl) (fun x3 h3 hp3 => ?_)
          rw [show x3 = (opUndo g).1 from hp3.1.trans o1, hp3.2, p1]
          have po : inr (opUndo g).1 := by rw [← o1]; exact r2 _ _
          refine V_iload5 G dL_law_851 ?_
          refine V_icmpeq G dL_law_853 (tgt := 858) (by decide) po po (fun c_853 => ?_) (fun c_853 => ?_)
          ·
            refine V_iload5 G dL_law_858 ?_
            refine V_ifne G dL_law_860 (tgt := 875) (by decide) po (fun c_860 => ?_) (fun c_860 => ?_)
            ·
              refine V_goto G dL_law_875 (tgt := 1299) (by decide) ?_
              exact join _ _ (opUndo g).2.2 h2 _ _ _ _ (by omega) (by omega) (inv_opUndo I) (p3.sm e1) o2 r2 (by omega)
            ·
              refine V_aload3 G dL_law_863 ?_
              refine V_iconst G dL_law_864 ?_
              refine V_lalde G dL_law_865 (by first | decide | assumption) (by first | rfl | assumption) (by decide) ⟨by omega, by omega⟩ ((by rw [e1.2.1]; exact p2 c_860) : hL h2 97 0 = z2l (opUndo g).2.1) ?_
              refine V_iload6 G dL_law_866 ?_
              refine V_i2l_ G dL_law_868 ?_
              rw [o3 c_860]
              refine V_lcmp_ G dL_law_869 ?_
              rw [show lg_cmp (z2l (opUndo g).2.1) (Int32.ofInt (opUndo g).2.1).toInt64 = Int32.ofInt 0 from lcmp_self _]
              refine V_ifeq G dL_law_870 (tgt := 875) (by decide) (by first | exact r _ _ | assumption | exact ⟨by omega, by omega⟩) (fun c_870 => ?_) (fun c_870 => ?_)
              ·
                refine V_goto G dL_law_875 (tgt := 1299) (by decide) ?_
                exact join _ _ (opUndo g).2.2 h2 _ _ _ _ (by omega) (by omega) (inv_opUndo I) (p3.sm e1) o2 r2 (by omega)
              · exact absurd rfl c_870
          · exact absurd rfl c_853
        · rw [e_39]
          refine V_tableIn G dL_law_39 (tgt := 878) ⟨by decide, by decide⟩ (by decide) (by decide) rfl (by decide) ?_
          refine V_aload1 G dL_law_878 ?_
          refine V_aload0 G dL_law_879 ?_
          refine V_iload4 G dL_law_880 ?_
          refine V_iconst G dL_law_882 ?_
          refine V_iadd G dL_law_883 ?_
          refine V_sld G SCX (by omega) dL_law_884 ⟨by omega, by omega⟩ ?_
          refine V_aload0 G dL_law_885 ?_
          refine V_iload4 G dL_law_886 ?_
          refine V_iconst G dL_law_888 ?_
          refine V_iadd G dL_law_889 ?_
          refine V_sld G SCX (by omega) dL_law_890 ⟨by omega, by omega⟩ ?_
          refine V_aload3 G dL_law_891 ?_
          refine V_hS4 (d1 := 41) (kc1 := 2) (ks1 := 12) G mw_L_132 dL_law_892 (c_L_wordOf hlt r RC I (xv_r _ _) (xv_r _ _)) (by omega) (by omega) (by omega) (Nat.le_of_ble_eq_true rfl) (fun x1 h1 hp1 => ?_)
          obtain ⟨p1, p2, p3, r1, p5⟩ := hp1
          have M1 := RM.kp p5.1
          refine V_istore5 G dL_law_895 rfl ?_
          refine V_aload2 G dL_law_897 ?_
          refine V_aload0 G dL_law_898 ?_
          refine V_iload4 G dL_law_899 ?_
          refine V_iconst G dL_law_901 ?_
          refine V_iadd G dL_law_902 ?_
          refine V_sld G SCX (by omega) dL_law_903 ⟨by omega, by omega⟩ ?_
          refine V_aload0 G dL_law_904 ?_
          refine V_iload4 G dL_law_905 ?_
          refine V_iconst G dL_law_907 ?_
          refine V_iadd G dL_law_908 ?_
          refine V_sld G SCX (by omega) dL_law_909 ⟨by omega, by omega⟩ ?_
          refine V_cV2i (d1 := 14) G m_L_134 dL_law_910 (by first | decide | assumption) (by first | rfl | assumption) (c_X7_wordOf r1 rds_ok M1 I.1 (xv_r _ _) (xv_r _ _)) (by omega) (by omega) (by omega) (Nat.le_of_ble_eq_true rfl) (fun x2 h2 hp2 => ?_)
          obtain ⟨e1, r2, o1, o2, o3⟩ := hp2
          refine V_istore6 G dL_law_913 rfl ?_
          refine V_aload2 G dL_law_915 ?_
          refine V_cV0i (d1 := 1) G m_L_83 dL_law_916 (by first | decide | assumption) (by first | rfl | assumption) (c_X7_thrown) (by omega) (by omega) (by omega) (Nat.le_of_ble_eq_true rfl) (fun x3 h3 hp3 => ?_)
          rw [show x3 = (opWord g (xv xs (i + 1)) (xv xs (i + 2))).1 from hp3.1.trans o1, hp3.2, p1]
          have po : inr (opWord g (xv xs (i + 1)) (xv xs (i + 2))).1 := by rw [← o1]; exact r2 _ _
          refine V_iload5 G dL_law_919 ?_
          refine V_icmpeq G dL_law_921 (tgt := 926) (by decide) po po (fun c_921 => ?_) (fun c_921 => ?_)
          ·
            refine V_iload5 G dL_law_926 ?_
            refine V_ifne G dL_law_928 (tgt := 943) (by decide) po (fun c_928 => ?_) (fun c_928 => ?_)
            ·
              refine V_goto G dL_law_943 (tgt := 1299) (by decide) ?_
              exact join _ _ (opWord g (xv xs (i + 1)) (xv xs (i + 2))).2.2 h2 _ _ _ _ (by omega) (by omega) (inv_opWord I _ _) (p3.sm e1) o2 r2 (by omega)
            ·
              refine V_aload3 G dL_law_931 ?_
              refine V_iconst G dL_law_932 ?_
              refine V_lalde G dL_law_933 (by first | decide | assumption) (by first | rfl | assumption) (by decide) ⟨by omega, by omega⟩ ((by rw [e1.2.1]; exact p2 c_928) : hL h2 97 0 = z2l (opWord g (xv xs (i + 1)) (xv xs (i + 2))).2.1) ?_
              refine V_iload6 G dL_law_934 ?_
              refine V_i2l_ G dL_law_936 ?_
              rw [o3 c_928]
              refine V_lcmp_ G dL_law_937 ?_
              rw [show lg_cmp (z2l (opWord g (xv xs (i + 1)) (xv xs (i + 2))).2.1) (Int32.ofInt (opWord g (xv xs (i + 1)) (xv xs (i + 2))).2.1).toInt64 = Int32.ofInt 0 from lcmp_self _]
              refine V_ifeq G dL_law_938 (tgt := 943) (by decide) (by first | exact r _ _ | assumption | exact ⟨by omega, by omega⟩) (fun c_938 => ?_) (fun c_938 => ?_)
              ·
                refine V_goto G dL_law_943 (tgt := 1299) (by decide) ?_
                exact join _ _ (opWord g (xv xs (i + 1)) (xv xs (i + 2))).2.2 h2 _ _ _ _ (by omega) (by omega) (inv_opWord I _ _) (p3.sm e1) o2 r2 (by omega)
              · exact absurd rfl c_938
          · exact absurd rfl c_921
        · rw [e_39]
          refine V_tableIn G dL_law_39 (tgt := 946) ⟨by decide, by decide⟩ (by decide) (by decide) rfl (by decide) ?_
          refine V_aload1 G dL_law_946 ?_
          refine V_aload0 G dL_law_947 ?_
          refine V_iload4 G dL_law_948 ?_
          refine V_iconst G dL_law_950 ?_
          refine V_iadd G dL_law_951 ?_
          refine V_sld G SCX (by omega) dL_law_952 ⟨by omega, by omega⟩ ?_
          refine V_aload0 G dL_law_953 ?_
          refine V_iload4 G dL_law_954 ?_
          refine V_iconst G dL_law_956 ?_
          refine V_iadd G dL_law_957 ?_
          refine V_sld G SCX (by omega) dL_law_958 ⟨by omega, by omega⟩ ?_
          refine V_aload3 G dL_law_959 ?_
          refine V_hS4 (d1 := 41) (kc1 := 2) (ks1 := 12) G mw_L_135 dL_law_960 (c_L_readingOf hlt r RC I (xv_r _ _) (xv_r _ _)) (by omega) (by omega) (by omega) (Nat.le_of_ble_eq_true rfl) (fun x1 h1 hp1 => ?_)
          obtain ⟨p1, p2, p3, r1, p5⟩ := hp1
          have M1 := RM.kp p5.1
          refine V_istore5 G dL_law_963 rfl ?_
          refine V_aload2 G dL_law_965 ?_
          refine V_aload0 G dL_law_966 ?_
          refine V_iload4 G dL_law_967 ?_
          refine V_iconst G dL_law_969 ?_
          refine V_iadd G dL_law_970 ?_
          refine V_sld G SCX (by omega) dL_law_971 ⟨by omega, by omega⟩ ?_
          refine V_aload0 G dL_law_972 ?_
          refine V_iload4 G dL_law_973 ?_
          refine V_iconst G dL_law_975 ?_
          refine V_iadd G dL_law_976 ?_
          refine V_sld G SCX (by omega) dL_law_977 ⟨by omega, by omega⟩ ?_
          refine V_cV2i (d1 := 14) G m_L_137 dL_law_978 (by first | decide | assumption) (by first | rfl | assumption) (c_X7_readingOf r1 rds_ok M1 I.1 (xv_r _ _) (xv_r _ _)) (by omega) (by omega) (by omega) (Nat.le_of_ble_eq_true rfl) (fun x2 h2 hp2 => ?_)
          obtain ⟨e1, r2, o1, o2, o3⟩ := hp2
          refine V_istore6 G dL_law_981 rfl ?_
          refine V_aload2 G dL_law_983 ?_
          refine V_cV0i (d1 := 1) G m_L_83 dL_law_984 (by first | decide | assumption) (by first | rfl | assumption) (c_X7_thrown) (by omega) (by omega) (by omega) (Nat.le_of_ble_eq_true rfl) (fun x3 h3 hp3 => ?_)
          rw [show x3 = (opRead g (xv xs (i + 1)) (xv xs (i + 2))).1 from hp3.1.trans o1, hp3.2, p1]
          have po : inr (opRead g (xv xs (i + 1)) (xv xs (i + 2))).1 := by rw [← o1]; exact r2 _ _
          refine V_iload5 G dL_law_987 ?_
          refine V_icmpeq G dL_law_989 (tgt := 994) (by decide) po po (fun c_989 => ?_) (fun c_989 => ?_)
          ·
            refine V_iload5 G dL_law_994 ?_
            refine V_ifne G dL_law_996 (tgt := 1011) (by decide) po (fun c_996 => ?_) (fun c_996 => ?_)
            ·
              refine V_goto G dL_law_1011 (tgt := 1299) (by decide) ?_
              exact join _ _ (opRead g (xv xs (i + 1)) (xv xs (i + 2))).2.2 h2 _ _ _ _ (by omega) (by omega) (inv_opRead I _ _) (p3.sm e1) o2 r2 (by omega)
            ·
              refine V_aload3 G dL_law_999 ?_
              refine V_iconst G dL_law_1000 ?_
              refine V_lalde G dL_law_1001 (by first | decide | assumption) (by first | rfl | assumption) (by decide) ⟨by omega, by omega⟩ ((by rw [e1.2.1]; exact p2 c_996) : hL h2 97 0 = z2l (opRead g (xv xs (i + 1)) (xv xs (i + 2))).2.1) ?_
              refine V_iload6 G dL_law_1002 ?_
              refine V_i2l_ G dL_law_1004 ?_
              rw [o3 c_996]
              refine V_lcmp_ G dL_law_1005 ?_
              rw [show lg_cmp (z2l (opRead g (xv xs (i + 1)) (xv xs (i + 2))).2.1) (Int32.ofInt (opRead g (xv xs (i + 1)) (xv xs (i + 2))).2.1).toInt64 = Int32.ofInt 0 from lcmp_self _]
              refine V_ifeq G dL_law_1006 (tgt := 1011) (by decide) (by first | exact r _ _ | assumption | exact ⟨by omega, by omega⟩) (fun c_1006 => ?_) (fun c_1006 => ?_)
              ·
                refine V_goto G dL_law_1011 (tgt := 1299) (by decide) ?_
                exact join _ _ (opRead g (xv xs (i + 1)) (xv xs (i + 2))).2.2 h2 _ _ _ _ (by omega) (by omega) (inv_opRead I _ _) (p3.sm e1) o2 r2 (by omega)
              · exact absurd rfl c_1006
          · exact absurd rfl c_989
        · rw [e_39]
          refine V_tableIn G dL_law_39 (tgt := 1014) ⟨by decide, by decide⟩ (by decide) (by decide) rfl (by decide) ?_
          refine V_aload1 G dL_law_1014 ?_
          refine V_aload0 G dL_law_1015 ?_
          refine V_iload4 G dL_law_1016 ?_
          refine V_iconst G dL_law_1018 ?_
          refine V_iadd G dL_law_1019 ?_
          refine V_sld G SCX (by omega) dL_law_1020 ⟨by omega, by omega⟩ ?_
          refine V_aload3 G dL_law_1021 ?_
          refine V_hS3 (d1 := 41) (kc1 := 1) (ks1 := 6) G mw_L_138 dL_law_1022 (c_L_count hlt r RC I (xv_r _ _)) (by omega) (by omega) (by omega) (Nat.le_of_ble_eq_true rfl) (fun x1 h1 hp1 => ?_)
          obtain ⟨p1, p2, p3, r1, p5⟩ := hp1
          have M1 := RM.kp p5.1
          refine V_istore5 G dL_law_1025 rfl ?_
          refine V_aload2 G dL_law_1027 ?_
          refine V_aload0 G dL_law_1028 ?_
          refine V_iload4 G dL_law_1029 ?_
          refine V_iconst G dL_law_1031 ?_
          refine V_iadd G dL_law_1032 ?_
          refine V_sld G SCX (by omega) dL_law_1033 ⟨by omega, by omega⟩ ?_
          refine V_cV1i (d1 := 14) G m_L_140 dL_law_1034 (by first | decide | assumption) (by first | rfl | assumption) (c_X7_count r1 rds_ok M1 I.1 (xv_r _ _)) (by omega) (by omega) (by omega) (Nat.le_of_ble_eq_true rfl) (fun x2 h2 hp2 => ?_)
          obtain ⟨e1, r2, o1, o2, o3⟩ := hp2
          refine V_istore6 G dL_law_1037 rfl ?_
          refine V_aload2 G dL_law_1039 ?_
          refine V_cV0i (d1 := 1) G m_L_83 dL_law_1040 (by first | decide | assumption) (by first | rfl | assumption) (c_X7_thrown) (by omega) (by omega) (by omega) (Nat.le_of_ble_eq_true rfl) (fun x3 h3 hp3 => ?_)
          rw [show x3 = (opCount g (xv xs (i + 1))).1 from hp3.1.trans o1, hp3.2, p1]
          have po : inr (opCount g (xv xs (i + 1))).1 := by rw [← o1]; exact r2 _ _
          refine V_iload5 G dL_law_1043 ?_
          refine V_icmpeq G dL_law_1045 (tgt := 1050) (by decide) po po (fun c_1045 => ?_) (fun c_1045 => ?_)
          ·
            refine V_iload5 G dL_law_1050 ?_
            refine V_ifne G dL_law_1052 (tgt := 1067) (by decide) po (fun c_1052 => ?_) (fun c_1052 => ?_)
            ·
              refine V_goto G dL_law_1067 (tgt := 1299) (by decide) ?_
              exact join _ _ (opCount g (xv xs (i + 1))).2.2 h2 _ _ _ _ (by omega) (by omega) (inv_opCount I _) (p3.sm e1) o2 r2 (by omega)
            ·
              refine V_aload3 G dL_law_1055 ?_
              refine V_iconst G dL_law_1056 ?_
              refine V_lalde G dL_law_1057 (by first | decide | assumption) (by first | rfl | assumption) (by decide) ⟨by omega, by omega⟩ ((by rw [e1.2.1]; exact p2 c_1052) : hL h2 97 0 = z2l (opCount g (xv xs (i + 1))).2.1) ?_
              refine V_iload6 G dL_law_1058 ?_
              refine V_i2l_ G dL_law_1060 ?_
              rw [o3 c_1052]
              refine V_lcmp_ G dL_law_1061 ?_
              rw [show lg_cmp (z2l (opCount g (xv xs (i + 1))).2.1) (Int32.ofInt (opCount g (xv xs (i + 1))).2.1).toInt64 = Int32.ofInt 0 from lcmp_self _]
              refine V_ifeq G dL_law_1062 (tgt := 1067) (by decide) (by first | exact r _ _ | assumption | exact ⟨by omega, by omega⟩) (fun c_1062 => ?_) (fun c_1062 => ?_)
              ·
                refine V_goto G dL_law_1067 (tgt := 1299) (by decide) ?_
                exact join _ _ (opCount g (xv xs (i + 1))).2.2 h2 _ _ _ _ (by omega) (by omega) (inv_opCount I _) (p3.sm e1) o2 r2 (by omega)
              · exact absurd rfl c_1062
          · exact absurd rfl c_1045
        · rw [e_39]
          refine V_tableIn G dL_law_39 (tgt := 1070) ⟨by decide, by decide⟩ (by decide) (by decide) rfl (by decide) ?_
          refine V_aload1 G dL_law_1070 ?_
          refine V_aload0 G dL_law_1071 ?_
          refine V_iload4 G dL_law_1072 ?_
          refine V_iconst G dL_law_1074 ?_
          refine V_iadd G dL_law_1075 ?_
          refine V_sld G SCX (by omega) dL_law_1076 ⟨by omega, by omega⟩ ?_
          refine V_aload0 G dL_law_1077 ?_
          refine V_iload4 G dL_law_1078 ?_
          refine V_iconst G dL_law_1080 ?_
          refine V_iadd G dL_law_1081 ?_
          refine V_sld G SCX (by omega) dL_law_1082 ⟨by omega, by omega⟩ ?_
          refine V_aload0 G dL_law_1083 ?_
          refine V_iload4 G dL_law_1084 ?_
          refine V_iconst G dL_law_1086 ?_
          refine V_iadd G dL_law_1087 ?_
          refine V_sld G SCX (by omega) dL_law_1088 ⟨by omega, by omega⟩ ?_
          refine V_aload3 G dL_law_1089 ?_
          refine V_hS5 (d1 := 41) (kc1 := 1) (ks1 := 6) G mw_L_141 dL_law_1090 (c_L_part hlt r RC I (xv_r _ _) (xv_r _ _) (xv_r _ _)) (by omega) (by omega) (by omega) (Nat.le_of_ble_eq_true rfl) (fun x1 h1 hp1 => ?_)
          obtain ⟨p1, p2, p3, r1, p5⟩ := hp1
          have M1 := RM.kp p5.1
          refine V_istore5 G dL_law_1093 rfl ?_
          refine V_aload2 G dL_law_1095 ?_
          refine V_aload0 G dL_law_1096 ?_
          refine V_iload4 G dL_law_1097 ?_
          refine V_iconst G dL_law_1099 ?_
          refine V_iadd G dL_law_1100 ?_
          refine V_sld G SCX (by omega) dL_law_1101 ⟨by omega, by omega⟩ ?_
          refine V_aload0 G dL_law_1102 ?_
          refine V_iload4 G dL_law_1103 ?_
          refine V_iconst G dL_law_1105 ?_
          refine V_iadd G dL_law_1106 ?_
          refine V_sld G SCX (by omega) dL_law_1107 ⟨by omega, by omega⟩ ?_
          refine V_aload0 G dL_law_1108 ?_
          refine V_iload4 G dL_law_1109 ?_
          refine V_iconst G dL_law_1111 ?_
          refine V_iadd G dL_law_1112 ?_
          refine V_sld G SCX (by omega) dL_law_1113 ⟨by omega, by omega⟩ ?_
          refine V_cV3i (d1 := 14) G m_L_144 dL_law_1114 (by first | decide | assumption) (by first | rfl | assumption) (c_X7_part r1 M1 I.1 (xv_r _ _) (xv_r _ _) (xv_r _ _)) (by omega) (by omega) (by omega) (Nat.le_of_ble_eq_true rfl) (fun x2 h2 hp2 => ?_)
          obtain ⟨e1, r2, o1, o2, o3⟩ := hp2
          refine V_istore6 G dL_law_1117 rfl ?_
          refine V_aload2 G dL_law_1119 ?_
          refine V_cV0i (d1 := 1) G m_L_83 dL_law_1120 (by first | decide | assumption) (by first | rfl | assumption) (c_X7_thrown) (by omega) (by omega) (by omega) (Nat.le_of_ble_eq_true rfl) (fun x3 h3 hp3 => ?_)
          rw [show x3 = (opPart g (xv xs (i + 1)) (xv xs (i + 2)) (xv xs (i + 3))).1 from hp3.1.trans o1, hp3.2, p1]
          have po : inr (opPart g (xv xs (i + 1)) (xv xs (i + 2)) (xv xs (i + 3))).1 := by rw [← o1]; exact r2 _ _
          refine V_iload5 G dL_law_1123 ?_
          refine V_icmpeq G dL_law_1125 (tgt := 1130) (by decide) po po (fun c_1125 => ?_) (fun c_1125 => ?_)
          ·
            refine V_iload5 G dL_law_1130 ?_
            refine V_ifne G dL_law_1132 (tgt := 1147) (by decide) po (fun c_1132 => ?_) (fun c_1132 => ?_)
            ·
              refine V_goto G dL_law_1147 (tgt := 1299) (by decide) ?_
              exact join _ _ (opPart g (xv xs (i + 1)) (xv xs (i + 2)) (xv xs (i + 3))).2.2 h2 _ _ _ _ (by omega) (by omega) (inv_opPart I _ _ _) (p3.sm e1) o2 r2 (by omega)
            ·
              refine V_aload3 G dL_law_1135 ?_
              refine V_iconst G dL_law_1136 ?_
              refine V_lalde G dL_law_1137 (by first | decide | assumption) (by first | rfl | assumption) (by decide) ⟨by omega, by omega⟩ ((by rw [e1.2.1]; exact p2 c_1132) : hL h2 97 0 = z2l (opPart g (xv xs (i + 1)) (xv xs (i + 2)) (xv xs (i + 3))).2.1) ?_
              refine V_iload6 G dL_law_1138 ?_
              refine V_i2l_ G dL_law_1140 ?_
              rw [o3 c_1132]
              refine V_lcmp_ G dL_law_1141 ?_
              rw [show lg_cmp (z2l (opPart g (xv xs (i + 1)) (xv xs (i + 2)) (xv xs (i + 3))).2.1) (Int32.ofInt (opPart g (xv xs (i + 1)) (xv xs (i + 2)) (xv xs (i + 3))).2.1).toInt64 = Int32.ofInt 0 from lcmp_self _]
              refine V_ifeq G dL_law_1142 (tgt := 1147) (by decide) (by first | exact r _ _ | assumption | exact ⟨by omega, by omega⟩) (fun c_1142 => ?_) (fun c_1142 => ?_)
              ·
                refine V_goto G dL_law_1147 (tgt := 1299) (by decide) ?_
                exact join _ _ (opPart g (xv xs (i + 1)) (xv xs (i + 2)) (xv xs (i + 3))).2.2 h2 _ _ _ _ (by omega) (by omega) (inv_opPart I _ _ _) (p3.sm e1) o2 r2 (by omega)
              · exact absurd rfl c_1142
          · exact absurd rfl c_1125
        · rw [e_39]
          refine V_tableIn G dL_law_39 (tgt := 1150) ⟨by decide, by decide⟩ (by decide) (by decide) rfl (by decide) ?_
          refine V_aload1 G dL_law_1150 ?_
          refine V_aload0 G dL_law_1151 ?_
          refine V_iload4 G dL_law_1152 ?_
          refine V_iconst G dL_law_1154 ?_
          refine V_iadd G dL_law_1155 ?_
          refine V_sld G SCX (by omega) dL_law_1156 ⟨by omega, by omega⟩ ?_
          refine V_aload0 G dL_law_1157 ?_
          refine V_iload4 G dL_law_1158 ?_
          refine V_iconst G dL_law_1160 ?_
          refine V_iadd G dL_law_1161 ?_
          refine V_sld G SCX (by omega) dL_law_1162 ⟨by omega, by omega⟩ ?_
          refine V_aload3 G dL_law_1163 ?_
          refine V_hS4 (d1 := 41) (kc1 := 2) (ks1 := 12) G mw_L_145 dL_law_1164 (c_L_ifFixed hlt r RC I (xv_r _ _) (xv_r _ _)) (by omega) (by omega) (by omega) (Nat.le_of_ble_eq_true rfl) (fun x1 h1 hp1 => ?_)
          obtain ⟨p1, p2, p3, r1, p5⟩ := hp1
          have M1 := RM.kp p5.1
          refine V_istore5 G dL_law_1167 rfl ?_
          refine V_aload2 G dL_law_1169 ?_
          refine V_aload0 G dL_law_1170 ?_
          refine V_iload4 G dL_law_1171 ?_
          refine V_iconst G dL_law_1173 ?_
          refine V_iadd G dL_law_1174 ?_
          refine V_sld G SCX (by omega) dL_law_1175 ⟨by omega, by omega⟩ ?_
          refine V_aload0 G dL_law_1176 ?_
          refine V_iload4 G dL_law_1177 ?_
          refine V_iconst G dL_law_1179 ?_
          refine V_iadd G dL_law_1180 ?_
          refine V_sld G SCX (by omega) dL_law_1181 ⟨by omega, by omega⟩ ?_
          refine V_cV2i (d1 := 14) G m_L_147 dL_law_1182 (by first | decide | assumption) (by first | rfl | assumption) (c_X7_ifFixed r1 rds_ok M1 I.1 hl6 (xv_r _ _) (xv_r _ _)) (by omega) (by omega) (by omega) (Nat.le_of_ble_eq_true rfl) (fun x2 h2 hp2 => ?_)
          obtain ⟨e1, r2, o1, o2, o3⟩ := hp2
          refine V_istore6 G dL_law_1185 rfl ?_
          refine V_aload2 G dL_law_1187 ?_
          refine V_cV0i (d1 := 1) G m_L_83 dL_law_1188 (by first | decide | assumption) (by first | rfl | assumption) (c_X7_thrown) (by omega) (by omega) (by omega) (Nat.le_of_ble_eq_true rfl) (fun x3 h3 hp3 => ?_)
          rw [show x3 = (opIf g (xv xs (i + 1)) (xv xs (i + 2))).1 from hp3.1.trans o1, hp3.2, p1]
          have po : inr (opIf g (xv xs (i + 1)) (xv xs (i + 2))).1 := by rw [← o1]; exact r2 _ _
          refine V_iload5 G dL_law_1191 ?_
          refine V_icmpeq G dL_law_1193 (tgt := 1198) (by decide) po po (fun c_1193 => ?_) (fun c_1193 => ?_)
          ·
            refine V_iload5 G dL_law_1198 ?_
            refine V_ifne G dL_law_1200 (tgt := 1215) (by decide) po (fun c_1200 => ?_) (fun c_1200 => ?_)
            ·
              refine V_goto G dL_law_1215 (tgt := 1299) (by decide) ?_
              exact join _ _ (opIf g (xv xs (i + 1)) (xv xs (i + 2))).2.2 h2 _ _ _ _ (by omega) (by omega) (inv_opIf I _ _) (p3.sm e1) o2 r2 (by omega)
            ·
              refine V_aload3 G dL_law_1203 ?_
              refine V_iconst G dL_law_1204 ?_
              refine V_lalde G dL_law_1205 (by first | decide | assumption) (by first | rfl | assumption) (by decide) ⟨by omega, by omega⟩ ((by rw [e1.2.1]; exact p2 c_1200) : hL h2 97 0 = z2l (opIf g (xv xs (i + 1)) (xv xs (i + 2))).2.1) ?_
              refine V_iload6 G dL_law_1206 ?_
              refine V_i2l_ G dL_law_1208 ?_
              rw [o3 c_1200]
              refine V_lcmp_ G dL_law_1209 ?_
              rw [show lg_cmp (z2l (opIf g (xv xs (i + 1)) (xv xs (i + 2))).2.1) (Int32.ofInt (opIf g (xv xs (i + 1)) (xv xs (i + 2))).2.1).toInt64 = Int32.ofInt 0 from lcmp_self _]
              refine V_ifeq G dL_law_1210 (tgt := 1215) (by decide) (by first | exact r _ _ | assumption | exact ⟨by omega, by omega⟩) (fun c_1210 => ?_) (fun c_1210 => ?_)
              ·
                refine V_goto G dL_law_1215 (tgt := 1299) (by decide) ?_
                exact join _ _ (opIf g (xv xs (i + 1)) (xv xs (i + 2))).2.2 h2 _ _ _ _ (by omega) (by omega) (inv_opIf I _ _) (p3.sm e1) o2 r2 (by omega)
              · exact absurd rfl c_1210
          · exact absurd rfl c_1193
        · rw [e_39]
          refine V_tableIn G dL_law_39 (tgt := 1218) ⟨by decide, by decide⟩ (by decide) (by decide) rfl (by decide) ?_
          refine V_aload1 G dL_law_1218 ?_
          refine V_cV0i (d1 := 40) G m_L_148 dL_law_1219 (by first | decide | assumption) (by first | rfl | assumption) (c_X6_question r RC I) (by omega) (by omega) (by omega) (Nat.le_of_ble_eq_true rfl) (fun x1 h1 hp1 => ?_)
          obtain ⟨p1, p2, p3, r1, p5⟩ := hp1
          have M1 := RM.kp p5.1
          refine V_aload2 G dL_law_1222 ?_
          refine V_cV0i (d1 := 14) G m_L_151 dL_law_1223 (by first | decide | assumption) (by first | rfl | assumption) (c_X7_question r1 rds_ok M1 I.1) (by omega) (by omega) (by omega) (Nat.le_of_ble_eq_true rfl) (fun x2 h2 hp2 => ?_)
          obtain ⟨e1, r2, o1, o2, o3⟩ := hp2
          rw [p2, o3 p1]
          refine V_icmpeq_ G dL_law_1226 (tgt := 1299) (by decide) (fun _ => ?_) (fun q => absurd rfl q)
          exact join _ _ (opAsk g).2.2 h2 _ _ _ _ (by omega) (by omega) I (p3.sm e1) o2 r2 (by omega)
        · rw [e_39]
          refine V_tableIn G dL_law_39 (tgt := 1231) ⟨by decide, by decide⟩ (by decide) (by decide) rfl (by decide) ?_
          refine V_aload1 G dL_law_1231 ?_
          refine V_cV0i (d1 := 40) G m_L_152 dL_law_1232 (by first | decide | assumption) (by first | rfl | assumption) (c_X6_next r RC I) (by omega) (by omega) (by omega) (Nat.le_of_ble_eq_true rfl) (fun x1 h1 hp1 => ?_)
          obtain ⟨p1, p2, p3, r1, p5⟩ := hp1
          have M1 := RM.kp p5.1
          refine V_aload2 G dL_law_1235 ?_
          refine V_cV0i (d1 := 14) G m_L_155 dL_law_1236 (by first | decide | assumption) (by first | rfl | assumption) (c_X7_next r1 M1 I.1) (by omega) (by omega) (by omega) (Nat.le_of_ble_eq_true rfl) (fun x2 h2 hp2 => ?_)
          obtain ⟨e1, r2, o1, o2, o3⟩ := hp2
          rw [p2, o3 p1]
          refine V_icmpeq_ G dL_law_1239 (tgt := 1299) (by decide) (fun _ => ?_) (fun q => absurd rfl q)
          exact join _ _ (opNext g).2.2 h2 _ _ _ _ (by omega) (by omega) I (p3.sm e1) o2 r2 (by omega)
        · rw [e_39]
          refine V_tableIn G dL_law_39 (tgt := 1244) ⟨by decide, by decide⟩ (by decide) (by decide) rfl (by decide) ?_
          refine V_aload1 G dL_law_1244 ?_
          refine V_cV0d (d1 := 40) G m_L_156 dL_law_1245 (by first | decide | assumption) (by first | rfl | assumption) (c_X6_sureShare r RC I) (by omega) (by omega) (by omega) (Nat.le_of_ble_eq_true rfl) (fun x1 h1 hp1 => ?_)
          rw [hp1.1, hp1.2]
          refine V_dstore5 G dL_law_1248 rfl ?_
          refine V_aload2 G dL_law_1250 ?_
          refine V_cV0d (d1 := 7) G m_L_160 dL_law_1251 (by first | decide | assumption) (by first | rfl | assumption) (c_X7_sureShare r rds_ok RM I.1) (by omega) (by omega) (by omega) (Nat.le_of_ble_eq_true rfl) (fun x2 h2 hp2 => ?_)
          obtain ⟨o1, e1, r2, o2⟩ := hp2
          rw [o1]
          refine V_dstore7 G dL_law_1254 rfl ?_
          refine V_dload5 G dL_law_1256 ?_
          refine V_dload7 G dL_law_1258 ?_
          refine V_dcmp G dL_law_1260 ?_
          rw [dcmp_z I.1.1]
          refine V_ifeq G dL_law_1261 (tgt := 1282) (by decide) (by first | exact r _ _ | assumption | exact ⟨by omega, by omega⟩) (fun c_1261 => ?_) (fun c_1261 => ?_)
          ·
            refine V_goto G dL_law_1282 (tgt := 1299) (by decide) ?_
            exact join _ _ g h2 _ _ _ _ (by omega) (by omega) I (RC.sm e1) o2 r2 (by omega)
          · exact absurd rfl c_1261
        · rw [e_39]
          refine V_tableIn G dL_law_39 (tgt := 1285) ⟨by decide, by decide⟩ (by decide) (by decide) rfl (by decide) ?_
          refine V_aload1 G dL_law_1285 ?_
          refine V_cV0l (d1 := 40) G m_L_161 dL_law_1286 (by first | decide | assumption) (by first | rfl | assumption) (c_X6_digest r RC I) (by omega) (by omega) (by omega) (Nat.le_of_ble_eq_true rfl) (fun x1 h1 hp1 => ?_)
          obtain ⟨p1, p2, r1, p5⟩ := hp1
          have M1 := RM.kp p5.1
          refine V_aload2 G dL_law_1289 ?_
          refine V_cV0l (d1 := 14) G m_L_165 dL_law_1290 (by first | decide | assumption) (by first | rfl | assumption) (c_X7_digest r1 rds_ok M1 I.1 hb20) (by omega) (by omega) (by omega) (Nat.le_of_ble_eq_true rfl) (fun x2 h2 hp2 => ?_)
          obtain ⟨o1, e1, r2, o2, o3⟩ := hp2
          rw [p1, o1]
          refine V_lcmp_ G dL_law_1293 ?_
          rw [show lg_cmp (digS g) (digS g) = Int32.ofInt 0 from lcmp_self _]
          refine V_ifeq G dL_law_1294 (tgt := 1299) (by decide) (by first | exact r _ _ | assumption | exact ⟨by omega, by omega⟩) (fun c_1294 => ?_) (fun c_1294 => ?_)
          ·
            first
            | exact join _ _ g h2 _ _ _ _ (by omega) (by omega) I (p2.m (fun a j q => e1.1 a j (SM_f (Or.inl q))) (fun a j q => e1.2.1 a j (fun z => by omega)) e1.2.2) o2 r2 (by omega)
            | exact join _ _ g h _ _ _ _ (by omega) (by omega) I RC RM r (by omega)
          · exact absurd rfl c_1294
        ·
          refine V_tableOut G dL_law_39 (tgt := 1299) hz0 e_39 (by decide) ?_
          first
          | exact join _ _ g h2 _ _ _ _ (by omega) (by omega) I (p2.m (fun a j q => e1.1 a j (SM_f (Or.inl q))) (fun a j q => e1.2.1 a j (fun z => by omega)) e1.2.2) o2 r2 (by omega)
          | exact join _ _ g h _ _ _ _ (by omega) (by omega) I RC RM r (by omega)
  exact lp 514 0 k0 n0 g h a5 a6 a7 a8 (by omega) (by omega) (by omega) (by omega) (by omega) I RC RM r

end C24
