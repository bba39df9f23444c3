section BRA
variable {p : Program} {l : Launch} {e : Env} {R : Room} {s : State} {m : MethodId} {args : Array Value} {below : List Frame} {meth : Method} {c : Code} {H : Heap} {locs : List Loc} {cells slots : Nat} {Q : State → Prop}
variable {cc : ByteArray} {pc : Nat} {ls : Array Slot} {rest : List Value} {D : va_G} {cl : List vw_C} {A : Nat → Prop} {a : Nat} {tys : List (ClassId × FieldType)} {ws : va_W} {H0 : Heap}
/-- an int is stored in an array: the heap's size stays -/
theorem va_sz_iast (hx : p.tables.exec = Jvm.exec) (hb : c.code = cc) (hK : va_K D cl tys s) (hP : va_P D cl ws H) (hD : va_D A ws) (hS : va_S A H0 H locs) (q0 t0 : Nat) {cA : ClassId} {n : Nat} {f : Nat → Int32} (ha : ws[q0]? = some (a, .inl (cA, n, .inl f))) (ht : tys[t0]? = some (cA, .int)) {i : Int32} {x : Int32} (hin : vp_in i n) (hd : decode cc pc = .ok (.iastore, 1))
    (kk : ∀ (H1 : Heap) (locs1 : List Loc), H1.size = H.size → va_P D cl (ws.set q0 (a, .inl (cA, n, .inl (upd f i.toNatClampNeg x)))) H1 → va_S A H0 H1 locs1 → W p l e R s m args below meth c H1 locs1 cells slots Q (F0 m (pc + 1) ls rest)) : W p l e R s m args below meth c H locs cells slots Q (F0 m pc ls (.int x :: .int i :: .ref a :: rest)) := by
  refine W.iast hx hb (hP q0 _ ha) ((hK.2 t0 _ ht).1 n (fun j => .int (f j))) (fun q => by cases q) (by show ¬ (i < 0 ∨ (arrV _ _ _).slots.size ≤ _); rw [arrV_size]; exact hin) rfl rfl hd fun H1 e1 z oq => ?_
  refine kk H1 _ z (hP.set hD ha ?_ oq) (hS.put z oq (hD.2 q0 _ ha))
  show H1[a]? = some (vp_cell _ _)
  rw [e1, vp_cell_i, vp_cell_i, arrV_store]
  congr 2
  funext q
  by_cases hq : q = i.toNatClampNeg
  · subst hq
    simp [updV, upd]
  · simp [updV, upd, hq]
/-- a reference is stored in an array: the heap's size stays -/
theorem va_sz_aast (hx : p.tables.exec = Jvm.exec) (hb : c.code = cc) (hK : va_K D cl tys s) (hP : va_P D cl ws H) (hD : va_D A ws) (hS : va_S A H0 H locs) (q0 t0 qk ci : Nat) {E : String} {cA : ClassId} {r : vw_C} {n v : Nat} {vs : List Value} {f : Nat → Option Nat} (ha : ws[q0]? = some (a, .inl (cA, n, .inr (.inr (.inr (.inr f)))))) (ht : tys[t0]? = some (cA, .object E)) (hca : va_Nw (.castable r.1 E) s) (hv : ws[qk]? = some (v, .inr (ci, vs))) (hc : cl[ci]? = some r) {i : Int32} (hin : vp_in i n) (hd : decode cc pc = .ok (.aastore, 1))
    (kk : ∀ (H1 : Heap) (locs1 : List Loc), H1.size = H.size → va_P D cl (ws.set q0 (a, .inl (cA, n, .inr (.inr (.inr (.inr (va_up f i.toNatClampNeg (some v)))))))) H1 → va_S A H0 H1 locs1 → W p l e R s m args below meth c H1 locs1 cells slots Q (F0 m (pc + 1) ls rest)) : W p l e R s m args below meth c H locs cells slots Q (F0 m pc ls (.ref v :: .int i :: .ref a :: rest)) := by
  have hlt : i.toNatClampNeg < n := Nat.not_le.mp fun q => hin (Or.inr q)
  have h0 : ¬ i < 0 := fun q => hin (Or.inl q)
  obtain ⟨r', hr', cellV, g1, g2, g3, -⟩ := hP qk _ hv
  have hcls := (hK.1 ci r hc).2
  obtain ⟨kA, comp, k1, k2, k3, -⟩ := (hK.2 t0 _ ht).2
  obtain ⟨kE, hkE, -⟩ := Vm.findClass_spec k3
  obtain ⟨c0, t1, f1, f2, f3⟩ := Cond.castable_spec (va_Nw.use (A := args) rfl hca)
  cases hcls.1.symm.trans f1
  cases k3.symm.trans f2
  obtain ⟨kC, hkC, -⟩ := hcls.2
  refine W.aast hx hb (hP q0 _ ha) (fun q h => by cases h) (fun h => by cases h) k1 k2 rfl hkE ⟨h0, by show _ < (arrV _ _ _).slots.size; rw [arrV_size]; exact hlt⟩ g1 (fun q h => by rw [g3] at h; cases h) (by rw [g2]; exact hkC) (by rw [g2]; exact f3) rfl rfl hd fun H1 e1 z oq => ?_
  refine kk H1 _ z (hP.set hD ha ?_ oq) (hS.put z oq (hD.2 q0 _ ha))
  show H1[a]? = some (vp_cell _ _)
  rw [e1, vp_cell_q, vp_cell_q, arrV_store]
  congr 2
  funext q
  by_cases hq : q = i.toNatClampNeg
  · subst hq
    simp [updV, va_up, va_rf]
  · simp [updV, va_up, hq]
/-- a new array of references: one cell more -/
theorem va_sz_newq (hx : p.tables.exec = Jvm.exec) (hb : c.code = cc) {own C : String} {index : Nat} (hown : s.vm.findClass own = some m.cls) (hcl : (Cond.classLink own index C).before args s = true) (hover : va_AO C s) {cT : ClassId} (hT : va_RA s cT (.object C)) (hP : va_P D cl ws H) {b : Nat} (hb0 : H.size = b)
    {n : Int32} {N' : Nat} (hn : ¬ n < 0) (hN : n.toNatClampNeg = N') (hbytes : N' * 4 ≤ 536870912) (hcells : cells + 1 ≤ R.cells) (hslots : slots + N' ≤ R.slots) (hS : va_S A H0 H locs) (hd : decode cc pc = .ok (.anewarray index, 3))
    (kk : ∀ (H1 : Heap), H1.size = b + 1 → va_P D cl (ws ++ [(b, .inl (cT, N', .inr (.inr (.inr (.inr (fun _ => none))))))]) H1 → va_S A H0 H1 locs →
      W p l e R s m args below meth c H1 locs (cells + 1) (slots + N') Q (F0 m (pc + 3) ls (.ref b :: rest))) : W p l e R s m args below meth c H locs cells slots Q (F0 m pc ls (.int n :: rest)) := by
  subst hN
  subst hb0
  refine W.anew hx hb hown hcl (va_AO.use hover) rfl hd rfl hn hbytes hcells hslots fun cA kA comp f1 f2 f3 f4 => ?_
  obtain ⟨k9, comp9, r1, r2, r3, r4⟩ := hT
  have hcA : cA = cT := Option.some.inj (f1.symm.trans r4)
  subst hcA
  generalize hH1 : H.push ({ cls := cA, slots := Array.replicate n.toNatClampNeg .null, vm := .none } : Cell) = H1
  have z1 : H1.size = H.size + 1 := by rw [← hH1, Array.size_push]
  have e1 : H1[H.size]? = some (arrV cA n.toNatClampNeg (fun _ => .null)) := by rw [← hH1, Array.getElem?_push_size, ← arrV_new]
  have o1 : ∀ q : Nat, q < H.size → H1[q]? = H[q]? := fun q hq => by rw [← hH1, Array.getElem?_push, if_neg (Nat.ne_of_lt hq)]
  have hk : ∀ (k : Nat) (x : Nat × va_E), ws[k]? = some x → H1[x.1]? = H[x.1]? := fun k x hx => o1 x.1 ((hP k x hx).lt)
  refine kk H1 z1 ((hP.kept hk).app (fun k x hx => ?_)) ⟨Nat.le_trans hS.1 (by omega), fun x h1 h2 => (o1 x (Nat.lt_of_lt_of_le h1 hS.1)).trans (hS.2.1 x h1 h2), hS.2.2⟩
  have hz : k < 1 := (List.getElem?_eq_some_iff.mp hx).1
  rw [show k = 0 by omega] at hx
  cases hx
  show H1[H.size]? = some (vp_cell _ _)
  rw [vp_cell_q]
  exact e1
end BRA
section BRB
/-- cells one after another from b0, as a function tells them -/
def wl (b0 M : Nat) (f : Nat → va_E) : va_W := (List.range M).map (fun i => (b0 + i, f i))
def up (f : Nat → va_E) (q : Nat) (e : va_E) : Nat → va_E := fun i => if i = q then e else f i
theorem up_eq {f : Nat → va_E} {q : Nat} {e : va_E} : up f q e q = e := if_pos rfl
theorem up_ne {f : Nat → va_E} {q i : Nat} {e : va_E} (h : i ≠ q) : up f q e i = f i := if_neg h
theorem wl_len {b0 M : Nat} {f : Nat → va_E} : (wl b0 M f).length = M := by simp [wl]
theorem wl_get {b0 M q : Nat} {f : Nat → va_E} (h : q < M) : (wl b0 M f)[q]? = some (b0 + q, f q) := by
  unfold wl
  rw [List.getElem?_map, List.getElem?_range h]
  rfl
theorem wl_at {b0 M q : Nat} {f : Nat → va_E} {e : va_E} (h : q < M) (he : f q = e) : (wl b0 M f)[q]? = some (b0 + q, e) := by rw [wl_get h, he]
theorem wl_con {b0 M : Nat} {f : Nat → va_E} : con b0 (wl b0 M f) := by
  intro i p hp
  have hl := (List.getElem?_eq_some_iff.mp hp).1
  rw [wl_len] at hl
  rw [wl_get hl] at hp
  cases hp
  rfl
theorem wl_eq {b0 M : Nat} {f g : Nat → va_E} (h : ∀ i, i < M → f i = g i) : wl b0 M f = wl b0 M g := by
  apply List.ext_getElem?
  intro i
  by_cases hl : i < M
  · rw [wl_get hl, wl_get hl, h i hl]
  · rw [List.getElem?_eq_none (by rw [wl_len]; omega), List.getElem?_eq_none (by rw [wl_len]; omega)]
theorem wl_push {b0 M : Nat} {f : Nat → va_E} {e : va_E} : wl b0 M f ++ [(b0 + M, e)] = wl b0 (M + 1) (up f M e) := by
  apply List.ext_getElem?
  intro i
  by_cases hl : i < M
  · rw [List.getElem?_append_left (by rw [wl_len]; exact hl), wl_get hl, wl_get (by omega), up_ne (by omega)]
  · rw [List.getElem?_append_right (by rw [wl_len]; omega), wl_len]
    by_cases hi : i = M
    · subst hi
      rw [Nat.sub_self, wl_get (by omega), up_eq]
      rfl
    · rw [List.getElem?_eq_none (by simp; omega), List.getElem?_eq_none (by rw [wl_len]; omega)]
theorem wl_set {b0 M q : Nat} {f : Nat → va_E} {e : va_E} (h : q < M) : (wl b0 M f).set q (b0 + q, e) = wl b0 M (up f q e) := by
  apply List.ext_getElem?
  intro i
  by_cases hi : i = q
  · subst hi
    rw [List.getElem?_set_self (by rw [wl_len]; exact h), wl_get h, up_eq]
  · rw [List.getElem?_set_ne (Ne.symm hi)]
    by_cases hl : i < M
    · rw [wl_get hl, wl_get hl, up_ne hi]
    · rw [List.getElem?_eq_none (by rw [wl_len]; omega), List.getElem?_eq_none (by rw [wl_len]; omega)]
variable {X : Cxt} {own : String} {cc : ByteArray} {d kc ks k n pc b0 z0 M : Nat} {ls : List (Option Value)} {st : List Value} {ws : va_W} {f : Nat → va_E} {cA0 : Nat → ClassId}

theorem B_iconst (G : BG X own cc d kc ks b0 z0 cA0) {z : Int} {v : Int32} (hd : decode cc pc = .ok (.iconst z, 1)) (hv : Int32.ofInt z = v) (kk : BV X b0 k n (pc + 1) ls (.int v :: st) ws) : BV X b0 k n pc ls (st) ws := by
  obtain ⟨p, l, e, R, s, m, args, below, meth, c, D, cA, A, Dp, Q, σ, nL⟩ := X
  obtain ⟨hx, hb, hml, hown, hts, hK, rfl, hb0, hGE, hlk, hfr, hlo, hkc, hks⟩ := G
  intro H locs d0 lr g1 g0 g2 g3 g4
  exact lv_iconst hx hb hd hv (kk H locs d0 lr g1 g0 g2 g3 g4)
theorem B_bipush (G : BG X own cc d kc ks b0 z0 cA0) {z : Int} {v : Int32} (hd : decode cc pc = .ok (.bipush z, 2)) (hv : (Int8.ofInt z).toInt32 = v) (kk : BV X b0 k n (pc + 2) ls (.int v :: st) ws) : BV X b0 k n pc ls (st) ws := by
  obtain ⟨p, l, e, R, s, m, args, below, meth, c, D, cA, A, Dp, Q, σ, nL⟩ := X
  obtain ⟨hx, hb, hml, hown, hts, hK, rfl, hb0, hGE, hlk, hfr, hlo, hkc, hks⟩ := G
  intro H locs d0 lr g1 g0 g2 g3 g4
  exact lv_bipush hx hb hd hv (kk H locs d0 lr g1 g0 g2 g3 g4)
theorem B_sipush (G : BG X own cc d kc ks b0 z0 cA0) {z : Int} {v : Int32} (hd : decode cc pc = .ok (.sipush z, 3)) (hv : (Int16.ofInt z).toInt32 = v) (kk : BV X b0 k n (pc + 3) ls (.int v :: st) ws) : BV X b0 k n pc ls (st) ws := by
  obtain ⟨p, l, e, R, s, m, args, below, meth, c, D, cA, A, Dp, Q, σ, nL⟩ := X
  obtain ⟨hx, hb, hml, hown, hts, hK, rfl, hb0, hGE, hlk, hfr, hlo, hkc, hks⟩ := G
  intro H locs d0 lr g1 g0 g2 g3 g4
  exact lv_sipush hx hb hd hv (kk H locs d0 lr g1 g0 g2 g3 g4)
theorem B_iadd (G : BG X own cc d kc ks b0 z0 cA0) {x y : Int32} (hd : decode cc pc = .ok (.iadd, 1))  (kk : BV X b0 k n (pc + 1) ls (.int (x + y) :: st) ws) : BV X b0 k n pc ls (.int y :: .int x :: st) ws := by
  obtain ⟨p, l, e, R, s, m, args, below, meth, c, D, cA, A, Dp, Q, σ, nL⟩ := X
  obtain ⟨hx, hb, hml, hown, hts, hK, rfl, hb0, hGE, hlk, hfr, hlo, hkc, hks⟩ := G
  intro H locs d0 lr g1 g0 g2 g3 g4
  exact lv_iadd hx hb hd (kk H locs d0 lr g1 g0 g2 g3 g4)
theorem B_dup (G : BG X own cc d kc ks b0 z0 cA0) {v : Value} (hd : decode cc pc = .ok (.dup, 1)) (hc : v.category = 1) (kk : BV X b0 k n (pc + 1) ls (v :: v :: st) ws) : BV X b0 k n pc ls (v :: st) ws := by
  obtain ⟨p, l, e, R, s, m, args, below, meth, c, D, cA, A, Dp, Q, σ, nL⟩ := X
  obtain ⟨hx, hb, hml, hown, hts, hK, rfl, hb0, hGE, hlk, hfr, hlo, hkc, hks⟩ := G
  intro H locs d0 lr g1 g0 g2 g3 g4
  exact lv_dup hx hb hd hc (kk H locs d0 lr g1 g0 g2 g3 g4)
theorem B_pop (G : BG X own cc d kc ks b0 z0 cA0) {v : Value} (hd : decode cc pc = .ok (.pop, 1)) (hc : v.category = 1) (kk : BV X b0 k n (pc + 1) ls (st) ws) : BV X b0 k n pc ls (v :: st) ws := by
  obtain ⟨p, l, e, R, s, m, args, below, meth, c, D, cA, A, Dp, Q, σ, nL⟩ := X
  obtain ⟨hx, hb, hml, hown, hts, hK, rfl, hb0, hGE, hlk, hfr, hlo, hkc, hks⟩ := G
  intro H locs d0 lr g1 g0 g2 g3 g4
  exact lv_pop hx hb hd hc (kk H locs d0 lr g1 g0 g2 g3 g4)
theorem B_dupx1 (G : BG X own cc d kc ks b0 z0 cA0) {v v2 : Value} (hd : decode cc pc = .ok (.dup_x1, 1)) (hc : v.category = 1) (hc2 : v2.category = 1) (kk : BV X b0 k n (pc + 1) ls (v :: v2 :: v :: st) ws) : BV X b0 k n pc ls (v :: v2 :: st) ws := by
  obtain ⟨p, l, e, R, s, m, args, below, meth, c, D, cA, A, Dp, Q, σ, nL⟩ := X
  obtain ⟨hx, hb, hml, hown, hts, hK, rfl, hb0, hGE, hlk, hfr, hlo, hkc, hks⟩ := G
  intro H locs d0 lr g1 g0 g2 g3 g4
  exact lv_dup_x1 hx hb hd hc hc2 (kk H locs d0 lr g1 g0 g2 g3 g4)
theorem B_iload0 (G : BG X own cc d kc ks b0 z0 cA0) {t : List (Option Value)} {x : Int32} (hd : decode cc pc = .ok (.iload_n 0, 1))  (kk : BV X b0 k n (pc + 1) (some (.int x) :: t) (.int x :: st) ws) : BV X b0 k n pc (some (.int x) :: t) (st) ws := by
  obtain ⟨p, l, e, R, s, m, args, below, meth, c, D, cA, A, Dp, Q, σ, nL⟩ := X
  obtain ⟨hx, hb, hml, hown, hts, hK, rfl, hb0, hGE, hlk, hfr, hlo, hkc, hks⟩ := G
  intro H locs d0 lr g1 g0 g2 g3 g4
  exact lv_iload_n (i := 0) hx hb hd rfl (lok_at (i := 0) (v := .int x) g4 rfl) (kk H locs d0 lr g1 g0 g2 g3 g4)
theorem B_istore0 (G : BG X own cc d kc ks b0 z0 cA0) { b : Option Value} {t : List (Option Value)} {x : Int32} (hd : decode cc pc = .ok (.istore_n 0, 1))  (kk : BV X b0 k n (pc + 1) (some (.int x) :: t) (st) ws) : BV X b0 k n pc (b :: t) (.int x :: st) ws := by
  obtain ⟨p, l, e, R, s, m, args, below, meth, c, D, cA, A, Dp, Q, σ, nL⟩ := X
  obtain ⟨hx, hb, hml, hown, hts, hK, rfl, hb0, hGE, hlk, hfr, hlo, hkc, hks⟩ := G
  intro H locs d0 lr g1 g0 g2 g3 g4
  exact lv_istore_n hx hb hd rfl g4.2 (by have := g4.1; simp at this; omega) rfl (fun ls2 hl => kk H locs d0 ls2 g1 g0 g2 g3 (lok_set1 (pre := []) (v := .int x) g4.1 (show c1l [] = true from rfl) hl))
theorem B_iinc0 (G : BG X own cc d kc ks b0 z0 cA0) {t : List (Option Value)} {x : Int32} {z : Int} {v : Int32} (hd : decode cc pc = .ok (.iinc 0 z, 3)) (hv : Int32.ofInt z = v)  (kk : BV X b0 k n (pc + 3) (some (.int (x + v)) :: t) st ws) : BV X b0 k n pc (some (.int x) :: t) st ws := by
  obtain ⟨p, l, e, R, s, m, args, below, meth, c, D, cA, A, Dp, Q, σ, nL⟩ := X
  obtain ⟨hx, hb, hml, hown, hts, hK, rfl, hb0, hGE, hlk, hfr, hlo, hkc, hks⟩ := G
  intro H locs d0 lr g1 g0 g2 g3 g4
  obtain ⟨k1, hk1⟩ := List.getElem?_of_mem (prs_mem.mpr ⟨.int x, rfl, rfl⟩ : (0, Value.int x) ∈ prs (fun q => q) (some (.int x) :: t))
  subst hv
  exact lv_iinc hx hb hd g4.2 hk1 rfl (by have := g4.1; simp at this; omega) rfl (fun ls2 hl => kk H locs d0 ls2 g1 g0 g2 g3 (lok_set1 (pre := []) (v := .int (x + Int32.ofInt z)) g4.1 (show c1l [] = true from rfl) hl))
theorem B_iload1 (G : BG X own cc d kc ks b0 z0 cA0) {a0 : Option Value} {t : List (Option Value)} {x : Int32} (hd : decode cc pc = .ok (.iload_n 1, 1))  (kk : BV X b0 k n (pc + 1) (a0 :: some (.int x) :: t) (.int x :: st) ws) : BV X b0 k n pc (a0 :: some (.int x) :: t) (st) ws := by
  obtain ⟨p, l, e, R, s, m, args, below, meth, c, D, cA, A, Dp, Q, σ, nL⟩ := X
  obtain ⟨hx, hb, hml, hown, hts, hK, rfl, hb0, hGE, hlk, hfr, hlo, hkc, hks⟩ := G
  intro H locs d0 lr g1 g0 g2 g3 g4
  exact lv_iload_n (i := 1) hx hb hd rfl (lok_at (i := 1) (v := .int x) g4 rfl) (kk H locs d0 lr g1 g0 g2 g3 g4)
theorem B_istore1 (G : BG X own cc d kc ks b0 z0 cA0) {a0 b : Option Value} {t : List (Option Value)} {x : Int32} (hd : decode cc pc = .ok (.istore_n 1, 1)) (hc : c1 a0 = true) (kk : BV X b0 k n (pc + 1) (a0 :: some (.int x) :: t) (st) ws) : BV X b0 k n pc (a0 :: b :: t) (.int x :: st) ws := by
  obtain ⟨p, l, e, R, s, m, args, below, meth, c, D, cA, A, Dp, Q, σ, nL⟩ := X
  obtain ⟨hx, hb, hml, hown, hts, hK, rfl, hb0, hGE, hlk, hfr, hlo, hkc, hks⟩ := G
  intro H locs d0 lr g1 g0 g2 g3 g4
  exact lv_istore_n hx hb hd rfl g4.2 (by have := g4.1; simp at this; omega) rfl (fun ls2 hl => kk H locs d0 ls2 g1 g0 g2 g3 (lok_set1 (pre := [a0]) (v := .int x) g4.1 (show c1l [a0] = true from hc) hl))
theorem B_iinc1 (G : BG X own cc d kc ks b0 z0 cA0) {a0 : Option Value} {t : List (Option Value)} {x : Int32} {z : Int} {v : Int32} (hd : decode cc pc = .ok (.iinc 1 z, 3)) (hv : Int32.ofInt z = v) (hc : c1 a0 = true) (kk : BV X b0 k n (pc + 3) (a0 :: some (.int (x + v)) :: t) st ws) : BV X b0 k n pc (a0 :: some (.int x) :: t) st ws := by
  obtain ⟨p, l, e, R, s, m, args, below, meth, c, D, cA, A, Dp, Q, σ, nL⟩ := X
  obtain ⟨hx, hb, hml, hown, hts, hK, rfl, hb0, hGE, hlk, hfr, hlo, hkc, hks⟩ := G
  intro H locs d0 lr g1 g0 g2 g3 g4
  obtain ⟨k1, hk1⟩ := List.getElem?_of_mem (prs_mem.mpr ⟨.int x, rfl, rfl⟩ : (1, Value.int x) ∈ prs (fun q => q) (a0 :: some (.int x) :: t))
  subst hv
  exact lv_iinc hx hb hd g4.2 hk1 rfl (by have := g4.1; simp at this; omega) rfl (fun ls2 hl => kk H locs d0 ls2 g1 g0 g2 g3 (lok_set1 (pre := [a0]) (v := .int (x + Int32.ofInt z)) g4.1 (show c1l [a0] = true from hc) hl))
theorem B_iload2 (G : BG X own cc d kc ks b0 z0 cA0) {a0 a1 : Option Value} {t : List (Option Value)} {x : Int32} (hd : decode cc pc = .ok (.iload_n 2, 1))  (kk : BV X b0 k n (pc + 1) (a0 :: a1 :: some (.int x) :: t) (.int x :: st) ws) : BV X b0 k n pc (a0 :: a1 :: some (.int x) :: t) (st) ws := by
  obtain ⟨p, l, e, R, s, m, args, below, meth, c, D, cA, A, Dp, Q, σ, nL⟩ := X
  obtain ⟨hx, hb, hml, hown, hts, hK, rfl, hb0, hGE, hlk, hfr, hlo, hkc, hks⟩ := G
  intro H locs d0 lr g1 g0 g2 g3 g4
  exact lv_iload_n (i := 2) hx hb hd rfl (lok_at (i := 2) (v := .int x) g4 rfl) (kk H locs d0 lr g1 g0 g2 g3 g4)
theorem B_istore2 (G : BG X own cc d kc ks b0 z0 cA0) {a0 a1 b : Option Value} {t : List (Option Value)} {x : Int32} (hd : decode cc pc = .ok (.istore_n 2, 1)) (hc : c1 a1 = true) (kk : BV X b0 k n (pc + 1) (a0 :: a1 :: some (.int x) :: t) (st) ws) : BV X b0 k n pc (a0 :: a1 :: b :: t) (.int x :: st) ws := by
  obtain ⟨p, l, e, R, s, m, args, below, meth, c, D, cA, A, Dp, Q, σ, nL⟩ := X
  obtain ⟨hx, hb, hml, hown, hts, hK, rfl, hb0, hGE, hlk, hfr, hlo, hkc, hks⟩ := G
  intro H locs d0 lr g1 g0 g2 g3 g4
  exact lv_istore_n hx hb hd rfl g4.2 (by have := g4.1; simp at this; omega) rfl (fun ls2 hl => kk H locs d0 ls2 g1 g0 g2 g3 (lok_set1 (pre := [a0, a1]) (v := .int x) g4.1 (show c1l [a0, a1] = true from hc) hl))
theorem B_iinc2 (G : BG X own cc d kc ks b0 z0 cA0) {a0 a1 : Option Value} {t : List (Option Value)} {x : Int32} {z : Int} {v : Int32} (hd : decode cc pc = .ok (.iinc 2 z, 3)) (hv : Int32.ofInt z = v) (hc : c1 a1 = true) (kk : BV X b0 k n (pc + 3) (a0 :: a1 :: some (.int (x + v)) :: t) st ws) : BV X b0 k n pc (a0 :: a1 :: some (.int x) :: t) st ws := by
  obtain ⟨p, l, e, R, s, m, args, below, meth, c, D, cA, A, Dp, Q, σ, nL⟩ := X
  obtain ⟨hx, hb, hml, hown, hts, hK, rfl, hb0, hGE, hlk, hfr, hlo, hkc, hks⟩ := G
  intro H locs d0 lr g1 g0 g2 g3 g4
  obtain ⟨k1, hk1⟩ := List.getElem?_of_mem (prs_mem.mpr ⟨.int x, rfl, rfl⟩ : (2, Value.int x) ∈ prs (fun q => q) (a0 :: a1 :: some (.int x) :: t))
  subst hv
  exact lv_iinc hx hb hd g4.2 hk1 rfl (by have := g4.1; simp at this; omega) rfl (fun ls2 hl => kk H locs d0 ls2 g1 g0 g2 g3 (lok_set1 (pre := [a0, a1]) (v := .int (x + Int32.ofInt z)) g4.1 (show c1l [a0, a1] = true from hc) hl))
theorem B_iload3 (G : BG X own cc d kc ks b0 z0 cA0) {a0 a1 a2 : Option Value} {t : List (Option Value)} {x : Int32} (hd : decode cc pc = .ok (.iload_n 3, 1))  (kk : BV X b0 k n (pc + 1) (a0 :: a1 :: a2 :: some (.int x) :: t) (.int x :: st) ws) : BV X b0 k n pc (a0 :: a1 :: a2 :: some (.int x) :: t) (st) ws := by
  obtain ⟨p, l, e, R, s, m, args, below, meth, c, D, cA, A, Dp, Q, σ, nL⟩ := X
  obtain ⟨hx, hb, hml, hown, hts, hK, rfl, hb0, hGE, hlk, hfr, hlo, hkc, hks⟩ := G
  intro H locs d0 lr g1 g0 g2 g3 g4
  exact lv_iload_n (i := 3) hx hb hd rfl (lok_at (i := 3) (v := .int x) g4 rfl) (kk H locs d0 lr g1 g0 g2 g3 g4)
theorem B_istore3 (G : BG X own cc d kc ks b0 z0 cA0) {a0 a1 a2 b : Option Value} {t : List (Option Value)} {x : Int32} (hd : decode cc pc = .ok (.istore_n 3, 1)) (hc : c1 a2 = true) (kk : BV X b0 k n (pc + 1) (a0 :: a1 :: a2 :: some (.int x) :: t) (st) ws) : BV X b0 k n pc (a0 :: a1 :: a2 :: b :: t) (.int x :: st) ws := by
  obtain ⟨p, l, e, R, s, m, args, below, meth, c, D, cA, A, Dp, Q, σ, nL⟩ := X
  obtain ⟨hx, hb, hml, hown, hts, hK, rfl, hb0, hGE, hlk, hfr, hlo, hkc, hks⟩ := G
  intro H locs d0 lr g1 g0 g2 g3 g4
  exact lv_istore_n hx hb hd rfl g4.2 (by have := g4.1; simp at this; omega) rfl (fun ls2 hl => kk H locs d0 ls2 g1 g0 g2 g3 (lok_set1 (pre := [a0, a1, a2]) (v := .int x) g4.1 (show c1l [a0, a1, a2] = true from hc) hl))
theorem B_iinc3 (G : BG X own cc d kc ks b0 z0 cA0) {a0 a1 a2 : Option Value} {t : List (Option Value)} {x : Int32} {z : Int} {v : Int32} (hd : decode cc pc = .ok (.iinc 3 z, 3)) (hv : Int32.ofInt z = v) (hc : c1 a2 = true) (kk : BV X b0 k n (pc + 3) (a0 :: a1 :: a2 :: some (.int (x + v)) :: t) st ws) : BV X b0 k n pc (a0 :: a1 :: a2 :: some (.int x) :: t) st ws := by
  obtain ⟨p, l, e, R, s, m, args, below, meth, c, D, cA, A, Dp, Q, σ, nL⟩ := X
  obtain ⟨hx, hb, hml, hown, hts, hK, rfl, hb0, hGE, hlk, hfr, hlo, hkc, hks⟩ := G
  intro H locs d0 lr g1 g0 g2 g3 g4
  obtain ⟨k1, hk1⟩ := List.getElem?_of_mem (prs_mem.mpr ⟨.int x, rfl, rfl⟩ : (3, Value.int x) ∈ prs (fun q => q) (a0 :: a1 :: a2 :: some (.int x) :: t))
  subst hv
  exact lv_iinc hx hb hd g4.2 hk1 rfl (by have := g4.1; simp at this; omega) rfl (fun ls2 hl => kk H locs d0 ls2 g1 g0 g2 g3 (lok_set1 (pre := [a0, a1, a2]) (v := .int (x + Int32.ofInt z)) g4.1 (show c1l [a0, a1, a2] = true from hc) hl))
theorem B_iload4 (G : BG X own cc d kc ks b0 z0 cA0) {a0 a1 a2 a3 : Option Value} {t : List (Option Value)} {x : Int32} (hd : decode cc pc = .ok (.iload 4, 2))  (kk : BV X b0 k n (pc + 2) (a0 :: a1 :: a2 :: a3 :: some (.int x) :: t) (.int x :: st) ws) : BV X b0 k n pc (a0 :: a1 :: a2 :: a3 :: some (.int x) :: t) (st) ws := by
  obtain ⟨p, l, e, R, s, m, args, below, meth, c, D, cA, A, Dp, Q, σ, nL⟩ := X
  obtain ⟨hx, hb, hml, hown, hts, hK, rfl, hb0, hGE, hlk, hfr, hlo, hkc, hks⟩ := G
  intro H locs d0 lr g1 g0 g2 g3 g4
  exact lv_iload hx hb hd (lok_at (i := 4) (v := .int x) g4 rfl) (kk H locs d0 lr g1 g0 g2 g3 g4)
theorem B_istore4 (G : BG X own cc d kc ks b0 z0 cA0) {a0 a1 a2 a3 b : Option Value} {t : List (Option Value)} {x : Int32} (hd : decode cc pc = .ok (.istore 4, 2)) (hc : c1 a3 = true) (kk : BV X b0 k n (pc + 2) (a0 :: a1 :: a2 :: a3 :: some (.int x) :: t) (st) ws) : BV X b0 k n pc (a0 :: a1 :: a2 :: a3 :: b :: t) (.int x :: st) ws := by
  obtain ⟨p, l, e, R, s, m, args, below, meth, c, D, cA, A, Dp, Q, σ, nL⟩ := X
  obtain ⟨hx, hb, hml, hown, hts, hK, rfl, hb0, hGE, hlk, hfr, hlo, hkc, hks⟩ := G
  intro H locs d0 lr g1 g0 g2 g3 g4
  exact lv_istore hx hb hd g4.2 (by have := g4.1; simp at this; omega) rfl (fun ls2 hl => kk H locs d0 ls2 g1 g0 g2 g3 (lok_set1 (pre := [a0, a1, a2, a3]) (v := .int x) g4.1 (show c1l [a0, a1, a2, a3] = true from hc) hl))
theorem B_iinc4 (G : BG X own cc d kc ks b0 z0 cA0) {a0 a1 a2 a3 : Option Value} {t : List (Option Value)} {x : Int32} {z : Int} {v : Int32} (hd : decode cc pc = .ok (.iinc 4 z, 3)) (hv : Int32.ofInt z = v) (hc : c1 a3 = true) (kk : BV X b0 k n (pc + 3) (a0 :: a1 :: a2 :: a3 :: some (.int (x + v)) :: t) st ws) : BV X b0 k n pc (a0 :: a1 :: a2 :: a3 :: some (.int x) :: t) st ws := by
  obtain ⟨p, l, e, R, s, m, args, below, meth, c, D, cA, A, Dp, Q, σ, nL⟩ := X
  obtain ⟨hx, hb, hml, hown, hts, hK, rfl, hb0, hGE, hlk, hfr, hlo, hkc, hks⟩ := G
  intro H locs d0 lr g1 g0 g2 g3 g4
  obtain ⟨k1, hk1⟩ := List.getElem?_of_mem (prs_mem.mpr ⟨.int x, rfl, rfl⟩ : (4, Value.int x) ∈ prs (fun q => q) (a0 :: a1 :: a2 :: a3 :: some (.int x) :: t))
  subst hv
  exact lv_iinc hx hb hd g4.2 hk1 rfl (by have := g4.1; simp at this; omega) rfl (fun ls2 hl => kk H locs d0 ls2 g1 g0 g2 g3 (lok_set1 (pre := [a0, a1, a2, a3]) (v := .int (x + Int32.ofInt z)) g4.1 (show c1l [a0, a1, a2, a3] = true from hc) hl))
theorem B_aload0 (G : BG X own cc d kc ks b0 z0 cA0) {t : List (Option Value)} {x : Nat} (hd : decode cc pc = .ok (.aload_n 0, 1))  (kk : BV X b0 k n (pc + 1) (some (.ref x) :: t) (.ref x :: st) ws) : BV X b0 k n pc (some (.ref x) :: t) (st) ws := by
  obtain ⟨p, l, e, R, s, m, args, below, meth, c, D, cA, A, Dp, Q, σ, nL⟩ := X
  obtain ⟨hx, hb, hml, hown, hts, hK, rfl, hb0, hGE, hlk, hfr, hlo, hkc, hks⟩ := G
  intro H locs d0 lr g1 g0 g2 g3 g4
  exact lv_aload_n (i := 0) hx hb hd rfl (lok_at (i := 0) (v := .ref x) g4 rfl) (kk H locs d0 lr g1 g0 g2 g3 g4)
theorem B_astore0 (G : BG X own cc d kc ks b0 z0 cA0) { b : Option Value} {t : List (Option Value)} {x : Nat} (hd : decode cc pc = .ok (.astore_n 0, 1))  (kk : BV X b0 k n (pc + 1) (some (.ref x) :: t) (st) ws) : BV X b0 k n pc (b :: t) (.ref x :: st) ws := by
  obtain ⟨p, l, e, R, s, m, args, below, meth, c, D, cA, A, Dp, Q, σ, nL⟩ := X
  obtain ⟨hx, hb, hml, hown, hts, hK, rfl, hb0, hGE, hlk, hfr, hlo, hkc, hks⟩ := G
  intro H locs d0 lr g1 g0 g2 g3 g4
  exact lv_astore_n hx hb hd rfl g4.2 (by have := g4.1; simp at this; omega) rfl (fun ls2 hl => kk H locs d0 ls2 g1 g0 g2 g3 (lok_set1 (pre := []) (v := .ref x) g4.1 (show c1l [] = true from rfl) hl))
theorem B_aload1 (G : BG X own cc d kc ks b0 z0 cA0) {a0 : Option Value} {t : List (Option Value)} {x : Nat} (hd : decode cc pc = .ok (.aload_n 1, 1))  (kk : BV X b0 k n (pc + 1) (a0 :: some (.ref x) :: t) (.ref x :: st) ws) : BV X b0 k n pc (a0 :: some (.ref x) :: t) (st) ws := by
  obtain ⟨p, l, e, R, s, m, args, below, meth, c, D, cA, A, Dp, Q, σ, nL⟩ := X
  obtain ⟨hx, hb, hml, hown, hts, hK, rfl, hb0, hGE, hlk, hfr, hlo, hkc, hks⟩ := G
  intro H locs d0 lr g1 g0 g2 g3 g4
  exact lv_aload_n (i := 1) hx hb hd rfl (lok_at (i := 1) (v := .ref x) g4 rfl) (kk H locs d0 lr g1 g0 g2 g3 g4)
theorem B_astore1 (G : BG X own cc d kc ks b0 z0 cA0) {a0 b : Option Value} {t : List (Option Value)} {x : Nat} (hd : decode cc pc = .ok (.astore_n 1, 1)) (hc : c1 a0 = true) (kk : BV X b0 k n (pc + 1) (a0 :: some (.ref x) :: t) (st) ws) : BV X b0 k n pc (a0 :: b :: t) (.ref x :: st) ws := by
  obtain ⟨p, l, e, R, s, m, args, below, meth, c, D, cA, A, Dp, Q, σ, nL⟩ := X
  obtain ⟨hx, hb, hml, hown, hts, hK, rfl, hb0, hGE, hlk, hfr, hlo, hkc, hks⟩ := G
  intro H locs d0 lr g1 g0 g2 g3 g4
  exact lv_astore_n hx hb hd rfl g4.2 (by have := g4.1; simp at this; omega) rfl (fun ls2 hl => kk H locs d0 ls2 g1 g0 g2 g3 (lok_set1 (pre := [a0]) (v := .ref x) g4.1 (show c1l [a0] = true from hc) hl))
theorem B_aload2 (G : BG X own cc d kc ks b0 z0 cA0) {a0 a1 : Option Value} {t : List (Option Value)} {x : Nat} (hd : decode cc pc = .ok (.aload_n 2, 1))  (kk : BV X b0 k n (pc + 1) (a0 :: a1 :: some (.ref x) :: t) (.ref x :: st) ws) : BV X b0 k n pc (a0 :: a1 :: some (.ref x) :: t) (st) ws := by
  obtain ⟨p, l, e, R, s, m, args, below, meth, c, D, cA, A, Dp, Q, σ, nL⟩ := X
  obtain ⟨hx, hb, hml, hown, hts, hK, rfl, hb0, hGE, hlk, hfr, hlo, hkc, hks⟩ := G
  intro H locs d0 lr g1 g0 g2 g3 g4
  exact lv_aload_n (i := 2) hx hb hd rfl (lok_at (i := 2) (v := .ref x) g4 rfl) (kk H locs d0 lr g1 g0 g2 g3 g4)
theorem B_astore2 (G : BG X own cc d kc ks b0 z0 cA0) {a0 a1 b : Option Value} {t : List (Option Value)} {x : Nat} (hd : decode cc pc = .ok (.astore_n 2, 1)) (hc : c1 a1 = true) (kk : BV X b0 k n (pc + 1) (a0 :: a1 :: some (.ref x) :: t) (st) ws) : BV X b0 k n pc (a0 :: a1 :: b :: t) (.ref x :: st) ws := by
  obtain ⟨p, l, e, R, s, m, args, below, meth, c, D, cA, A, Dp, Q, σ, nL⟩ := X
  obtain ⟨hx, hb, hml, hown, hts, hK, rfl, hb0, hGE, hlk, hfr, hlo, hkc, hks⟩ := G
  intro H locs d0 lr g1 g0 g2 g3 g4
  exact lv_astore_n hx hb hd rfl g4.2 (by have := g4.1; simp at this; omega) rfl (fun ls2 hl => kk H locs d0 ls2 g1 g0 g2 g3 (lok_set1 (pre := [a0, a1]) (v := .ref x) g4.1 (show c1l [a0, a1] = true from hc) hl))
theorem B_aload3 (G : BG X own cc d kc ks b0 z0 cA0) {a0 a1 a2 : Option Value} {t : List (Option Value)} {x : Nat} (hd : decode cc pc = .ok (.aload_n 3, 1))  (kk : BV X b0 k n (pc + 1) (a0 :: a1 :: a2 :: some (.ref x) :: t) (.ref x :: st) ws) : BV X b0 k n pc (a0 :: a1 :: a2 :: some (.ref x) :: t) (st) ws := by
  obtain ⟨p, l, e, R, s, m, args, below, meth, c, D, cA, A, Dp, Q, σ, nL⟩ := X
  obtain ⟨hx, hb, hml, hown, hts, hK, rfl, hb0, hGE, hlk, hfr, hlo, hkc, hks⟩ := G
  intro H locs d0 lr g1 g0 g2 g3 g4
  exact lv_aload_n (i := 3) hx hb hd rfl (lok_at (i := 3) (v := .ref x) g4 rfl) (kk H locs d0 lr g1 g0 g2 g3 g4)
theorem B_astore3 (G : BG X own cc d kc ks b0 z0 cA0) {a0 a1 a2 b : Option Value} {t : List (Option Value)} {x : Nat} (hd : decode cc pc = .ok (.astore_n 3, 1)) (hc : c1 a2 = true) (kk : BV X b0 k n (pc + 1) (a0 :: a1 :: a2 :: some (.ref x) :: t) (st) ws) : BV X b0 k n pc (a0 :: a1 :: a2 :: b :: t) (.ref x :: st) ws := by
  obtain ⟨p, l, e, R, s, m, args, below, meth, c, D, cA, A, Dp, Q, σ, nL⟩ := X
  obtain ⟨hx, hb, hml, hown, hts, hK, rfl, hb0, hGE, hlk, hfr, hlo, hkc, hks⟩ := G
  intro H locs d0 lr g1 g0 g2 g3 g4
  exact lv_astore_n hx hb hd rfl g4.2 (by have := g4.1; simp at this; omega) rfl (fun ls2 hl => kk H locs d0 ls2 g1 g0 g2 g3 (lok_set1 (pre := [a0, a1, a2]) (v := .ref x) g4.1 (show c1l [a0, a1, a2] = true from hc) hl))
theorem B_aload4 (G : BG X own cc d kc ks b0 z0 cA0) {a0 a1 a2 a3 : Option Value} {t : List (Option Value)} {x : Nat} (hd : decode cc pc = .ok (.aload 4, 2))  (kk : BV X b0 k n (pc + 2) (a0 :: a1 :: a2 :: a3 :: some (.ref x) :: t) (.ref x :: st) ws) : BV X b0 k n pc (a0 :: a1 :: a2 :: a3 :: some (.ref x) :: t) (st) ws := by
  obtain ⟨p, l, e, R, s, m, args, below, meth, c, D, cA, A, Dp, Q, σ, nL⟩ := X
  obtain ⟨hx, hb, hml, hown, hts, hK, rfl, hb0, hGE, hlk, hfr, hlo, hkc, hks⟩ := G
  intro H locs d0 lr g1 g0 g2 g3 g4
  exact lv_aload hx hb hd (lok_at (i := 4) (v := .ref x) g4 rfl) (kk H locs d0 lr g1 g0 g2 g3 g4)
theorem B_astore4 (G : BG X own cc d kc ks b0 z0 cA0) {a0 a1 a2 a3 b : Option Value} {t : List (Option Value)} {x : Nat} (hd : decode cc pc = .ok (.astore 4, 2)) (hc : c1 a3 = true) (kk : BV X b0 k n (pc + 2) (a0 :: a1 :: a2 :: a3 :: some (.ref x) :: t) (st) ws) : BV X b0 k n pc (a0 :: a1 :: a2 :: a3 :: b :: t) (.ref x :: st) ws := by
  obtain ⟨p, l, e, R, s, m, args, below, meth, c, D, cA, A, Dp, Q, σ, nL⟩ := X
  obtain ⟨hx, hb, hml, hown, hts, hK, rfl, hb0, hGE, hlk, hfr, hlo, hkc, hks⟩ := G
  intro H locs d0 lr g1 g0 g2 g3 g4
  exact lv_astore hx hb hd g4.2 (by have := g4.1; simp at this; omega) rfl (fun ls2 hl => kk H locs d0 ls2 g1 g0 g2 g3 (lok_set1 (pre := [a0, a1, a2, a3]) (v := .ref x) g4.1 (show c1l [a0, a1, a2, a3] = true from hc) hl))
theorem B_icmpne (G : BG X own cc d kc ks b0 z0 cA0) {x y : Int32} {off : Int} {tgt : Nat} (hd : decode cc pc = .ok (.if_icmp .ne off, 3)) (ht : (pc : Int) + off = (tgt : Int)) (kt : ¬ x = y → BV X b0 k n tgt ls st ws) (kf : x = y → BV X b0 k n (pc + 3) ls st ws) : BV X b0 k n pc ls (.int y :: .int x :: st) ws := by
  obtain ⟨p, l, e, R, s, m, args, below, meth, c, D, cA, A, Dp, Q, σ, nL⟩ := X
  obtain ⟨hx, hb, hml, hown, hts, hK, rfl, hb0, hGE, hlk, hfr, hlo, hkc, hks⟩ := G
  intro H locs d0 lr g1 g0 g2 g3 g4
  exact lv_icmp_ne hx hb hd ht (fun q => kt q H locs d0 lr g1 g0 g2 g3 g4) (fun q => kf q H locs d0 lr g1 g0 g2 g3 g4)
theorem B_icmplt (G : BG X own cc d kc ks b0 z0 cA0) {x y : Int32} {off : Int} {tgt : Nat} (hd : decode cc pc = .ok (.if_icmp .lt off, 3)) (ht : (pc : Int) + off = (tgt : Int)) (kt : x < y → BV X b0 k n tgt ls st ws) (kf : ¬ x < y → BV X b0 k n (pc + 3) ls st ws) : BV X b0 k n pc ls (.int y :: .int x :: st) ws := by
  obtain ⟨p, l, e, R, s, m, args, below, meth, c, D, cA, A, Dp, Q, σ, nL⟩ := X
  obtain ⟨hx, hb, hml, hown, hts, hK, rfl, hb0, hGE, hlk, hfr, hlo, hkc, hks⟩ := G
  intro H locs d0 lr g1 g0 g2 g3 g4
  exact lv_icmp_lt hx hb hd ht (fun q => kt q H locs d0 lr g1 g0 g2 g3 g4) (fun q => kf q H locs d0 lr g1 g0 g2 g3 g4)
theorem B_icmpge (G : BG X own cc d kc ks b0 z0 cA0) {x y : Int32} {off : Int} {tgt : Nat} (hd : decode cc pc = .ok (.if_icmp .ge off, 3)) (ht : (pc : Int) + off = (tgt : Int)) (kt : y ≤ x → BV X b0 k n tgt ls st ws) (kf : ¬ y ≤ x → BV X b0 k n (pc + 3) ls st ws) : BV X b0 k n pc ls (.int y :: .int x :: st) ws := by
  obtain ⟨p, l, e, R, s, m, args, below, meth, c, D, cA, A, Dp, Q, σ, nL⟩ := X
  obtain ⟨hx, hb, hml, hown, hts, hK, rfl, hb0, hGE, hlk, hfr, hlo, hkc, hks⟩ := G
  intro H locs d0 lr g1 g0 g2 g3 g4
  exact lv_icmp_ge hx hb hd ht (fun q => kt q H locs d0 lr g1 g0 g2 g3 g4) (fun q => kf q H locs d0 lr g1 g0 g2 g3 g4)
theorem B_ifgt (G : BG X own cc d kc ks b0 z0 cA0) {x : Int32} {off : Int} {tgt : Nat} (hd : decode cc pc = .ok (.ifCond .gt off, 3)) (ht : (pc : Int) + off = (tgt : Int)) (kt : 0 < x → BV X b0 k n tgt ls st ws) (kf : ¬ 0 < x → BV X b0 k n (pc + 3) ls st ws) : BV X b0 k n pc ls (.int x :: st) ws := by
  obtain ⟨p, l, e, R, s, m, args, below, meth, c, D, cA, A, Dp, Q, σ, nL⟩ := X
  obtain ⟨hx, hb, hml, hown, hts, hK, rfl, hb0, hGE, hlk, hfr, hlo, hkc, hks⟩ := G
  intro H locs d0 lr g1 g0 g2 g3 g4
  exact lv_if_gt hx hb hd ht (fun q => kt q H locs d0 lr g1 g0 g2 g3 g4) (fun q => kf q H locs d0 lr g1 g0 g2 g3 g4)
theorem B_goto (G : BG X own cc d kc ks b0 z0 cA0) {off : Int} {tgt : Nat} (hd : decode cc pc = .ok (.goto off, 3)) (ht : (pc : Int) + off = (tgt : Int)) (kk : BV X b0 k n tgt ls st ws) : BV X b0 k n pc ls st ws := by
  obtain ⟨p, l, e, R, s, m, args, below, meth, c, D, cA, A, Dp, Q, σ, nL⟩ := X
  obtain ⟨hx, hb, hml, hown, hts, hK, rfl, hb0, hGE, hlk, hfr, hlo, hkc, hks⟩ := G
  intro H locs d0 lr g1 g0 g2 g3 g4
  exact lv_goto hx hb hd ht (kk H locs d0 lr g1 g0 g2 g3 g4)
theorem B_acmpeq (G : BG X own cc d kc ks b0 z0 cA0) {x : Nat} {off : Int} {tgt : Nat} (hd : decode cc pc = .ok (.if_acmp .eq off, 3)) (ht : (pc : Int) + off = (tgt : Int)) (kk : BV X b0 k n tgt ls st ws) : BV X b0 k n pc ls (.ref x :: .ref x :: st) ws := by
  obtain ⟨p, l, e, R, s, m, args, below, meth, c, D, cA, A, Dp, Q, σ, nL⟩ := X
  obtain ⟨hx, hb, hml, hown, hts, hK, rfl, hb0, hGE, hlk, hfr, hlo, hkc, hks⟩ := G
  intro H locs d0 lr g1 g0 g2 g3 g4
  exact lv_acmp_eq (rx := some x) (ry := some x) hx hb hd ht (fun _ => (kk H locs d0 lr g1 g0 g2 g3 g4)) (fun q => absurd rfl q)
theorem B_get (G : BG X own cc d kc ks b0 z0 cA0) {idx ci j q : Nat} {fs : List Value} {v : Value} (hF : FL own idx ci j) (hd : decode cc pc = .ok (.getfield idx, 3)) (hq : q < M) (he : f q = .inr (ci, fs)) (hv : fs[j]? = some v) (kk : BV X b0 k n (pc + 3) ls (v :: st) (wl b0 M f)) : BV X b0 k n pc ls (.ref (b0 + q) :: st) (wl b0 M f) := by
  obtain ⟨p, l, e, R, s, m, args, below, meth, c, D, cA, A, Dp, Q, σ, nL⟩ := X
  obtain ⟨hx, hb, hml, hown, hts, hK, rfl, hb0, hGE, hlk, hfr, hlo, hkc, hks⟩ := G
  intro H locs d0 lr g1 g0 g2 g3 g4
  obtain ⟨C, ref, T, N, hc, hin, hj, hN, hlk2, hsame⟩ := hF
  exact va_get (D := D) (ci := ci) (v := v) (C := C) (T := T) (N := N) hx hb (dr_words hts d0) hin hown hK g2 q (wl_at hq he) hc j hj (dr_words hts d0 _ hlk2) (hsame.elim (fun e x hh => e ▸ hh) (fun w x hh => u_same (hts _ w) x hh)) hv hd (kk H locs d0 lr g1 g0 g2 g3 g4)
theorem B_put (G : BG X own cc d kc ks b0 z0 cA0) {idx ci j q : Nat} {v : Value} {ty : FieldType} {fs : List Value} {fin : Bool} (hF : PB own idx ci j ty fin) (hI : fin = true → BI X) (hd : decode cc pc = .ok (.putfield idx, 3)) (hq : q < M) (he : f q = .inr (ci, fs)) (hnar : narrow ty v = v) (hfit : fits ty v = true) (hl : j < fs.length) (kk : BV X b0 k n (pc + 3) ls st (wl b0 M (up f q (.inr (ci, fs.set j v))))) : BV X b0 k n pc ls (v :: .ref (b0 + q) :: st) (wl b0 M f) :=
  BV_put G wl_con hF hI (wl_at hq he) hnar hfit hl hd (by rw [wl_set hq]; exact kk)
theorem B_aleni (G : BG X own cc d kc ks b0 z0 cA0) {q N : Nat} {g : Nat → Int32} {v : Int32} (hd : decode cc pc = .ok (.arraylength, 1)) (hq : q < M) (he : f q = .inl (cA0 0, N, .inl g)) (hv : Int32.ofNat N = v) (kk : BV X b0 k n (pc + 1) ls (.int v :: st) (wl b0 M f)) : BV X b0 k n pc ls (.ref (b0 + q) :: st) (wl b0 M f) := by
  obtain ⟨p, l, e, R, s, m, args, below, meth, c, D, cA, A, Dp, Q, σ, nL⟩ := X
  obtain ⟨hx, hb, hml, hown, hts, hK, rfl, hb0, hGE, hlk, hfr, hlo, hkc, hks⟩ := G
  intro H locs d0 lr g1 g0 g2 g3 g4
  obtain ⟨hGE, hEZ, rfl⟩ := hGE
  exact va_alen (s := s.setDrawn d0) hx hb hK g2 q 0 (wl_at hq he) rfl hv hd (kk H locs d0 lr g1 g0 g2 g3 g4)
theorem B_alenq (G : BG X own cc d kc ks b0 z0 cA0) {q N : Nat} {g : Nat → Option Nat} {v : Int32} (hd : decode cc pc = .ok (.arraylength, 1)) (hq : q < M) (he : f q = .inl (cA0 3, N, .inr (.inr (.inr (.inr g))))) (hv : Int32.ofNat N = v) (kk : BV X b0 k n (pc + 1) ls (.int v :: st) (wl b0 M f)) : BV X b0 k n pc ls (.ref (b0 + q) :: st) (wl b0 M f) := by
  obtain ⟨p, l, e, R, s, m, args, below, meth, c, D, cA, A, Dp, Q, σ, nL⟩ := X
  obtain ⟨hx, hb, hml, hown, hts, hK, rfl, hb0, hGE, hlk, hfr, hlo, hkc, hks⟩ := G
  intro H locs d0 lr g1 g0 g2 g3 g4
  obtain ⟨hGE, hEZ, rfl⟩ := hGE
  exact va_alen (s := s.setDrawn d0) hx hb hK g2 q 3 (wl_at hq he) rfl hv hd (kk H locs d0 lr g1 g0 g2 g3 g4)
theorem B_alenz (G : BG X own cc d kc ks b0 z0 cA0) (hd : decode cc pc = .ok (.arraylength, 1)) (kk : BV X b0 k n (pc + 1) ls (.int 0 :: st) ws) : BV X b0 k n pc ls (.ref z0 :: st) ws := by
  obtain ⟨p, l, e, R, s, m, args, below, meth, c, D, cA, A, Dp, Q, σ, nL⟩ := X
  obtain ⟨hx, hb, hml, hown, hts, hK, rfl, hb0, hGE, hlk, hfr, hlo, hkc, hks⟩ := G
  intro H locs d0 lr g1 g0 g2 g3 g4
  obtain ⟨hGE, ⟨hZ, hT, hO⟩, rfl⟩ := hGE
  exact va_tlen (s := s.setDrawn d0) (t := z0) (N := 0) hx hb (va_T.moved (U := s.setDrawn d0) (Vm.Alike.refl s.vm) hT) g3 rfl hd (kk H locs d0 lr g1 g0 g2 g3 g4)
theorem B_getsz (G : BG X own cc d kc ks b0 z0 cA0) {idx : Nat} (hl : Cond.fieldLink own idx "java/util/ArrayList" "DEFAULTCAPACITY_EMPTY_ELEMENTDATA" "[Ljava/lang/Object;" ∈ tw) (hd : decode cc pc = .ok (.getstatic idx, 3)) (kk : BV X b0 k n (pc + 3) ls (.ref z0 :: st) ws) : BV X b0 k n pc ls st ws := by
  obtain ⟨p, l, e, R, s, m, args, below, meth, c, D, cA, A, Dp, Q, σ, nL⟩ := X
  obtain ⟨hx, hb, hml, hown, hts, hK, rfl, hb0, hGE, hlk, hfr, hlo, hkc, hks⟩ := G
  intro H locs d0 lr g1 g0 g2 g3 g4
  obtain ⟨hGE, ⟨hZ, hT, hO⟩, rfl⟩ := hGE
  exact va_gets (s := s.setDrawn d0) hx hb (va_Z.moved (U := s.setDrawn d0) (Vm.Alike.refl s.vm) hZ) g3 hown (dr_words hts d0 _ hl) (fun x h => h) hd (kk H locs d0 lr g1 g0 g2 g3 g4)
theorem B_iast (G : BG X own cc d kc ks b0 z0 cA0) {q N : Nat} {g : Nat → Int32} {i x : Int32} (hd : decode cc pc = .ok (.iastore, 1)) (hq : q < M) (he : f q = .inl (cA0 0, N, .inl g)) (hin : vp_in i N) (kk : BV X b0 k n (pc + 1) ls st (wl b0 M (up f q (.inl (cA0 0, N, .inl (upd g i.toNatClampNeg x)))))) : BV X b0 k n pc ls (.int x :: .int i :: .ref (b0 + q) :: st) (wl b0 M f) := by
  obtain ⟨p, l, e, R, s, m, args, below, meth, c, D, cA, A, Dp, Q, σ, nL⟩ := X
  obtain ⟨hx, hb, hml, hown, hts, hK, rfl, hb0, hGE, hlk, hfr, hlo, hkc, hks⟩ := G
  intro H locs d0 lr g1 g0 g2 g3 g4
  obtain ⟨hGE, hEZ, rfl⟩ := hGE
  refine va_sz_iast (s := s.setDrawn d0) hx hb hK g2 wl_con.D g3 q 0 (wl_at hq he) rfl hin hd (fun H1 locs1 z1 hP1 hS1 => kk H1 locs1 d0 lr g1 (by rw [z1, g0, wl_len, wl_len]) ?_ hS1 g4)
  rwa [wl_set hq] at hP1
theorem B_aast (G : BG X own cc d kc ks b0 z0 cA0) {q N x : Nat} {g : Nat → Option Nat} {vs : List Value} {i : Int32} (hd : decode cc pc = .ok (.aastore, 1)) (hq : q < M) (he : f q = .inl (cA0 3, N, .inr (.inr (.inr (.inr g))))) (hx1 : x < M) (hx2 : f x = .inr (5, vs)) (hin : vp_in i N) (kk : BV X b0 k n (pc + 1) ls st (wl b0 M (up f q (.inl (cA0 3, N, .inr (.inr (.inr (.inr (va_up g i.toNatClampNeg (some (b0 + x)))))))))) ) : BV X b0 k n pc ls (.ref (b0 + x) :: .int i :: .ref (b0 + q) :: st) (wl b0 M f) := by
  obtain ⟨p, l, e, R, s, m, args, below, meth, c, D, cA, A, Dp, Q, σ, nL⟩ := X
  obtain ⟨hx, hb, hml, hown, hts, hK, rfl, hb0, hGE, hlk, hfr, hlo, hkc, hks⟩ := G
  intro H locs d0 lr g1 g0 g2 g3 g4
  obtain ⟨hGE, hEZ, rfl⟩ := hGE
  obtain ⟨T, N2, hc⟩ := vwSt
  refine va_sz_aast (s := s.setDrawn d0) hx hb hK g2 wl_con.D g3 q 3 x 5 (wl_at hq he) rfl (va_Nw.same rfl rfl (hGE.2.1 ("SlantSlate$State", "java/lang/Object") (by simp [csl]))) (wl_at hx1 hx2) hc hin hd (fun H1 locs1 z1 hP1 hS1 => kk H1 locs1 d0 lr g1 (by rw [z1, g0, wl_len, wl_len]) ?_ hS1 g4)
  rwa [wl_set hq] at hP1
theorem B_newq (G : BG X own cc d kc ks b0 z0 cA0) {idx : Nat} {z : Int} {N : Nat} (hl : Cond.classLink own idx "java/lang/Object" ∈ tw) (hz : z = (N : Int)) (hN : N ≤ 5000) (hk : k + 1 ≤ kc) (hn : n + N ≤ ks) (hd : decode cc pc = .ok (.anewarray idx, 3)) (kk : BV X b0 (k + 1) (n + N) (pc + 3) ls (.ref (b0 + M) :: st) (wl b0 (M + 1) (up f M (.inl (cA0 3, N, .inr (.inr (.inr (.inr (fun _ => none))))))))) : BV X b0 k n pc ls (.int (Int32.ofInt z) :: st) (wl b0 M f) := by
  obtain ⟨p, l, e, R, s, m, args, below, meth, c, D, cA, A, Dp, Q, σ, nL⟩ := X
  obtain ⟨hx, hb, hml, hown, hts, hK, rfl, hb0, hGE, hlk, hfr, hlo, hkc, hks⟩ := G
  intro H locs d0 lr g1 g0 g2 g3 g4
  obtain ⟨hGE, ⟨hZ, hT, hO⟩, rfl⟩ := hGE
  have e2 : (Int32.ofInt z).toNatClampNeg = N := by
    rw [hz, Int32.toNatClampNeg_ofInt_of_le (by omega) (by omega)]
    omega
  have ng : ¬ Int32.ofInt z < 0 := fun q => by
    rw [Int32.lt_iff_toInt_lt, Int32.toInt_ofInt_of_le (by omega) (by omega)] at q
    simp at q
    omega
  rw [wl_len] at g0
  exact va_sz_newq (s := s.setDrawn d0) hx hb hown (dr_words hts d0 _ hl) (va_AO.moved (U := s.setDrawn d0) (Vm.Alike.refl s.vm) hO) (hK.2 3 _ rfl).2 g2 g0 ng e2 (by omega) (by omega) (by omega) g3 hd (fun H1 z1 hP1 hS1 => kk H1 locs d0 lr g1 (by rw [z1, wl_len]; omega) (by rwa [wl_push] at hP1) hS1 g4)
theorem ac_i : Cond.arrayClass .int ∈ tw := by decide +kernel
theorem B_newi (G : BG X own cc d kc ks b0 z0 cA0) {z : Int} {N : Nat} (hz : z = (N : Int)) (hN : N ≤ 5000) (hk : k + 1 ≤ kc) (hn : n + N ≤ ks) (hd : decode cc pc = .ok (.newarray .int, 2)) (kk : BV X b0 (k + 1) (n + N) (pc + 2) ls (.ref (b0 + M) :: st) (wl b0 (M + 1) (up f M (.inl (cA0 0, N, .inl (fun _ => 0)))))) : BV X b0 k n pc ls (.int (Int32.ofInt z) :: st) (wl b0 M f) :=
  BV_newa G (at9 := .int) (t := 0) (a0 := (N, .inl (fun _ => 0))) (ty := .int) (fun _ => rfl) rfl (fun C h => by cases h) ac_i (fun _ => rfl) hz hN hk hn hd (by rw [wl_len, wl_push]; exact kk)
theorem ac_l : Cond.arrayClass .long ∈ tw := by decide +kernel
theorem B_newl (G : BG X own cc d kc ks b0 z0 cA0) {z : Int} {N : Nat} (hz : z = (N : Int)) (hN : N ≤ 5000) (hk : k + 1 ≤ kc) (hn : n + N ≤ ks) (hd : decode cc pc = .ok (.newarray .long, 2)) (kk : BV X b0 (k + 1) (n + N) (pc + 2) ls (.ref (b0 + M) :: st) (wl b0 (M + 1) (up f M (.inl (cA0 1, N, .inr (.inl (fun _ => 0))))))) : BV X b0 k n pc ls (.int (Int32.ofInt z) :: st) (wl b0 M f) :=
  BV_newa G (at9 := .long) (t := 1) (a0 := (N, .inr (.inl (fun _ => 0)))) (ty := .long) (fun _ => rfl) rfl (fun C h => by cases h) ac_l (fun _ => rfl) hz hN hk hn hd (by rw [wl_len, wl_push]; exact kk)
theorem ac_z : Cond.arrayClass .boolean ∈ tw := by decide +kernel
theorem B_newz (G : BG X own cc d kc ks b0 z0 cA0) {z : Int} {N : Nat} (hz : z = (N : Int)) (hN : N ≤ 5000) (hk : k + 1 ≤ kc) (hn : n + N ≤ ks) (hd : decode cc pc = .ok (.newarray .boolean, 2)) (kk : BV X b0 (k + 1) (n + N) (pc + 2) ls (.ref (b0 + M) :: st) (wl b0 (M + 1) (up f M (.inl (cA0 2, N, .inl (fun _ => 0)))))) : BV X b0 k n pc ls (.int (Int32.ofInt z) :: st) (wl b0 M f) :=
  BV_newa G (at9 := .boolean) (t := 2) (a0 := (N, .inl (fun _ => 0))) (ty := .boolean) (fun _ => rfl) rfl (fun C h => by cases h) ac_z (fun _ => rfl) hz hN hk hn hd (by rw [wl_len, wl_push]; exact kk)
/-- a class as the walk makes its objects: its number, how many fields, their values when new -/
def NB (own : String) (index ci N : Nat) (fs : List Value) : Prop := ∃ (C : String) (T : u_T) (ty : Nat → FieldType), vwCl[ci]? = some (C, T, N) ∧ (∀ w ∈ u_ws C T N, w ∈ tw) ∧ (∀ j, j < N → parseFieldDescriptor (T j).2.2.1 = some (ty j)) ∧ Cond.classLink own index C ∈ tw ∧ Cond.instantiable C N ∈ tw ∧ Cond.initialized C ∈ tw ∧ ∀ j, j < N → defaultValue (ty j) = vp_V fs j
theorem B_new (G : BG X own cc d kc ks b0 z0 cA0) {index ci N : Nat} {fs : List Value} (F : NB own index ci N fs) (hk : k + 1 ≤ kc) (hn : n + N ≤ ks) (hd : decode cc pc = .ok (.new index, 3)) (kk : BV X b0 (k + 1) (n + N) (pc + 3) ls (.ref (b0 + M) :: st) (wl b0 (M + 1) (up f M (.inr (ci, fs))))) : BV X b0 k n pc ls st (wl b0 M f) := by
  obtain ⟨C, T, ty, h1, h2, h3, h4, h5, h6, h7⟩ := F
  exact BV_new G h1 h2 h3 h4 h5 h6 h7 hk hn hd (by rw [wl_len, wl_push]; exact kk)
/-- Object.<init> -/
def OB0 (own : String) (idx : Nat) : Prop := Cond.methodLink own idx Lib.objectInit ∈ tw ∧ Cond.instanceMethod Lib.objectInit ∈ tw ∧ Cond.code Lib.objectInit ⟨#[0xb1]⟩ 1 none ∈ tw
theorem B_obj (G : BG X own cc d kc ks b0 z0 cA0) {idx a : Nat} (F : OB0 own idx) (hd : decode cc pc = .ok (.invokespecial idx, 3)) (hdd : 1 ≤ d) (hst : (st.map fun v => v.category).sum ≤ 8) (kk : BV X b0 k n (pc + 3) ls st ws) : BV X b0 k n pc ls (.ref a :: st) ws := by
  obtain ⟨p, l, e, R, s, m, args, below, meth, c, D, cA, A, Dp, Q, σ, nL⟩ := X
  obtain ⟨hx, hb, hml, hown, hts, hK, rfl, hb0, hGE, hlk, hfr, hlo, hkc, hks⟩ := G
  intro H locs d0 lr g1 g0 g2 g3 g4
  exact W.objInit (s := s.setDrawn d0) hx hb hown (dr_words hts d0 _ F.1) (dr_words hts d0 _ F.2.1) (dr_words hts d0 _ F.2.2) rfl (g4.2.1.trans hml.symm) rfl hd (by omega) (by show 2 * 0 + (st.map fun v => v.category).sum + 12 ≤ R.locals; omega) (kk H locs d0 lr g1 g0 g2 g3 g4)
/-- contracts of methods that make cells -/
def PB0 (D : va_G) (cA : Nat → ClassId) (b0 z : Nat) (av : List Value) (ws : va_W) : Array Value → State → Prop := va_Pc av (fun U => U.heap.size = b0 + ws.length ∧ va_P D vwCl ws U.heap ∧ va_K D vwCl (atys cA) U ∧ GE (fun q => b0 ≤ q) U U.heap ∧ EZ z (fun q => b0 ≤ q) U U.heap)
def QB0 (D : va_G) (b0 : Nat) (r : Option Value) (ws' : va_W) : Array Value → State → Outcome → State → Prop := fun _ st oc t => (oc = .returned r ∧ t.heap.size = b0 + ws'.length ∧ va_P D vwCl ws' t.heap) ∧ va_F (fun q => b0 ≤ q) st t
def CB (l : Launch) (d kc ks : Nat) (y : MethodName) (bytes : ByteArray) (maxL : Nat) (ret : Option FieldType) (cA : Nat → ClassId) (b0 z : Nat) (av : List Value) (ws ws' : va_W) (r : Option Value) : Prop :=
  ∀ D : va_G, Met l y (Cond.code y bytes maxL ret :: tw) (rmm d kc ks) (PB0 D cA b0 z av ws) (QB0 D b0 r ws') kc ks (fun q => b0 ≤ q)
def retB (cc : ByteArray) (pc : Nat) (rt : Option FieldType) (r : Option Value) : Prop := rets cc pc rt r ∨ ∃ q ty, r = some (.ref q) ∧ decode cc pc = .ok (.areturn, 1) ∧ rt = some (.array ty)
def EB (X : Cxt) (cc : ByteArray) (rt : Option FieldType) (kc ks b0 : Nat) (ws' : va_W) (r : Option Value) : Prop := ∀ (k n pc : Nat) (ls : List (Option Value)), k ≤ kc → n ≤ ks → retB cc pc rt r → BV X b0 k n pc ls r.toList ws'
theorem vm_id : ∀ av : List Value, av.map (vm (fun q => q)) = av
  | [] => rfl
  | v :: av => by
    rw [List.map_cons, vm_id av]
    cases v <;> rfl
theorem blind_PB0 {D : va_G} {cA : Nat → ClassId} {b0 z : Nat} {av : List Value} {ws : va_W} : FrameBlind (PB0 D cA b0 z av ws) := by
  intro a U g mk q
  obtain ⟨q0, q1, qP, qK, qG, qE⟩ := q
  exact ⟨q0, q1, qP, va_K.moved (u := U) (U := U.calling g mk a) (Vm.Alike.refl U.vm) qK, qG.same rfl, qE.same rfl⟩
theorem va_callB {p : Program} {l : Launch} {e : Env} {R : Room} {s : State} {m : MethodId} {args : Array Value} {below : List Frame} {meth : Method} {c : Code} {H : Heap} {locs : List Loc} {cells slots : Nat} {Q : State → Prop} {pc : Nat} {ls : Array Slot} {rest st0 : List Value} {a : Array Value} {H0 : Heap} {mc ms b0 : Nat} {D : va_G} {r : Option Value} {ws' : va_W}
    (hr : va_Run p l e R s m args below meth c H locs cells slots mc ms (F0 m pc ls st0) rest (QB0 D b0 r ws' a) (fun q => b0 ≤ q)) (hS : va_S (fun q => b0 ≤ q) H0 H locs)
    (kk : ∀ (H1 : Heap) (locs1 : List Loc), H1.size = b0 + ws'.length → va_P D vwCl ws' H1 → va_S (fun q => b0 ≤ q) H0 H1 locs1 → W p l e R s m args below meth c H1 locs1 (cells + mc) (slots + ms) Q (F0 m (pc + 3) ls (r.toList ++ rest))) : W p l e R s m args below meth c H locs cells slots Q (F0 m pc ls st0) := by
  intro T hT X
  obtain ⟨v, st₀, t, T', L, h0, X', hL, e1, e2, ⟨⟨hv, hz0, hb⟩, hz, hk⟩, st⟩ := hr T hT X
  cases hv
  rw [h0] at hz hk
  obtain ⟨t2, a1, b1⟩ := kk T'.heap (locs ++ L) (by rw [e1]; exact hz0) (by rw [e1]; exact hb)
    ⟨Nat.le_trans hS.1 (by rw [e1]; exact hz), fun q h1 h2 => by rw [e1, hk q (Nat.lt_of_lt_of_le h1 hS.1) h2]; exact hS.2.1 q h1 h2, fun q hq => by
      rcases List.mem_append.mp hq with h | h
      · exact hS.2.2 q h
      · exact hL q h⟩ T' rfl X'
  exact ⟨t2, st t2 a1, b1⟩
set_option maxHeartbeats 1000000 in
theorem CB.ofBV {l : Launch} {y : MethodName} {maxL : Nat} {rt : Option FieldType} {av : List Value} {ws' : va_W} {r : Option Value} {L : List (Option Value)} {cA : Nat → ClassId} {b0 z : Nat} (own : String) (hy : plainName y.cls = true) (ho : y.cls = own) (hn : (els av).length ≤ maxL) (hL : els av ++ List.replicate (maxL - (els av).length) none = L)
    (body : ∀ X : Cxt, X.2.1 = l → BG X own cc d kc ks b0 z cA → (y.name = "<init>" → BI X) → EB X cc rt kc ks b0 ws' r → BV X b0 0 0 0 L [] ws) : CB l d kc ks y cc maxL rt cA b0 z av ws ws' r := by
  intro D
  refine Met.ofW (cc := cc) (maxL := maxL) (ret := rt) hy rfl ?_
  intro p e s m args below meth c s₁ B hml hv
  obtain ⟨rfl, hsz, hP, hK, hGE, hEZ⟩ := hv
  have hts0 := atoms_spec (ws := Cond.code y cc maxL rt :: tw) B.pre
  have hown : s.vm.findClass own = some m.cls := ho ▸ findClass_of_methodNamed B.named
  have hlocks := B.notSynchronized
  have hret := B.returns
  have hx := B.exec
  have hb := B.bytes
  have hnm := (name_of_methodNamed B.named B.method).1
  rw [lg_entry_eq]
  have hl := lok_entry (σ := fun q => q) hL hn
  rw [vm_id] at hl
  have key := body (p, l, e, (headSpec (Cond.code y cc maxL rt :: tw) (rmm d kc ks)).room, s, m, av.toArray, below, meth, c, D, cA, (fun q => b0 ≤ q), (fun d0 => d0 = s.drawn), MQ below (QB0 D b0 r ws') av.toArray s kc ks (fun q => b0 ≤ q), (fun q => q), maxL) rfl
    ⟨hx, hb, hml, hown, fun w hw => hts0 w (List.mem_cons_of_mem _ hw), hK, rfl, by omega, ⟨hGE, hEZ, rfl⟩, hlocks, Nat.le_refl _, Nat.le_refl _, Nat.le_refl _, Nat.le_refl _⟩ (fun h => hnm.trans h) ?_
  · exact key s.heap [] s.drawn _ rfl hsz hP va_S.rf hl
  · intro k n pc ls hk hn1 hr H locs d0 lr hd0 hz1 hP1 hS1 hl1
    subst hd0
    refine W.widen hk hn1 ?_
    have post1 : ∀ t : State, t.heap = H → s.WarmedH t.vm → QB0 D b0 r ws' av.toArray s (.returned r) t := fun t ht _ => ⟨⟨rfl, by rw [ht]; exact hz1, by rw [ht]; exact hP1⟩, hS1.F ht⟩
    rcases hr with (⟨x, ty, rfl, hdg, rfl, hnar⟩ | ⟨x, rfl, hdg, rfl⟩ | ⟨x, rfl, hdg, rfl⟩ | ⟨rfl, hdg, rfl⟩ | ⟨q, nm, rfl, hdg, rfl⟩) | ⟨q, ty, rfl, hdg, rfl⟩
    · exact W.zret hx hb hret hnar post1 hS1.2.2 hdg hlocks
    · exact W.lret hx hb hret post1 hS1.2.2 hdg hlocks
    · exact W.dret hx hb hret post1 hS1.2.2 hdg hlocks
    · exact W.vret hx hb hret post1 hS1.2.2 hdg hlocks
    · exact W.aret hx hb hret (Or.inl ⟨_, rfl⟩) (Or.inr ⟨_, rfl⟩) post1 hS1.2.2 hdg hlocks
    · exact W.aret hx hb hret (Or.inr ⟨_, rfl⟩) (Or.inr ⟨_, rfl⟩) post1 hS1.2.2 hdg hlocks
theorem CB.to {l : Launch} {d kc ks : Nat} {y : MethodName} {bytes : ByteArray} {maxL : Nat} {ret : Option FieldType} {cA : Nat → ClassId} {b0 z : Nat} {av : List Value} {ws ws' ws2 : va_W} {r : Option Value} (h : CB l d kc ks y bytes maxL ret cA b0 z av ws ws' r) (e : ws' = ws2) : CB l d kc ks y bytes maxL ret cA b0 z av ws ws2 r := e ▸ h
theorem B_retv {rt : Option FieldType} {r : Option Value} (E : EB X cc rt kc ks b0 ws r) (hd : decode cc pc = .ok (.return_, 1)) (hr : rt = none) (hv : r = none) (h1 : k ≤ kc := by omega) (h2 : n ≤ ks := by omega) : BV X b0 k n pc ls [] ws := by
  subst hv
  exact E k n pc ls h1 h2 (Or.inl (Or.inr (Or.inr (Or.inr (Or.inl ⟨rfl, hd, hr⟩)))))
theorem B_reti {rt : Option FieldType} {x : Int32} {ty : FieldType} (E : EB X cc rt kc ks b0 ws (some (.int x))) (hd : decode cc pc = .ok (.ireturn, 1)) (hr : rt = some ty) (hn : narrow ty (.int x) = .int x) (h1 : k ≤ kc := by omega) (h2 : n ≤ ks := by omega) : BV X b0 k n pc ls [.int x] ws :=
  E k n pc ls h1 h2 (Or.inl (Or.inl ⟨x, ty, rfl, hd, hr, hn⟩))
theorem B_reta {rt : Option FieldType} {q : Nat} {ty : FieldType} (E : EB X cc rt kc ks b0 ws (some (.ref q))) (hd : decode cc pc = .ok (.areturn, 1)) (hr : rt = some (.array ty)) (h1 : k ≤ kc := by omega) (h2 : n ≤ ks := by omega) : BV X b0 k n pc ls [.ref q] ws :=
  E k n pc ls h1 h2 (Or.inr ⟨q, ty, rfl, hd, hr⟩)
/-- the links of a constructor; of the nest's own -/
def MI (own : String) (idx : Nat) (y : MethodName) (bytes : ByteArray) (maxL na : Nat) : Prop := (Cond.methodLink own idx y ∈ tw ∨ (own, idx, y, RX6) ∈ nwl) ∧ Cond.instanceMethod y ∈ tw ∧ Cond.initialized y.cls ∈ tw ∧ Cond.code y bytes maxL none ∈ tw ∧ (y.cls ≠ "java/lang/invoke/MethodHandle" ∧ y.cls ≠ "java/lang/invoke/VarHandle" ∧ (parseMethodDescriptor y.desc).map (fun d => d.parameters.length) = some na) ∧ y.name = "<init>" ∧ maxL ≤ 45
theorem B_cI0 (G : BG X own cc d kc ks b0 z0 cA0) {idx q maxL d1 kc1 ks1 : Nat} {y : MethodName} {bytes : ByteArray} {ws1 : va_W}  (F : MI own idx y bytes maxL 0) (hd : decode cc pc = .ok (.invokespecial idx, 3)) (hC : CB X.2.1 d1 kc1 ks1 y bytes maxL none cA0 b0 z0 [.ref q] ws ws1 none) (hdd : d1 + 1 ≤ d) (hk : k + kc1 ≤ kc) (hn : n + ks1 ≤ ks) (hst : (st.map fun v => v.category).sum ≤ 8) (kk : BV X b0 (k + kc1) (n + ks1) (pc + 3) ls st ws1) : BV X b0 k n pc ls (.ref q :: st) ws := by
  obtain ⟨p, l, e, R, s, m, args, below, meth, c, D, cA, A, Dp, Q, σ, nL⟩ := X
  obtain ⟨hx, hb, hml, hown, hts, hK, rfl, hb0, hGE, hlk, hfr, hlo, hkc, hks⟩ := G
  intro H locs d0 lr g1 g0 g2 g3 g4
  obtain ⟨w1, w2, w4, w5, w6, w8, w7⟩ := F
  obtain ⟨hGE1, hGE2, rfl⟩ := hGE
  have hGE := And.intro hGE1 (And.intro hGE2 True.intro)
  rcases w1 with w1 | w1
  · exact va_callB (va_runI (As := []) (rest := st) (nL := nL) ⟨hx, hb, hml, hown, dr_words hts d0⟩ (hC D) (cwI 0 (dr_words hts d0) (gi_tw w5) rfl rfl rfl (dr_words hts d0 _ w4) (dr_words hts d0 _ w1) (dr_words hts d0 _ w2) w8 w6 ⟨by show d1 + 1 ≤ R.frames; omega, by show 8 + (maxL + 11) + 64 * d1 ≤ R.locals; omega⟩) ⟨blind_PB0, fun U hU hW => ⟨rfl, by rw [hU]; exact g0, by rw [hU]; exact g2, va_K.moved hW.alike hK, by rw [hU]; exact GE.pass hGE.1 g3 (show s.WarmedH U.vm from hW) (fun q _ h => h), by rw [hU]; exact EZ.pass hGE.2.1 g3 (show s.WarmedH U.vm from hW)⟩⟩ rfl rfl g4.2.1 rfl (lv_room hst) hd ⟨by omega, by omega⟩) g3 (fun H1 locs1 z1 hP1 hS1 => kk H1 locs1 d0 lr g1 z1 hP1 hS1 g4)
  · exact va_callB (va_runIN (As := []) (rest := st) (nL := nL) ⟨hx, hb, hml, hown, dr_words hts d0⟩ (hC D) ⟨va_cnB 0 (dr_words hts d0) (gi_tw w5) rfl rfl rfl (va_Nw.same rfl rfl (hGE1.1 _ w1)) (dr_words hts d0 _ w4) w6 ⟨by show d1 + 1 ≤ R.frames; omega, by show 8 + (maxL + 11) + 64 * d1 ≤ R.locals; omega⟩, w8, dr_words hts d0 _ w2⟩ ⟨blind_PB0, fun U hU hW => ⟨rfl, by rw [hU]; exact g0, by rw [hU]; exact g2, va_K.moved hW.alike hK, by rw [hU]; exact GE.pass hGE.1 g3 (show s.WarmedH U.vm from hW) (fun q _ h => h), by rw [hU]; exact EZ.pass hGE.2.1 g3 (show s.WarmedH U.vm from hW)⟩⟩ rfl rfl g4.2.1 rfl (lv_room hst) hd ⟨by omega, by omega⟩) g3 (fun H1 locs1 z1 hP1 hS1 => kk H1 locs1 d0 lr g1 z1 hP1 hS1 g4)
theorem B_cI1 (G : BG X own cc d kc ks b0 z0 cA0) {idx q maxL d1 kc1 ks1 : Nat} {y : MethodName} {bytes : ByteArray} {ws1 : va_W} {v0 : Value} (F : MI own idx y bytes maxL 1) (hd : decode cc pc = .ok (.invokespecial idx, 3)) (hC : CB X.2.1 d1 kc1 ks1 y bytes maxL none cA0 b0 z0 [.ref q, v0] ws ws1 none) (hdd : d1 + 1 ≤ d) (hk : k + kc1 ≤ kc) (hn : n + ks1 ≤ ks) (hst : (st.map fun v => v.category).sum ≤ 8) (kk : BV X b0 (k + kc1) (n + ks1) (pc + 3) ls st ws1) : BV X b0 k n pc ls (v0 :: .ref q :: st) ws := by
  obtain ⟨p, l, e, R, s, m, args, below, meth, c, D, cA, A, Dp, Q, σ, nL⟩ := X
  obtain ⟨hx, hb, hml, hown, hts, hK, rfl, hb0, hGE, hlk, hfr, hlo, hkc, hks⟩ := G
  intro H locs d0 lr g1 g0 g2 g3 g4
  obtain ⟨w1, w2, w4, w5, w6, w8, w7⟩ := F
  obtain ⟨hGE1, hGE2, rfl⟩ := hGE
  have hGE := And.intro hGE1 (And.intro hGE2 True.intro)
  rcases w1 with w1 | w1
  · exact va_callB (va_runI (As := [v0]) (rest := st) (nL := nL) ⟨hx, hb, hml, hown, dr_words hts d0⟩ (hC D) (cwI 1 (dr_words hts d0) (gi_tw w5) rfl rfl rfl (dr_words hts d0 _ w4) (dr_words hts d0 _ w1) (dr_words hts d0 _ w2) w8 w6 ⟨by show d1 + 1 ≤ R.frames; omega, by show 8 + (maxL + 11) + 64 * d1 ≤ R.locals; omega⟩) ⟨blind_PB0, fun U hU hW => ⟨rfl, by rw [hU]; exact g0, by rw [hU]; exact g2, va_K.moved hW.alike hK, by rw [hU]; exact GE.pass hGE.1 g3 (show s.WarmedH U.vm from hW) (fun q _ h => h), by rw [hU]; exact EZ.pass hGE.2.1 g3 (show s.WarmedH U.vm from hW)⟩⟩ rfl rfl g4.2.1 rfl (lv_room hst) hd ⟨by omega, by omega⟩) g3 (fun H1 locs1 z1 hP1 hS1 => kk H1 locs1 d0 lr g1 z1 hP1 hS1 g4)
  · exact va_callB (va_runIN (As := [v0]) (rest := st) (nL := nL) ⟨hx, hb, hml, hown, dr_words hts d0⟩ (hC D) ⟨va_cnB 1 (dr_words hts d0) (gi_tw w5) rfl rfl rfl (va_Nw.same rfl rfl (hGE1.1 _ w1)) (dr_words hts d0 _ w4) w6 ⟨by show d1 + 1 ≤ R.frames; omega, by show 8 + (maxL + 11) + 64 * d1 ≤ R.locals; omega⟩, w8, dr_words hts d0 _ w2⟩ ⟨blind_PB0, fun U hU hW => ⟨rfl, by rw [hU]; exact g0, by rw [hU]; exact g2, va_K.moved hW.alike hK, by rw [hU]; exact GE.pass hGE.1 g3 (show s.WarmedH U.vm from hW) (fun q _ h => h), by rw [hU]; exact EZ.pass hGE.2.1 g3 (show s.WarmedH U.vm from hW)⟩⟩ rfl rfl g4.2.1 rfl (lv_room hst) hd ⟨by omega, by omega⟩) g3 (fun H1 locs1 z1 hP1 hS1 => kk H1 locs1 d0 lr g1 z1 hP1 hS1 g4)
theorem B_cV0 (G : BG X own cc d kc ks b0 z0 cA0) {idx ci q maxL d1 kc1 ks1 : Nat} {y : MethodName} {bytes : ByteArray} {ret : Option FieldType} {ws1 : va_W} {r : Option Value} {fs : List Value}  (F : MV own idx ci y bytes maxL ret 0) (hd : decode cc pc = .ok (.invokevirtual idx, 3)) (hq : q < M) (he : f q = .inr (ci, fs)) (hC : CB X.2.1 d1 kc1 ks1 y bytes maxL ret cA0 b0 z0 [.ref (b0 + q)] (wl b0 M f) ws1 r) (hdd : d1 + 1 ≤ d) (hk : k + kc1 ≤ kc) (hn : n + ks1 ≤ ks) (hst : (st.map fun v => v.category).sum ≤ 8) (kk : BV X b0 (k + kc1) (n + ks1) (pc + 3) ls (r.toList ++ st) ws1) : BV X b0 k n pc ls (.ref (b0 + q) :: st) (wl b0 M f) := by
  obtain ⟨p, l, e, R, s, m, args, below, meth, c, D, cA, A, Dp, Q, σ, nL⟩ := X
  obtain ⟨hx, hb, hml, hown, hts, hK, rfl, hb0, hGE, hlk, hfr, hlo, hkc, hks⟩ := G
  intro H locs d0 lr g1 g0 g2 g3 g4
  obtain ⟨⟨T, N, hcl⟩, w1, w2, w3, w3g, w4, w5, w6, w7⟩ := F
  obtain ⟨hGE1, hGE2, rfl⟩ := hGE
  have hGE := And.intro hGE1 (And.intro hGE2 True.intro)
  exact va_callB (va_runV (As := []) (rest := st) (nL := nL) ⟨hx, hb, hml, hown, dr_words hts d0⟩ (hC D) ⟨callB_of 0 (dr_words hts d0) (gi_tw w5) rfl rfl rfl (dr_words hts d0 _ w4) (dr_words hts d0 _ w1) w6 ⟨by show d1 + 1 ≤ R.frames; omega, by show 8 + (maxL + 11) + 64 * d1 ≤ R.locals; omega⟩, dr_words hts d0 _ w2, dr_words hts d0 _ (tw_in w3 w3g)⟩ ⟨blind_PB0, va_recv hK g2 hcl (wl_at hq he), fun U hU hW => ⟨rfl, by rw [hU]; exact g0, by rw [hU]; exact g2, va_K.moved hW.alike hK, by rw [hU]; exact GE.pass hGE.1 g3 (show s.WarmedH U.vm from hW) (fun q _ h => h), by rw [hU]; exact EZ.pass hGE.2.1 g3 (show s.WarmedH U.vm from hW)⟩⟩ rfl rfl g4.2.1 rfl (lv_room hst) hd ⟨by omega, by omega⟩) g3 (fun H1 locs1 z1 hP1 hS1 => kk H1 locs1 d0 lr g1 z1 hP1 hS1 g4)
theorem B_cV1 (G : BG X own cc d kc ks b0 z0 cA0) {idx ci q maxL d1 kc1 ks1 : Nat} {y : MethodName} {bytes : ByteArray} {ret : Option FieldType} {ws1 : va_W} {r : Option Value} {fs : List Value} {v0 : Value} (F : MV own idx ci y bytes maxL ret 1) (hd : decode cc pc = .ok (.invokevirtual idx, 3)) (hq : q < M) (he : f q = .inr (ci, fs)) (hC : CB X.2.1 d1 kc1 ks1 y bytes maxL ret cA0 b0 z0 [.ref (b0 + q), v0] (wl b0 M f) ws1 r) (hdd : d1 + 1 ≤ d) (hk : k + kc1 ≤ kc) (hn : n + ks1 ≤ ks) (hst : (st.map fun v => v.category).sum ≤ 8) (kk : BV X b0 (k + kc1) (n + ks1) (pc + 3) ls (r.toList ++ st) ws1) : BV X b0 k n pc ls (v0 :: .ref (b0 + q) :: st) (wl b0 M f) := by
  obtain ⟨p, l, e, R, s, m, args, below, meth, c, D, cA, A, Dp, Q, σ, nL⟩ := X
  obtain ⟨hx, hb, hml, hown, hts, hK, rfl, hb0, hGE, hlk, hfr, hlo, hkc, hks⟩ := G
  intro H locs d0 lr g1 g0 g2 g3 g4
  obtain ⟨⟨T, N, hcl⟩, w1, w2, w3, w3g, w4, w5, w6, w7⟩ := F
  obtain ⟨hGE1, hGE2, rfl⟩ := hGE
  have hGE := And.intro hGE1 (And.intro hGE2 True.intro)
  exact va_callB (va_runV (As := [v0]) (rest := st) (nL := nL) ⟨hx, hb, hml, hown, dr_words hts d0⟩ (hC D) ⟨callB_of 1 (dr_words hts d0) (gi_tw w5) rfl rfl rfl (dr_words hts d0 _ w4) (dr_words hts d0 _ w1) w6 ⟨by show d1 + 1 ≤ R.frames; omega, by show 8 + (maxL + 11) + 64 * d1 ≤ R.locals; omega⟩, dr_words hts d0 _ w2, dr_words hts d0 _ (tw_in w3 w3g)⟩ ⟨blind_PB0, va_recv hK g2 hcl (wl_at hq he), fun U hU hW => ⟨rfl, by rw [hU]; exact g0, by rw [hU]; exact g2, va_K.moved hW.alike hK, by rw [hU]; exact GE.pass hGE.1 g3 (show s.WarmedH U.vm from hW) (fun q _ h => h), by rw [hU]; exact EZ.pass hGE.2.1 g3 (show s.WarmedH U.vm from hW)⟩⟩ rfl rfl g4.2.1 rfl (lv_room hst) hd ⟨by omega, by omega⟩) g3 (fun H1 locs1 z1 hP1 hS1 => kk H1 locs1 d0 lr g1 z1 hP1 hS1 g4)
theorem B_cV3 (G : BG X own cc d kc ks b0 z0 cA0) {idx ci q maxL d1 kc1 ks1 : Nat} {y : MethodName} {bytes : ByteArray} {ret : Option FieldType} {ws1 : va_W} {r : Option Value} {fs : List Value} {v0 v1 v2 : Value} (F : MV own idx ci y bytes maxL ret 3) (hd : decode cc pc = .ok (.invokevirtual idx, 3)) (hq : q < M) (he : f q = .inr (ci, fs)) (hC : CB X.2.1 d1 kc1 ks1 y bytes maxL ret cA0 b0 z0 [.ref (b0 + q), v0, v1, v2] (wl b0 M f) ws1 r) (hdd : d1 + 1 ≤ d) (hk : k + kc1 ≤ kc) (hn : n + ks1 ≤ ks) (hst : (st.map fun v => v.category).sum ≤ 8) (kk : BV X b0 (k + kc1) (n + ks1) (pc + 3) ls (r.toList ++ st) ws1) : BV X b0 k n pc ls (v2 :: v1 :: v0 :: .ref (b0 + q) :: st) (wl b0 M f) := by
  obtain ⟨p, l, e, R, s, m, args, below, meth, c, D, cA, A, Dp, Q, σ, nL⟩ := X
  obtain ⟨hx, hb, hml, hown, hts, hK, rfl, hb0, hGE, hlk, hfr, hlo, hkc, hks⟩ := G
  intro H locs d0 lr g1 g0 g2 g3 g4
  obtain ⟨⟨T, N, hcl⟩, w1, w2, w3, w3g, w4, w5, w6, w7⟩ := F
  obtain ⟨hGE1, hGE2, rfl⟩ := hGE
  have hGE := And.intro hGE1 (And.intro hGE2 True.intro)
  exact va_callB (va_runV (As := [v0, v1, v2]) (rest := st) (nL := nL) ⟨hx, hb, hml, hown, dr_words hts d0⟩ (hC D) ⟨callB_of 3 (dr_words hts d0) (gi_tw w5) rfl rfl rfl (dr_words hts d0 _ w4) (dr_words hts d0 _ w1) w6 ⟨by show d1 + 1 ≤ R.frames; omega, by show 8 + (maxL + 11) + 64 * d1 ≤ R.locals; omega⟩, dr_words hts d0 _ w2, dr_words hts d0 _ (tw_in w3 w3g)⟩ ⟨blind_PB0, va_recv hK g2 hcl (wl_at hq he), fun U hU hW => ⟨rfl, by rw [hU]; exact g0, by rw [hU]; exact g2, va_K.moved hW.alike hK, by rw [hU]; exact GE.pass hGE.1 g3 (show s.WarmedH U.vm from hW) (fun q _ h => h), by rw [hU]; exact EZ.pass hGE.2.1 g3 (show s.WarmedH U.vm from hW)⟩⟩ rfl rfl g4.2.1 rfl (lv_room hst) hd ⟨by omega, by omega⟩) g3 (fun H1 locs1 z1 hP1 hS1 => kk H1 locs1 d0 lr g1 z1 hP1 hS1 g4)
theorem B_cS2 (G : BG X own cc d kc ks b0 z0 cA0) {idx maxL d1 kc1 ks1 : Nat} {y : MethodName} {bytes : ByteArray} {ret : Option FieldType} {ws1 : va_W} {r : Option Value} {v0 v1 : Value} (F : MS own idx y bytes maxL ret 2) (hd : decode cc pc = .ok (.invokestatic idx, 3)) (hC : CB X.2.1 d1 kc1 ks1 y bytes maxL ret cA0 b0 z0 [v0, v1] ws ws1 r) (hdd : d1 + 1 ≤ d) (hk : k + kc1 ≤ kc) (hn : n + ks1 ≤ ks) (hst : (st.map fun v => v.category).sum ≤ 8) (kk : BV X b0 (k + kc1) (n + ks1) (pc + 3) ls (r.toList ++ st) ws1) : BV X b0 k n pc ls (v1 :: v0 :: st) ws := by
  obtain ⟨p, l, e, R, s, m, args, below, meth, c, D, cA, A, Dp, Q, σ, nL⟩ := X
  obtain ⟨hx, hb, hml, hown, hts, hK, rfl, hb0, hGE, hlk, hfr, hlo, hkc, hks⟩ := G
  intro H locs d0 lr g1 g0 g2 g3 g4
  obtain ⟨w1, w2, w4, w5, w6, w7⟩ := F
  obtain ⟨hGE1, hGE2, rfl⟩ := hGE
  have hGE := And.intro hGE1 (And.intro hGE2 True.intro)
  exact va_callB (va_runS (As := [v0, v1]) (rest := st) (nL := nL) ⟨hx, hb, hml, hown, dr_words hts d0⟩ (hC D) ⟨callB_of 2 (dr_words hts d0) (gi_tw w5) rfl rfl rfl (dr_words hts d0 _ w4) (dr_words hts d0 _ w1) w6 ⟨by show d1 + 1 ≤ R.frames; omega, by show 8 + (maxL + 11) + 64 * d1 ≤ R.locals; omega⟩, dr_words hts d0 _ w2⟩ ⟨blind_PB0, fun U hU hW => ⟨rfl, by rw [hU]; exact g0, by rw [hU]; exact g2, va_K.moved hW.alike hK, by rw [hU]; exact GE.pass hGE.1 g3 (show s.WarmedH U.vm from hW) (fun q _ h => h), by rw [hU]; exact EZ.pass hGE.2.1 g3 (show s.WarmedH U.vm from hW)⟩⟩ rfl rfl g4.2.1 rfl (lv_room hst) hd ⟨by omega, by omega⟩) g3 (fun H1 locs1 z1 hP1 hS1 => kk H1 locs1 d0 lr g1 z1 hP1 hS1 g4)
end BRB
