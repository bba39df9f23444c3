section BLD
/-- the cells made so far lie one after another from b0 -/
def con (b0 : Nat) (ws : va_W) : Prop := ∀ (i : Nat) (p : Nat × va_E), ws[i]? = some p → p.1 = b0 + i
theorem con.D {b0 : Nat} {ws : va_W} (h : con b0 ws) : va_D (fun q => b0 ≤ q) ws := by
  refine ⟨fun i j p q hi hj e => ?_, fun k q hk => ?_⟩
  · have h1 := h i p hi
    have h2 := h j q hj
    omega
  · have := h k q hk
    show b0 ≤ q.1
    omega
theorem con.snoc {b0 : Nat} {ws : va_W} {e : va_E} (h : con b0 ws) : con b0 (ws ++ [(b0 + ws.length, e)]) := by
  intro i p hp
  by_cases hl : i < ws.length
  · rw [List.getElem?_append_left hl] at hp
    exact h i p hp
  · have h2 := (List.getElem?_eq_some_iff.mp hp).1
    simp at h2
    obtain rfl : i = ws.length := by omega
    rw [List.getElem?_append_right (Nat.le_refl _), Nat.sub_self] at hp
    simp at hp
    rw [← hp]
theorem con.set {b0 : Nat} {ws : va_W} {q : Nat} {e : va_E} (h : con b0 ws) : con b0 (ws.set q (b0 + q, e)) := by
  intro i p hp
  by_cases hq : q = i
  · subst hq
    have h2 := (List.getElem?_eq_some_iff.mp hp).1
    rw [List.length_set] at h2
    rw [List.getElem?_set_self h2] at hp
    cases hp
    rfl
  · rw [List.getElem?_set_ne hq] at hp
    exact h i p hp
/-- as V, over a growing list of cells; values as they are -/
def BV (X : Cxt) (b0 k n pc : Nat) (ls : List (Option Value)) (st : List Value) (ws : va_W) : Prop := match X with
  | (p, l, e, R, s, m, args, below, meth, c, D, cA, A, Dp, Q, σ, nL) => ∀ (H : Heap) (locs : List Loc) (d0 : Drawn) (lr : Array Slot), Dp d0 → H.size = b0 + ws.length → va_P D vwCl ws H → va_S A s.heap H locs → lok (fun q => q) nL ls lr → W p l e R (s.setDrawn d0) m args below meth c H locs k n Q (F0 m pc lr st)
/-- the empty array that lists begin with, at z; arrays over Object can be made -/
def EZ (z : Nat) (A : Nat → Prop) (U : State) (H : Heap) : Prop := va_Z "java/util/ArrayList" "DEFAULTCAPACITY_EMPTY_ELEMENTDATA" "[Ljava/lang/Object;" (.ref z) A U H ∧ va_T (.object "java/lang/Object") z 0 (fun _ => .null) A U H ∧ va_AO "java/lang/Object" U
theorem EZ.pass {z : Nat} {A : Nat → Prop} {s U : State} {H H1 : Heap} {locs : List Loc} (h : EZ z A s H) (hS : va_S A H H1 locs) (hW : s.WarmedH U.vm) : EZ z A U H1 := ⟨va_Z.moved hW.alike (h.1.kept hS.2.1), va_T.moved hW.alike (h.2.1.kept hS.2.1), va_AO.moved hW.alike h.2.2⟩
theorem EZ.same {z : Nat} {A : Nat → Prop} {u U : State} {H : Heap} (h : EZ z A u H) (hv : u.vm = U.vm) : EZ z A U H := ⟨va_Z.moved (hv ▸ Vm.Alike.refl u.vm) h.1, va_T.moved (hv ▸ Vm.Alike.refl u.vm) h.2.1, va_AO.moved (hv ▸ Vm.Alike.refl u.vm) h.2.2⟩
def BG (X : Cxt) (own : String) (cc : ByteArray) (d kc ks b0 z : Nat) (cA0 : Nat → ClassId) : Prop := match X with
  | (p, _, _, R, s, m, args, _, meth, c, D, cA, A, _, _, _, nL) => p.tables.exec = Jvm.exec ∧ c.code = cc ∧ c.maxLocals = nL ∧ s.vm.findClass own = some m.cls ∧ (∀ w ∈ tw, w.before args s = true) ∧ va_K D vwCl (atys cA) s ∧ A = (fun q => b0 ≤ q) ∧ b0 ≤ s.heap.size ∧ (GE A s s.heap ∧ EZ z A s s.heap ∧ cA = cA0) ∧ meth.locks = false ∧ d ≤ R.frames ∧ 64 * d ≤ R.locals ∧ kc ≤ R.cells ∧ ks ≤ R.slots
variable {X : Cxt} {own : String} {cc : ByteArray} {d kc ks k n pc b0 z0 : Nat} {cA0 : Nat → ClassId} {ls : List (Option Value)} {st : List Value} {ws : va_W}
/-- a new array of ints, longs or booleans, as the tables number its class -/
theorem BV_newa (G : BG X own cc d kc ks b0 z0 cA0) {at9 : ArrayType} {t N : Nat} {a0 : vp_A} {z : Int} {ty : FieldType} (ht : ∀ cA : Nat → ClassId, (atys cA)[t]? = some (cA t, ty)) (hty : newarray.typeOf at9 = ty) (hno : ∀ C, ty ≠ .object C) (hw : Cond.arrayClass ty ∈ tw) (ha : ∀ cA : ClassId, vp_cell cA a0 = arrV cA N (fun _ => defaultValue ty)) (hz : z = (N : Int)) (hN : N ≤ 5000) (hk : k + 1 ≤ kc) (hn : n + N ≤ ks) (hd : decode cc pc = .ok (.newarray at9, 2))
    (kk : BV X b0 (k + 1) (n + N) (pc + 2) ls (.ref (b0 + ws.length) :: st) (ws ++ [(b0 + ws.length, .inl (cA0 t, a0))])) : BV X b0 k n pc ls (.int (Int32.ofInt z) :: st) ws := by
  obtain ⟨p, l, e, R, s, m, args, below, meth, c, D, cA, A, Dp, Q, σ, nL⟩ := X
  obtain ⟨hx, hb, hml, hown, hts, hK, rfl, hb0, ⟨hGE, hEZ, rfl⟩, hlk, hfr, hlo, hkc, hks⟩ := G
  intro H locs d0 lr g1 g0 g2 g3 g4
  subst hty
  have e2 : (Int32.ofInt z).toNatClampNeg = N := by
    rw [hz, Int32.toNatClampNeg_ofInt_of_le (by omega) (by omega)]
    omega
  have ng : ¬ Int32.ofInt z < 0 := fun q => by
    rw [Int32.lt_iff_toInt_lt, Int32.toInt_ofInt_of_le (by omega) (by omega)] at q
    simp at q
    omega
  have hby : N * componentBytes (newarray.typeOf at9) ≤ 536870912 := by
    have : componentBytes (newarray.typeOf at9) ≤ 8 := by cases at9 <;> decide
    have := Nat.mul_le_mul hN this
    omega
  refine va_newaK (s := s.setDrawn d0) (h := b0 + ws.length) hx hb (dr_words hts d0 _ hw) rfl hd rfl ng e2 hby (by omega) (by omega) g0 fun H1 c9 e1 z1 o1 hAr hNm => ?_
  have hc9 : c9 = cA t := by
    have h3 := (hK.2 t _ (ht cA)).2
    have h4 : s.vm.findClass ("[" ++ (newarray.typeOf at9).toString) = some (cA t) := by
      cases at9 <;> exact h3
    exact Option.some.inj (hNm.symm.trans h4)
  subst hc9
  have hkp : ∀ (j : Nat) (x : Nat × va_E), ws[j]? = some x → H1[x.1]? = H[x.1]? := fun j x hx => o1 x.1 (by have := vx_lt g2 hx; omega)
  refine kk H1 locs d0 lr g1 (by rw [z1]; simp; omega) ((g2.kept hkp).app (fun j x hx => ?_)) ⟨Nat.le_trans g3.1 (by omega), fun x h1 h2 => (o1 x (by have := g3.1; omega)).trans (g3.2.1 x h1 h2), g3.2.2⟩ g4
  have hz2 : j < 1 := (List.getElem?_eq_some_iff.mp hx).1
  rw [show j = 0 by omega] at hx
  cases hx
  show H1[b0 + ws.length]? = some (vp_cell _ _)
  rw [ha]
  exact e1
/-- a new object -/
theorem BV_new (G : BG X own cc d kc ks b0 z0 cA0) {C : String} {T : u_T} {N ci index : Nat} {ty : Nat → FieldType} {fs : List Value} (hc : vwCl[ci]? = some (C, T, N)) (hin : ∀ w ∈ u_ws C T N, w ∈ tw) (hty : ∀ j, j < N → parseFieldDescriptor (T j).2.2.1 = some (ty j)) (w1 : Cond.classLink own index C ∈ tw) (w2 : Cond.instantiable C N ∈ tw) (w3 : Cond.initialized C ∈ tw) (hfs : ∀ j, j < N → defaultValue (ty j) = vp_V fs j) (hk : k + 1 ≤ kc) (hn : n + N ≤ ks) (hd : decode cc pc = .ok (.new index, 3))
    (kk : BV X b0 (k + 1) (n + N) (pc + 3) ls (.ref (b0 + ws.length) :: st) (ws ++ [(b0 + ws.length, .inr (ci, fs))])) : BV X b0 k n pc ls st ws := by
  obtain ⟨p, l, e, R, s, m, args, below, meth, c, D, cA, A, Dp, Q, σ, nL⟩ := X
  obtain ⟨hx, hb, hml, hown, hts, hK, rfl, hb0, hGE, hlk, hfr, hlo, hkc, hks⟩ := G
  intro H locs d0 lr g1 g0 g2 g3 g4
  have hKn := hK.1 ci _ hc
  refine W.newcK (s := s.setDrawn d0) hx hb hown (dr_words hts d0 _ w1) (dr_words hts d0 _ w2) (dr_words hts d0 _ w3) rfl hd (by omega) (by omega) hKn.2.1 g0 fun H1 kC hkC e1 z1 o1 => ?_
  have hkp : ∀ (j : Nat) (x : Nat × va_E), ws[j]? = some x → H1[x.1]? = H[x.1]? := fun j x hx => o1 x.1 (by have := vx_lt g2 hx; omega)
  refine kk H1 locs d0 lr g1 (by rw [z1]; simp; omega) ((g2.kept hkp).app (fun j x hx => ?_)) ⟨Nat.le_trans g3.1 (by omega), fun x h1 h2 => (o1 x (by have := g3.1; omega)).trans (g3.2.1 x h1 h2), g3.2.2⟩ g4
  have hz2 : j < 1 := (List.getElem?_eq_some_iff.mp hx).1
  rw [show j = 0 by omega] at hx
  cases hx
  exact ⟨_, hc, (u_born ty hts hin hKn hkC e1 hty).to hfs⟩
end BLD
