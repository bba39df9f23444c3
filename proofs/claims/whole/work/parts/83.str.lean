section VST0

/-- a method of String, by its own text: at a, its bytes at b -/
def PSd (D : va_G) (cA : Nat → ClassId) (σ : Nat → Nat) (sz : Nat) (h : Hp) (a b : Nat) (av : List Value) : Array Value → State → Prop := va_Pc av (fun U => U.heap.size = sz ∧ va_P D vwCl (wd σ cA h) U.heap ∧ va_K D vwCl (atys cA) U ∧ adr σ (fun _ => True) ∧ GE (AA σ sz) U U.heap ∧ vk_S 1 [7] ltB (fun _ => a) (fun _ => b) (AA σ sz) U U.heap)
def SX (l : Launch) (d : Nat) (y : MethodName) (bytes : ByteArray) (maxL : Nat) (ret : Option FieldType) (a b : Nat) (av : List Value) (r : Option Value) : Prop :=
  ∀ (D : va_G) (cA : Nat → ClassId) (σ : Nat → Nat) (sz : Nat) (h : Hp), Met l y (Cond.code y bytes maxL ret :: tw) (rmm d 0 0) (PSd D cA σ sz h a b av) (QCd D cA σ sz (fun r' h1 => r' = r ∧ h1 = h)) 0 0 (AA σ sz)
theorem blind_PSd {D : va_G} {cA : Nat → ClassId} {σ : Nat → Nat} {sz : Nat} {h : Hp} {a b : Nat} {av : List Value} : FrameBlind (PSd D cA σ sz h a b av) := by
  intro a' U g mk q
  obtain ⟨q0, q1, qP, qK, qa, qG, qS⟩ := q
  exact ⟨q0, q1, qP, va_K.moved (u := U) (U := U.calling g mk a') (Vm.Alike.refl U.vm) qK, qa, qG.same rfl, vk_S.moved (u := U) (U := U.calling g mk a') (Vm.Alike.refl U.vm) qS⟩
/-- raw values on the stack and in the locals; the world stays -/
def US (X : Cxt) (h : Hp) (pc : Nat) (lr : Array Slot) (st : List Value) : Prop := match X with
  | (p, l, e, R, s, m, args, below, meth, c, D, cA, A, Dp, Q, σ, nL) => ∀ (H : Heap) (locs : List Loc) (d0 : Drawn), Dp d0 → lr.size = nL → va_P D vwCl (wd σ cA h) H → va_S A s.heap H locs → W p l e R (s.setDrawn d0) m args below meth c H locs 0 0 Q (F0 m pc lr st)
def SGd (X : Cxt) (own : String) (cc : ByteArray) (d : Nat) (a b : Nat) : Prop := Gd X own cc d 0 0 ∧ match X with
  | (p, l, e, R, s, m, args, below, meth, c, D, cA, A, Dp, Q, σ, nL) => vk_S 1 [7] ltB (fun _ => a) (fun _ => b) A s s.heap
def SEnd (X : Cxt) (h : Hp) (cc : ByteArray) (rt : Option FieldType) (r : Option Value) : Prop := ∀ (pc : Nat) (lr : Array Slot), rets cc pc rt r → US X h pc lr r.toList
set_option maxHeartbeats 1000000 in
theorem SX.ofU {l : Launch} {d : Nat} {y : MethodName} {cc : ByteArray} {maxL : Nat} {rt : Option FieldType} {a b : Nat} {av : List Value} {r : Option Value} (own : String) (hy : plainName y.cls = true) (ho : y.cls = own) (hsz : ((lg_sl av ++ List.replicate (maxL - (lg_sl av).length) Slot.unset).toArray).size = maxL) (hr : ∀ σ : Nat → Nat, r.map (vm σ) = r)
    (body : ∀ (X : Cxt) (h : Hp), X.2.1 = l → SGd X own cc d a b → SEnd X h cc rt r → US X h 0 ((lg_sl av ++ List.replicate (maxL - (lg_sl av).length) Slot.unset).toArray) []) : SX l d y cc maxL rt a b av r := by
  intro D cA σ sz h
  refine Met.ofW (cc := cc) (maxL := maxL) (ret := rt) hy rfl ?_
  intro p e s m args below meth c s₁ B hml hv
  obtain ⟨rfl, hsz2, hP, hK, hadr, hGE, hS⟩ := hv
  have hts0 := atoms_spec (ws := Cond.code y cc maxL rt :: tw) B.pre
  have hown : s.vm.findClass own = some m.cls := ho ▸ findClass_of_methodNamed B.named
  have hlocks := B.notSynchronized
  have hret := B.returns
  have hx := B.exec
  have hb := B.bytes
  subst hsz2
  have a1 : adr σ (AA σ s.heap.size) := adr_AA hadr
  rw [lg_entry_eq]
  have key := body (p, l, e, (headSpec (Cond.code y cc maxL rt :: tw) (rmm d 0 0)).room, s, m, av.toArray, below, meth, c, D, cA, AA σ s.heap.size, (fun d0 => d0 = s.drawn), MQ below (QCd D cA σ s.heap.size (fun r' h1 => r' = r ∧ h1 = h)) av.toArray s 0 0 (AA σ s.heap.size), σ, maxL) h rfl
    ⟨⟨hx, hb, hml, hown, fun w hw => hts0 w (List.mem_cons_of_mem _ hw), hK, a1, fun q hq => Or.inr hq, hGE, hlocks, Nat.le_refl _, Nat.le_refl _, Nat.le_refl _, Nat.le_refl _⟩, hS⟩ ?_
  · exact key s.heap [] s.drawn rfl hsz hP va_S.rf
  · intro pc lr hrt H locs d0 hd0 _ hP1 hS1
    subst hd0
    have post1 : ∀ t : State, t.heap = H → s.WarmedH t.vm → QCd D cA σ s.heap.size (fun r' h1 => r' = r ∧ h1 = h) av.toArray s (.returned r) t := fun t ht _ => ⟨⟨r, h, by rw [hr], ⟨rfl, rfl⟩, by rw [ht]; exact hP1⟩, hS1.F ht⟩
    rcases hrt with ⟨x, ty, rfl, hdg, rfl, hnar⟩ | ⟨x, rfl, hdg, rfl⟩ | ⟨x, rfl, hdg, rfl⟩ | ⟨rfl, hdg, rfl⟩ | ⟨q, nm, rfl, hdg, rfl⟩
    · exact W.zret hx hb hret hnar post1 hS1.2.2 hdg hlocks
    · exact W.lret hx hb hret post1 hS1.2.2 hdg hlocks
    · exact W.dret hx hb hret post1 hS1.2.2 hdg hlocks
    · exact W.vret hx hb hret post1 hS1.2.2 hdg hlocks
    · exact W.aret hx hb hret (Or.inl ⟨_, rfl⟩) (Or.inr ⟨_, rfl⟩) post1 hS1.2.2 hdg hlocks
variable {X : Cxt} {own : String} {cc : ByteArray} {d kc ks k n pc : Nat} {st : List Value} {h : Hp} {a b : Nat} {lr : Array Slot}

theorem U_aload (G : SGd X own cc d a b) {i : Fin 4} {x : Nat} (hd : decode cc pc = .ok (.aload_n i, 1)) (hl : lr[(i : Nat)]? = some (.val (.ref x))) (kk : US X h (pc + 1) lr (.ref x :: st)) : US X h pc lr (st) := by
  obtain ⟨p, l, e, R, s, m, args, below, meth, c, D, cA, A, Dp, Q, σ, nL⟩ := X
  obtain ⟨⟨hx, hb, hml, hown, hts, hK, hadr, hA, hGE, hlk, hfr, hlo, hkc, hks⟩, hST⟩ := G
  intro H locs d0 g1 g2 g3 g4
  exact lv_aload_n hx hb hd rfl hl (kk H locs d0 g1 g2 g3 g4)
theorem U_iload (G : SGd X own cc d a b) {i : Fin 4} {x : Int32} (hd : decode cc pc = .ok (.iload_n i, 1)) (hl : lr[(i : Nat)]? = some (.val (.int x))) (kk : US X h (pc + 1) lr (.int x :: st)) : US X h pc lr (st) := by
  obtain ⟨p, l, e, R, s, m, args, below, meth, c, D, cA, A, Dp, Q, σ, nL⟩ := X
  obtain ⟨⟨hx, hb, hml, hown, hts, hK, hadr, hA, hGE, hlk, hfr, hlo, hkc, hks⟩, hST⟩ := G
  intro H locs d0 g1 g2 g3 g4
  exact lv_iload_n hx hb hd rfl hl (kk H locs d0 g1 g2 g3 g4)
theorem U_iconst (G : SGd X own cc d a b) {z : Int} {v : Int32} (hd : decode cc pc = .ok (.iconst z, 1)) (hv : Int32.ofInt z = v) (kk : US X h (pc + 1) lr (.int v :: st)) : US X h pc lr (st) := by
  obtain ⟨p, l, e, R, s, m, args, below, meth, c, D, cA, A, Dp, Q, σ, nL⟩ := X
  obtain ⟨⟨hx, hb, hml, hown, hts, hK, hadr, hA, hGE, hlk, hfr, hlo, hkc, hks⟩, hST⟩ := G
  intro H locs d0 g1 g2 g3 g4
  exact lv_iconst hx hb hd hv (kk H locs d0 g1 g2 g3 g4)
theorem U_sipush (G : SGd X own cc d a b) {z : Int} {v : Int32} (hd : decode cc pc = .ok (.sipush z, 3)) (hv : (Int16.ofInt z).toInt32 = v) (kk : US X h (pc + 3) lr (.int v :: st)) : US X h pc lr (st) := by
  obtain ⟨p, l, e, R, s, m, args, below, meth, c, D, cA, A, Dp, Q, σ, nL⟩ := X
  obtain ⟨⟨hx, hb, hml, hown, hts, hK, hadr, hA, hGE, hlk, hfr, hlo, hkc, hks⟩, hST⟩ := G
  intro H locs d0 g1 g2 g3 g4
  exact lv_sipush hx hb hd hv (kk H locs d0 g1 g2 g3 g4)
theorem U_ishr (G : SGd X own cc d a b) {x y v : Int32} (hd : decode cc pc = .ok (.ishr, 1)) (hv : x >>> (y &&& 31) = v) (kk : US X h (pc + 1) lr (.int v :: st)) : US X h pc lr (.int y :: .int x :: st) := by
  obtain ⟨p, l, e, R, s, m, args, below, meth, c, D, cA, A, Dp, Q, σ, nL⟩ := X
  obtain ⟨⟨hx, hb, hml, hown, hts, hK, hadr, hA, hGE, hlk, hfr, hlo, hkc, hks⟩, hST⟩ := G
  intro H locs d0 g1 g2 g3 g4
  exact by subst hv; exact lv_ishr hx hb hd (kk H locs d0 g1 g2 g3 g4)
theorem U_iand (G : SGd X own cc d a b) {x y v : Int32} (hd : decode cc pc = .ok (.iand, 1)) (hv : x &&& y = v) (kk : US X h (pc + 1) lr (.int v :: st)) : US X h pc lr (.int y :: .int x :: st) := by
  obtain ⟨p, l, e, R, s, m, args, below, meth, c, D, cA, A, Dp, Q, σ, nL⟩ := X
  obtain ⟨⟨hx, hb, hml, hown, hts, hK, hadr, hA, hGE, hlk, hfr, hlo, hkc, hks⟩, hST⟩ := G
  intro H locs d0 g1 g2 g3 g4
  exact by subst hv; exact lv_iand hx hb hd (kk H locs d0 g1 g2 g3 g4)
theorem U_i2c (G : SGd X own cc d a b) {x v : Int32} (hd : decode cc pc = .ok (.i2c, 1)) (hv : (x.toUInt32 % 65536).toInt32 = v) (kk : US X h (pc + 1) lr (.int v :: st)) : US X h pc lr (.int x :: st) := by
  obtain ⟨p, l, e, R, s, m, args, below, meth, c, D, cA, A, Dp, Q, σ, nL⟩ := X
  obtain ⟨⟨hx, hb, hml, hown, hts, hK, hadr, hA, hGE, hlk, hfr, hlo, hkc, hks⟩, hST⟩ := G
  intro H locs d0 g1 g2 g3 g4
  exact lv_i2c hx hb hd hv (kk H locs d0 g1 g2 g3 g4)
theorem U_pop (G : SGd X own cc d a b) {v : Value} (hd : decode cc pc = .ok (.pop, 1)) (hc : v.category = 1) (kk : US X h (pc + 1) lr (st)) : US X h pc lr (v :: st) := by
  obtain ⟨p, l, e, R, s, m, args, below, meth, c, D, cA, A, Dp, Q, σ, nL⟩ := X
  obtain ⟨⟨hx, hb, hml, hown, hts, hK, hadr, hA, hGE, hlk, hfr, hlo, hkc, hks⟩, hST⟩ := G
  intro H locs d0 g1 g2 g3 g4
  exact lv_pop hx hb hd hc (kk H locs d0 g1 g2 g3 g4)
theorem U_goto (G : SGd X own cc d a b) {off : Int} {tgt : Nat} (hd : decode cc pc = .ok (.goto off, 3)) (ht : (pc : Int) + off = (tgt : Int)) (kk : US X h tgt lr st) : US X h pc lr st := by
  obtain ⟨p, l, e, R, s, m, args, below, meth, c, D, cA, A, Dp, Q, σ, nL⟩ := X
  obtain ⟨⟨hx, hb, hml, hown, hts, hK, hadr, hA, hGE, hlk, hfr, hlo, hkc, hks⟩, hST⟩ := G
  intro H locs d0 g1 g2 g3 g4
  exact lv_goto hx hb hd ht (kk H locs d0 g1 g2 g3 g4)
theorem U_ifeqN (G : SGd X own cc d a b) {x : Int32} {off : Int} {tgt : Nat} (hd : decode cc pc = .ok (.ifCond .eq off, 3)) (ht : (pc : Int) + off = (tgt : Int)) (hx0 : ¬ x = 0) (kk : US X h (pc + 3) lr st) : US X h pc lr (.int x :: st) := by
  obtain ⟨p, l, e, R, s, m, args, below, meth, c, D, cA, A, Dp, Q, σ, nL⟩ := X
  obtain ⟨⟨hx, hb, hml, hown, hts, hK, hadr, hA, hGE, hlk, hfr, hlo, hkc, hks⟩, hST⟩ := G
  intro H locs d0 g1 g2 g3 g4
  exact lv_if_eq hx hb hd ht (fun q => by first | exact absurd q hx0 | exact absurd hx0 q) (fun _ => kk H locs d0 g1 g2 g3 g4)
theorem U_ifneN (G : SGd X own cc d a b) {x : Int32} {off : Int} {tgt : Nat} (hd : decode cc pc = .ok (.ifCond .ne off, 3)) (ht : (pc : Int) + off = (tgt : Int)) (hx0 : x = 0) (kk : US X h (pc + 3) lr st) : US X h pc lr (.int x :: st) := by
  obtain ⟨p, l, e, R, s, m, args, below, meth, c, D, cA, A, Dp, Q, σ, nL⟩ := X
  obtain ⟨⟨hx, hb, hml, hown, hts, hK, hadr, hA, hGE, hlk, hfr, hlo, hkc, hks⟩, hST⟩ := G
  intro H locs d0 g1 g2 g3 g4
  exact lv_if_ne hx hb hd ht (fun q => by first | exact absurd q hx0 | exact absurd hx0 q) (fun _ => kk H locs d0 g1 g2 g3 g4)
theorem U_ifltN (G : SGd X own cc d a b) {x : Int32} {off : Int} {tgt : Nat} (hd : decode cc pc = .ok (.ifCond .lt off, 3)) (ht : (pc : Int) + off = (tgt : Int)) (hx0 : ¬ x < 0) (kk : US X h (pc + 3) lr st) : US X h pc lr (.int x :: st) := by
  obtain ⟨p, l, e, R, s, m, args, below, meth, c, D, cA, A, Dp, Q, σ, nL⟩ := X
  obtain ⟨⟨hx, hb, hml, hown, hts, hK, hadr, hA, hGE, hlk, hfr, hlo, hkc, hks⟩, hST⟩ := G
  intro H locs d0 g1 g2 g3 g4
  exact lv_if_lt hx hb hd ht (fun q => by first | exact absurd q hx0 | exact absurd hx0 q) (fun _ => kk H locs d0 g1 g2 g3 g4)
theorem U_icmpltT (G : SGd X own cc d a b) {x y : Int32} {off : Int} {tgt : Nat} (hd : decode cc pc = .ok (.if_icmp .lt off, 3)) (ht : (pc : Int) + off = (tgt : Int)) (hx0 : x < y) (kk : US X h tgt lr st) : US X h pc lr (.int y :: .int x :: st) := by
  obtain ⟨p, l, e, R, s, m, args, below, meth, c, D, cA, A, Dp, Q, σ, nL⟩ := X
  obtain ⟨⟨hx, hb, hml, hown, hts, hK, hadr, hA, hGE, hlk, hfr, hlo, hkc, hks⟩, hST⟩ := G
  intro H locs d0 g1 g2 g3 g4
  exact lv_icmp_lt hx hb hd ht (fun _ => kk H locs d0 g1 g2 g3 g4) (fun q => absurd hx0 q)
theorem U_getV (G : SGd X own cc d a b) {index : Nat} (hw : Cond.fieldLink own index "java/lang/String" "value" "[B" ∈ tw) (hd : decode cc pc = .ok (.getfield index, 3)) (kk : US X h (pc + 3) lr (.ref b :: st)) : US X h pc lr (.ref a :: st) := by
  obtain ⟨p, l, e, R, s, m, args, below, meth, c, D, cA, A, Dp, Q, σ, nL⟩ := X
  obtain ⟨⟨hx, hb, hml, hown, hts, hK, hadr, hA, hGE, hlk, hfr, hlo, hkc, hks⟩, hST⟩ := G
  intro H locs d0 g1 g2 g3 g4
  exact vk_getf (s := s.setDrawn d0) (A := A) hx hb (hST.1 0 (by decide)).2.2.1 g4 hown (dr_words hts d0 _ hw) (fun x hh => hh) hd (kk H locs d0 g1 g2 g3 g4)
theorem U_getC (G : SGd X own cc d a b) {index : Nat} (hw : Cond.fieldLink own index "java/lang/String" "coder" "B" ∈ tw) (hd : decode cc pc = .ok (.getfield index, 3)) (kk : US X h (pc + 3) lr (.int 0 :: st)) : US X h pc lr (.ref a :: st) := by
  obtain ⟨p, l, e, R, s, m, args, below, meth, c, D, cA, A, Dp, Q, σ, nL⟩ := X
  obtain ⟨⟨hx, hb, hml, hown, hts, hK, hadr, hA, hGE, hlk, hfr, hlo, hkc, hks⟩, hST⟩ := G
  intro H locs d0 g1 g2 g3 g4
  exact vk_getf (s := s.setDrawn d0) (A := A) hx hb (hST.1 0 (by decide)).2.1 g4 hown (dr_words hts d0 _ hw) (fun x hh => hh) hd (kk H locs d0 g1 g2 g3 g4)
theorem U_getsC (G : SGd X own cc d a b) {index : Nat} (hw : Cond.fieldLink own index "java/lang/String" "COMPACT_STRINGS" "Z" ∈ tw) (hd : decode cc pc = .ok (.getstatic index, 3)) (kk : US X h (pc + 3) lr (.int 1 :: st)) : US X h pc lr st := by
  obtain ⟨p, l, e, R, s, m, args, below, meth, c, D, cA, A, Dp, Q, σ, nL⟩ := X
  obtain ⟨⟨hx, hb, hml, hown, hts, hK, hadr, hA, hGE, hlk, hfr, hlo, hkc, hks⟩, hST⟩ := G
  intro H locs d0 g1 g2 g3 g4
  exact va_gets (s := s.setDrawn d0) (A := A) hx hb hGE.2.2.2.2.2.2.1 g4 hown (dr_words hts d0 _ hw) (fun x hh => hh) hd (kk H locs d0 g1 g2 g3 g4)
theorem U_getsF (G : SGd X own cc d a b) {index : Nat} (hw : Cond.fieldLink own index "jdk/internal/util/Preconditions" "SIOOBE_FORMATTER" "Ljava/util/function/BiFunction;" ∈ tw) (hd : decode cc pc = .ok (.getstatic index, 3)) (kk : ∀ v : Value, (v = .null ∨ ∃ t, v = .ref t) → US X h (pc + 3) lr (v :: st)) : US X h pc lr st := by
  obtain ⟨p, l, e, R, s, m, args, below, meth, c, D, cA, A, Dp, Q, σ, nL⟩ := X
  obtain ⟨⟨hx, hb, hml, hown, hts, hK, hadr, hA, hGE, hlk, hfr, hlo, hkc, hks⟩, hST⟩ := G
  intro H locs d0 g1 g2 g3 g4
  rcases hGE.2.2.2.2.2.2.2 with z | ⟨t, z⟩
  · exact va_gets (s := s.setDrawn d0) (A := A) hx hb z g4 hown (dr_words hts d0 _ hw) (fun x hh => hh) hd (kk _ (Or.inl rfl) H locs d0 g1 g2 g3 g4)
  · exact va_gets (s := s.setDrawn d0) (A := A) hx hb z g4 hown (dr_words hts d0 _ hw) (fun x hh => hh) hd (kk _ (Or.inr ⟨t, rfl⟩) H locs d0 g1 g2 g3 g4)
theorem U_blen (G : SGd X own cc d a b) (hd : decode cc pc = .ok (.arraylength, 1)) (kk : US X h (pc + 1) lr (.int 7 :: st)) : US X h pc lr (.ref b :: st) := by
  obtain ⟨p, l, e, R, s, m, args, below, meth, c, D, cA, A, Dp, Q, σ, nL⟩ := X
  obtain ⟨⟨hx, hb, hml, hown, hts, hK, hadr, hA, hGE, hlk, hfr, hlo, hkc, hks⟩, hST⟩ := G
  intro H locs d0 g1 g2 g3 g4
  exact va_tlen (s := s.setDrawn d0) (A := A) hx hb (hST.1 0 (by decide)).2.2.2 g4 rfl hd (kk H locs d0 g1 g2 g3 g4)
theorem U_bald (G : SGd X own cc d a b) {i : Int32} {v : Value} (hin : vp_in i 7) (hv : Value.int ((ltB.getD 0 []).getD i.toNatClampNeg 0) = v) (hd : decode cc pc = .ok (.baload, 1)) (kk : US X h (pc + 1) lr (v :: st)) : US X h pc lr (.int i :: .ref b :: st) := by
  obtain ⟨p, l, e, R, s, m, args, below, meth, c, D, cA, A, Dp, Q, σ, nL⟩ := X
  obtain ⟨⟨hx, hb, hml, hown, hts, hK, hadr, hA, hGE, hlk, hfr, hlo, hkc, hks⟩, hST⟩ := G
  intro H locs d0 g1 g2 g3 g4
  exact va_tb (s := s.setDrawn d0) (A := A) hx hb (hST.1 0 (by decide)).2.2.2 g4 hin hv hd (kk H locs d0 g1 g2 g3 g4)

def MW (own : String) (idx : Nat) (y : MethodName) (bytes : ByteArray) (maxL : Nat) (ret : Option FieldType) (na : Nat) : Prop := y.cls = "java/lang/String" ∧ Cond.methodLink own idx y ∈ tw ∧ Cond.instanceMethod y ∈ tw ∧ Cond.selects y.cls y y ∈ lw_tbl ∧ goodWord (Cond.selects y.cls y y) = true ∧ Cond.initialized y.cls ∈ tw ∧ Cond.code y bytes maxL ret ∈ tw ∧ (y.cls ≠ "java/lang/invoke/MethodHandle" ∧ y.cls ≠ "java/lang/invoke/VarHandle" ∧ (parseMethodDescriptor y.desc).map (fun d => d.parameters.length) = some na) ∧ maxL ≤ 45

theorem mw_X6_307 : MW RX6 307 yJ0_length_8abf5 cJ0_length_8abf5 1 (Option.some Jvm.ClassFile.FieldType.int) 0 := ⟨rfl, tw_in (List.mem_of_getElem? (i := 430) (by decide +kernel)) (by decide +kernel), tw_in (List.mem_of_getElem? (i := 431) (by decide +kernel)) (by decide +kernel), (List.mem_of_getElem? (i := 432) (by decide +kernel)), by decide +kernel, tw_in (List.mem_of_getElem? (i := 137) (by decide +kernel)) (by decide +kernel), tw_in (List.mem_of_getElem? (i := 433) (by decide +kernel)) (by decide +kernel), by decide +kernel, by decide⟩
theorem mw_X6_312 : MW RX6 312 yJ0_charAt_5068e cJ0_charAt_5068e 2 (Option.some Jvm.ClassFile.FieldType.char) 1 := ⟨rfl, tw_in (List.mem_of_getElem? (i := 440) (by decide +kernel)) (by decide +kernel), tw_in (List.mem_of_getElem? (i := 441) (by decide +kernel)) (by decide +kernel), (List.mem_of_getElem? (i := 442) (by decide +kernel)), by decide +kernel, tw_in (List.mem_of_getElem? (i := 137) (by decide +kernel)) (by decide +kernel), tw_in (List.mem_of_getElem? (i := 443) (by decide +kernel)) (by decide +kernel), by decide +kernel, by decide⟩
theorem mw_J0_335 : MW RJ0 335 yJ0_coder_7d493 cJ0_coder_7d493 1 (Option.some Jvm.ClassFile.FieldType.byte) 0 := ⟨rfl, tw_in (List.mem_of_getElem? (i := 434) (by decide +kernel)) (by decide +kernel), tw_in (List.mem_of_getElem? (i := 435) (by decide +kernel)) (by decide +kernel), (List.mem_of_getElem? (i := 436) (by decide +kernel)), by decide +kernel, tw_in (List.mem_of_getElem? (i := 137) (by decide +kernel)) (by decide +kernel), tw_in (List.mem_of_getElem? (i := 437) (by decide +kernel)) (by decide +kernel), by decide +kernel, by decide⟩
theorem mw_J0_492 : MW RJ0 492 yJ0_isLatin1_aae02 cJ0_isLatin1_aae02 1 (Option.some Jvm.ClassFile.FieldType.boolean) 0 := ⟨rfl, tw_in (List.mem_of_getElem? (i := 444) (by decide +kernel)) (by decide +kernel), tw_in (List.mem_of_getElem? (i := 445) (by decide +kernel)) (by decide +kernel), (List.mem_of_getElem? (i := 446) (by decide +kernel)), by decide +kernel, tw_in (List.mem_of_getElem? (i := 137) (by decide +kernel)) (by decide +kernel), tw_in (List.mem_of_getElem? (i := 447) (by decide +kernel)) (by decide +kernel), by decide +kernel, by decide⟩
theorem sf_9 : Cond.fieldLink RJ0 9 "java/lang/String" "value" "[B" ∈ tw := tw_in (List.mem_of_getElem? (i := 1594) (by decide +kernel)) (by decide +kernel)
theorem sf_15 : Cond.fieldLink RJ0 15 "java/lang/String" "coder" "B" ∈ tw := tw_in (List.mem_of_getElem? (i := 1595) (by decide +kernel)) (by decide +kernel)
theorem sf_38 : Cond.fieldLink RJ0 38 "java/lang/String" "COMPACT_STRINGS" "Z" ∈ tw := tw_in (List.mem_of_getElem? (i := 438) (by decide +kernel)) (by decide +kernel)
theorem sf_1053 : Cond.fieldLink RJ0 1053 "jdk/internal/util/Preconditions" "SIOOBE_FORMATTER" "Ljava/util/function/BiFunction;" ∈ tw := tw_in (List.mem_of_getElem? (i := 454) (by decide +kernel)) (by decide +kernel)
theorem U_callS (G : SGd X own cc d a b) {idx maxL d1 na : Nat} {y : MethodName} {bytes : ByteArray} {ret : Option FieldType} {As : List Value} {r : Option Value} (M : MS own idx y bytes maxL ret na) (hna : As.length = na) (hd : decode cc pc = .ok (.invokestatic idx, 3)) (hC : SX X.2.1 d1 y bytes maxL ret a b As r) (hr : ∀ σ : Nat → Nat, r.map (vm σ) = r) (hdd : d1 + 1 ≤ d) (hst : (st.map fun v => v.category).sum ≤ 8) {st0 : List Value} (hst0 : st0 = As.reverse ++ st) (kk : US X h (pc + 3) lr (r.toList ++ st)) : US X h pc lr st0 := by
  obtain ⟨p, l, e, R, s, m, args, below, meth, c, D, cA, A, Dp, Q, σ, nL⟩ := X
  obtain ⟨⟨hx, hb, hml, hown, hts, hK, hadr, hA, hGE, hlk, hfr, hlo, hkc, hks⟩, hST⟩ := G
  intro H locs d0 g1 g2 g3 g4
  obtain ⟨w1, w2, w4, w5, w6, w7⟩ := M
  refine va_callG (va_runS (As := As) (rest := st) (nL := nL) ⟨hx, hb, hml, hown, dr_words hts d0⟩ (hC D cA σ H.size h) ⟨callB_of na (dr_words hts d0) (gi_tw w5) rfl rfl rfl (dr_words hts d0 _ w4) (dr_words hts d0 _ w1) w6 ⟨by show d1 + 1 ≤ R.frames; omega, by show 8 + (maxL + 11) + 64 * d1 ≤ R.locals; omega⟩, dr_words hts d0 _ w2⟩ ⟨blind_PSd, fun U hU hW => ⟨rfl, by rw [hU], by rw [hU]; exact g3, va_K.moved hW.alike hK, adr_of hadr _ (fun _ _ => trivial), by rw [hU]; exact GE.pass hGE g4 (show s.WarmedH U.vm from hW) (fun q hq1 hq2 => by
    rcases hq2 with ⟨i, hi, rfl⟩ | hq2
    · exact hadr.2 i hi
    · omega), by rw [hU]; exact vk_S_nar (vk_S.moved (show s.vm.Alike U.vm from (show s.WarmedH U.vm from hW).alike) (hST.kept g4.2.1)) (fun q hq1 hq2 => by
    rcases hq2 with ⟨i, hi, rfl⟩ | hq2
    · exact hadr.2 i hi
    · omega)⟩⟩ rfl hna g2 hst0 (lv_room hst) hd ⟨by omega, by omega⟩) g4 (fun q hq1 hq2 => by
      rcases hq2 with ⟨i, hi, rfl⟩ | hq2
      · exact hadr.2 i hi
      · omega) (fun q hq2 => by
      rcases hq2 with ⟨i, hi, rfl⟩ | hq2
      · exact hadr.2 i hi
      · exact hA q (Nat.le_trans g4.1 hq2)) (fun r1 h1 H1 locs1 hp hP1 hS1 => ?_)
  obtain ⟨rfl, rfl⟩ := hp
  rw [hr]
  exact kk H1 locs1 d0 g1 g2 hP1 hS1
theorem U_callV (G : SGd X own cc d a b) {idx maxL d1 na : Nat} {y : MethodName} {bytes : ByteArray} {ret : Option FieldType} {As : List Value} {r : Option Value} (M : MW own idx y bytes maxL ret na) (hna : As.length = na) (hd : decode cc pc = .ok (.invokevirtual idx, 3)) (hC : SX X.2.1 d1 y bytes maxL ret a b (.ref a :: As) r) (hr : ∀ σ : Nat → Nat, r.map (vm σ) = r) (hdd : d1 + 1 ≤ d) (hst : (st.map fun v => v.category).sum ≤ 8) {st0 : List Value} (hst0 : st0 = As.reverse ++ .ref a :: st) (kk : US X h (pc + 3) lr (r.toList ++ st)) : US X h pc lr st0 := by
  obtain ⟨p, l, e, R, s, m, args, below, meth, c, D, cA, A, Dp, Q, σ, nL⟩ := X
  obtain ⟨⟨hx, hb, hml, hown, hts, hK, hadr, hA, hGE, hlk, hfr, hlo, hkc, hks⟩, hST⟩ := G
  intro H locs d0 g1 g2 g3 g4
  obtain ⟨wc, w1, w2, w3, w3g, w4, w5, w6, w7⟩ := M
  refine va_callG (va_runV (C := y.cls) (b := a) (As := As) (rest := st) (nL := nL) ⟨hx, hb, hml, hown, dr_words hts d0⟩ (hC D cA σ H.size h) ⟨callB_of na (dr_words hts d0) (gi_tw w5) rfl rfl rfl (dr_words hts d0 _ w4) (dr_words hts d0 _ w1) w6 ⟨by show d1 + 1 ≤ R.frames; omega, by show 8 + (maxL + 11) + 64 * d1 ≤ R.locals; omega⟩, dr_words hts d0 _ w2, dr_words hts d0 _ (tw_in w3 w3g)⟩ ⟨blind_PSd, by rw [wc]; exact vk_recv (s := s.setDrawn d0) (i := 0) hST (by decide) g4, fun U hU hW => ⟨rfl, by rw [hU], by rw [hU]; exact g3, va_K.moved hW.alike hK, adr_of hadr _ (fun _ _ => trivial), by rw [hU]; exact GE.pass hGE g4 (show s.WarmedH U.vm from hW) (fun q hq1 hq2 => by
    rcases hq2 with ⟨i, hi, rfl⟩ | hq2
    · exact hadr.2 i hi
    · omega), by rw [hU]; exact vk_S_nar (vk_S.moved (show s.vm.Alike U.vm from (show s.WarmedH U.vm from hW).alike) (hST.kept g4.2.1)) (fun q hq1 hq2 => by
    rcases hq2 with ⟨i, hi, rfl⟩ | hq2
    · exact hadr.2 i hi
    · omega)⟩⟩ rfl hna g2 hst0 (lv_room hst) hd ⟨by omega, by omega⟩) g4 (fun q hq1 hq2 => by
      rcases hq2 with ⟨i, hi, rfl⟩ | hq2
      · exact hadr.2 i hi
      · omega) (fun q hq2 => by
      rcases hq2 with ⟨i, hi, rfl⟩ | hq2
      · exact hadr.2 i hi
      · exact hA q (Nat.le_trans g4.1 hq2)) (fun r1 h1 H1 locs1 hp hP1 hS1 => ?_)
  obtain ⟨rfl, rfl⟩ := hp
  rw [hr]
  exact kk H1 locs1 d0 g1 g2 hP1 hS1
theorem s_J3 {l : Launch} {d a b : Nat} {i n : Int32} {v : Value} (h0 : ¬ i < 0) (h1 : i < n) (hv : v = .null ∨ ∃ t, v = .ref t) (hdd : 1 ≤ d := by omega) : SX l d yJ3_checkIndex_8e157 cJ3_checkIndex_8e157 3 (Option.some Jvm.ClassFile.FieldType.int) a b [.int i, .int n, v] (some (.int i)) := by
  refine SX.ofU RJ3 (by decide +kernel) rfl (by rcases hv with rfl | ⟨t, rfl⟩ <;> rfl) (fun _ => rfl) (fun X h hX G E => ?_)
  subst hX
  have hl : lg_sl [.int i, .int n, v] = [.val (.int i), .val (.int n), .val v] := by rcases hv with rfl | ⟨t, rfl⟩ <;> rfl
  rw [hl]
  refine U_iload G (i := 0) dJ3_checkIndex_8e157_0 rfl ?_
  refine U_ifltN G dJ3_checkIndex_8e157_1 (tgt := 9) (by decide) h0 ?_
  refine U_iload G (i := 0) dJ3_checkIndex_8e157_4 rfl ?_
  refine U_iload G (i := 1) dJ3_checkIndex_8e157_5 rfl ?_
  refine U_icmpltT G dJ3_checkIndex_8e157_6 (tgt := 16) (by decide) h1 ?_
  refine U_iload G (i := 0) dJ3_checkIndex_8e157_16 rfl ?_
  exact E 17 _ (Or.inl ⟨_, _, rfl, dJ3_checkIndex_8e157_17, rfl, rfl⟩)
theorem s_ci {l : Launch} {d a b : Nat} {i : Int32} (h0 : ¬ i < 0) (h1 : i < 7) (hdd : 2 ≤ d := by omega) : SX l d yJ0_checkIndex_df160 cJ0_checkIndex_df160 2 (Option.none : Option Jvm.ClassFile.FieldType) a b [.int i, .int 7] (none) := by
  refine SX.ofU RJ0 (by decide +kernel) rfl rfl (fun _ => rfl) (fun X h hX G E => ?_)
  subst hX
  refine U_iload G (i := 0) dJ0_checkIndex_df160_0 rfl ?_
  refine U_iload G (i := 1) dJ0_checkIndex_df160_1 rfl ?_
  refine U_getsF G sf_1053 dJ0_checkIndex_df160_2 (fun v hv => ?_)
  refine U_callS G m_J0_1059 rfl dJ0_checkIndex_df160_5 (s_J3 (d := 1) h0 h1 hv) (fun _ => rfl) (by omega) (Nat.zero_le _) rfl ?_
  refine U_pop G dJ0_checkIndex_df160_8 rfl ?_
  exact E 9 _ (Or.inr (Or.inr (Or.inr (Or.inl ⟨rfl, dJ0_checkIndex_df160_9, rfl⟩))))
theorem s_J1 {l : Launch} {d a b : Nat} {i : Int32} (h0 : ¬ i < 0) (h1 : i < 7) (hin : vp_in i 7) {x y z : Int32} (hx : (ltB.getD 0 []).getD i.toNatClampNeg 0 = x) (hy : x &&& 255 = y) (hz : (y.toUInt32 % 65536).toInt32 = z) (hn : narrow .char (.int z) = .int z) (hdd : 3 ≤ d := by omega) : SX l d yJ1_charAt_3b067 cJ1_charAt_3b067 2 (Option.some Jvm.ClassFile.FieldType.char) a b [.ref b, .int i] (some (.int z)) := by
  refine SX.ofU RJ1 (by decide +kernel) rfl rfl (fun _ => rfl) (fun X h hX G E => ?_)
  subst hX
  refine U_iload G (i := 1) dJ1_charAt_3b067_0 rfl ?_
  refine U_aload G (i := 0) dJ1_charAt_3b067_1 rfl ?_
  refine U_blen G dJ1_charAt_3b067_2 ?_
  refine U_callS G m_J1_9 rfl dJ1_charAt_3b067_3 (s_ci (d := 2) h0 h1) (fun _ => rfl) (by omega) (Nat.zero_le _) rfl ?_
  refine U_aload G (i := 0) dJ1_charAt_3b067_6 rfl ?_
  refine U_iload G (i := 1) dJ1_charAt_3b067_7 rfl ?_
  refine U_bald G hin (congrArg Value.int hx) dJ1_charAt_3b067_8 ?_
  refine U_sipush G (v := 255) dJ1_charAt_3b067_9 rfl ?_
  refine U_iand G dJ1_charAt_3b067_12 hy ?_
  refine U_i2c G dJ1_charAt_3b067_13 hz ?_
  exact E 14 _ (Or.inl ⟨_, _, rfl, dJ1_charAt_3b067_14, rfl, hn⟩)
theorem s_co {l : Launch} {d a b : Nat}  (hdd : 1 ≤ d := by omega) : SX l d yJ0_coder_7d493 cJ0_coder_7d493 1 (Option.some Jvm.ClassFile.FieldType.byte) a b [.ref a] (some (.int 0)) := by
  refine SX.ofU RJ0 (by decide +kernel) rfl rfl (fun _ => rfl) (fun X h hX G E => ?_)
  subst hX
  refine U_getsC G sf_38 dJ0_coder_7d493_0 ?_
  refine U_ifeqN G dJ0_coder_7d493_3 (tgt := 13) (by decide) (by decide) ?_
  refine U_aload G (i := 0) dJ0_coder_7d493_6 rfl ?_
  refine U_getC G sf_15 dJ0_coder_7d493_7 ?_
  refine U_goto G dJ0_coder_7d493_10 (tgt := 14) (by decide) ?_
  exact E 14 _ (Or.inl ⟨_, _, rfl, dJ0_coder_7d493_14, rfl, rfl⟩)
theorem s_il {l : Launch} {d a b : Nat}  (hdd : 1 ≤ d := by omega) : SX l d yJ0_isLatin1_aae02 cJ0_isLatin1_aae02 1 (Option.some Jvm.ClassFile.FieldType.boolean) a b [.ref a] (some (.int 1)) := by
  refine SX.ofU RJ0 (by decide +kernel) rfl rfl (fun _ => rfl) (fun X h hX G E => ?_)
  subst hX
  refine U_getsC G sf_38 dJ0_isLatin1_aae02_0 ?_
  refine U_ifeqN G dJ0_isLatin1_aae02_3 (tgt := 17) (by decide) (by decide) ?_
  refine U_aload G (i := 0) dJ0_isLatin1_aae02_6 rfl ?_
  refine U_getC G sf_15 dJ0_isLatin1_aae02_7 ?_
  refine U_ifneN G dJ0_isLatin1_aae02_10 (tgt := 17) (by decide) rfl ?_
  refine U_iconst G (v := 1) dJ0_isLatin1_aae02_13 rfl ?_
  refine U_goto G dJ0_isLatin1_aae02_14 (tgt := 18) (by decide) ?_
  exact E 18 _ (Or.inl ⟨_, _, rfl, dJ0_isLatin1_aae02_18, rfl, rfl⟩)
theorem s_len {l : Launch} {d a b : Nat}  (hdd : 2 ≤ d := by omega) : SX l d yJ0_length_8abf5 cJ0_length_8abf5 1 (Option.some Jvm.ClassFile.FieldType.int) a b [.ref a] (some (.int 7)) := by
  refine SX.ofU RJ0 (by decide +kernel) rfl rfl (fun _ => rfl) (fun X h hX G E => ?_)
  subst hX
  refine U_aload G (i := 0) dJ0_length_8abf5_0 rfl ?_
  refine U_getV G sf_9 dJ0_length_8abf5_1 ?_
  refine U_blen G dJ0_length_8abf5_4 ?_
  refine U_aload G (i := 0) dJ0_length_8abf5_5 rfl ?_
  refine U_callV G mw_J0_335 (As := []) (st := [.int 7]) rfl dJ0_length_8abf5_6 (s_co (d := 1)) (fun _ => rfl) (by omega) (Nat.le_of_ble_eq_true rfl) rfl ?_
  refine U_ishr G (v := 7) dJ0_length_8abf5_9 rfl ?_
  exact E 10 _ (Or.inl ⟨_, _, rfl, dJ0_length_8abf5_10, rfl, rfl⟩)
theorem s_chr {l : Launch} {d a b : Nat} {i : Int32} (h0 : ¬ i < 0) (h1 : i < 7) (hin : vp_in i 7) {x y z : Int32} (hx : (ltB.getD 0 []).getD i.toNatClampNeg 0 = x) (hy : x &&& 255 = y) (hz : (y.toUInt32 % 65536).toInt32 = z) (hn : narrow .char (.int z) = .int z) (hdd : 4 ≤ d := by omega) : SX l d yJ0_charAt_5068e cJ0_charAt_5068e 2 (Option.some Jvm.ClassFile.FieldType.char) a b [.ref a, .int i] (some (.int z)) := by
  refine SX.ofU RJ0 (by decide +kernel) rfl rfl (fun _ => rfl) (fun X h hX G E => ?_)
  subst hX
  refine U_aload G (i := 0) dJ0_charAt_5068e_0 rfl ?_
  refine U_callV G mw_J0_492 (As := []) (st := []) rfl dJ0_charAt_5068e_1 (s_il (d := 1)) (fun _ => rfl) (by omega) (Nat.zero_le _) rfl ?_
  refine U_ifeqN G dJ0_charAt_5068e_4 (tgt := 16) (by decide) (by decide) ?_
  refine U_aload G (i := 0) dJ0_charAt_5068e_7 rfl ?_
  refine U_getV G sf_9 dJ0_charAt_5068e_8 ?_
  refine U_iload G (i := 1) dJ0_charAt_5068e_11 rfl ?_
  refine U_callS G m_J0_495 rfl dJ0_charAt_5068e_12 (s_J1 (d := 3) h0 h1 hin hx hy hz hn) (fun _ => rfl) (by omega) (Nat.zero_le _) rfl ?_
  exact E 15 _ (Or.inl ⟨_, _, rfl, dJ0_charAt_5068e_15, rfl, hn⟩)
end VST0
