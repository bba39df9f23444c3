section VX6
variable {X : Cxt} {own : String} {cc : ByteArray} {d kc ks k n pc : Nat} {ls : List (Option Value)} {st : List Value} {h : Hp}

/-- what holds where a method has thrown an exception of class E -/
def XCd (D : va_G) (cA : Nat → ClassId) (σ : Nat → Nat) (sz : Nat) (px : String → Hp → Prop) : String → State → State → Prop := fun E st t => (∃ h' : Hp, px E h' ∧ va_P D vwCl (wd σ cA h') t.heap) ∧ va_F (AA σ sz) st t
/-- a contract of a method that may throw -/
def CX (l : Launch) (d kc ks : Nat) (y : MethodName) (bytes : ByteArray) (maxL : Nat) (ret : Option FieldType) (av : List Value) (h : Hp) (post : Option Value → Hp → Prop) (px : String → Hp → Prop) : Prop :=
  ∀ (D : va_G) (cA : Nat → ClassId) (σ : Nat → Nat) (sz : Nat), vx_Met l y (Cond.code y bytes maxL ret :: tw) (rmm d kc ks) (PCd D cA σ sz av h) (QCd D cA σ sz post) (XCd D cA σ sz px) kc ks (AA σ sz)
/-- the end of a walk that may throw -/
def XT (X : Cxt) (kc ks : Nat) (px : String → Hp → Prop) : Prop := match X with
  | (p, l, e, R, s, m, args, below, meth, c, D, cA, A, Dp, Q, σ, nL) => l.stackTraces = false ∧ (∀ d0, Dp d0 → d0 = s.drawn) ∧ (∀ x ∈ c.exceptionTable.toList, False) ∧ ∃ (Qc : Array Value → State → Outcome → State → Prop) (XC : String → State → State → Prop), (∀ (t : State) (E : String) (h' : Hp), px E h' → va_P D vwCl (wd σ cA h') t.heap → va_F A s t → XC E s t) ∧ Q = vx_MQ below Qc XC args s kc ks A
set_option maxHeartbeats 1000000 in
theorem CX.ofV {l : Launch} {d kc ks : Nat} {y : MethodName} {cc : ByteArray} {maxL : Nat} {rt : Option FieldType} {av : List Value} {h : Hp} {post : Option Value → Hp → Prop} {px : String → Hp → Prop} {L : List (Option Value)} (own : String) (hlt : l.stackTraces = false) (hy : plainName y.cls = true) (ho : y.cls = own) (hn : (els av).length ≤ maxL) (hL : els av ++ List.replicate (maxL - (els av).length) none = L)
    (body : ∀ X : Cxt, X.2.1 = l → Gd X own cc d kc ks → XT X kc ks px → Ends X cc rt kc ks post → V X 0 0 0 L [] h) : CX l d kc ks y cc maxL rt av h post px := by
  intro D cA σ sz
  refine vx_ofW (cc := cc) (maxL := maxL) (ret := rt) hy rfl ?_
  intro p e s m args below meth c s₁ B hml htab hv
  obtain ⟨rfl, hsz, hP, hK, hadr, hGE⟩ := hv
  have hts0 := atoms_spec (ws := Cond.code y cc maxL rt :: tw) B.pre
  have hown : s.vm.findClass own = some m.cls := ho ▸ findClass_of_methodNamed B.named
  have hlocks := B.notSynchronized
  have hret := B.returns
  have hx := B.exec
  have hb := B.bytes
  subst hsz
  have a1 : adr σ (AA σ s.heap.size) := adr_AA hadr
  rw [lg_entry_eq]
  have hl := lok_entry (σ := σ) hL hn
  have key := body (p, l, e, (headSpec (Cond.code y cc maxL rt :: tw) (rmm d kc ks)).room, s, m, (av.map (vm σ)).toArray, below, meth, c, D, cA, AA σ s.heap.size, (fun d0 => d0 = s.drawn), vx_MQ below (QCd D cA σ s.heap.size post) (XCd D cA σ s.heap.size px) (av.map (vm σ)).toArray s kc ks (AA σ s.heap.size), σ, maxL) rfl
    ⟨hx, hb, hml, hown, fun w hw => hts0 w (List.mem_cons_of_mem _ hw), hK, a1, fun q hq => Or.inr hq, hGE, hlocks, Nat.le_refl _, Nat.le_refl _, Nat.le_refl _, Nat.le_refl _⟩ ⟨hlt, fun d0 h0 => h0, htab, _, _, fun t E h' h1 h2 h3 => ⟨⟨h', h1, h2⟩, h3⟩, rfl⟩ ?_
  · exact key s.heap [] s.drawn _ rfl hP va_S.rf hl
  · intro k n pc ls h1 r hk hn1 hr hp H locs d0 lr hd0 hP1 hS1 hl1
    subst hd0
    refine vx_ret (W.widen hk hn1 ?_)
    have post1 : ∀ t : State, t.heap = H → s.WarmedH t.vm → QCd D cA σ s.heap.size post (av.map (vm σ)).toArray s (.returned (r.map (vm σ))) t := fun t ht _ => ⟨⟨r, h1, rfl, hp, by rw [ht]; exact hP1⟩, hS1.F ht⟩
    rcases hr with ⟨x, ty, rfl, hdg, rfl, hnar⟩ | ⟨x, rfl, hdg, rfl⟩ | ⟨x, rfl, hdg, rfl⟩ | ⟨rfl, hdg, rfl⟩ | ⟨q, nm, rfl, hdg, rfl⟩
    · exact W.zret hx hb hret hnar post1 hS1.2.2 hdg hlocks
    · exact W.lret hx hb hret post1 hS1.2.2 hdg hlocks
    · exact W.dret hx hb hret post1 hS1.2.2 hdg hlocks
    · exact W.vret hx hb hret post1 hS1.2.2 hdg hlocks
    · exact W.aret hx hb hret (Or.inl ⟨_, rfl⟩) (Or.inr ⟨_, rfl⟩) post1 hS1.2.2 hdg hlocks
/-- the facts of a throw: class cls by link ik, its constructor by link ic -/
def thF (ik ic : Nat) (cls : String) : Prop := Bundle.fit cls = true ∧ (Cond.classLink RX6 ik cls ∈ tw ∧ Cond.initialized cls ∈ tw) ∧ (∀ w ∈ (vx_atS RX6 ic cls ["java/lang/RuntimeException", "java/lang/Exception"]).filter goodWord, w ∈ lw_tbl) ∧ (∀ w ∈ (vx_atS RX6 ic cls ["java/lang/RuntimeException", "java/lang/Exception"]).filter (fun w => !goodWord w), w ∈ [Cond.castable cls cls, Cond.declares (Bundle.initS "java/lang/RuntimeException"), Cond.declares (Bundle.initS "java/lang/Exception"), Cond.declares (Bundle.initS Bundle.tN)]) ∧ (∀ w ∈ Cond.classLink RX6 ik cls :: Cond.initialized cls :: vx_atS RX6 ic cls ["java/lang/RuntimeException", "java/lang/Exception"], vx_ot w = true) ∧ (cls, cls) ∈ csl
theorem decl_of {args : Array Value} {s : State} {x : MethodName} (h : va_Decl s x) : (Cond.declares x).before args s = true := by
  obtain ⟨r0, r, h1, h2, h3, h4⟩ := h
  simp [Cond.before, Cond.holds, Cond.value, h1, h2, h3, h4]
theorem inS_RE : Cond.instanceMethod (Bundle.initS "java/lang/RuntimeException") ∈ tw ∧ ∃ b, Cond.code (Bundle.initS "java/lang/RuntimeException") b 2 none ∈ tw := ⟨tw_in (List.mem_of_getElem? (i := 389) (by decide +kernel)) (by decide +kernel), Bundle.six, tw_in (List.mem_of_getElem? (i := 390) (by decide +kernel)) (by decide +kernel)⟩
theorem inS_E : Cond.instanceMethod (Bundle.initS "java/lang/Exception") ∈ tw ∧ ∃ b, Cond.code (Bundle.initS "java/lang/Exception") b 2 none ∈ tw := ⟨tw_in (List.mem_of_getElem? (i := 392) (by decide +kernel)) (by decide +kernel), Bundle.six, tw_in (List.mem_of_getElem? (i := 393) (by decide +kernel)) (by decide +kernel)⟩
theorem inS_T : Cond.instanceMethod (Bundle.initS Bundle.tN) ∈ tw ∧ ∃ b, Cond.code (Bundle.initS Bundle.tN) b 2 none ∈ tw := ⟨tw_in (List.mem_of_getElem? (i := 395) (by decide +kernel)) (by decide +kernel), LibCode.Throwable.InitS.code, tw_in (List.mem_of_getElem? (i := 396) (by decide +kernel)) (by decide +kernel)⟩
theorem decl_tw {args : Array Value} {s : State} {x : MethodName} (hts : ∀ w ∈ tw, w.before args s = true) (h : Cond.instanceMethod x ∈ tw ∧ ∃ b, Cond.code x b 2 none ∈ tw) : (Cond.declares x).before args s = true := by
  obtain ⟨h1, b, h2⟩ := h
  exact decl_of (va_Decl.of (hts _ h1) (hts _ h2))
def IAE : String := "java/lang/IllegalArgumentException"
def ISE : String := "java/lang/IllegalStateException"
def IOB : String := "java/lang/IndexOutOfBoundsException"

set_option maxRecDepth 100000 in
set_option maxHeartbeats 4000000 in
theorem th_IAE : thF 144 148 IAE := ⟨by decide +kernel, ⟨tw_in (List.mem_of_getElem? (i := 623) (by decide +kernel)) (by decide +kernel), tw_in (List.mem_of_getElem? (i := 67) (by decide +kernel)) (by decide +kernel)⟩, by decide +kernel, by decide +kernel, by decide +kernel, by decide +kernel⟩
set_option maxRecDepth 100000 in
set_option maxHeartbeats 4000000 in
theorem th_ISE : thF 86 90 ISE := ⟨by decide +kernel, ⟨tw_in (List.mem_of_getElem? (i := 343) (by decide +kernel)) (by decide +kernel), tw_in (List.mem_of_getElem? (i := 69) (by decide +kernel)) (by decide +kernel)⟩, by decide +kernel, by decide +kernel, by decide +kernel, by decide +kernel⟩
set_option maxRecDepth 100000 in
set_option maxHeartbeats 4000000 in
theorem th_IOB : thF 209 213 IOB := ⟨by decide +kernel, ⟨tw_in (List.mem_of_getElem? (i := 688) (by decide +kernel)) (by decide +kernel), tw_in (List.mem_of_getElem? (i := 72) (by decide +kernel)) (by decide +kernel)⟩, by decide +kernel, by decide +kernel, by decide +kernel, by decide +kernel⟩
theorem V_throw (G : Gd X RX6 cc d kc ks) {px : String → Hp → Prop} (Y : XT X kc ks px) {ik ic is : Nat} {cls text : String} (F : thF ik ic cls) (d0 : decode cc pc = .ok (.new ik, 3)) (d3 : decode cc (pc + 3) = .ok (.dup, 1)) (d4 : decode cc (pc + 4) = .ok (.ldc is, 2)) (d6 : decode cc (pc + 6) = .ok (.invokespecial ic, 3)) (d9 : decode cc (pc + 9) = .ok (.athrow, 1)) (hs : (is, text) ∈ stx) (hpx : px cls h) (hk : k + 1 ≤ kc) (hn : n + 6 ≤ ks) (hd : 6 ≤ d) : V X k n pc ls [] h := by
  obtain ⟨p, l, e, R, s, m, args, below, meth, c, D, cA, A, Dp, Q, σ, nL⟩ := X
  obtain ⟨y1, y2, y3, Qc, XC, y4, rfl⟩ := Y
  obtain ⟨hx, hb, hml, hown, hts, hK, hadr, hA, hGE, hlk, hfr, hlo, hkc, hks⟩ := G
  obtain ⟨f1, ⟨f2, f3⟩, f4, f5, f6, f7⟩ := F
  intro H locs d9x lr g1 g2 g3 g4
  obtain rfl := y2 _ g1
  obtain ⟨sa, hsa⟩ := hGE.2.2.2.1 (is, text) hs
  have nmf : ∀ z ∈ ["java/lang/RuntimeException", "java/lang/Exception"], Bundle.fit z = true := by decide +kernel
  refine vx_throwS (names := ["java/lang/RuntimeException", "java/lang/Exception"]) (A := A) (sa := sa) hx hb y1 hown f1 nmf (hts _ f2) (hts _ f3) hsa
    (vx_hat (fun w hw => hts w (tw_in (f4 w hw) (List.mem_filter.mp hw).2)) f5 (vx_c (va_Nw.use rfl (hGE.2.1 (cls, cls) f7)) (vx_c (decl_tw hts inS_RE) (vx_c (decl_tw hts inS_E) (vx_c (decl_tw hts inS_T) vx_n))))) f6 hGE.2.2.2.2.1.1 hGE.2.2.2.2.1.2 g3 (g4.2.1.trans hml.symm) d0 d3 d4 d6 d9
    (fun x hx9 => (y3 x hx9).elim) (by show 2 + 3 < R.frames; omega) (by show 0 + (13 * (2 + 1) + 43) ≤ R.locals; omega) (by omega) (by omega) hlk
    (fun t al hsz hkp => y4 t cls h hpx (va_P.kept g2 (fun k q hk => hkp q.1 (vx_lt g2 hk))) ⟨Nat.le_trans g3.1 hsz, fun q q1 q2 => (hkp q (Nat.lt_of_lt_of_le q1 g3.1)).trans (g3.2.1 q q1 q2)⟩)
    g3.2.2 (by omega) (by omega)
theorem V_throww (G : Gd X RX6 cc d kc ks) {px : String → Hp → Prop} (Y : XT X kc ks px) {ik ic is : Nat} {cls text : String} (F : thF ik ic cls) (d0 : decode cc pc = .ok (.new ik, 3)) (d3 : decode cc (pc + 3) = .ok (.dup, 1)) (d4 : decode cc (pc + 4) = .ok (.ldc_w is, 3)) (d6 : decode cc (pc + 7) = .ok (.invokespecial ic, 3)) (d9 : decode cc (pc + 10) = .ok (.athrow, 1)) (hs : (is, text) ∈ stx) (hpx : px cls h) (hk : k + 1 ≤ kc) (hn : n + 6 ≤ ks) (hd : 6 ≤ d) : V X k n pc ls [] h := by
  obtain ⟨p, l, e, R, s, m, args, below, meth, c, D, cA, A, Dp, Q, σ, nL⟩ := X
  obtain ⟨y1, y2, y3, Qc, XC, y4, rfl⟩ := Y
  obtain ⟨hx, hb, hml, hown, hts, hK, hadr, hA, hGE, hlk, hfr, hlo, hkc, hks⟩ := G
  obtain ⟨f1, ⟨f2, f3⟩, f4, f5, f6, f7⟩ := F
  intro H locs d9x lr g1 g2 g3 g4
  obtain rfl := y2 _ g1
  obtain ⟨sa, hsa⟩ := hGE.2.2.2.1 (is, text) hs
  have nmf : ∀ z ∈ ["java/lang/RuntimeException", "java/lang/Exception"], Bundle.fit z = true := by decide +kernel
  refine vx_throwSW (names := ["java/lang/RuntimeException", "java/lang/Exception"]) (A := A) (sa := sa) hx hb y1 hown f1 nmf (hts _ f2) (hts _ f3) hsa
    (vx_hat (fun w hw => hts w (tw_in (f4 w hw) (List.mem_filter.mp hw).2)) f5 (vx_c (va_Nw.use rfl (hGE.2.1 (cls, cls) f7)) (vx_c (decl_tw hts inS_RE) (vx_c (decl_tw hts inS_E) (vx_c (decl_tw hts inS_T) vx_n))))) f6 hGE.2.2.2.2.1.1 hGE.2.2.2.2.1.2 g3 (g4.2.1.trans hml.symm) d0 d3 d4 d6 d9
    (fun x hx9 => (y3 x hx9).elim) (by show 2 + 3 < R.frames; omega) (by show 0 + (13 * (2 + 1) + 43) ≤ R.locals; omega) (by omega) (by omega) hlk
    (fun t al hsz hkp => y4 t cls h hpx (va_P.kept g2 (fun k q hk => hkp q.1 (vx_lt g2 hk))) ⟨Nat.le_trans g3.1 hsz, fun q q1 q2 => (hkp q (Nat.lt_of_lt_of_le q1 g3.1)).trans (g3.2.1 q q1 q2)⟩)
    g3.2.2 (by omega) (by omega)

theorem vx_callG {p : Program} {l : Launch} {e : Env} {R : Room} {s : State} {m : MethodId} {args : Array Value} {below : List Frame} {meth : Method} {c : Code} {H : Heap} {locs : List Loc} {cells slots : Nat} {Q : State → Prop} {pc : Nat} {ls : Array Slot} {rest st0 : List Value} {a : Array Value} {A0 : Nat → Prop} {H0 : Heap} {mc ms : Nat} {free : Addr → Prop} {D : va_G} {cA : Nat → ClassId} {σ : Nat → Nat} {sz : Nat} {post : Option Value → Hp → Prop} {px : String → Hp → Prop}
    (hr : vx_Run p l e R s m args below meth c H locs cells slots mc ms (F0 m pc ls st0) rest (QCd D cA σ sz post a) (XCd D cA σ sz px) free) (hS : va_S A0 H0 H locs) (hA : ∀ q, q < H.size → AA σ sz q → A0 q) (hf : ∀ q, free q → A0 q)
    (kx : ∀ (E : String) (ce : Cell) (q9 : Addr) (h' : Hp) (H1 : Heap) (locs1 : List Loc), px E h' → va_P D vwCl (wd σ cA h') H1 → va_S A0 H0 H1 locs1 → H1[q9]? = some ce → ce.vm = .none → s.vm.findClass E = some ce.cls → vx_W p l e R s m args below meth c H1 locs1 (cells + mc) (slots + ms) Q (F0 m pc ls rest) q9)
    (kk : ∀ (r : Option Value) (h' : Hp) (H1 : Heap) (locs1 : List Loc), post r h' → va_P D vwCl (wd σ cA h') H1 → va_S A0 H0 H1 locs1 → W p l e R s m args below meth c H1 locs1 (cells + mc) (slots + ms) Q (F0 m (pc + 3) ls ((r.map (vm σ)).toList ++ rest))) : W p l e R s m args below meth c H locs cells slots Q (F0 m pc ls st0) := by
  intro T hT X
  rcases hr T hT X with ⟨v, st₀, t, T', L, h0, X', hL, e1, e2, ⟨⟨r, h', hv, hp, hb⟩, hF⟩, st⟩ | ⟨q9, st₀, t, T', L, E, ce, h0, X', hL, e1, e2, ⟨⟨h', hp, hb⟩, hF⟩, h3, h4, h5, st⟩
  · cases hv
    obtain ⟨t2, a1, b1⟩ := kk r h' T'.heap (locs ++ L) hp (by rw [e1]; exact hb) (vx_keep h0 e1 hS hA hf hL hF).2.2 T' rfl X'
    exact ⟨t2, st t2 a1, b1⟩
  · obtain ⟨t2, a1, b1⟩ := kx E ce q9 h' T'.heap (locs ++ L) hp (by rw [e1]; exact hb) (vx_keep h0 e1 hS hA hf hL hF).2.2 (by rw [e1]; exact h3) h4 h5 T' rfl X'
    exact ⟨t2, st.trans a1, b1⟩

theorem V_xV0 (G : Gd X own cc d kc ks) {px : String → Hp → Prop} (Y : XT X kc ks px) {idx ci q maxL d1 kc1 ks1 : Nat} {y : MethodName} {bytes : ByteArray} {ret : Option FieldType} {post : Option Value → Hp → Prop} {px1 : String → Hp → Prop}  (M : MV own idx ci y bytes maxL ret 0) (hd : decode cc pc = .ok (.invokevirtual idx, 3)) (hq : q < NN) (hs : SH q = .inl ci) (hC : CX X.2.1 d1 kc1 ks1 y bytes maxL ret [.ref q] h post px1) (hpx : ∀ E h1, px1 E h1 → px E h1) (hdd : d1 + 1 ≤ d) (hk : k + kc1 ≤ kc) (hn : n + ks1 ≤ ks) (hst : (st.map fun v => v.category).sum ≤ 8) (kk : ∀ (r : Option Value) (h1 : Hp), post r h1 → V X (k + kc1) (n + ks1) (pc + 3) ls (r.toList ++ st) h1) : V X k n pc ls (.ref q :: st) h := by
  obtain ⟨p, l, e, R, s, m, args, below, meth, c, D, cA, A, Dp, Q, σ, nL⟩ := X
  obtain ⟨y1, y2, y3, Qc, XC, y4, rfl⟩ := Y
  obtain ⟨hx, hb, hml, hown, hts, hK, hadr, hA, hGE, hlk, hfr, hlo, hkc, hks⟩ := G
  intro H locs d0 lr g1 g2 g3 g4
  obtain ⟨⟨T, N, hcl⟩, w1, w2, w3, w3g, w4, w5, w6, w7⟩ := M
  have hst2 : ((st.map (vm σ)).map fun v => v.category).sum ≤ 8 := by
    rw [List.map_map, show ((fun v : Value => v.category) ∘ vm σ) = fun v => v.category from funext fun v => vm_cat]; exact hst
  refine vx_callG (vx_runV (As := []) (rest := st.map (vm σ)) (nL := nL) ⟨hx, hb, hml, hown, dr_words hts d0⟩ (hC D cA σ H.size) ⟨callB_of 0 (dr_words hts d0) (gi_tw w5) rfl rfl rfl (dr_words hts d0 _ w4) (dr_words hts d0 _ w1) w6 ⟨by show d1 + 1 ≤ R.frames; omega, by show 8 + (maxL + 11) + 64 * d1 ≤ R.locals; omega⟩, dr_words hts d0 _ w2, dr_words hts d0 _ (tw_in w3 w3g)⟩ ⟨blind_PCd, va_recv hK g2 hcl (by rw [wd_get hq, ce_obj hs]), fun U hU hW => ⟨rfl, by rw [hU], by rw [hU]; exact g2, va_K.moved hW.alike hK, adr_of hadr _ (fun _ _ => trivial), by rw [hU]; exact GE.pass hGE g3 (show s.WarmedH U.vm from hW) (fun q hq1 hq2 => by
    rcases hq2 with ⟨i, hi, rfl⟩ | hq2
    · exact hadr.2 i hi
    · omega)⟩⟩ rfl rfl g4.2.1 rfl (lv_room hst2) hd ⟨by omega, by omega⟩) g3 (fun q hq1 hq2 => by
      rcases hq2 with ⟨i, hi, rfl⟩ | hq2
      · exact hadr.2 i hi
      · omega) (fun q hq2 => by
      rcases hq2 with ⟨i, hi, rfl⟩ | hq2
      · exact hadr.2 i hi
      · exact hA q (Nat.le_trans g3.1 hq2)) ?_ (fun r h1 H1 locs1 hp hP1 hS1 => ?_)
  · intro E ce q9 h1 H1 locs1 hp hP1 hS1 hc hv hcl
    obtain rfl := y2 _ g1
    exact vx_out (fun x hx9 => (y3 x hx9).elim) hlk hc hv hcl (fun t ht al => y4 t E h1 (hpx E h1 hp) (by rw [ht]; exact hP1) (hS1.F ht)) hS1.2.2 (by omega) (by omega)
  have := kk r h1 hp H1 locs1 d0 lr g1 hP1 hS1 g4
  rw [List.map_append] at this
  cases r <;> exact this
theorem V_xV1 (G : Gd X own cc d kc ks) {px : String → Hp → Prop} (Y : XT X kc ks px) {idx ci q maxL d1 kc1 ks1 : Nat} {y : MethodName} {bytes : ByteArray} {ret : Option FieldType} {post : Option Value → Hp → Prop} {px1 : String → Hp → Prop} {v0 : Value} (M : MV own idx ci y bytes maxL ret 1) (hd : decode cc pc = .ok (.invokevirtual idx, 3)) (hq : q < NN) (hs : SH q = .inl ci) (hC : CX X.2.1 d1 kc1 ks1 y bytes maxL ret [.ref q, v0] h post px1) (hpx : ∀ E h1, px1 E h1 → px E h1) (hdd : d1 + 1 ≤ d) (hk : k + kc1 ≤ kc) (hn : n + ks1 ≤ ks) (hst : (st.map fun v => v.category).sum ≤ 8) (kk : ∀ (r : Option Value) (h1 : Hp), post r h1 → V X (k + kc1) (n + ks1) (pc + 3) ls (r.toList ++ st) h1) : V X k n pc ls (v0 :: .ref q :: st) h := by
  obtain ⟨p, l, e, R, s, m, args, below, meth, c, D, cA, A, Dp, Q, σ, nL⟩ := X
  obtain ⟨y1, y2, y3, Qc, XC, y4, rfl⟩ := Y
  obtain ⟨hx, hb, hml, hown, hts, hK, hadr, hA, hGE, hlk, hfr, hlo, hkc, hks⟩ := G
  intro H locs d0 lr g1 g2 g3 g4
  obtain ⟨⟨T, N, hcl⟩, w1, w2, w3, w3g, w4, w5, w6, w7⟩ := M
  have hst2 : ((st.map (vm σ)).map fun v => v.category).sum ≤ 8 := by
    rw [List.map_map, show ((fun v : Value => v.category) ∘ vm σ) = fun v => v.category from funext fun v => vm_cat]; exact hst
  refine vx_callG (vx_runV (As := [vm σ v0]) (rest := st.map (vm σ)) (nL := nL) ⟨hx, hb, hml, hown, dr_words hts d0⟩ (hC D cA σ H.size) ⟨callB_of 1 (dr_words hts d0) (gi_tw w5) rfl rfl rfl (dr_words hts d0 _ w4) (dr_words hts d0 _ w1) w6 ⟨by show d1 + 1 ≤ R.frames; omega, by show 8 + (maxL + 11) + 64 * d1 ≤ R.locals; omega⟩, dr_words hts d0 _ w2, dr_words hts d0 _ (tw_in w3 w3g)⟩ ⟨blind_PCd, va_recv hK g2 hcl (by rw [wd_get hq, ce_obj hs]), fun U hU hW => ⟨rfl, by rw [hU], by rw [hU]; exact g2, va_K.moved hW.alike hK, adr_of hadr _ (fun _ _ => trivial), by rw [hU]; exact GE.pass hGE g3 (show s.WarmedH U.vm from hW) (fun q hq1 hq2 => by
    rcases hq2 with ⟨i, hi, rfl⟩ | hq2
    · exact hadr.2 i hi
    · omega)⟩⟩ rfl rfl g4.2.1 rfl (lv_room hst2) hd ⟨by omega, by omega⟩) g3 (fun q hq1 hq2 => by
      rcases hq2 with ⟨i, hi, rfl⟩ | hq2
      · exact hadr.2 i hi
      · omega) (fun q hq2 => by
      rcases hq2 with ⟨i, hi, rfl⟩ | hq2
      · exact hadr.2 i hi
      · exact hA q (Nat.le_trans g3.1 hq2)) ?_ (fun r h1 H1 locs1 hp hP1 hS1 => ?_)
  · intro E ce q9 h1 H1 locs1 hp hP1 hS1 hc hv hcl
    obtain rfl := y2 _ g1
    exact vx_out (fun x hx9 => (y3 x hx9).elim) hlk hc hv hcl (fun t ht al => y4 t E h1 (hpx E h1 hp) (by rw [ht]; exact hP1) (hS1.F ht)) hS1.2.2 (by omega) (by omega)
  have := kk r h1 hp H1 locs1 d0 lr g1 hP1 hS1 g4
  rw [List.map_append] at this
  cases r <;> exact this
theorem V_xV2 (G : Gd X own cc d kc ks) {px : String → Hp → Prop} (Y : XT X kc ks px) {idx ci q maxL d1 kc1 ks1 : Nat} {y : MethodName} {bytes : ByteArray} {ret : Option FieldType} {post : Option Value → Hp → Prop} {px1 : String → Hp → Prop} {v0 v1 : Value} (M : MV own idx ci y bytes maxL ret 2) (hd : decode cc pc = .ok (.invokevirtual idx, 3)) (hq : q < NN) (hs : SH q = .inl ci) (hC : CX X.2.1 d1 kc1 ks1 y bytes maxL ret [.ref q, v0, v1] h post px1) (hpx : ∀ E h1, px1 E h1 → px E h1) (hdd : d1 + 1 ≤ d) (hk : k + kc1 ≤ kc) (hn : n + ks1 ≤ ks) (hst : (st.map fun v => v.category).sum ≤ 8) (kk : ∀ (r : Option Value) (h1 : Hp), post r h1 → V X (k + kc1) (n + ks1) (pc + 3) ls (r.toList ++ st) h1) : V X k n pc ls (v1 :: v0 :: .ref q :: st) h := by
  obtain ⟨p, l, e, R, s, m, args, below, meth, c, D, cA, A, Dp, Q, σ, nL⟩ := X
  obtain ⟨y1, y2, y3, Qc, XC, y4, rfl⟩ := Y
  obtain ⟨hx, hb, hml, hown, hts, hK, hadr, hA, hGE, hlk, hfr, hlo, hkc, hks⟩ := G
  intro H locs d0 lr g1 g2 g3 g4
  obtain ⟨⟨T, N, hcl⟩, w1, w2, w3, w3g, w4, w5, w6, w7⟩ := M
  have hst2 : ((st.map (vm σ)).map fun v => v.category).sum ≤ 8 := by
    rw [List.map_map, show ((fun v : Value => v.category) ∘ vm σ) = fun v => v.category from funext fun v => vm_cat]; exact hst
  refine vx_callG (vx_runV (As := [vm σ v0, vm σ v1]) (rest := st.map (vm σ)) (nL := nL) ⟨hx, hb, hml, hown, dr_words hts d0⟩ (hC D cA σ H.size) ⟨callB_of 2 (dr_words hts d0) (gi_tw w5) rfl rfl rfl (dr_words hts d0 _ w4) (dr_words hts d0 _ w1) w6 ⟨by show d1 + 1 ≤ R.frames; omega, by show 8 + (maxL + 11) + 64 * d1 ≤ R.locals; omega⟩, dr_words hts d0 _ w2, dr_words hts d0 _ (tw_in w3 w3g)⟩ ⟨blind_PCd, va_recv hK g2 hcl (by rw [wd_get hq, ce_obj hs]), fun U hU hW => ⟨rfl, by rw [hU], by rw [hU]; exact g2, va_K.moved hW.alike hK, adr_of hadr _ (fun _ _ => trivial), by rw [hU]; exact GE.pass hGE g3 (show s.WarmedH U.vm from hW) (fun q hq1 hq2 => by
    rcases hq2 with ⟨i, hi, rfl⟩ | hq2
    · exact hadr.2 i hi
    · omega)⟩⟩ rfl rfl g4.2.1 rfl (lv_room hst2) hd ⟨by omega, by omega⟩) g3 (fun q hq1 hq2 => by
      rcases hq2 with ⟨i, hi, rfl⟩ | hq2
      · exact hadr.2 i hi
      · omega) (fun q hq2 => by
      rcases hq2 with ⟨i, hi, rfl⟩ | hq2
      · exact hadr.2 i hi
      · exact hA q (Nat.le_trans g3.1 hq2)) ?_ (fun r h1 H1 locs1 hp hP1 hS1 => ?_)
  · intro E ce q9 h1 H1 locs1 hp hP1 hS1 hc hv hcl
    obtain rfl := y2 _ g1
    exact vx_out (fun x hx9 => (y3 x hx9).elim) hlk hc hv hcl (fun t ht al => y4 t E h1 (hpx E h1 hp) (by rw [ht]; exact hP1) (hS1.F ht)) hS1.2.2 (by omega) (by omega)
  have := kk r h1 hp H1 locs1 d0 lr g1 hP1 hS1 g4
  rw [List.map_append] at this
  cases r <;> exact this
theorem V_xV3 (G : Gd X own cc d kc ks) {px : String → Hp → Prop} (Y : XT X kc ks px) {idx ci q maxL d1 kc1 ks1 : Nat} {y : MethodName} {bytes : ByteArray} {ret : Option FieldType} {post : Option Value → Hp → Prop} {px1 : String → Hp → Prop} {v0 v1 v2 : Value} (M : MV own idx ci y bytes maxL ret 3) (hd : decode cc pc = .ok (.invokevirtual idx, 3)) (hq : q < NN) (hs : SH q = .inl ci) (hC : CX X.2.1 d1 kc1 ks1 y bytes maxL ret [.ref q, v0, v1, v2] h post px1) (hpx : ∀ E h1, px1 E h1 → px E h1) (hdd : d1 + 1 ≤ d) (hk : k + kc1 ≤ kc) (hn : n + ks1 ≤ ks) (hst : (st.map fun v => v.category).sum ≤ 8) (kk : ∀ (r : Option Value) (h1 : Hp), post r h1 → V X (k + kc1) (n + ks1) (pc + 3) ls (r.toList ++ st) h1) : V X k n pc ls (v2 :: v1 :: v0 :: .ref q :: st) h := by
  obtain ⟨p, l, e, R, s, m, args, below, meth, c, D, cA, A, Dp, Q, σ, nL⟩ := X
  obtain ⟨y1, y2, y3, Qc, XC, y4, rfl⟩ := Y
  obtain ⟨hx, hb, hml, hown, hts, hK, hadr, hA, hGE, hlk, hfr, hlo, hkc, hks⟩ := G
  intro H locs d0 lr g1 g2 g3 g4
  obtain ⟨⟨T, N, hcl⟩, w1, w2, w3, w3g, w4, w5, w6, w7⟩ := M
  have hst2 : ((st.map (vm σ)).map fun v => v.category).sum ≤ 8 := by
    rw [List.map_map, show ((fun v : Value => v.category) ∘ vm σ) = fun v => v.category from funext fun v => vm_cat]; exact hst
  refine vx_callG (vx_runV (As := [vm σ v0, vm σ v1, vm σ v2]) (rest := st.map (vm σ)) (nL := nL) ⟨hx, hb, hml, hown, dr_words hts d0⟩ (hC D cA σ H.size) ⟨callB_of 3 (dr_words hts d0) (gi_tw w5) rfl rfl rfl (dr_words hts d0 _ w4) (dr_words hts d0 _ w1) w6 ⟨by show d1 + 1 ≤ R.frames; omega, by show 8 + (maxL + 11) + 64 * d1 ≤ R.locals; omega⟩, dr_words hts d0 _ w2, dr_words hts d0 _ (tw_in w3 w3g)⟩ ⟨blind_PCd, va_recv hK g2 hcl (by rw [wd_get hq, ce_obj hs]), fun U hU hW => ⟨rfl, by rw [hU], by rw [hU]; exact g2, va_K.moved hW.alike hK, adr_of hadr _ (fun _ _ => trivial), by rw [hU]; exact GE.pass hGE g3 (show s.WarmedH U.vm from hW) (fun q hq1 hq2 => by
    rcases hq2 with ⟨i, hi, rfl⟩ | hq2
    · exact hadr.2 i hi
    · omega)⟩⟩ rfl rfl g4.2.1 rfl (lv_room hst2) hd ⟨by omega, by omega⟩) g3 (fun q hq1 hq2 => by
      rcases hq2 with ⟨i, hi, rfl⟩ | hq2
      · exact hadr.2 i hi
      · omega) (fun q hq2 => by
      rcases hq2 with ⟨i, hi, rfl⟩ | hq2
      · exact hadr.2 i hi
      · exact hA q (Nat.le_trans g3.1 hq2)) ?_ (fun r h1 H1 locs1 hp hP1 hS1 => ?_)
  · intro E ce q9 h1 H1 locs1 hp hP1 hS1 hc hv hcl
    obtain rfl := y2 _ g1
    exact vx_out (fun x hx9 => (y3 x hx9).elim) hlk hc hv hcl (fun t ht al => y4 t E h1 (hpx E h1 hp) (by rw [ht]; exact hP1) (hS1.F ht)) hS1.2.2 (by omega) (by omega)
  have := kk r h1 hp H1 locs1 d0 lr g1 hP1 hS1 g4
  rw [List.map_append] at this
  cases r <;> exact this
theorem V_xV0i (G : Gd X own cc d kc ks) {px : String → Hp → Prop} (Y : XT X kc ks px) {idx ci q maxL d1 kc1 ks1 : Nat} {y : MethodName} {bytes : ByteArray} {ret : Option FieldType} {P : Int → Hp → Prop} {px1 : String → Hp → Prop}  (M : MV own idx ci y bytes maxL ret 0) (hd : decode cc pc = .ok (.invokevirtual idx, 3)) (hq : q < NN) (hs : SH q = .inl ci) (hC : CX X.2.1 d1 kc1 ks1 y bytes maxL ret [.ref q] h (pI P) px1) (hpx : ∀ E h1, px1 E h1 → px E h1) (hdd : d1 + 1 ≤ d) (hk : k + kc1 ≤ kc) (hn : n + ks1 ≤ ks) (hst : (st.map fun v => v.category).sum ≤ 8) (kk : ∀ (x : Int) (h1 : Hp), P x h1 → V X (k + kc1) (n + ks1) (pc + 3) ls (.int (Int32.ofInt x) :: st) h1) : V X k n pc ls (.ref q :: st) h := V_xV0 G Y M hd hq hs hC hpx hdd hk hn hst (fun r h1 hp => by obtain ⟨x, rfl, hp⟩ := hp; exact kk x h1 hp)
theorem V_xV0v (G : Gd X own cc d kc ks) {px : String → Hp → Prop} (Y : XT X kc ks px) {idx ci q maxL d1 kc1 ks1 : Nat} {y : MethodName} {bytes : ByteArray} {ret : Option FieldType} {P : Hp → Prop} {px1 : String → Hp → Prop}  (M : MV own idx ci y bytes maxL ret 0) (hd : decode cc pc = .ok (.invokevirtual idx, 3)) (hq : q < NN) (hs : SH q = .inl ci) (hC : CX X.2.1 d1 kc1 ks1 y bytes maxL ret [.ref q] h (pV P) px1) (hpx : ∀ E h1, px1 E h1 → px E h1) (hdd : d1 + 1 ≤ d) (hk : k + kc1 ≤ kc) (hn : n + ks1 ≤ ks) (hst : (st.map fun v => v.category).sum ≤ 8) (kk : ∀ (h1 : Hp), P h1 → V X (k + kc1) (n + ks1) (pc + 3) ls st h1) : V X k n pc ls (.ref q :: st) h := V_xV0 G Y M hd hq hs hC hpx hdd hk hn hst (fun r h1 hp => by obtain ⟨rfl, hp⟩ := hp; exact kk h1 hp)
theorem V_xV1i (G : Gd X own cc d kc ks) {px : String → Hp → Prop} (Y : XT X kc ks px) {idx ci q maxL d1 kc1 ks1 : Nat} {y : MethodName} {bytes : ByteArray} {ret : Option FieldType} {P : Int → Hp → Prop} {px1 : String → Hp → Prop} {v0 : Value} (M : MV own idx ci y bytes maxL ret 1) (hd : decode cc pc = .ok (.invokevirtual idx, 3)) (hq : q < NN) (hs : SH q = .inl ci) (hC : CX X.2.1 d1 kc1 ks1 y bytes maxL ret [.ref q, v0] h (pI P) px1) (hpx : ∀ E h1, px1 E h1 → px E h1) (hdd : d1 + 1 ≤ d) (hk : k + kc1 ≤ kc) (hn : n + ks1 ≤ ks) (hst : (st.map fun v => v.category).sum ≤ 8) (kk : ∀ (x : Int) (h1 : Hp), P x h1 → V X (k + kc1) (n + ks1) (pc + 3) ls (.int (Int32.ofInt x) :: st) h1) : V X k n pc ls (v0 :: .ref q :: st) h := V_xV1 G Y M hd hq hs hC hpx hdd hk hn hst (fun r h1 hp => by obtain ⟨x, rfl, hp⟩ := hp; exact kk x h1 hp)
theorem V_xV1v (G : Gd X own cc d kc ks) {px : String → Hp → Prop} (Y : XT X kc ks px) {idx ci q maxL d1 kc1 ks1 : Nat} {y : MethodName} {bytes : ByteArray} {ret : Option FieldType} {P : Hp → Prop} {px1 : String → Hp → Prop} {v0 : Value} (M : MV own idx ci y bytes maxL ret 1) (hd : decode cc pc = .ok (.invokevirtual idx, 3)) (hq : q < NN) (hs : SH q = .inl ci) (hC : CX X.2.1 d1 kc1 ks1 y bytes maxL ret [.ref q, v0] h (pV P) px1) (hpx : ∀ E h1, px1 E h1 → px E h1) (hdd : d1 + 1 ≤ d) (hk : k + kc1 ≤ kc) (hn : n + ks1 ≤ ks) (hst : (st.map fun v => v.category).sum ≤ 8) (kk : ∀ (h1 : Hp), P h1 → V X (k + kc1) (n + ks1) (pc + 3) ls st h1) : V X k n pc ls (v0 :: .ref q :: st) h := V_xV1 G Y M hd hq hs hC hpx hdd hk hn hst (fun r h1 hp => by obtain ⟨rfl, hp⟩ := hp; exact kk h1 hp)
theorem V_xV2i (G : Gd X own cc d kc ks) {px : String → Hp → Prop} (Y : XT X kc ks px) {idx ci q maxL d1 kc1 ks1 : Nat} {y : MethodName} {bytes : ByteArray} {ret : Option FieldType} {P : Int → Hp → Prop} {px1 : String → Hp → Prop} {v0 v1 : Value} (M : MV own idx ci y bytes maxL ret 2) (hd : decode cc pc = .ok (.invokevirtual idx, 3)) (hq : q < NN) (hs : SH q = .inl ci) (hC : CX X.2.1 d1 kc1 ks1 y bytes maxL ret [.ref q, v0, v1] h (pI P) px1) (hpx : ∀ E h1, px1 E h1 → px E h1) (hdd : d1 + 1 ≤ d) (hk : k + kc1 ≤ kc) (hn : n + ks1 ≤ ks) (hst : (st.map fun v => v.category).sum ≤ 8) (kk : ∀ (x : Int) (h1 : Hp), P x h1 → V X (k + kc1) (n + ks1) (pc + 3) ls (.int (Int32.ofInt x) :: st) h1) : V X k n pc ls (v1 :: v0 :: .ref q :: st) h := V_xV2 G Y M hd hq hs hC hpx hdd hk hn hst (fun r h1 hp => by obtain ⟨x, rfl, hp⟩ := hp; exact kk x h1 hp)
theorem V_xV2v (G : Gd X own cc d kc ks) {px : String → Hp → Prop} (Y : XT X kc ks px) {idx ci q maxL d1 kc1 ks1 : Nat} {y : MethodName} {bytes : ByteArray} {ret : Option FieldType} {P : Hp → Prop} {px1 : String → Hp → Prop} {v0 v1 : Value} (M : MV own idx ci y bytes maxL ret 2) (hd : decode cc pc = .ok (.invokevirtual idx, 3)) (hq : q < NN) (hs : SH q = .inl ci) (hC : CX X.2.1 d1 kc1 ks1 y bytes maxL ret [.ref q, v0, v1] h (pV P) px1) (hpx : ∀ E h1, px1 E h1 → px E h1) (hdd : d1 + 1 ≤ d) (hk : k + kc1 ≤ kc) (hn : n + ks1 ≤ ks) (hst : (st.map fun v => v.category).sum ≤ 8) (kk : ∀ (h1 : Hp), P h1 → V X (k + kc1) (n + ks1) (pc + 3) ls st h1) : V X k n pc ls (v1 :: v0 :: .ref q :: st) h := V_xV2 G Y M hd hq hs hC hpx hdd hk hn hst (fun r h1 hp => by obtain ⟨rfl, hp⟩ := hp; exact kk h1 hp)
theorem V_xV3i (G : Gd X own cc d kc ks) {px : String → Hp → Prop} (Y : XT X kc ks px) {idx ci q maxL d1 kc1 ks1 : Nat} {y : MethodName} {bytes : ByteArray} {ret : Option FieldType} {P : Int → Hp → Prop} {px1 : String → Hp → Prop} {v0 v1 v2 : Value} (M : MV own idx ci y bytes maxL ret 3) (hd : decode cc pc = .ok (.invokevirtual idx, 3)) (hq : q < NN) (hs : SH q = .inl ci) (hC : CX X.2.1 d1 kc1 ks1 y bytes maxL ret [.ref q, v0, v1, v2] h (pI P) px1) (hpx : ∀ E h1, px1 E h1 → px E h1) (hdd : d1 + 1 ≤ d) (hk : k + kc1 ≤ kc) (hn : n + ks1 ≤ ks) (hst : (st.map fun v => v.category).sum ≤ 8) (kk : ∀ (x : Int) (h1 : Hp), P x h1 → V X (k + kc1) (n + ks1) (pc + 3) ls (.int (Int32.ofInt x) :: st) h1) : V X k n pc ls (v2 :: v1 :: v0 :: .ref q :: st) h := V_xV3 G Y M hd hq hs hC hpx hdd hk hn hst (fun r h1 hp => by obtain ⟨x, rfl, hp⟩ := hp; exact kk x h1 hp)
theorem V_xV3v (G : Gd X own cc d kc ks) {px : String → Hp → Prop} (Y : XT X kc ks px) {idx ci q maxL d1 kc1 ks1 : Nat} {y : MethodName} {bytes : ByteArray} {ret : Option FieldType} {P : Hp → Prop} {px1 : String → Hp → Prop} {v0 v1 v2 : Value} (M : MV own idx ci y bytes maxL ret 3) (hd : decode cc pc = .ok (.invokevirtual idx, 3)) (hq : q < NN) (hs : SH q = .inl ci) (hC : CX X.2.1 d1 kc1 ks1 y bytes maxL ret [.ref q, v0, v1, v2] h (pV P) px1) (hpx : ∀ E h1, px1 E h1 → px E h1) (hdd : d1 + 1 ≤ d) (hk : k + kc1 ≤ kc) (hn : n + ks1 ≤ ks) (hst : (st.map fun v => v.category).sum ≤ 8) (kk : ∀ (h1 : Hp), P h1 → V X (k + kc1) (n + ks1) (pc + 3) ls st h1) : V X k n pc ls (v2 :: v1 :: v0 :: .ref q :: st) h := V_xV3 G Y M hd hq hs hC hpx hdd hk hn hst (fun r h1 hp => by obtain ⟨rfl, hp⟩ := hp; exact kk h1 hp)
end VX6
