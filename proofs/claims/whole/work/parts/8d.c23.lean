section C23
variable {X : Cxt} {own : String} {cc : ByteArray} {d kc ks k n pc : Nat} {ls : List (Option Value)} {st : List Value} {h : Hp}

theorem Met.ofWH {l : Launch} {y : MethodName} {ws ws' : List Cond} {rm : Room} {Pc : Array Value → State → Prop} {Qc : Array Value → State → Outcome → State → Prop} {mc ms : Nat} {free : Addr → Prop} {cc : ByteArray} {maxL : Nat} {ret : Option FieldType} {hh : List (Nat × Nat × Nat × Nat)}
    (hy : plainName y.cls = true) (hw : ws = Cond.codeWith y cc maxL ret hh :: ws')
    (body : ∀ p e s m args below meth c s₁, BodyLoose p l y (headSpec ws rm) cc maxL ret e s m args below meth c s₁ → c.maxLocals = maxL → Pc args s →
      W p l e (headSpec ws rm).room s m args below meth c s.heap [] 0 0 (MQ below Qc args s mc ms free) (entryFrame m args maxL)) : Met l y ws rm Pc Qc mc ms free := by
  refine MetFree.of_bodyS (code := cc) (maxLocals := maxL) (ret := ret) hy ?_ ?_
  · intro args s m h hn
    obtain ⟨m9, meth, c, hn9, h1, h2, h3, h4, -, h5, h6, -⟩ := Cond.codeWith_spec (atoms_spec (ws := ws) h _ (by rw [hw]; exact List.mem_cons_self))
    cases hn.symm.trans hn9
    exact ⟨meth, c, h1, h2, h3, h4, h5, h6⟩
  · intro p e s m args below meth c s₁ B hml hP _
    have hh0 : s₁.heap = s.heap := by rw [B.state]; rfl
    obtain ⟨t, a1, o, b1, b2, b3⟩ := body p e s m args below meth c s₁ B hml hP s₁ hh0 (Stand.of_body B)
    exact ⟨t, o, a1, b1, b2, b3⟩
def CH (l : Launch) (d kc ks : Nat) (y : MethodName) (bytes : ByteArray) (maxL : Nat) (ret : Option FieldType) (hh : List (Nat × Nat × Nat × Nat)) (av : List Value) (h : Hp) (post : Option Value → Hp → Prop) : Prop :=
  ∀ (D : va_G) (cA : Nat → ClassId) (σ : Nat → Nat) (sz : Nat), Met l y (Cond.codeWith y bytes maxL ret hh :: tw) (rmm d kc ks) (PCd D cA σ sz av h) (QCd D cA σ sz post) kc ks (AA σ sz)
/-- a body with a table -/
def HT (X : Cxt) (hh : List (Nat × Nat × Nat × Nat)) : Prop := match X with
  | (p, l, e, R, s, m, args, below, meth, c, D, cA, A, Dp, Q, σ, nL) => c.exceptionTable.toList = tableOf hh ∧ ∀ d0, Dp d0 → d0 = s.drawn
set_option maxHeartbeats 1000000 in
theorem CH.ofV {l : Launch} {d kc ks : Nat} {y : MethodName} {cc : ByteArray} {maxL : Nat} {rt : Option FieldType} {hh : List (Nat × Nat × Nat × Nat)} {av : List Value} {h : Hp} {post : Option Value → Hp → Prop} {L : List (Option Value)} (own : String) (hy : plainName y.cls = true) (ho : y.cls = own) (hn : (els av).length ≤ maxL) (hL : els av ++ List.replicate (maxL - (els av).length) none = L)
    (body : ∀ X : Cxt, X.2.1 = l → Gd X own cc d kc ks → HT X hh → Ends X cc rt kc ks post → V X 0 0 0 L [] h) : CH l d kc ks y cc maxL rt hh av h post := by
  intro D cA σ sz
  refine Met.ofWH (cc := cc) (maxL := maxL) (ret := rt) (hh := hh) hy rfl ?_
  intro p e s m args below meth c s₁ B hml hv
  obtain ⟨rfl, hsz, hP, hK, hadr, hGE⟩ := hv
  have hts0 := atoms_spec (ws := Cond.codeWith y cc maxL rt hh :: tw) B.pre
  have htab := vx_table (x := y) B (hts0 _ List.mem_cons_self)
  have hown : s.vm.findClass own = some m.cls := ho ▸ findClass_of_methodNamed B.named
  have hlocks := B.notSynchronized
  have hret := B.returns
  have hx := B.exec
  have hb := B.bytes
  subst hsz
  have a1 : adr σ (AA σ s.heap.size) := adr_AA hadr
  rw [lg_entry_eq]
  have hl := lok_entry (σ := σ) hL hn
  have key := body (p, l, e, (headSpec (Cond.codeWith y cc maxL rt hh :: tw) (rmm d kc ks)).room, s, m, (av.map (vm σ)).toArray, below, meth, c, D, cA, AA σ s.heap.size, (fun d0 => d0 = s.drawn), MQ below (QCd D cA σ s.heap.size post) (av.map (vm σ)).toArray s kc ks (AA σ s.heap.size), σ, maxL) rfl
    ⟨hx, hb, hml, hown, fun w hw => hts0 w (List.mem_cons_of_mem _ hw), hK, a1, fun q hq => Or.inr hq, hGE, hlocks, Nat.le_refl _, Nat.le_refl _, Nat.le_refl _, Nat.le_refl _⟩ ⟨htab, fun d0 q => q⟩ ?_
  · exact key s.heap [] s.drawn _ rfl hP va_S.rf hl
  · intro k n pc ls h1 r hk hn1 hr hp H locs d0 lr hd0 hP1 hS1 hl1
    subst hd0
    refine W.widen hk hn1 ?_
    have post1 : ∀ t : State, t.heap = H → s.WarmedH t.vm → QCd D cA σ s.heap.size post (av.map (vm σ)).toArray s (.returned (r.map (vm σ))) t := fun t ht _ => ⟨⟨r, h1, rfl, hp, by rw [ht]; exact hP1⟩, hS1.F ht⟩
    rcases hr with ⟨x, ty, rfl, hdg, rfl, hnar⟩ | ⟨x, rfl, hdg, rfl⟩ | ⟨x, rfl, hdg, rfl⟩ | ⟨rfl, hdg, rfl⟩ | ⟨q, nm, rfl, hdg, rfl⟩
    · exact W.zret hx hb hret hnar post1 hS1.2.2 hdg hlocks
    · exact W.lret hx hb hret post1 hS1.2.2 hdg hlocks
    · exact W.dret hx hb hret post1 hS1.2.2 hdg hlocks
    · exact W.vret hx hb hret post1 hS1.2.2 hdg hlocks
    · exact W.aret hx hb hret (Or.inl ⟨_, rfl⟩) (Or.inr ⟨_, rfl⟩) post1 hS1.2.2 hdg hlocks
theorem lok_setN {σ : Nat → Nat} {nL : Nat} {pre t : List (Option Value)} {b : Option Value} {v : Value} {lr : Array Slot} (hl : (pre ++ b :: t).length = nL) (hp : c1l pre = true)
    (h : lv_has lr nL ((pre.length, v) :: (prs σ (pre ++ b :: t)).filter (fun q => !(q.1 == pre.length) && !(q.1 + 1 == pre.length && q.2.category == 2)))) : lok σ nL (pre ++ none :: t) lr := by
  refine ⟨by rw [← hl]; simp, h.1, h.2.1, fun q hq => h.2.2 q ?_⟩
  obtain ⟨w, h1, h2⟩ := prs_mem.mp hq
  by_cases hk : q.1 = pre.length
  · rw [hk, List.getElem?_append_right (Nat.le_refl _), Nat.sub_self] at h1
    simp at h1
  · refine List.mem_cons_of_mem _ (List.mem_filter.mpr ⟨prs_mem.mpr ⟨w, ?_, h2⟩, ?_⟩)
    · by_cases hlt : q.1 < pre.length
      · rw [List.getElem?_append_left hlt] at h1 ⊢
        exact h1
      · rw [List.getElem?_append_right (by omega)] at h1 ⊢
        obtain ⟨z, hz⟩ : ∃ z, q.1 - pre.length = z + 1 := ⟨q.1 - pre.length - 1, by omega⟩
        rw [hz] at h1 ⊢
        simpa using h1
    · by_cases hlt : q.1 + 1 = pre.length
      · have h3 : pre[q.1]? = some (some w) := by
          rw [List.getElem?_append_left (by omega)] at h1
          exact h1
        have h4 := c1l_at hp h3 hlt
        rw [h2, vm_cat, h4]
        simp [hk]
      · simp [hk, hlt]
/-- the first, or the second, row of the table catches -/
def HnF (hh : List (Nat × Nat × Nat × Nat)) (pc : Nat) (E : String) (hp : Nat) : Prop :=
  (∃ e t rest, hh = (0, e, hp, t) :: rest ∧ pc < e ∧ t ≠ 0 ∧ Cond.classLink RL t E ∈ tw ∧ (E, E) ∈ csl) ∨
  (∃ e hp0 t0 E0 t rest, hh = (0, e, hp0, t0) :: (0, e, hp, t) :: rest ∧ pc < e ∧ t0 ≠ 0 ∧ t ≠ 0 ∧ Cond.classLink RL t0 E0 ∈ tw ∧ (E, E0) ∈ ncl ∧ Cond.classLink RL t E ∈ tw ∧ (E, E) ∈ csl)
theorem hn_catch {p : Program} {l : Launch} {e : Env} {R : Room} {s : State} {m : MethodId} {args : Array Value} {below : List Frame} {meth : Method} {c : Code} {H : Heap} {locs : List Loc} {cells slots : Nat} {Q : State → Prop} {pc hp : Nat} {lr : Array Slot} {rest : List Value} {A : Nat → Prop} {E : String} {ce : Cell} {q9 : Addr} {hh : List (Nat × Nat × Nat × Nat)} (hown : s.vm.findClass RL = some m.cls) (hts : ∀ w ∈ tw, w.before args s = true) (hGE : GE A s s.heap) (ht : c.exceptionTable.toList = tableOf hh) (F : HnF hh pc E hp) (hcell : H[q9]? = some ce) (hv : ce.vm = .none) (hcl : s.vm.findClass E = some ce.cls)
    (kk : W p l e R s m args below meth c H locs cells slots Q (F0 m hp lr [.ref q9])) : vx_W p l e R s m args below meth c H locs cells slots Q (F0 m pc lr rest) q9 := by
  rcases F with ⟨e1, t, rs, rfl, f1, f2, f3, f4⟩ | ⟨e1, hp0, t0, E0, t, rs, rfl, f1, f2, f3, f4, f5, f6, f7⟩
  · exact vx_catch (own := RL) (name := E) hown [] ⟨0, e1, hp, t⟩ (tableOf rs) (by rw [ht]; rfl) (fun z hz => by cases hz) (by simp [covers]; exact f1) f2 (hts _ f3) (va_Nw.use rfl (hGE.2.1 (E, E) f4)) hcell hv hcl kk
  · exact vx_catch (own := RL) (name := E) hown [⟨0, e1, hp0, t0⟩] ⟨0, e1, hp, t⟩ (tableOf rs) (by rw [ht]; rfl) (fun z hz => by
      rw [List.mem_singleton.mp hz]
      exact Or.inr ⟨f2, E0, hts _ f4, hGE.2.2.1 (E, E0) f5⟩) (by simp [covers]; exact f1) f3 (hts _ f6) (va_Nw.use rfl (hGE.2.1 (E, E) f7)) hcell hv hcl kk

theorem lk_IAE : Cond.classLink RL 13 IAE ∈ tw := tw_in (List.mem_of_getElem? (i := 731) (by decide +kernel)) (by decide +kernel)
theorem lk_ISE : Cond.classLink RL 15 ISE ∈ tw := tw_in (List.mem_of_getElem? (i := 732) (by decide +kernel)) (by decide +kernel)
theorem lk_IOB : Cond.classLink RL 21 IOB ∈ tw := tw_in (List.mem_of_getElem? (i := 928) (by decide +kernel)) (by decide +kernel)
theorem V_hV1_3 (G : Gd X RL cc d kc ks) {hh : List (Nat × Nat × Nat × Nat)} (Y : HT X hh) {idx ci q maxL d1 kc1 ks1 : Nat} {y : MethodName} {bytes : ByteArray} {ret : Option FieldType} {P : Int → Hp → Prop} {px1 : String → Hp → Prop} {v0 : Value} {a0 a1 a2 b : Option Value} {t : List (Option Value)} (M : MV RL idx ci y bytes maxL ret 1) (hd : decode cc pc = .ok (.invokevirtual idx, 3)) (hq : q < NN) (hs : SH q = .inl ci) (hC : CX X.2.1 d1 kc1 ks1 y bytes maxL ret [.ref q, v0] h (pI P) px1) (hc : c1 a2 = true) (hdd : d1 + 1 ≤ d) (hk : k + kc1 ≤ kc) (hn : n + ks1 ≤ ks) (hst : (st.map fun v => v.category).sum ≤ 8) (kx : ∀ E h1, px1 E h1 → ∃ hp, HnF hh pc E hp ∧ decode cc hp = .ok (.astore_n 3, 1) ∧ V X (k + kc1) (n + ks1) (hp + 1) (a0 :: a1 :: a2 :: none :: t) [] h1) (kk : ∀ (x : Int) (h1 : Hp), P x h1 → V X (k + kc1) (n + ks1) (pc + 3) (a0 :: a1 :: a2 :: b :: t) (.int (Int32.ofInt x) :: st) h1) : V X k n pc (a0 :: a1 :: a2 :: b :: t) (v0 :: .ref q :: st) h := by
  obtain ⟨p, l, e, R, s, m, args, below, meth, c, D, cA, A, Dp, Q, σ, nL⟩ := X
  obtain ⟨y1, y2⟩ := Y
  obtain ⟨hx, hb, hml, hown, hts, hK, hadr, hA, hGE, hlk, hfr, hlo, hkc, hks⟩ := G
  intro H locs d0 lr g1 g2 g3 g4
  obtain ⟨⟨T, N, hcl⟩, w1, w2, w3, w3g, w4, w5, w6, w7⟩ := M
  have hst2 : ((st.map (vm σ)).map fun v => v.category).sum ≤ 8 := by
    rw [List.map_map, show ((fun v : Value => v.category) ∘ vm σ) = fun v => v.category from funext fun v => vm_cat]; exact hst
  refine vx_callG (vx_runV (As := [vm σ v0]) (rest := st.map (vm σ)) (nL := nL) ⟨hx, hb, hml, hown, dr_words hts d0⟩ (hC D cA σ H.size) ⟨callB_of 1 (dr_words hts d0) (gi_tw w5) rfl rfl rfl (dr_words hts d0 _ w4) (dr_words hts d0 _ w1) w6 ⟨by show d1 + 1 ≤ R.frames; omega, by show 8 + (maxL + 11) + 64 * d1 ≤ R.locals; omega⟩, dr_words hts d0 _ w2, dr_words hts d0 _ (tw_in w3 w3g)⟩ ⟨blind_PCd, va_recv hK g2 hcl (by rw [wd_get hq, ce_obj hs]), fun U hU hW => ⟨rfl, by rw [hU], by rw [hU]; exact g2, va_K.moved hW.alike hK, adr_of hadr _ (fun _ _ => trivial), by rw [hU]; exact GE.pass hGE g3 (show s.WarmedH U.vm from hW) (fun q hq1 hq2 => by
    rcases hq2 with ⟨i, hi, rfl⟩ | hq2
    · exact hadr.2 i hi
    · omega)⟩⟩ rfl rfl g4.2.1 rfl (lv_room hst2) hd ⟨by omega, by omega⟩) g3 (fun q hq1 hq2 => by
      rcases hq2 with ⟨i, hi, rfl⟩ | hq2
      · exact hadr.2 i hi
      · omega) (fun q hq2 => by
      rcases hq2 with ⟨i, hi, rfl⟩ | hq2
      · exact hadr.2 i hi
      · exact hA q (Nat.le_trans g3.1 hq2)) ?_ (fun r h1 H1 locs1 hp hP1 hS1 => ?_)
  · intro E ce q9 h1 H1 locs1 hp hP1 hS1 hc9 hv hcl9
    obtain rfl := y2 _ g1
    obtain ⟨hpc, F, hda, kz⟩ := kx E h1 hp
    refine hn_catch (A := A) hown hts hGE y1 F hc9 hv hcl9 ?_
    exact lv_astore_n hx hb hda rfl g4.2 (by have := g4.1; simp at this; omega) rfl (fun ls2 hl => kz H1 locs1 s.drawn ls2 g1 hP1 hS1 (lok_setN (pre := [a0, a1, a2]) g4.1 (show c1l [a0, a1, a2] = true from hc) hl))
  obtain ⟨x, rfl, hp⟩ := hp
  exact kk x h1 hp H1 locs1 d0 lr g1 hP1 hS1 g4
theorem V_hV2_4 (G : Gd X RL cc d kc ks) {hh : List (Nat × Nat × Nat × Nat)} (Y : HT X hh) {idx ci q maxL d1 kc1 ks1 : Nat} {y : MethodName} {bytes : ByteArray} {ret : Option FieldType} {P : Int → Hp → Prop} {px1 : String → Hp → Prop} {v0 v1 : Value} {a0 a1 a2 a3 b : Option Value} {t : List (Option Value)} (M : MV RL idx ci y bytes maxL ret 2) (hd : decode cc pc = .ok (.invokevirtual idx, 3)) (hq : q < NN) (hs : SH q = .inl ci) (hC : CX X.2.1 d1 kc1 ks1 y bytes maxL ret [.ref q, v0, v1] h (pI P) px1) (hc : c1 a3 = true) (hdd : d1 + 1 ≤ d) (hk : k + kc1 ≤ kc) (hn : n + ks1 ≤ ks) (hst : (st.map fun v => v.category).sum ≤ 8) (kx : ∀ E h1, px1 E h1 → ∃ hp, HnF hh pc E hp ∧ decode cc hp = .ok (.astore 4, 2) ∧ V X (k + kc1) (n + ks1) (hp + 2) (a0 :: a1 :: a2 :: a3 :: none :: t) [] h1) (kk : ∀ (x : Int) (h1 : Hp), P x h1 → V X (k + kc1) (n + ks1) (pc + 3) (a0 :: a1 :: a2 :: a3 :: b :: t) (.int (Int32.ofInt x) :: st) h1) : V X k n pc (a0 :: a1 :: a2 :: a3 :: b :: t) (v1 :: v0 :: .ref q :: st) h := by
  obtain ⟨p, l, e, R, s, m, args, below, meth, c, D, cA, A, Dp, Q, σ, nL⟩ := X
  obtain ⟨y1, y2⟩ := Y
  obtain ⟨hx, hb, hml, hown, hts, hK, hadr, hA, hGE, hlk, hfr, hlo, hkc, hks⟩ := G
  intro H locs d0 lr g1 g2 g3 g4
  obtain ⟨⟨T, N, hcl⟩, w1, w2, w3, w3g, w4, w5, w6, w7⟩ := M
  have hst2 : ((st.map (vm σ)).map fun v => v.category).sum ≤ 8 := by
    rw [List.map_map, show ((fun v : Value => v.category) ∘ vm σ) = fun v => v.category from funext fun v => vm_cat]; exact hst
  refine vx_callG (vx_runV (As := [vm σ v0, vm σ v1]) (rest := st.map (vm σ)) (nL := nL) ⟨hx, hb, hml, hown, dr_words hts d0⟩ (hC D cA σ H.size) ⟨callB_of 2 (dr_words hts d0) (gi_tw w5) rfl rfl rfl (dr_words hts d0 _ w4) (dr_words hts d0 _ w1) w6 ⟨by show d1 + 1 ≤ R.frames; omega, by show 8 + (maxL + 11) + 64 * d1 ≤ R.locals; omega⟩, dr_words hts d0 _ w2, dr_words hts d0 _ (tw_in w3 w3g)⟩ ⟨blind_PCd, va_recv hK g2 hcl (by rw [wd_get hq, ce_obj hs]), fun U hU hW => ⟨rfl, by rw [hU], by rw [hU]; exact g2, va_K.moved hW.alike hK, adr_of hadr _ (fun _ _ => trivial), by rw [hU]; exact GE.pass hGE g3 (show s.WarmedH U.vm from hW) (fun q hq1 hq2 => by
    rcases hq2 with ⟨i, hi, rfl⟩ | hq2
    · exact hadr.2 i hi
    · omega)⟩⟩ rfl rfl g4.2.1 rfl (lv_room hst2) hd ⟨by omega, by omega⟩) g3 (fun q hq1 hq2 => by
      rcases hq2 with ⟨i, hi, rfl⟩ | hq2
      · exact hadr.2 i hi
      · omega) (fun q hq2 => by
      rcases hq2 with ⟨i, hi, rfl⟩ | hq2
      · exact hadr.2 i hi
      · exact hA q (Nat.le_trans g3.1 hq2)) ?_ (fun r h1 H1 locs1 hp hP1 hS1 => ?_)
  · intro E ce q9 h1 H1 locs1 hp hP1 hS1 hc9 hv hcl9
    obtain rfl := y2 _ g1
    obtain ⟨hpc, F, hda, kz⟩ := kx E h1 hp
    refine hn_catch (A := A) hown hts hGE y1 F hc9 hv hcl9 ?_
    exact lv_astore hx hb hda g4.2 (by have := g4.1; simp at this; omega) rfl (fun ls2 hl => kz H1 locs1 s.drawn ls2 g1 hP1 hS1 (lok_setN (pre := [a0, a1, a2, a3]) g4.1 (show c1l [a0, a1, a2, a3] = true from hc) hl))
  obtain ⟨x, rfl, hp⟩ := hp
  exact kk x h1 hp H1 locs1 d0 lr g1 hP1 hS1 g4
theorem V_hV0_2 (G : Gd X RL cc d kc ks) {hh : List (Nat × Nat × Nat × Nat)} (Y : HT X hh) {idx ci q maxL d1 kc1 ks1 : Nat} {y : MethodName} {bytes : ByteArray} {ret : Option FieldType} {P : Int → Hp → Prop} {px1 : String → Hp → Prop}  {a0 a1 b : Option Value} {t : List (Option Value)} (M : MV RL idx ci y bytes maxL ret 0) (hd : decode cc pc = .ok (.invokevirtual idx, 3)) (hq : q < NN) (hs : SH q = .inl ci) (hC : CX X.2.1 d1 kc1 ks1 y bytes maxL ret [.ref q] h (pI P) px1) (hc : c1 a1 = true) (hdd : d1 + 1 ≤ d) (hk : k + kc1 ≤ kc) (hn : n + ks1 ≤ ks) (hst : (st.map fun v => v.category).sum ≤ 8) (kx : ∀ E h1, px1 E h1 → ∃ hp, HnF hh pc E hp ∧ decode cc hp = .ok (.astore_n 2, 1) ∧ V X (k + kc1) (n + ks1) (hp + 1) (a0 :: a1 :: none :: t) [] h1) (kk : ∀ (x : Int) (h1 : Hp), P x h1 → V X (k + kc1) (n + ks1) (pc + 3) (a0 :: a1 :: b :: t) (.int (Int32.ofInt x) :: st) h1) : V X k n pc (a0 :: a1 :: b :: t) (.ref q :: st) h := by
  obtain ⟨p, l, e, R, s, m, args, below, meth, c, D, cA, A, Dp, Q, σ, nL⟩ := X
  obtain ⟨y1, y2⟩ := Y
  obtain ⟨hx, hb, hml, hown, hts, hK, hadr, hA, hGE, hlk, hfr, hlo, hkc, hks⟩ := G
  intro H locs d0 lr g1 g2 g3 g4
  obtain ⟨⟨T, N, hcl⟩, w1, w2, w3, w3g, w4, w5, w6, w7⟩ := M
  have hst2 : ((st.map (vm σ)).map fun v => v.category).sum ≤ 8 := by
    rw [List.map_map, show ((fun v : Value => v.category) ∘ vm σ) = fun v => v.category from funext fun v => vm_cat]; exact hst
  refine vx_callG (vx_runV (As := []) (rest := st.map (vm σ)) (nL := nL) ⟨hx, hb, hml, hown, dr_words hts d0⟩ (hC D cA σ H.size) ⟨callB_of 0 (dr_words hts d0) (gi_tw w5) rfl rfl rfl (dr_words hts d0 _ w4) (dr_words hts d0 _ w1) w6 ⟨by show d1 + 1 ≤ R.frames; omega, by show 8 + (maxL + 11) + 64 * d1 ≤ R.locals; omega⟩, dr_words hts d0 _ w2, dr_words hts d0 _ (tw_in w3 w3g)⟩ ⟨blind_PCd, va_recv hK g2 hcl (by rw [wd_get hq, ce_obj hs]), fun U hU hW => ⟨rfl, by rw [hU], by rw [hU]; exact g2, va_K.moved hW.alike hK, adr_of hadr _ (fun _ _ => trivial), by rw [hU]; exact GE.pass hGE g3 (show s.WarmedH U.vm from hW) (fun q hq1 hq2 => by
    rcases hq2 with ⟨i, hi, rfl⟩ | hq2
    · exact hadr.2 i hi
    · omega)⟩⟩ rfl rfl g4.2.1 rfl (lv_room hst2) hd ⟨by omega, by omega⟩) g3 (fun q hq1 hq2 => by
      rcases hq2 with ⟨i, hi, rfl⟩ | hq2
      · exact hadr.2 i hi
      · omega) (fun q hq2 => by
      rcases hq2 with ⟨i, hi, rfl⟩ | hq2
      · exact hadr.2 i hi
      · exact hA q (Nat.le_trans g3.1 hq2)) ?_ (fun r h1 H1 locs1 hp hP1 hS1 => ?_)
  · intro E ce q9 h1 H1 locs1 hp hP1 hS1 hc9 hv hcl9
    obtain rfl := y2 _ g1
    obtain ⟨hpc, F, hda, kz⟩ := kx E h1 hp
    refine hn_catch (A := A) hown hts hGE y1 F hc9 hv hcl9 ?_
    exact lv_astore_n hx hb hda rfl g4.2 (by have := g4.1; simp at this; omega) rfl (fun ls2 hl => kz H1 locs1 s.drawn ls2 g1 hP1 hS1 (lok_setN (pre := [a0, a1]) g4.1 (show c1l [a0, a1] = true from hc) hl))
  obtain ⟨x, rfl, hp⟩ := hp
  exact kk x h1 hp H1 locs1 d0 lr g1 hP1 hS1 g4
theorem V_hV3_5 (G : Gd X RL cc d kc ks) {hh : List (Nat × Nat × Nat × Nat)} (Y : HT X hh) {idx ci q maxL d1 kc1 ks1 : Nat} {y : MethodName} {bytes : ByteArray} {ret : Option FieldType} {P : Int → Hp → Prop} {px1 : String → Hp → Prop} {v0 v1 v2 : Value} {a0 a1 a2 a3 a4 b : Option Value} {t : List (Option Value)} (M : MV RL idx ci y bytes maxL ret 3) (hd : decode cc pc = .ok (.invokevirtual idx, 3)) (hq : q < NN) (hs : SH q = .inl ci) (hC : CX X.2.1 d1 kc1 ks1 y bytes maxL ret [.ref q, v0, v1, v2] h (pI P) px1) (hc : c1 a4 = true) (hdd : d1 + 1 ≤ d) (hk : k + kc1 ≤ kc) (hn : n + ks1 ≤ ks) (hst : (st.map fun v => v.category).sum ≤ 8) (kx : ∀ E h1, px1 E h1 → ∃ hp, HnF hh pc E hp ∧ decode cc hp = .ok (.astore 5, 2) ∧ V X (k + kc1) (n + ks1) (hp + 2) (a0 :: a1 :: a2 :: a3 :: a4 :: none :: t) [] h1) (kk : ∀ (x : Int) (h1 : Hp), P x h1 → V X (k + kc1) (n + ks1) (pc + 3) (a0 :: a1 :: a2 :: a3 :: a4 :: b :: t) (.int (Int32.ofInt x) :: st) h1) : V X k n pc (a0 :: a1 :: a2 :: a3 :: a4 :: b :: t) (v2 :: v1 :: v0 :: .ref q :: st) h := by
  obtain ⟨p, l, e, R, s, m, args, below, meth, c, D, cA, A, Dp, Q, σ, nL⟩ := X
  obtain ⟨y1, y2⟩ := Y
  obtain ⟨hx, hb, hml, hown, hts, hK, hadr, hA, hGE, hlk, hfr, hlo, hkc, hks⟩ := G
  intro H locs d0 lr g1 g2 g3 g4
  obtain ⟨⟨T, N, hcl⟩, w1, w2, w3, w3g, w4, w5, w6, w7⟩ := M
  have hst2 : ((st.map (vm σ)).map fun v => v.category).sum ≤ 8 := by
    rw [List.map_map, show ((fun v : Value => v.category) ∘ vm σ) = fun v => v.category from funext fun v => vm_cat]; exact hst
  refine vx_callG (vx_runV (As := [vm σ v0, vm σ v1, vm σ v2]) (rest := st.map (vm σ)) (nL := nL) ⟨hx, hb, hml, hown, dr_words hts d0⟩ (hC D cA σ H.size) ⟨callB_of 3 (dr_words hts d0) (gi_tw w5) rfl rfl rfl (dr_words hts d0 _ w4) (dr_words hts d0 _ w1) w6 ⟨by show d1 + 1 ≤ R.frames; omega, by show 8 + (maxL + 11) + 64 * d1 ≤ R.locals; omega⟩, dr_words hts d0 _ w2, dr_words hts d0 _ (tw_in w3 w3g)⟩ ⟨blind_PCd, va_recv hK g2 hcl (by rw [wd_get hq, ce_obj hs]), fun U hU hW => ⟨rfl, by rw [hU], by rw [hU]; exact g2, va_K.moved hW.alike hK, adr_of hadr _ (fun _ _ => trivial), by rw [hU]; exact GE.pass hGE g3 (show s.WarmedH U.vm from hW) (fun q hq1 hq2 => by
    rcases hq2 with ⟨i, hi, rfl⟩ | hq2
    · exact hadr.2 i hi
    · omega)⟩⟩ rfl rfl g4.2.1 rfl (lv_room hst2) hd ⟨by omega, by omega⟩) g3 (fun q hq1 hq2 => by
      rcases hq2 with ⟨i, hi, rfl⟩ | hq2
      · exact hadr.2 i hi
      · omega) (fun q hq2 => by
      rcases hq2 with ⟨i, hi, rfl⟩ | hq2
      · exact hadr.2 i hi
      · exact hA q (Nat.le_trans g3.1 hq2)) ?_ (fun r h1 H1 locs1 hp hP1 hS1 => ?_)
  · intro E ce q9 h1 H1 locs1 hp hP1 hS1 hc9 hv hcl9
    obtain rfl := y2 _ g1
    obtain ⟨hpc, F, hda, kz⟩ := kx E h1 hp
    refine hn_catch (A := A) hown hts hGE y1 F hc9 hv hcl9 ?_
    exact lv_astore hx hb hda g4.2 (by have := g4.1; simp at this; omega) rfl (fun ls2 hl => kz H1 locs1 s.drawn ls2 g1 hP1 hS1 (lok_setN (pre := [a0, a1, a2, a3, a4]) g4.1 (show c1l [a0, a1, a2, a3, a4] = true from hc) hl))
  obtain ⟨x, rfl, hp⟩ := hp
  exact kk x h1 hp H1 locs1 d0 lr g1 hP1 hS1 g4

/-- the reference's cells, as they were -/
def eqK (h h1 : Hp) : Prop := (∀ a j, 77 ≤ a → hI h1 a j = hI h a j) ∧ ∀ a j, 77 ≤ a → a ≠ 97 → hL h1 a j = hL h a j
def opW (o : Rs) (h : Hp) : Int → Hp → Prop := fun x h1 => x = o.1 ∧ (o.1 = 0 → hL h1 97 0 = z2l o.2.1) ∧ RepC o.2.2 h1 ∧ Rg h1 ∧ eqK h h1
theorem RepC.sl {g : Sg} {h : Hp} {v : Int64} (R : RepC g h) : RepC g (sL h 97 0 v) := by
  obtain ⟨P, W⟩ := R.2.1
  exact ⟨R.1.eq (fun _ _ _ => rfl) (fun j => by rw [hL_sL, if_neg (by omega)]), ⟨P, W.eq (fun _ _ _ => rfl) (fun _ => rfl)⟩, R.2.2.1.eq (fun _ _ _ => rfl) (fun _ => rfl), R.2.2.2.eq rfl (fun _ => rfl)⟩
theorem op_ok {o : Rs} {h h1 : Hp} {x : Int} (q : opP o h x h1) : opW o h 0 (sL h1 97 0 (z2l x)) := by
  obtain ⟨q1, q2, q3, q4, q5⟩ := q
  exact ⟨q1.symm, fun _ => by rw [hL_sL, if_pos ⟨rfl, rfl⟩, q2], q3.sl, q4.sL, q5.1, fun a j a1 a2 => by rw [hL_sL, if_neg (fun z => a2 z.1)]; exact q5.2 a j a1⟩
theorem op_er {o : Rs} {g : Sg} {h : Hp} {x : Int} (R : RepC g h) (r : Rg h) (hg : o.1 ≠ 0 → o.2.2 = g) (hx : o.1 = x) (h0 : x ≠ 0) : opW o h x h :=
  ⟨hx.symm, fun z => absurd (hx.symm.trans z) h0, by rw [hg (by rw [hx]; exact h0)]; exact R, r, fun _ _ _ => rfl, fun _ _ _ _ => rfl⟩

theorem er_add {g : Sg} {p : Int} : (opAdd g p).1 ≠ 0 → (opAdd g p).2.2 = g := by
  unfold opAdd
  repeat' split
  all_goals simp
set_option maxRecDepth 100000 in
set_option maxHeartbeats 1600000 in
theorem c_L_add {l : Launch} {d : Nat} {h : Hp} (hlt : l.stackTraces = false) (r : Rg h) {g : Sg} (R : RepC g h) (I : InvS g) {p : Int} (hp : inr p) (hd : 41 ≤ d := by omega) : CH l d 2 12 yL_add cL_add 4 (Option.some Jvm.ClassFile.FieldType.int) [(0, 9, 12, 13), (0, 9, 15, 15)] [.ref 0, iv p, .ref 97] h (pI (opW (opAdd g p) h)) := by
  refine CH.ofV (L := [some (.ref 0), some (.int (Int32.ofInt p)), some (.ref 97), none]) RL (by decide +kernel) rfl (Nat.le_of_ble_eq_true rfl) rfl (fun X hX G Y E => ?_)
  subst hX
  refine V_aload2 G dL_add_0 ?_
  refine V_iconst G dL_add_1 ?_
  refine V_aload0 G dL_add_2 ?_
  refine V_iload1 G dL_add_3 ?_
  refine V_hV1_3 (d1 := 40) (kc1 := 2) (ks1 := 12) G Y m_L_7 dL_add_4 (by decide) rfl ((c_X6_add hlt r R I hp)) rfl (by omega) (by omega) (by omega) (Nat.le_of_ble_eq_true rfl) (fun E h1 q => by
        obtain ⟨rfl, q⟩ := q
        rcases q with ⟨q, rfl⟩ | ⟨q, rfl⟩
        · refine ⟨12, Or.inl ⟨9, 13, _, rfl, by decide, by decide, lk_IAE, by decide⟩, dL_add_12, ?_⟩
          refine V_iconst G dL_add_13 ?_
          exact V_reti E dL_add_14 rfl rfl ⟨_, rfl, op_er R r er_add q (by decide)⟩
        · refine ⟨15, Or.inr ⟨9, 12, 13, IAE, 15, _, rfl, by decide, by decide, by decide, lk_IAE, by decide, lk_ISE, by decide⟩, dL_add_15, ?_⟩
          refine V_iconst G dL_add_16 ?_
          exact V_reti E dL_add_17 rfl rfl ⟨_, rfl, op_er R r er_add q (by decide)⟩) (fun x h1 hp => ?_)
  refine V_i2l_ G dL_add_7 ?_
  refine V_last G dL_add_8 (by first | decide | assumption) (by first | rfl | assumption) (by decide) ⟨by omega, by omega⟩ ?_
  refine V_goto G dL_add_9 (tgt := 18) (by decide) ?_
  refine V_iconst G dL_add_18 ?_
  exact V_reti E dL_add_19 rfl rfl ⟨_, rfl, op_ok hp⟩

theorem er_change {g : Sg} {w : Int} {p : Int} : (opChange g w p).1 ≠ 0 → (opChange g w p).2.2 = g := by
  unfold opChange
  repeat' split
  all_goals simp
set_option maxRecDepth 100000 in
set_option maxHeartbeats 1600000 in
theorem c_L_change {l : Launch} {d : Nat} {h : Hp} (hlt : l.stackTraces = false) (r : Rg h) {g : Sg} (R : RepC g h) (I : InvS g) {w : Int} (hw : inr w) {p : Int} (hp : inr p) (hd : 41 ≤ d := by omega) : CH l d 2 12 yL_change cL_change 5 (Option.some Jvm.ClassFile.FieldType.int) [(0, 10, 13, 21), (0, 10, 17, 13)] [.ref 0, iv w, iv p, .ref 97] h (pI (opW (opChange g w p) h)) := by
  refine CH.ofV (L := [some (.ref 0), some (.int (Int32.ofInt w)), some (.int (Int32.ofInt p)), some (.ref 97), none]) RL (by decide +kernel) rfl (Nat.le_of_ble_eq_true rfl) rfl (fun X hX G Y E => ?_)
  subst hX
  refine V_aload3 G dL_change_0 ?_
  refine V_iconst G dL_change_1 ?_
  refine V_aload0 G dL_change_2 ?_
  refine V_iload1 G dL_change_3 ?_
  refine V_iload2 G dL_change_4 ?_
  refine V_hV2_4 (d1 := 40) (kc1 := 2) (ks1 := 12) G Y m_L_17 dL_change_5 (by decide) rfl ((c_X6_change hlt r R I hw hp)) rfl (by omega) (by omega) (by omega) (Nat.le_of_ble_eq_true rfl) (fun E h1 q => by
        obtain ⟨rfl, q⟩ := q
        rcases q with ⟨q, rfl⟩ | ⟨q, rfl⟩
        · refine ⟨13, Or.inl ⟨10, 21, _, rfl, by decide, by decide, lk_IOB, by decide⟩, dL_change_13, ?_⟩
          refine V_iconst G dL_change_15 ?_
          exact V_reti E dL_change_16 rfl rfl ⟨_, rfl, op_er R r er_change q (by decide)⟩
        · refine ⟨17, Or.inr ⟨10, 13, 21, IOB, 13, _, rfl, by decide, by decide, by decide, lk_IOB, by decide, lk_IAE, by decide⟩, dL_change_17, ?_⟩
          refine V_iconst G dL_change_19 ?_
          exact V_reti E dL_change_20 rfl rfl ⟨_, rfl, op_er R r er_change q (by decide)⟩) (fun x h1 hp => ?_)
  refine V_i2l_ G dL_change_8 ?_
  refine V_last G dL_change_9 (by first | decide | assumption) (by first | rfl | assumption) (by decide) ⟨by omega, by omega⟩ ?_
  refine V_goto G dL_change_10 (tgt := 21) (by decide) ?_
  refine V_iconst G dL_change_21 ?_
  exact V_reti E dL_change_22 rfl rfl ⟨_, rfl, op_ok hp⟩

theorem er_wipe {g : Sg} {w : Int} : (opWipe g w).1 ≠ 0 → (opWipe g w).2.2 = g := by
  unfold opWipe
  repeat' split
  all_goals simp
theorem no2_wipe {g : Sg} {w : Int} : ¬ (opWipe g w).1 = 2 := by
  unfold opWipe
  repeat' split
  all_goals simp
set_option maxRecDepth 100000 in
set_option maxHeartbeats 1600000 in
theorem c_L_wipe {l : Launch} {d : Nat} {h : Hp} (hlt : l.stackTraces = false) (r : Rg h) {g : Sg} (R : RepC g h) (I : InvS g) {w : Int} (hw : inr w) (hd : 41 ≤ d := by omega) : CH l d 2 12 yL_wipe cL_wipe 4 (Option.some Jvm.ClassFile.FieldType.int) [(0, 9, 12, 21)] [.ref 0, iv w, .ref 97] h (pI (opW (opWipe g w) h)) := by
  refine CH.ofV (L := [some (.ref 0), some (.int (Int32.ofInt w)), some (.ref 97), none]) RL (by decide +kernel) rfl (Nat.le_of_ble_eq_true rfl) rfl (fun X hX G Y E => ?_)
  subst hX
  refine V_aload2 G dL_wipe_0 ?_
  refine V_iconst G dL_wipe_1 ?_
  refine V_aload0 G dL_wipe_2 ?_
  refine V_iload1 G dL_wipe_3 ?_
  refine V_hV1_3 (d1 := 40) (kc1 := 2) (ks1 := 12) G Y m_L_23 dL_wipe_4 (by decide) rfl ((c_X6_wipe hlt r R I hw)) rfl (by omega) (by omega) (by omega) (Nat.le_of_ble_eq_true rfl) (fun E h1 q => by
        obtain ⟨rfl, q⟩ := q
        rcases q with ⟨q, rfl⟩ | ⟨q, rfl⟩
        · refine ⟨12, Or.inl ⟨9, 21, _, rfl, by decide, by decide, lk_IOB, by decide⟩, dL_wipe_12, ?_⟩
          refine V_iconst G dL_wipe_13 ?_
          exact V_reti E dL_wipe_14 rfl rfl ⟨_, rfl, op_er R r er_wipe q (by decide)⟩
        · exact absurd q no2_wipe) (fun x h1 hp => ?_)
  refine V_i2l_ G dL_wipe_7 ?_
  refine V_last G dL_wipe_8 (by first | decide | assumption) (by first | rfl | assumption) (by decide) ⟨by omega, by omega⟩ ?_
  refine V_goto G dL_wipe_9 (tgt := 15) (by decide) ?_
  refine V_iconst G dL_wipe_15 ?_
  exact V_reti E dL_wipe_16 rfl rfl ⟨_, rfl, op_ok hp⟩

theorem er_fix {g : Sg} {w : Int} {z : Int} : (opFix g w z).1 ≠ 0 → (opFix g w z).2.2 = g := by
  unfold opFix
  repeat' split
  all_goals simp
set_option maxRecDepth 100000 in
set_option maxHeartbeats 1600000 in
theorem c_L_fix {l : Launch} {d : Nat} {h : Hp} (hlt : l.stackTraces = false) (r : Rg h) {g : Sg} (R : RepC g h) (I : InvS g) {w : Int} (hw : inr w) {z : Int} (hz : inr z) (hd : 41 ≤ d := by omega) : CH l d 3 18 yL_fix cL_fix 5 (Option.some Jvm.ClassFile.FieldType.int) [(0, 10, 13, 21), (0, 10, 17, 15)] [.ref 0, iv w, iv z, .ref 97] h (pI (opW (opFix g w z) h)) := by
  refine CH.ofV (L := [some (.ref 0), some (.int (Int32.ofInt w)), some (.int (Int32.ofInt z)), some (.ref 97), none]) RL (by decide +kernel) rfl (Nat.le_of_ble_eq_true rfl) rfl (fun X hX G Y E => ?_)
  subst hX
  refine V_aload3 G dL_fix_0 ?_
  refine V_iconst G dL_fix_1 ?_
  refine V_aload0 G dL_fix_2 ?_
  refine V_iload1 G dL_fix_3 ?_
  refine V_iload2 G dL_fix_4 ?_
  refine V_hV2_4 (d1 := 40) (kc1 := 3) (ks1 := 18) G Y m_L_26 dL_fix_5 (by decide) rfl ((c_X6_fix hlt r R I hw hz)) rfl (by omega) (by omega) (by omega) (Nat.le_of_ble_eq_true rfl) (fun E h1 q => by
        obtain ⟨rfl, q⟩ := q
        rcases q with ⟨q, rfl⟩ | ⟨q, rfl⟩
        · refine ⟨13, Or.inl ⟨10, 21, _, rfl, by decide, by decide, lk_IOB, by decide⟩, dL_fix_13, ?_⟩
          refine V_iconst G dL_fix_15 ?_
          exact V_reti E dL_fix_16 rfl rfl ⟨_, rfl, op_er R r er_fix q (by decide)⟩
        · refine ⟨17, Or.inr ⟨10, 13, 21, IOB, 15, _, rfl, by decide, by decide, by decide, lk_IOB, by decide, lk_ISE, by decide⟩, dL_fix_17, ?_⟩
          refine V_iconst G dL_fix_19 ?_
          exact V_reti E dL_fix_20 rfl rfl ⟨_, rfl, op_er R r er_fix q (by decide)⟩) (fun x h1 hp => ?_)
  refine V_i2l_ G dL_fix_8 ?_
  refine V_last G dL_fix_9 (by first | decide | assumption) (by first | rfl | assumption) (by decide) ⟨by omega, by omega⟩ ?_
  refine V_goto G dL_fix_10 (tgt := 21) (by decide) ?_
  refine V_iconst G dL_fix_21 ?_
  exact V_reti E dL_fix_22 rfl rfl ⟨_, rfl, op_ok hp⟩

theorem er_loosen {g : Sg} {w : Int} : (opLoosen g w).1 ≠ 0 → (opLoosen g w).2.2 = g := by
  unfold opLoosen
  repeat' split
  all_goals simp
theorem no2_loosen {g : Sg} {w : Int} : ¬ (opLoosen g w).1 = 2 := by
  unfold opLoosen
  repeat' split
  all_goals simp
set_option maxRecDepth 100000 in
set_option maxHeartbeats 1600000 in
theorem c_L_loosen {l : Launch} {d : Nat} {h : Hp} (hlt : l.stackTraces = false) (r : Rg h) {g : Sg} (R : RepC g h) (I : InvS g) {w : Int} (hw : inr w) (hd : 41 ≤ d := by omega) : CH l d 2 12 yL_loosen cL_loosen 4 (Option.some Jvm.ClassFile.FieldType.int) [(0, 9, 12, 21)] [.ref 0, iv w, .ref 97] h (pI (opW (opLoosen g w) h)) := by
  refine CH.ofV (L := [some (.ref 0), some (.int (Int32.ofInt w)), some (.ref 97), none]) RL (by decide +kernel) rfl (Nat.le_of_ble_eq_true rfl) rfl (fun X hX G Y E => ?_)
  subst hX
  refine V_aload2 G dL_loosen_0 ?_
  refine V_iconst G dL_loosen_1 ?_
  refine V_aload0 G dL_loosen_2 ?_
  refine V_iload1 G dL_loosen_3 ?_
  refine V_hV1_3 (d1 := 40) (kc1 := 2) (ks1 := 12) G Y m_L_29 dL_loosen_4 (by decide) rfl ((c_X6_loosen hlt r R I hw)) rfl (by omega) (by omega) (by omega) (Nat.le_of_ble_eq_true rfl) (fun E h1 q => by
        obtain ⟨rfl, q⟩ := q
        rcases q with ⟨q, rfl⟩ | ⟨q, rfl⟩
        · refine ⟨12, Or.inl ⟨9, 21, _, rfl, by decide, by decide, lk_IOB, by decide⟩, dL_loosen_12, ?_⟩
          refine V_iconst G dL_loosen_13 ?_
          exact V_reti E dL_loosen_14 rfl rfl ⟨_, rfl, op_er R r er_loosen q (by decide)⟩
        · exact absurd q no2_loosen) (fun x h1 hp => ?_)
  refine V_i2l_ G dL_loosen_7 ?_
  refine V_last G dL_loosen_8 (by first | decide | assumption) (by first | rfl | assumption) (by decide) ⟨by omega, by omega⟩ ?_
  refine V_goto G dL_loosen_9 (tgt := 15) (by decide) ?_
  refine V_iconst G dL_loosen_15 ?_
  exact V_reti E dL_loosen_16 rfl rfl ⟨_, rfl, op_ok hp⟩

theorem er_draw {g : Sg} {p : Int} : (opDraw g p).1 ≠ 0 → (opDraw g p).2.2 = g := by
  unfold opDraw
  repeat' split
  all_goals simp
theorem no2_draw {g : Sg} {p : Int} : ¬ (opDraw g p).1 = 2 := by
  unfold opDraw
  repeat' split
  all_goals simp
set_option maxRecDepth 100000 in
set_option maxHeartbeats 1600000 in
theorem c_L_draw {l : Launch} {d : Nat} {h : Hp} (hlt : l.stackTraces = false) (r : Rg h) {g : Sg} (R : RepC g h) (I : InvS g) {p : Int} (hp : inr p) (hd : 41 ≤ d := by omega) : CH l d 2 12 yL_draw cL_draw 4 (Option.some Jvm.ClassFile.FieldType.int) [(0, 9, 12, 21)] [.ref 0, iv p, .ref 97] h (pI (opW (opDraw g p) h)) := by
  refine CH.ofV (L := [some (.ref 0), some (.int (Int32.ofInt p)), some (.ref 97), none]) RL (by decide +kernel) rfl (Nat.le_of_ble_eq_true rfl) rfl (fun X hX G Y E => ?_)
  subst hX
  refine V_aload2 G dL_draw_0 ?_
  refine V_iconst G dL_draw_1 ?_
  refine V_aload0 G dL_draw_2 ?_
  refine V_iload1 G dL_draw_3 ?_
  refine V_hV1_3 (d1 := 40) (kc1 := 2) (ks1 := 12) G Y m_L_32 dL_draw_4 (by decide) rfl ((c_X6_draw hlt r R I hp)) rfl (by omega) (by omega) (by omega) (Nat.le_of_ble_eq_true rfl) (fun E h1 q => by
        obtain ⟨rfl, q⟩ := q
        rcases q with ⟨q, rfl⟩ | ⟨q, rfl⟩
        · refine ⟨12, Or.inl ⟨9, 21, _, rfl, by decide, by decide, lk_IOB, by decide⟩, dL_draw_12, ?_⟩
          refine V_iconst G dL_draw_13 ?_
          exact V_reti E dL_draw_14 rfl rfl ⟨_, rfl, op_er R r er_draw q (by decide)⟩
        · exact absurd q no2_draw) (fun x h1 hp => ?_)
  refine V_i2l_ G dL_draw_7 ?_
  refine V_last G dL_draw_8 (by first | decide | assumption) (by first | rfl | assumption) (by decide) ⟨by omega, by omega⟩ ?_
  refine V_goto G dL_draw_9 (tgt := 15) (by decide) ?_
  refine V_iconst G dL_draw_15 ?_
  exact V_reti E dL_draw_16 rfl rfl ⟨_, rfl, op_ok hp⟩

theorem er_flatten {g : Sg}  : (opFlat g).1 ≠ 0 → (opFlat g).2.2 = g := by
  unfold opFlat
  repeat' split
  all_goals simp
theorem no2_flatten {g : Sg}  : ¬ (opFlat g).1 = 2 := by
  unfold opFlat
  repeat' split
  all_goals simp
set_option maxRecDepth 100000 in
set_option maxHeartbeats 1600000 in
theorem c_L_flatten {l : Launch} {d : Nat} {h : Hp} (hlt : l.stackTraces = false) (r : Rg h) {g : Sg} (R : RepC g h) (I : InvS g)  (hd : 41 ≤ d := by omega) : CH l d 2 12 yL_flatten cL_flatten 3 (Option.some Jvm.ClassFile.FieldType.int) [(0, 8, 11, 15)] [.ref 0, .ref 97] h (pI (opW (opFlat g) h)) := by
  refine CH.ofV (L := [some (.ref 0), some (.ref 97), none]) RL (by decide +kernel) rfl (Nat.le_of_ble_eq_true rfl) rfl (fun X hX G Y E => ?_)
  subst hX
  refine V_aload1 G dL_flatten_0 ?_
  refine V_iconst G dL_flatten_1 ?_
  refine V_aload0 G dL_flatten_2 ?_
  refine V_hV0_2 (d1 := 40) (kc1 := 2) (ks1 := 12) G Y m_L_35 dL_flatten_3 (by decide) rfl ((c_X6_flatten hlt r R I)) rfl (by omega) (by omega) (by omega) (Nat.le_of_ble_eq_true rfl) (fun E h1 q => by
        obtain ⟨rfl, q⟩ := q
        rcases q with ⟨q, rfl⟩ | ⟨q, rfl⟩
        · refine ⟨11, Or.inl ⟨8, 15, _, rfl, by decide, by decide, lk_ISE, by decide⟩, dL_flatten_11, ?_⟩
          refine V_iconst G dL_flatten_12 ?_
          exact V_reti E dL_flatten_13 rfl rfl ⟨_, rfl, op_er R r er_flatten q (by decide)⟩
        · exact absurd q no2_flatten) (fun x h1 hp => ?_)
  refine V_i2l_ G dL_flatten_6 ?_
  refine V_last G dL_flatten_7 (by first | decide | assumption) (by first | rfl | assumption) (by decide) ⟨by omega, by omega⟩ ?_
  refine V_goto G dL_flatten_8 (tgt := 14) (by decide) ?_
  refine V_iconst G dL_flatten_14 ?_
  exact V_reti E dL_flatten_15 rfl rfl ⟨_, rfl, op_ok hp⟩

theorem er_append {g : Sg} {z : Int} : (opAppend g z).1 ≠ 0 → (opAppend g z).2.2 = g := by
  unfold opAppend
  repeat' split
  all_goals simp
set_option maxRecDepth 100000 in
set_option maxHeartbeats 1600000 in
theorem c_L_append {l : Launch} {d : Nat} {h : Hp} (hlt : l.stackTraces = false) (r : Rg h) {g : Sg} (R : RepC g h) (I : InvS g) {z : Int} (hz : inr z) (hd : 41 ≤ d := by omega) : CH l d 1 6 yL_append cL_append 4 (Option.some Jvm.ClassFile.FieldType.int) [(0, 9, 12, 13), (0, 9, 15, 15)] [.ref 0, iv z, .ref 97] h (pI (opW (opAppend g z) h)) := by
  refine CH.ofV (L := [some (.ref 0), some (.int (Int32.ofInt z)), some (.ref 97), none]) RL (by decide +kernel) rfl (Nat.le_of_ble_eq_true rfl) rfl (fun X hX G Y E => ?_)
  subst hX
  refine V_aload2 G dL_append_0 ?_
  refine V_iconst G dL_append_1 ?_
  refine V_aload0 G dL_append_2 ?_
  refine V_iload1 G dL_append_3 ?_
  refine V_hV1_3 (d1 := 40) (kc1 := 1) (ks1 := 6) G Y m_L_39 dL_append_4 (by decide) rfl ((c_X6_append hlt r R I hz)) rfl (by omega) (by omega) (by omega) (Nat.le_of_ble_eq_true rfl) (fun E h1 q => by
        obtain ⟨rfl, q⟩ := q
        rcases q with ⟨q, rfl⟩ | ⟨q, rfl⟩
        · refine ⟨12, Or.inl ⟨9, 13, _, rfl, by decide, by decide, lk_IAE, by decide⟩, dL_append_12, ?_⟩
          refine V_iconst G dL_append_13 ?_
          exact V_reti E dL_append_14 rfl rfl ⟨_, rfl, op_er R r er_append q (by decide)⟩
        · refine ⟨15, Or.inr ⟨9, 12, 13, IAE, 15, _, rfl, by decide, by decide, by decide, lk_IAE, by decide, lk_ISE, by decide⟩, dL_append_15, ?_⟩
          refine V_iconst G dL_append_16 ?_
          exact V_reti E dL_append_17 rfl rfl ⟨_, rfl, op_er R r er_append q (by decide)⟩) (fun x h1 hp => ?_)
  refine V_i2l_ G dL_append_7 ?_
  refine V_last G dL_append_8 (by first | decide | assumption) (by first | rfl | assumption) (by decide) ⟨by omega, by omega⟩ ?_
  refine V_goto G dL_append_9 (tgt := 18) (by decide) ?_
  refine V_iconst G dL_append_18 ?_
  exact V_reti E dL_append_19 rfl rfl ⟨_, rfl, op_ok hp⟩

theorem er_load {g : Sg}  : (opLoad g).1 ≠ 0 → (opLoad g).2.2 = g := by
  unfold opLoad
  repeat' split
  all_goals simp
theorem no2_load {g : Sg}  : ¬ (opLoad g).1 = 2 := by
  unfold opLoad
  repeat' split
  all_goals simp
set_option maxRecDepth 100000 in
set_option maxHeartbeats 1600000 in
theorem c_L_load {l : Launch} {d : Nat} {h : Hp} (hlt : l.stackTraces = false) (r : Rg h) {g : Sg} (R : RepC g h) (I : InvS g)  (hd : 41 ≤ d := by omega) : CH l d 1 6 yL_load cL_load 3 (Option.some Jvm.ClassFile.FieldType.int) [(0, 8, 11, 13)] [.ref 0, .ref 97] h (pI (opW (opLoad g) h)) := by
  refine CH.ofV (L := [some (.ref 0), some (.ref 97), none]) RL (by decide +kernel) rfl (Nat.le_of_ble_eq_true rfl) rfl (fun X hX G Y E => ?_)
  subst hX
  refine V_aload1 G dL_load_0 ?_
  refine V_iconst G dL_load_1 ?_
  refine V_aload0 G dL_load_2 ?_
  refine V_hV0_2 (d1 := 40) (kc1 := 1) (ks1 := 6) G Y m_L_42 dL_load_3 (by decide) rfl ((c_X6_load hlt r R I)) rfl (by omega) (by omega) (by omega) (Nat.le_of_ble_eq_true rfl) (fun E h1 q => by
        obtain ⟨rfl, q⟩ := q
        rcases q with ⟨q, rfl⟩ | ⟨q, rfl⟩
        · refine ⟨11, Or.inl ⟨8, 13, _, rfl, by decide, by decide, lk_IAE, by decide⟩, dL_load_11, ?_⟩
          refine V_iconst G dL_load_12 ?_
          exact V_reti E dL_load_13 rfl rfl ⟨_, rfl, op_er R r er_load q (by decide)⟩
        · exact absurd q no2_load) (fun x h1 hp => ?_)
  refine V_i2l_ G dL_load_6 ?_
  refine V_last G dL_load_7 (by first | decide | assumption) (by first | rfl | assumption) (by decide) ⟨by omega, by omega⟩ ?_
  refine V_goto G dL_load_8 (tgt := 14) (by decide) ?_
  refine V_iconst G dL_load_14 ?_
  exact V_reti E dL_load_15 rfl rfl ⟨_, rfl, op_ok hp⟩

theorem er_write {g : Sg}  : (opWrite g).1 ≠ 0 → (opWrite g).2.2 = g := by
  unfold opWrite
  repeat' split
  all_goals simp
theorem no2_write {g : Sg}  : ¬ (opWrite g).1 = 2 := by
  unfold opWrite
  repeat' split
  all_goals simp
set_option maxRecDepth 100000 in
set_option maxHeartbeats 1600000 in
theorem c_L_write {l : Launch} {d : Nat} {h : Hp} (hlt : l.stackTraces = false) (r : Rg h) {g : Sg} (R : RepC g h) (I : InvS g)  (hd : 41 ≤ d := by omega) : CH l d 1 6 yL_write cL_write 3 (Option.some Jvm.ClassFile.FieldType.int) [(0, 8, 11, 15)] [.ref 0, .ref 97] h (pI (opW (opWrite g) h)) := by
  refine CH.ofV (L := [some (.ref 0), some (.ref 97), none]) RL (by decide +kernel) rfl (Nat.le_of_ble_eq_true rfl) rfl (fun X hX G Y E => ?_)
  subst hX
  refine V_aload1 G dL_write_0 ?_
  refine V_iconst G dL_write_1 ?_
  refine V_aload0 G dL_write_2 ?_
  refine V_hV0_2 (d1 := 40) (kc1 := 1) (ks1 := 6) G Y m_L_45 dL_write_3 (by decide) rfl ((c_X6_write hlt r R I)) rfl (by omega) (by omega) (by omega) (Nat.le_of_ble_eq_true rfl) (fun E h1 q => by
        obtain ⟨rfl, q⟩ := q
        rcases q with ⟨q, rfl⟩ | ⟨q, rfl⟩
        · refine ⟨11, Or.inl ⟨8, 15, _, rfl, by decide, by decide, lk_ISE, by decide⟩, dL_write_11, ?_⟩
          refine V_iconst G dL_write_12 ?_
          exact V_reti E dL_write_13 rfl rfl ⟨_, rfl, op_er R r er_write q (by decide)⟩
        · exact absurd q no2_write) (fun x h1 hp => ?_)
  refine V_i2l_ G dL_write_6 ?_
  refine V_last G dL_write_7 (by first | decide | assumption) (by first | rfl | assumption) (by decide) ⟨by omega, by omega⟩ ?_
  refine V_goto G dL_write_8 (tgt := 14) (by decide) ?_
  refine V_iconst G dL_write_14 ?_
  exact V_reti E dL_write_15 rfl rfl ⟨_, rfl, op_ok hp⟩

theorem er_keep {g : Sg} {k : Int} : (opKeep g k).1 ≠ 0 → (opKeep g k).2.2 = g := by
  unfold opKeep
  repeat' split
  all_goals simp
theorem no2_keep {g : Sg} {k : Int} : ¬ (opKeep g k).1 = 2 := by
  unfold opKeep
  repeat' split
  all_goals simp
set_option maxRecDepth 100000 in
set_option maxHeartbeats 1600000 in
theorem c_L_keep {l : Launch} {d : Nat} {h : Hp} (hlt : l.stackTraces = false) (r : Rg h) {g : Sg} (R : RepC g h) (I : InvS g) {k : Int} (hk : inr k) (hd : 41 ≤ d := by omega) : CH l d 1 6 yL_keep cL_keep 4 (Option.some Jvm.ClassFile.FieldType.int) [(0, 9, 12, 13)] [.ref 0, iv k, .ref 97] h (pI (opW (opKeep g k) h)) := by
  refine CH.ofV (L := [some (.ref 0), some (.int (Int32.ofInt k)), some (.ref 97), none]) RL (by decide +kernel) rfl (Nat.le_of_ble_eq_true rfl) rfl (fun X hX G Y E => ?_)
  subst hX
  refine V_aload2 G dL_keep_0 ?_
  refine V_iconst G dL_keep_1 ?_
  refine V_aload0 G dL_keep_2 ?_
  refine V_iload1 G dL_keep_3 ?_
  refine V_hV1_3 (d1 := 40) (kc1 := 1) (ks1 := 6) G Y m_L_48 dL_keep_4 (by decide) rfl ((c_X6_keep hlt r R I hk)) rfl (by omega) (by omega) (by omega) (Nat.le_of_ble_eq_true rfl) (fun E h1 q => by
        obtain ⟨rfl, q⟩ := q
        rcases q with ⟨q, rfl⟩ | ⟨q, rfl⟩
        · refine ⟨12, Or.inl ⟨9, 13, _, rfl, by decide, by decide, lk_IAE, by decide⟩, dL_keep_12, ?_⟩
          refine V_iconst G dL_keep_13 ?_
          exact V_reti E dL_keep_14 rfl rfl ⟨_, rfl, op_er R r er_keep q (by decide)⟩
        · exact absurd q no2_keep) (fun x h1 hp => ?_)
  refine V_i2l_ G dL_keep_7 ?_
  refine V_last G dL_keep_8 (by first | decide | assumption) (by first | rfl | assumption) (by decide) ⟨by omega, by omega⟩ ?_
  refine V_goto G dL_keep_9 (tgt := 15) (by decide) ?_
  refine V_iconst G dL_keep_15 ?_
  exact V_reti E dL_keep_16 rfl rfl ⟨_, rfl, op_ok hp⟩

theorem er_goBack {g : Sg} {k : Int} : (opBack g k).1 ≠ 0 → (opBack g k).2.2 = g := by
  unfold opBack
  repeat' split
  all_goals simp
set_option maxRecDepth 100000 in
set_option maxHeartbeats 1600000 in
theorem c_L_goBack {l : Launch} {d : Nat} {h : Hp} (hlt : l.stackTraces = false) (r : Rg h) {g : Sg} (R : RepC g h) (I : InvS g) {k : Int} (hk : inr k) (hd : 41 ≤ d := by omega) : CH l d 2 12 yL_goBack cL_goBack 4 (Option.some Jvm.ClassFile.FieldType.int) [(0, 9, 12, 13), (0, 9, 15, 15)] [.ref 0, iv k, .ref 97] h (pI (opW (opBack g k) h)) := by
  refine CH.ofV (L := [some (.ref 0), some (.int (Int32.ofInt k)), some (.ref 97), none]) RL (by decide +kernel) rfl (Nat.le_of_ble_eq_true rfl) rfl (fun X hX G Y E => ?_)
  subst hX
  refine V_aload2 G dL_goBack_0 ?_
  refine V_iconst G dL_goBack_1 ?_
  refine V_aload0 G dL_goBack_2 ?_
  refine V_iload1 G dL_goBack_3 ?_
  refine V_hV1_3 (d1 := 40) (kc1 := 2) (ks1 := 12) G Y m_L_51 dL_goBack_4 (by decide) rfl ((c_X6_goBack hlt r R I hk)) rfl (by omega) (by omega) (by omega) (Nat.le_of_ble_eq_true rfl) (fun E h1 q => by
        obtain ⟨rfl, q⟩ := q
        rcases q with ⟨q, rfl⟩ | ⟨q, rfl⟩
        · refine ⟨12, Or.inl ⟨9, 13, _, rfl, by decide, by decide, lk_IAE, by decide⟩, dL_goBack_12, ?_⟩
          refine V_iconst G dL_goBack_13 ?_
          exact V_reti E dL_goBack_14 rfl rfl ⟨_, rfl, op_er R r er_goBack q (by decide)⟩
        · refine ⟨15, Or.inr ⟨9, 12, 13, IAE, 15, _, rfl, by decide, by decide, by decide, lk_IAE, by decide, lk_ISE, by decide⟩, dL_goBack_15, ?_⟩
          refine V_iconst G dL_goBack_16 ?_
          exact V_reti E dL_goBack_17 rfl rfl ⟨_, rfl, op_er R r er_goBack q (by decide)⟩) (fun x h1 hp => ?_)
  refine V_i2l_ G dL_goBack_7 ?_
  refine V_last G dL_goBack_8 (by first | decide | assumption) (by first | rfl | assumption) (by decide) ⟨by omega, by omega⟩ ?_
  refine V_goto G dL_goBack_9 (tgt := 18) (by decide) ?_
  refine V_iconst G dL_goBack_18 ?_
  exact V_reti E dL_goBack_19 rfl rfl ⟨_, rfl, op_ok hp⟩

theorem er_undo {g : Sg}  : (opUndo g).1 ≠ 0 → (opUndo g).2.2 = g := by
  unfold opUndo
  repeat' split
  all_goals simp
theorem no2_undo {g : Sg}  : ¬ (opUndo g).1 = 2 := by
  unfold opUndo
  repeat' split
  all_goals simp
set_option maxRecDepth 100000 in
set_option maxHeartbeats 1600000 in
theorem c_L_undo {l : Launch} {d : Nat} {h : Hp} (hlt : l.stackTraces = false) (r : Rg h) {g : Sg} (R : RepC g h) (I : InvS g)  (hd : 41 ≤ d := by omega) : CH l d 1 6 yL_undo cL_undo 3 (Option.some Jvm.ClassFile.FieldType.int) [(0, 8, 11, 15)] [.ref 0, .ref 97] h (pI (opW (opUndo g) h)) := by
  refine CH.ofV (L := [some (.ref 0), some (.ref 97), none]) RL (by decide +kernel) rfl (Nat.le_of_ble_eq_true rfl) rfl (fun X hX G Y E => ?_)
  subst hX
  refine V_aload1 G dL_undo_0 ?_
  refine V_iconst G dL_undo_1 ?_
  refine V_aload0 G dL_undo_2 ?_
  refine V_hV0_2 (d1 := 40) (kc1 := 1) (ks1 := 6) G Y m_L_54 dL_undo_3 (by decide) rfl ((c_X6_undo hlt r R I)) rfl (by omega) (by omega) (by omega) (Nat.le_of_ble_eq_true rfl) (fun E h1 q => by
        obtain ⟨rfl, q⟩ := q
        rcases q with ⟨q, rfl⟩ | ⟨q, rfl⟩
        · refine ⟨11, Or.inl ⟨8, 15, _, rfl, by decide, by decide, lk_ISE, by decide⟩, dL_undo_11, ?_⟩
          refine V_iconst G dL_undo_12 ?_
          exact V_reti E dL_undo_13 rfl rfl ⟨_, rfl, op_er R r er_undo q (by decide)⟩
        · exact absurd q no2_undo) (fun x h1 hp => ?_)
  refine V_i2l_ G dL_undo_6 ?_
  refine V_last G dL_undo_7 (by first | decide | assumption) (by first | rfl | assumption) (by decide) ⟨by omega, by omega⟩ ?_
  refine V_goto G dL_undo_8 (tgt := 14) (by decide) ?_
  refine V_iconst G dL_undo_14 ?_
  exact V_reti E dL_undo_15 rfl rfl ⟨_, rfl, op_ok hp⟩

theorem er_wordOf {g : Sg} {w : Int} {q : Int} : (opWord g w q).1 ≠ 0 → (opWord g w q).2.2 = g := by
  unfold opWord
  repeat' split
  all_goals simp
set_option maxRecDepth 100000 in
set_option maxHeartbeats 1600000 in
theorem c_L_wordOf {l : Launch} {d : Nat} {h : Hp} (hlt : l.stackTraces = false) (r : Rg h) {g : Sg} (R : RepC g h) (I : InvS g) {w : Int} (hw : inr w) {q : Int} (hq : inr q) (hd : 41 ≤ d := by omega) : CH l d 2 12 yL_wordOf cL_wordOf 5 (Option.some Jvm.ClassFile.FieldType.int) [(0, 10, 13, 21), (0, 10, 17, 13)] [.ref 0, iv w, iv q, .ref 97] h (pI (opW (opWord g w q) h)) := by
  refine CH.ofV (L := [some (.ref 0), some (.int (Int32.ofInt w)), some (.int (Int32.ofInt q)), some (.ref 97), none]) RL (by decide +kernel) rfl (Nat.le_of_ble_eq_true rfl) rfl (fun X hX G Y E => ?_)
  subst hX
  refine V_aload3 G dL_wordOf_0 ?_
  refine V_iconst G dL_wordOf_1 ?_
  refine V_aload0 G dL_wordOf_2 ?_
  refine V_iload1 G dL_wordOf_3 ?_
  refine V_iload2 G dL_wordOf_4 ?_
  refine V_hV2_4 (d1 := 40) (kc1 := 2) (ks1 := 12) G Y m_L_57 dL_wordOf_5 (by decide) rfl ((c_X6_wordOf hlt r R I hw hq)) rfl (by omega) (by omega) (by omega) (Nat.le_of_ble_eq_true rfl) (fun E h1 q => by
        obtain ⟨rfl, q⟩ := q
        rcases q with ⟨q, rfl⟩ | ⟨q, rfl⟩
        · refine ⟨13, Or.inl ⟨10, 21, _, rfl, by decide, by decide, lk_IOB, by decide⟩, dL_wordOf_13, ?_⟩
          refine V_iconst G dL_wordOf_15 ?_
          exact V_reti E dL_wordOf_16 rfl rfl ⟨_, rfl, op_er R r er_wordOf q (by decide)⟩
        · refine ⟨17, Or.inr ⟨10, 13, 21, IOB, 13, _, rfl, by decide, by decide, by decide, lk_IOB, by decide, lk_IAE, by decide⟩, dL_wordOf_17, ?_⟩
          refine V_iconst G dL_wordOf_19 ?_
          exact V_reti E dL_wordOf_20 rfl rfl ⟨_, rfl, op_er R r er_wordOf q (by decide)⟩) (fun x h1 hp => ?_)
  refine V_i2l_ G dL_wordOf_8 ?_
  refine V_last G dL_wordOf_9 (by first | decide | assumption) (by first | rfl | assumption) (by decide) ⟨by omega, by omega⟩ ?_
  refine V_goto G dL_wordOf_10 (tgt := 21) (by decide) ?_
  refine V_iconst G dL_wordOf_21 ?_
  exact V_reti E dL_wordOf_22 rfl rfl ⟨_, rfl, op_ok hp⟩

theorem er_readingOf {g : Sg} {p : Int} {q : Int} : (opRead g p q).1 ≠ 0 → (opRead g p q).2.2 = g := by
  unfold opRead
  repeat' split
  all_goals simp
set_option maxRecDepth 100000 in
set_option maxHeartbeats 1600000 in
theorem c_L_readingOf {l : Launch} {d : Nat} {h : Hp} (hlt : l.stackTraces = false) (r : Rg h) {g : Sg} (R : RepC g h) (I : InvS g) {p : Int} (hp : inr p) {q : Int} (hq : inr q) (hd : 41 ≤ d := by omega) : CH l d 2 12 yL_readingOf cL_readingOf 5 (Option.some Jvm.ClassFile.FieldType.int) [(0, 10, 13, 21), (0, 10, 17, 13)] [.ref 0, iv p, iv q, .ref 97] h (pI (opW (opRead g p q) h)) := by
  refine CH.ofV (L := [some (.ref 0), some (.int (Int32.ofInt p)), some (.int (Int32.ofInt q)), some (.ref 97), none]) RL (by decide +kernel) rfl (Nat.le_of_ble_eq_true rfl) rfl (fun X hX G Y E => ?_)
  subst hX
  refine V_aload3 G dL_readingOf_0 ?_
  refine V_iconst G dL_readingOf_1 ?_
  refine V_aload0 G dL_readingOf_2 ?_
  refine V_iload1 G dL_readingOf_3 ?_
  refine V_iload2 G dL_readingOf_4 ?_
  refine V_hV2_4 (d1 := 40) (kc1 := 2) (ks1 := 12) G Y m_L_60 dL_readingOf_5 (by decide) rfl ((c_X6_readingOf hlt r R I hp hq)) rfl (by omega) (by omega) (by omega) (Nat.le_of_ble_eq_true rfl) (fun E h1 q => by
        obtain ⟨rfl, q⟩ := q
        rcases q with ⟨q, rfl⟩ | ⟨q, rfl⟩
        · refine ⟨13, Or.inl ⟨10, 21, _, rfl, by decide, by decide, lk_IOB, by decide⟩, dL_readingOf_13, ?_⟩
          refine V_iconst G dL_readingOf_15 ?_
          exact V_reti E dL_readingOf_16 rfl rfl ⟨_, rfl, op_er R r er_readingOf q (by decide)⟩
        · refine ⟨17, Or.inr ⟨10, 13, 21, IOB, 13, _, rfl, by decide, by decide, by decide, lk_IOB, by decide, lk_IAE, by decide⟩, dL_readingOf_17, ?_⟩
          refine V_iconst G dL_readingOf_19 ?_
          exact V_reti E dL_readingOf_20 rfl rfl ⟨_, rfl, op_er R r er_readingOf q (by decide)⟩) (fun x h1 hp => ?_)
  refine V_i2l_ G dL_readingOf_8 ?_
  refine V_last G dL_readingOf_9 (by first | decide | assumption) (by first | rfl | assumption) (by decide) ⟨by omega, by omega⟩ ?_
  refine V_goto G dL_readingOf_10 (tgt := 21) (by decide) ?_
  refine V_iconst G dL_readingOf_21 ?_
  exact V_reti E dL_readingOf_22 rfl rfl ⟨_, rfl, op_ok hp⟩

theorem er_count {g : Sg} {q : Int} : (opCount g q).1 ≠ 0 → (opCount g q).2.2 = g := by
  unfold opCount
  repeat' split
  all_goals simp
theorem no2_count {g : Sg} {q : Int} : ¬ (opCount g q).1 = 2 := by
  unfold opCount
  repeat' split
  all_goals simp
set_option maxRecDepth 100000 in
set_option maxHeartbeats 1600000 in
theorem c_L_count {l : Launch} {d : Nat} {h : Hp} (hlt : l.stackTraces = false) (r : Rg h) {g : Sg} (R : RepC g h) (I : InvS g) {q : Int} (hq : inr q) (hd : 41 ≤ d := by omega) : CH l d 1 6 yL_count cL_count 4 (Option.some Jvm.ClassFile.FieldType.int) [(0, 9, 12, 13)] [.ref 0, iv q, .ref 97] h (pI (opW (opCount g q) h)) := by
  refine CH.ofV (L := [some (.ref 0), some (.int (Int32.ofInt q)), some (.ref 97), none]) RL (by decide +kernel) rfl (Nat.le_of_ble_eq_true rfl) rfl (fun X hX G Y E => ?_)
  subst hX
  refine V_aload2 G dL_count_0 ?_
  refine V_iconst G dL_count_1 ?_
  refine V_aload0 G dL_count_2 ?_
  refine V_iload1 G dL_count_3 ?_
  refine V_hV1_3 (d1 := 40) (kc1 := 1) (ks1 := 6) G Y m_L_63 dL_count_4 (by decide) rfl ((c_X6_count hlt r R I hq)) rfl (by omega) (by omega) (by omega) (Nat.le_of_ble_eq_true rfl) (fun E h1 q => by
        obtain ⟨rfl, q⟩ := q
        rcases q with ⟨q, rfl⟩ | ⟨q, rfl⟩
        · refine ⟨12, Or.inl ⟨9, 13, _, rfl, by decide, by decide, lk_IAE, by decide⟩, dL_count_12, ?_⟩
          refine V_iconst G dL_count_13 ?_
          exact V_reti E dL_count_14 rfl rfl ⟨_, rfl, op_er R r er_count q (by decide)⟩
        · exact absurd q no2_count) (fun x h1 hp => ?_)
  refine V_i2l_ G dL_count_7 ?_
  refine V_last G dL_count_8 (by first | decide | assumption) (by first | rfl | assumption) (by decide) ⟨by omega, by omega⟩ ?_
  refine V_goto G dL_count_9 (tgt := 15) (by decide) ?_
  refine V_iconst G dL_count_15 ?_
  exact V_reti E dL_count_16 rfl rfl ⟨_, rfl, op_ok hp⟩

theorem er_part {g : Sg} {i : Int} {j : Int} {q : Int} : (opPart g i j q).1 ≠ 0 → (opPart g i j q).2.2 = g := by
  unfold opPart
  repeat' split
  all_goals simp
set_option maxRecDepth 100000 in
set_option maxHeartbeats 1600000 in
theorem c_L_part {l : Launch} {d : Nat} {h : Hp} (hlt : l.stackTraces = false) (r : Rg h) {g : Sg} (R : RepC g h) (I : InvS g) {i : Int} (hi : inr i) {j : Int} (hj : inr j) {q : Int} (hq : inr q) (hd : 41 ≤ d := by omega) : CH l d 1 6 yL_part cL_part 6 (Option.some Jvm.ClassFile.FieldType.int) [(0, 12, 15, 21), (0, 12, 19, 13)] [.ref 0, iv i, iv j, iv q, .ref 97] h (pI (opW (opPart g i j q) h)) := by
  refine CH.ofV (L := [some (.ref 0), some (.int (Int32.ofInt i)), some (.int (Int32.ofInt j)), some (.int (Int32.ofInt q)), some (.ref 97), none]) RL (by decide +kernel) rfl (Nat.le_of_ble_eq_true rfl) rfl (fun X hX G Y E => ?_)
  subst hX
  refine V_aload4 G dL_part_0 ?_
  refine V_iconst G dL_part_2 ?_
  refine V_aload0 G dL_part_3 ?_
  refine V_iload1 G dL_part_4 ?_
  refine V_iload2 G dL_part_5 ?_
  refine V_iload3 G dL_part_6 ?_
  refine V_hV3_5 (d1 := 40) (kc1 := 1) (ks1 := 6) G Y m_L_66 dL_part_7 (by decide) rfl ((c_X6_part hlt r R I hi hj hq)) rfl (by omega) (by omega) (by omega) (Nat.le_of_ble_eq_true rfl) (fun E h1 q => by
        obtain ⟨rfl, q⟩ := q
        rcases q with ⟨q, rfl⟩ | ⟨q, rfl⟩
        · refine ⟨15, Or.inl ⟨12, 21, _, rfl, by decide, by decide, lk_IOB, by decide⟩, dL_part_15, ?_⟩
          refine V_iconst G dL_part_17 ?_
          exact V_reti E dL_part_18 rfl rfl ⟨_, rfl, op_er R r er_part q (by decide)⟩
        · refine ⟨19, Or.inr ⟨12, 15, 21, IOB, 13, _, rfl, by decide, by decide, by decide, lk_IOB, by decide, lk_IAE, by decide⟩, dL_part_19, ?_⟩
          refine V_iconst G dL_part_21 ?_
          exact V_reti E dL_part_22 rfl rfl ⟨_, rfl, op_er R r er_part q (by decide)⟩) (fun x h1 hp => ?_)
  refine V_i2l_ G dL_part_10 ?_
  refine V_last G dL_part_11 (by first | decide | assumption) (by first | rfl | assumption) (by decide) ⟨by omega, by omega⟩ ?_
  refine V_goto G dL_part_12 (tgt := 23) (by decide) ?_
  refine V_iconst G dL_part_23 ?_
  exact V_reti E dL_part_24 rfl rfl ⟨_, rfl, op_ok hp⟩

theorem er_ifFixed {g : Sg} {w : Int} {z : Int} : (opIf g w z).1 ≠ 0 → (opIf g w z).2.2 = g := by
  unfold opIf
  repeat' split
  all_goals simp
theorem no2_ifFixed {g : Sg} {w : Int} {z : Int} : ¬ (opIf g w z).1 = 2 := by
  unfold opIf
  repeat' split
  all_goals simp
set_option maxRecDepth 100000 in
set_option maxHeartbeats 1600000 in
theorem c_L_ifFixed {l : Launch} {d : Nat} {h : Hp} (hlt : l.stackTraces = false) (r : Rg h) {g : Sg} (R : RepC g h) (I : InvS g) {w : Int} (hw : inr w) {z : Int} (hz : inr z) (hd : 41 ≤ d := by omega) : CH l d 2 12 yL_ifFixed cL_ifFixed 5 (Option.some Jvm.ClassFile.FieldType.int) [(0, 10, 13, 21)] [.ref 0, iv w, iv z, .ref 97] h (pI (opW (opIf g w z) h)) := by
  refine CH.ofV (L := [some (.ref 0), some (.int (Int32.ofInt w)), some (.int (Int32.ofInt z)), some (.ref 97), none]) RL (by decide +kernel) rfl (Nat.le_of_ble_eq_true rfl) rfl (fun X hX G Y E => ?_)
  subst hX
  refine V_aload3 G dL_ifFixed_0 ?_
  refine V_iconst G dL_ifFixed_1 ?_
  refine V_aload0 G dL_ifFixed_2 ?_
  refine V_iload1 G dL_ifFixed_3 ?_
  refine V_iload2 G dL_ifFixed_4 ?_
  refine V_hV2_4 (d1 := 40) (kc1 := 2) (ks1 := 12) G Y m_L_70 dL_ifFixed_5 (by decide) rfl ((c_X6_ifFixed hlt r R I hw hz)) rfl (by omega) (by omega) (by omega) (Nat.le_of_ble_eq_true rfl) (fun E h1 q => by
        obtain ⟨rfl, q⟩ := q
        rcases q with ⟨q, rfl⟩ | ⟨q, rfl⟩
        · refine ⟨13, Or.inl ⟨10, 21, _, rfl, by decide, by decide, lk_IOB, by decide⟩, dL_ifFixed_13, ?_⟩
          refine V_iconst G dL_ifFixed_15 ?_
          exact V_reti E dL_ifFixed_16 rfl rfl ⟨_, rfl, op_er R r er_ifFixed q (by decide)⟩
        · exact absurd q no2_ifFixed) (fun x h1 hp => ?_)
  refine V_i2l_ G dL_ifFixed_8 ?_
  refine V_last G dL_ifFixed_9 (by first | decide | assumption) (by first | rfl | assumption) (by decide) ⟨by omega, by omega⟩ ?_
  refine V_goto G dL_ifFixed_10 (tgt := 17) (by decide) ?_
  refine V_iconst G dL_ifFixed_17 ?_
  exact V_reti E dL_ifFixed_18 rfl rfl ⟨_, rfl, op_ok hp⟩

end C23
