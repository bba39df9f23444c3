section VL
/-- the good words of the tables: every method's words but its own code -/
def tw : List Cond := lw_tbl.filter goodWord
theorem tw_in {w : Cond} (h : w ∈ lw_tbl) (g : goodWord w = true) : w ∈ tw := List.mem_filter.mpr ⟨h, g⟩
theorem tw_good {w : Cond} (h : w ∈ tw) : goodWord w = true := (List.mem_filter.mp h).2
theorem gi_tw {y : MethodName} {cc : ByteArray} {maxL : Nat} {ret : Option FieldType} (h : Cond.code y cc maxL ret ∈ tw) : GoodIn tw (Cond.code y cc maxL ret :: tw) := by
  intro w hw
  rcases List.mem_cons.mp hw with rfl | hw
  · exact ⟨h, good_of_word (tw_good h)⟩
  · exact ⟨hw, good_of_word (tw_good hw)⟩
/-- what changes: the ints, the longs, the elements of arrays of references; by place and index -/
abbrev Hp : Type := (Nat → Nat → Int32) × (Nat → Nat → Int64) × (Nat → Nat → Option Nat)
def hI (h : Hp) : Nat → Nat → Int32 := h.1
def hL (h : Hp) : Nat → Nat → Int64 := h.2.1
def hR (h : Hp) : Nat → Nat → Option Nat := h.2.2
def u2 {α : Type} (f : Nat → Nat → α) (q j : Nat) (v : α) : Nat → Nat → α := fun a b => if a = q ∧ b = j then v else f a b
def sI (h : Hp) (q j : Nat) (v : Int32) : Hp := (u2 h.1 q j v, h.2)
def sL (h : Hp) (q j : Nat) (v : Int64) : Hp := (h.1, u2 h.2.1 q j v, h.2.2)
def sR (h : Hp) (q j : Nat) (v : Option Nat) : Hp := (h.1, h.2.1, u2 h.2.2 q j v)
def SH (q : Nat) : Nat ⊕ (Nat × Nat) := SHl.getD q (.inl 0)
def RF (q j : Nat) : Option Nat := (RFl.getD q []).getD j none
def fkd (ci j : Nat) : Nat := (FK.getD ci []).getD j 0
def nFd (ci : Nat) : Nat := (FK.getD ci []).length
def vm (σ : Nat → Nat) : Value → Value
  | .ref a => .ref (σ a)
  | v => v
def fvk (σ : Nat → Nat) (q : Nat) (fI : Nat → Int32) (fL : Nat → Int64) (j : Nat) : Nat → Value
  | 0 => .int (fI j)
  | 1 => .long (fL j)
  | _ => va_rf ((RF q j).map σ)
def cek (σ : Nat → Nat) (cA : Nat → ClassId) (q : Nat) (fI : Nat → Int32) (fL : Nat → Int64) (fR : Nat → Option Nat) : Nat ⊕ (Nat × Nat) → va_E
  | .inl ci => .inr (ci, (List.range (nFd ci)).map (fun j => fvk σ q fI fL j (fkd ci j)))
  | .inr (0, n) => .inl (cA 0, n, .inl fI)
  | .inr (1, n) => .inl (cA 1, n, .inr (.inl fL))
  | .inr (2, n) => .inl (cA 2, n, .inl fI)
  | .inr (_, n) => .inl (cA 3, n, .inr (.inr (.inr (.inr (fun j => (fR j).map σ)))))
def ce (σ : Nat → Nat) (cA : Nat → ClassId) (h : Hp) (q : Nat) : va_E := cek σ cA q (hI h q) (hL h q) (hR h q) (SH q)
def wd (σ : Nat → Nat) (cA : Nat → ClassId) (h : Hp) : va_W := (List.range NN).map (fun q => (σ q, ce σ cA h q))
def atys (cA : Nat → ClassId) : List (ClassId × FieldType) := [(cA 0, .int), (cA 1, .long), (cA 2, .boolean), (cA 3, .object "java/lang/Object")]
theorem wd_get {σ : Nat → Nat} {cA : Nat → ClassId} {h : Hp} {q : Nat} (hq : q < NN) : (wd σ cA h)[q]? = some (σ q, ce σ cA h q) := by
  unfold wd
  rw [List.getElem?_map, List.getElem?_range hq]
  rfl
theorem wd_len {σ : Nat → Nat} {cA : Nat → ClassId} {h : Hp} : (wd σ cA h).length = NN := by simp [wd]
theorem wd_at {σ : Nat → Nat} {cA : Nat → ClassId} {h : Hp} {k : Nat} {p : Nat × va_E} (hk : (wd σ cA h)[k]? = some p) : k < NN ∧ p = (σ k, ce σ cA h k) := by
  have hl : k < NN := by
    have := (List.getElem?_eq_some_iff.mp hk).1
    rwa [wd_len] at this
  rw [wd_get hl] at hk
  exact ⟨hl, (Option.some.inj hk).symm⟩
theorem wd_set {σ : Nat → Nat} {cA : Nat → ClassId} {h h' : Hp} {q : Nat} {e : va_E} (hq : q < NN) (he : ce σ cA h' q = e) (ho : ∀ j, j ≠ q → ce σ cA h' j = ce σ cA h j) : (wd σ cA h).set q (σ q, e) = wd σ cA h' := by
  subst he
  apply List.ext_getElem?
  intro i
  by_cases hi : i = q
  · subst hi
    rw [List.getElem?_set_self (by rw [wd_len]; exact hq), wd_get hq]
  · rw [List.getElem?_set_ne (Ne.symm hi)]
    by_cases hl : i < NN
    · rw [wd_get hl, wd_get hl, ho i hi]
    · rw [List.getElem?_eq_none (by rw [wd_len]; omega), List.getElem?_eq_none (by rw [wd_len]; omega)]
theorem u2_ne {α : Type} {f : Nat → Nat → α} {q i j : Nat} {v : α} (hj : j ≠ q) : u2 f q i v j = f j := by
  funext b
  simp [u2, hj]
theorem u2_eq {α : Type} {f : Nat → Nat → α} {q i : Nat} {v : α} : u2 f q i v q = fun b => if b = i then v else f q b := by
  funext b
  simp [u2]
theorem ce_sI {σ : Nat → Nat} {cA : Nat → ClassId} {h : Hp} {q i : Nat} {v : Int32} : ∀ j, j ≠ q → ce σ cA (sI h q i v) j = ce σ cA h j := by
  intro j hj
  show cek σ cA j (u2 h.1 q i v j) _ _ _ = cek σ cA j (h.1 j) _ _ _
  rw [u2_ne hj]
  rfl
theorem ce_sL {σ : Nat → Nat} {cA : Nat → ClassId} {h : Hp} {q i : Nat} {v : Int64} : ∀ j, j ≠ q → ce σ cA (sL h q i v) j = ce σ cA h j := by
  intro j hj
  show cek σ cA j _ (u2 h.2.1 q i v j) _ _ = cek σ cA j _ (h.2.1 j) _ _
  rw [u2_ne hj]
  rfl
theorem ce_sR {σ : Nat → Nat} {cA : Nat → ClassId} {h : Hp} {q i : Nat} {v : Option Nat} : ∀ j, j ≠ q → ce σ cA (sR h q i v) j = ce σ cA h j := by
  intro j hj
  show cek σ cA j _ _ (u2 h.2.2 q i v j) _ = cek σ cA j _ _ (h.2.2 j) _
  rw [u2_ne hj]
  rfl
/-- the addresses are apart, and may be written -/
def adr (σ : Nat → Nat) (A : Nat → Prop) : Prop := (∀ i j, i < NN → j < NN → σ i = σ j → i = j) ∧ ∀ i, i < NN → A (σ i)
theorem adr_D {σ : Nat → Nat} {A : Nat → Prop} {cA : Nat → ClassId} {h : Hp} (a : adr σ A) : va_D A (wd σ cA h) := by
  refine ⟨fun i j p q hi hj e => ?_, fun k q hk => ?_⟩
  · obtain ⟨h1, rfl⟩ := wd_at hi
    obtain ⟨h2, rfl⟩ := wd_at hj
    exact a.1 i j h1 h2 e
  · obtain ⟨h1, rfl⟩ := wd_at hk
    exact a.2 k h1
/-- what a method may write: the world's cells, and those that it makes -/
def AA (σ : Nat → Nat) (sz : Nat) : Nat → Prop := fun q => (∃ k, k < NN ∧ q = σ k) ∨ sz ≤ q
theorem adr_AA {σ : Nat → Nat} {A : Nat → Prop} {sz : Nat} (a : adr σ A) : adr σ (AA σ sz) := ⟨a.1, fun i hi => Or.inl ⟨i, hi, rfl⟩⟩
/-- the locals: what each holds, as far as it is known -/
def prs (σ : Nat → Nat) (L : List (Option Value)) : List (Nat × Value) := (List.range L.length).filterMap (fun i => (L.getD i none).map (fun v => (i, vm σ v)))
def lok (σ : Nat → Nat) (nL : Nat) (L : List (Option Value)) (lr : Array Slot) : Prop := L.length = nL ∧ lv_has lr nL (prs σ L)
theorem prs_mem {σ : Nat → Nat} {L : List (Option Value)} {q : Nat × Value} : q ∈ prs σ L ↔ ∃ v, L[q.1]? = some (some v) ∧ q.2 = vm σ v := by
  unfold prs
  rw [List.mem_filterMap]
  constructor
  · rintro ⟨i, hi, h⟩
    have hl := List.mem_range.mp hi
    rw [List.getD_eq_getElem?_getD, List.getElem?_eq_getElem hl] at h
    cases hv : L[i] with
    | none => simp [hv] at h
    | some v =>
      simp [hv] at h
      refine ⟨v, ?_, by rw [← h]⟩
      rw [← h]
      simp [hl, hv]
  · rintro ⟨v, h1, h2⟩
    have hl := (List.getElem?_eq_some_iff.mp h1).1
    refine ⟨q.1, List.mem_range.mpr hl, ?_⟩
    rw [List.getD_eq_getElem?_getD, h1]
    simp [← h2]
theorem lok_at {σ : Nat → Nat} {nL : Nat} {L : List (Option Value)} {lr : Array Slot} (h : lok σ nL L lr) {i : Nat} {v : Value} (hi : L[i]? = some (some v)) : lr[i]? = some (.val (vm σ v)) :=
  h.2.2.2 (i, vm σ v) (prs_mem.mpr ⟨v, hi, rfl⟩)
theorem vm_cat {σ : Nat → Nat} {v : Value} : (vm σ v).category = v.category := by cases v <;> rfl
/-- an entry whose second half isn't the next one -/
def c1 : Option Value → Bool
  | some v => v.category == 1
  | none => true
def c1l (pre : List (Option Value)) : Bool := match pre.getLast? with
  | some o => c1 o
  | none => true
theorem c1l_at {pre : List (Option Value)} (h : c1l pre = true) {j : Nat} {w : Value} (hj : pre[j]? = some (some w)) (he : j + 1 = pre.length) : w.category = 1 := by
  have e : pre.getLast? = some (some w) := by
    rw [List.getLast?_eq_getElem?, show pre.length - 1 = j by omega]
    exact hj
  unfold c1l at h
  rw [e] at h
  simpa [c1] using h
theorem lok_set1 {σ : Nat → Nat} {nL : Nat} {pre t : List (Option Value)} {b : Option Value} {v : Value} {lr : Array Slot} (hl : (pre ++ b :: t).length = nL) (hp : c1l pre = true)
    (h : lv_has lr nL ((pre.length, vm σ v) :: (prs σ (pre ++ b :: t)).filter (fun q => !(q.1 == pre.length) && !(q.1 + 1 == pre.length && q.2.category == 2)))) : lok σ nL (pre ++ some v :: t) lr := by
  refine ⟨by rw [← hl]; simp, h.1, h.2.1, fun q hq => h.2.2 q ?_⟩
  obtain ⟨w, h1, h2⟩ := prs_mem.mp hq
  by_cases hk : q.1 = pre.length
  · rw [hk, List.getElem?_append_right (Nat.le_refl _), Nat.sub_self] at h1
    simp at h1
    refine List.mem_cons.mpr (Or.inl ?_)
    rw [h1, ← h2, ← hk]
  · refine List.mem_cons_of_mem _ (List.mem_filter.mpr ⟨prs_mem.mpr ⟨w, ?_, h2⟩, ?_⟩)
    · by_cases hlt : q.1 < pre.length
      · rw [List.getElem?_append_left hlt] at h1 ⊢
        exact h1
      · rw [List.getElem?_append_right (by omega)] at h1 ⊢
        obtain ⟨z, hz⟩ : ∃ z, q.1 - pre.length = z + 1 := ⟨q.1 - pre.length - 1, by omega⟩
        rw [hz] at h1 ⊢
        simpa using h1
    · by_cases hlt : q.1 + 1 = pre.length
      · have h3 : pre[q.1]? = some (some w) := by
          rw [List.getElem?_append_left (by omega)] at h1
          exact h1
        have h4 := c1l_at hp h3 hlt
        rw [h2, vm_cat, h4]
        simp [hk]
      · simp [hk, hlt]
theorem lok_set2 {σ : Nat → Nat} {nL : Nat} {pre t : List (Option Value)} {b b2 : Option Value} {v : Value} {lr : Array Slot} (hl : (pre ++ b :: b2 :: t).length = nL) (hp : c1l pre = true)
    (h : lv_has lr nL ((pre.length, vm σ v) :: (prs σ (pre ++ b :: b2 :: t)).filter (fun q => !(q.1 == pre.length) && (!(q.1 == pre.length + 1) && !(q.1 + 1 == pre.length && q.2.category == 2))))) : lok σ nL (pre ++ some v :: none :: t) lr := by
  refine ⟨by rw [← hl]; simp, h.1, h.2.1, fun q hq => h.2.2 q ?_⟩
  obtain ⟨w, h1, h2⟩ := prs_mem.mp hq
  by_cases hk : q.1 = pre.length
  · rw [hk, List.getElem?_append_right (Nat.le_refl _), Nat.sub_self] at h1
    simp at h1
    refine List.mem_cons.mpr (Or.inl ?_)
    rw [h1, ← h2, ← hk]
  · by_cases hk2 : q.1 = pre.length + 1
    · rw [hk2, List.getElem?_append_right (by omega), show pre.length + 1 - pre.length = 1 by omega] at h1
      simp at h1
    · refine List.mem_cons_of_mem _ (List.mem_filter.mpr ⟨prs_mem.mpr ⟨w, ?_, h2⟩, ?_⟩)
      · by_cases hlt : q.1 < pre.length
        · rw [List.getElem?_append_left hlt] at h1 ⊢
          exact h1
        · rw [List.getElem?_append_right (by omega)] at h1 ⊢
          obtain ⟨z, hz⟩ : ∃ z, q.1 - pre.length = z + 2 := ⟨q.1 - pre.length - 2, by omega⟩
          rw [hz] at h1 ⊢
          simpa using h1
      · by_cases hlt : q.1 + 1 = pre.length
        · have h3 : pre[q.1]? = some (some w) := by
            rw [List.getElem?_append_left (by omega)] at h1
            exact h1
          have h4 := c1l_at hp h3 hlt
          rw [h2, vm_cat, h4]
          simp [hk, hk2]
        · simp [hk, hk2, hlt]
/-- what is known of the start, beside the world: the nest's links -/
def nwl : List (String × Nat × MethodName × String) := [("SlantSlate", 18, ⟨"SlantSlate$Readings", "<init>", "()V"⟩, "SlantSlate"), ("SlantSlate", 25, ⟨"SlantSlate$Parts", "<init>", "()V"⟩, "SlantSlate"), ("SlantSlate$Parts", 11, ⟨"SlantSlate$Grid", "<init>", "()V"⟩, "SlantSlate"), ("SlantSlate", 40, ⟨"SlantSlate$Drawing", "<init>", "()V"⟩, "SlantSlate")]
def GE (_ : Nat → Prop) (U : State) (_ : Heap) : Prop := ∀ q ∈ nwl, va_Nw (.methodLinkNest q.1 q.2.1 q.2.2.1 q.2.2.2) U
theorem GE.pass {A B : Nat → Prop} {s U : State} {H H1 : Heap} {locs : List Loc} (h : GE A s H) (_ : va_S A H H1 locs) (hW : s.WarmedH U.vm) (_ : ∀ q, q < H1.size → B q → A q) : GE B U H1 := fun q hq => va_Nw.warmM hW (h q hq)
theorem GE.same {A : Nat → Prop} {u U : State} {H : Heap} (h : GE A u H) (hv : u.vm = U.vm) : GE A U H := fun q hq => va_Nw.same rfl hv (h q hq)
/-- all that a walk stands in: program, launch, env, room, start, method, args, frames below, method, code, classes' numbers, arrays' classes, what may be written, records of draws, the end, the places' addresses, how many locals -/
abbrev Cxt : Type := Program × Launch × Env × Room × State × MethodId × Array Value × List Frame × Method × Code × va_G × (Nat → ClassId) × (Nat → Prop) × (Drawn → Prop) × (State → Prop) × (Nat → Nat) × Nat
/-- from every state with the heap h at the places, with these locals and this stack, the machine comes to its end -/
def V (X : Cxt) (k n pc : Nat) (ls : List (Option Value)) (st : List Value) (h : Hp) : Prop := match X with
  | (p, l, e, R, s, m, args, below, meth, c, D, cA, A, Dp, Q, σ, nL) => ∀ (H : Heap) (locs : List Loc) (d0 : Drawn) (lr : Array Slot), Dp d0 → va_P D vwCl (wd σ cA h) H → va_S A s.heap H locs → lok σ nL ls lr → W p l e R (s.setDrawn d0) m args below meth c H locs k n Q (F0 m pc lr (st.map (vm σ)))
/-- the walk's own facts: own class, code, locals; depth, cells and slots -/
def Gd (X : Cxt) (own : String) (cc : ByteArray) (d kc ks : Nat) : Prop := match X with
  | (p, _, _, R, s, m, args, _, meth, c, D, cA, A, _, _, σ, nL) => p.tables.exec = Jvm.exec ∧ c.code = cc ∧ c.maxLocals = nL ∧ s.vm.findClass own = some m.cls ∧ (∀ w ∈ tw, w.before args s = true) ∧ va_K D vwCl (atys cA) s ∧ adr σ A ∧ (∀ q, s.heap.size ≤ q → A q) ∧ GE A s s.heap ∧ meth.locks = false ∧ d ≤ R.frames ∧ 64 * d ≤ R.locals ∧ kc ≤ R.cells ∧ ks ≤ R.slots
/-- contracts -/
def rmm (d kc ks : Nat) : Room := { frames := d, cells := kc, slots := ks, locals := 64 * d }
def PCd (D : va_G) (cA : Nat → ClassId) (σ : Nat → Nat) (sz : Nat) (av : List Value) (h : Hp) : Array Value → State → Prop := va_Pc (av.map (vm σ)) (fun U => U.heap.size = sz ∧ va_P D vwCl (wd σ cA h) U.heap ∧ va_K D vwCl (atys cA) U ∧ adr σ (fun _ => True) ∧ GE (AA σ sz) U U.heap)
def QCd (D : va_G) (cA : Nat → ClassId) (σ : Nat → Nat) (sz : Nat) (post : Option Value → Hp → Prop) : Array Value → State → Outcome → State → Prop := fun _ st oc t => (∃ (r : Option Value) (h' : Hp), oc = .returned (r.map (vm σ)) ∧ post r h' ∧ va_P D vwCl (wd σ cA h') t.heap) ∧ va_F (AA σ sz) st t
/-- method y, called with av over h, within d frames, kc cells and ks slots, returns r over h' with 'post r h'' -/
def CP (l : Launch) (d kc ks : Nat) (y : MethodName) (bytes : ByteArray) (maxL : Nat) (ret : Option FieldType) (av : List Value) (h : Hp) (post : Option Value → Hp → Prop) : Prop :=
  ∀ (D : va_G) (cA : Nat → ClassId) (σ : Nat → Nat) (sz : Nat), Met l y (Cond.code y bytes maxL ret :: tw) (rmm d kc ks) (PCd D cA σ sz av h) (QCd D cA σ sz post) kc ks (AA σ sz)
/-- the same of a method that may draw -/
def CD (l : Launch) (d kc ks : Nat) (y : MethodName) (bytes : ByteArray) (maxL : Nat) (ret : Option FieldType) (av : List Value) (h : Hp) (post : Option Value → Hp → Prop) : Prop :=
  ∀ (D : va_G) (cA : Nat → ClassId) (σ : Nat → Nat) (sz : Nat), MetD lw_cs l y (Cond.code y bytes maxL ret :: tw) (rmm d kc ks) (PCd D cA σ sz av h) (QCd D cA σ sz post) kc ks (AA σ sz)
def rets (cc : ByteArray) (pc : Nat) (rt : Option FieldType) (r : Option Value) : Prop :=
  (∃ x ty, r = some (.int x) ∧ decode cc pc = .ok (.ireturn, 1) ∧ rt = some ty ∧ narrow ty (.int x) = .int x) ∨ (∃ x, r = some (.long x) ∧ decode cc pc = .ok (.lreturn, 1) ∧ rt = some .long) ∨ (∃ x, r = some (.double x) ∧ decode cc pc = .ok (.dreturn, 1) ∧ rt = some .double) ∨ (r = none ∧ decode cc pc = .ok (.return_, 1) ∧ rt = none) ∨ (∃ q nm, r = some (.ref q) ∧ decode cc pc = .ok (.areturn, 1) ∧ rt = some (.object nm))
/-- the walk's end: any return with the post -/
def Ends (X : Cxt) (cc : ByteArray) (rt : Option FieldType) (kc ks : Nat) (post : Option Value → Hp → Prop) : Prop :=
  ∀ (k n pc : Nat) (ls : List (Option Value)) (h : Hp) (r : Option Value), k ≤ kc → n ≤ ks → rets cc pc rt r → post r h → V X k n pc ls r.toList h
def els : List Value → List (Option Value)
  | [] => []
  | v :: vs => if v.category = 2 then some v :: none :: els vs else some v :: els vs
theorem lv_args_els (σ : Nat → Nat) : ∀ (vs : List Value) (z : Nat) (q : Nat × Value), (∃ v, (els vs)[q.1]? = some (some v) ∧ q.2 = vm σ v) → (z + q.1, q.2) ∈ lv_args z (vs.map (vm σ))
  | [], _, q, h => by
    obtain ⟨v, h1, -⟩ := h
    simp [els] at h1
  | u :: vs, z, q, h => by
    obtain ⟨v, h1, h2⟩ := h
    by_cases hc : u.category = 2
    · rw [els, if_pos hc] at h1
      rw [List.map_cons, lv_args]
      simp only [vm_cat, hc, if_true]
      match hq : q.1, h1 with
      | 0, h1 =>
        simp at h1
        rw [h1, h2]
        exact List.mem_cons_self
      | 1, h1 => simp at h1
      | j + 2, h1 =>
        simp at h1
        have := lv_args_els σ vs (z + 2) (j, q.2) ⟨v, h1, h2⟩
        refine List.mem_cons_of_mem _ ?_
        rw [show z + (j + 2) = z + 2 + j by omega]
        exact this
    · rw [els, if_neg hc] at h1
      rw [List.map_cons, lv_args]
      simp only [vm_cat, hc, if_false]
      match hq : q.1, h1 with
      | 0, h1 =>
        simp at h1
        rw [h1, h2]
        exact List.mem_cons_self
      | j + 1, h1 =>
        simp at h1
        have := lv_args_els σ vs (z + 1) (j, q.2) ⟨v, h1, h2⟩
        refine List.mem_cons_of_mem _ ?_
        rw [show z + (j + 1) = z + 1 + j by omega]
        exact this
theorem els_len : ∀ (vs : List Value) (σ : Nat → Nat), (els vs).length = (lg_sl (vs.map (vm σ))).length
  | [], _ => rfl
  | v :: vs, σ => by
    have ih := els_len vs σ
    by_cases hc : v.category = 2
    · rw [els, if_pos hc]
      simp [lg_sl, vm_cat, hc]
      simpa [lg_sl] using ih
    · rw [els, if_neg hc]
      simp [lg_sl, vm_cat, hc]
      simpa [lg_sl] using ih
theorem lok_entry {σ : Nat → Nat} {vs : List Value} {nL : Nat} {L : List (Option Value)} (hL : els vs ++ List.replicate (nL - (els vs).length) none = L) (hn : (els vs).length ≤ nL) : lok σ nL L ((lg_sl (vs.map (vm σ)) ++ List.replicate (nL - (lg_sl (vs.map (vm σ))).length) Slot.unset).toArray) := by
  subst hL
  have h := lv_entry (vs.map (vm σ)) (n := nL) (by rw [← els_len]; exact hn)
  refine ⟨by simp; omega, h.1, h.2.1, fun q hq => h.2.2 q ?_⟩
  obtain ⟨v, h1, h2⟩ := prs_mem.mp hq
  have h3 : (els vs)[q.1]? = some (some v) := by
    by_cases hl : q.1 < (els vs).length
    · rwa [List.getElem?_append_left hl] at h1
    · rw [List.getElem?_append_right (by omega), List.getElem?_replicate] at h1
      split at h1 <;> cases h1
  have := lv_args_els σ vs 0 q ⟨v, h3, h2⟩
  rwa [Nat.zero_add] at this
theorem adr_of {σ : Nat → Nat} {A : Nat → Prop} (a : adr σ A) (B : Nat → Prop) (hB : ∀ i, i < NN → B (σ i)) : adr σ B := ⟨a.1, hB⟩
set_option maxHeartbeats 1000000 in
theorem CP.ofV {l : Launch} {d kc ks : Nat} {y : MethodName} {cc : ByteArray} {maxL : Nat} {rt : Option FieldType} {av : List Value} {h : Hp} {post : Option Value → Hp → Prop} {L : List (Option Value)} (own : String) (hy : plainName y.cls = true) (ho : y.cls = own) (hn : (els av).length ≤ maxL) (hL : els av ++ List.replicate (maxL - (els av).length) none = L)
    (body : ∀ X : Cxt, X.2.1 = l → Gd X own cc d kc ks → Ends X cc rt kc ks post → V X 0 0 0 L [] h) : CP l d kc ks y cc maxL rt av h post := by
  intro D cA σ sz
  refine Met.ofW (cc := cc) (maxL := maxL) (ret := rt) hy rfl ?_
  intro p e s m args below meth c s₁ B hml hv
  obtain ⟨rfl, hsz, hP, hK, hadr, hGE⟩ := hv
  have hts0 := atoms_spec (ws := Cond.code y cc maxL rt :: tw) B.pre
  have hown : s.vm.findClass own = some m.cls := ho ▸ findClass_of_methodNamed B.named
  have hlocks := B.notSynchronized
  have hret := B.returns
  have hx := B.exec
  have hb := B.bytes
  subst hsz
  have a1 : adr σ (AA σ s.heap.size) := adr_AA hadr
  rw [lg_entry_eq]
  have hl := lok_entry (σ := σ) hL hn
  have key := body (p, l, e, (headSpec (Cond.code y cc maxL rt :: tw) (rmm d kc ks)).room, s, m, (av.map (vm σ)).toArray, below, meth, c, D, cA, AA σ s.heap.size, (fun d0 => d0 = s.drawn), MQ below (QCd D cA σ s.heap.size post) (av.map (vm σ)).toArray s kc ks (AA σ s.heap.size), σ, maxL) rfl
    ⟨hx, hb, hml, hown, fun w hw => hts0 w (List.mem_cons_of_mem _ hw), hK, a1, fun q hq => Or.inr hq, hGE, hlocks, Nat.le_refl _, Nat.le_refl _, Nat.le_refl _, Nat.le_refl _⟩ ?_
  · exact key s.heap [] s.drawn _ rfl hP va_S.rf hl
  · intro k n pc ls h1 r hk hn1 hr hp H locs d0 lr hd0 hP1 hS1 hl1
    subst hd0
    refine W.widen hk hn1 ?_
    have post1 : ∀ t : State, t.heap = H → s.WarmedH t.vm → QCd D cA σ s.heap.size post (av.map (vm σ)).toArray s (.returned (r.map (vm σ))) t := fun t ht _ => ⟨⟨r, h1, rfl, hp, by rw [ht]; exact hP1⟩, hS1.F ht⟩
    rcases hr with ⟨x, ty, rfl, hdg, rfl, hnar⟩ | ⟨x, rfl, hdg, rfl⟩ | ⟨x, rfl, hdg, rfl⟩ | ⟨rfl, hdg, rfl⟩ | ⟨q, nm, rfl, hdg, rfl⟩
    · exact W.zret hx hb hret hnar post1 hS1.2.2 hdg hlocks
    · exact W.lret hx hb hret post1 hS1.2.2 hdg hlocks
    · exact W.dret hx hb hret post1 hS1.2.2 hdg hlocks
    · exact W.vret hx hb hret post1 hS1.2.2 hdg hlocks
    · exact W.aret hx hb hret (Or.inl ⟨_, rfl⟩) (Or.inr ⟨_, rfl⟩) post1 hS1.2.2 hdg hlocks
end VL
