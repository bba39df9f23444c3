section VL
/-- the good words of the tables: every method's words but its own code -/
def tw : List Cond := lw_tbl.filter goodWord
theorem tw_in {w : Cond} (h : w ∈ lw_tbl) (g : goodWord w = true) : w ∈ tw := List.mem_filter.mpr ⟨h, g⟩
theorem tw_good {w : Cond} (h : w ∈ tw) : goodWord w = true := (List.mem_filter.mp h).2
theorem gi_tw {y : MethodName} {cc : ByteArray} {maxL : Nat} {ret : Option FieldType} (h : Cond.code y cc maxL ret ∈ tw) : GoodIn tw (Cond.code y cc maxL ret :: tw) := by
  intro w hw
  rcases List.mem_cons.mp hw with rfl | hw
  · exact ⟨h, good_of_word (tw_good h)⟩
  · exact ⟨hw, good_of_word (tw_good hw)⟩
/-- what changes: the ints, the longs, the elements of arrays of references; by place and index -/
abbrev Hp : Type := (Nat → Int → Int) × (Nat → Int → Int64) × (Nat → Int → Option Nat)
def hI (h : Hp) : Nat → Int → Int := h.1
def hL (h : Hp) : Nat → Int → Int64 := h.2.1
def hR (h : Hp) : Nat → Int → Option Nat := h.2.2
def u2 {α : Type} (f : Nat → Int → α) (q : Nat) (j : Int) (v : α) : Nat → Int → α := fun a b => if a = q ∧ b = j then v else f a b
def sI (h : Hp) (q : Nat) (j : Int) (v : Int) : Hp := (u2 h.1 q j v, h.2)
def sL (h : Hp) (q : Nat) (j : Int) (v : Int64) : Hp := (h.1, u2 h.2.1 q j v, h.2.2)
def sR (h : Hp) (q : Nat) (j : Int) (v : Option Nat) : Hp := (h.1, h.2.1, u2 h.2.2 q j v)
def SH (q : Nat) : Nat ⊕ (Nat × Nat) := SHl.getD q (.inl 0)
def RF (q j : Nat) : Option Nat := (RFl.getD q []).getD j none
def fkd (ci j : Nat) : Nat := (FK.getD ci []).getD j 0
def nFd (ci : Nat) : Nat := (FK.getD ci []).length
def vm (σ : Nat → Nat) : Value → Value
  | .ref a => .ref (σ a)
  | v => v
def fvk (σ : Nat → Nat) (q : Nat) (fI : Int → Int) (fL : Int → Int64) (j : Nat) : Nat → Value
  | 0 => .int (Int32.ofInt (fI j))
  | 1 => .long (fL j)
  | _ => va_rf ((RF q j).map σ)
def cek (σ : Nat → Nat) (cA : Nat → ClassId) (q : Nat) (fI : Int → Int) (fL : Int → Int64) (fR : Int → Option Nat) : Nat ⊕ (Nat × Nat) → va_E
  | .inl ci => .inr (ci, (List.range (nFd ci)).map (fun j => fvk σ q fI fL j (fkd ci j)))
  | .inr (0, n) => .inl (cA 0, n, .inl (fun j => Int32.ofInt (fI j)))
  | .inr (1, n) => .inl (cA 1, n, .inr (.inl (fun j => fL j)))
  | .inr (2, n) => .inl (cA 2, n, .inl (fun j => Int32.ofInt (fI j)))
  | .inr (_, n) => .inl (cA 3, n, .inr (.inr (.inr (.inr (fun j => (fR j).map σ)))))
def ce (σ : Nat → Nat) (cA : Nat → ClassId) (h : Hp) (q : Nat) : va_E := cek σ cA q (hI h q) (hL h q) (hR h q) (SH q)
def wd (σ : Nat → Nat) (cA : Nat → ClassId) (h : Hp) : va_W := (List.range NN).map (fun q => (σ q, ce σ cA h q))
def atys (cA : Nat → ClassId) : List (ClassId × FieldType) := [(cA 0, .int), (cA 1, .long), (cA 2, .boolean), (cA 3, .object "java/lang/Object")]
theorem wd_get {σ : Nat → Nat} {cA : Nat → ClassId} {h : Hp} {q : Nat} (hq : q < NN) : (wd σ cA h)[q]? = some (σ q, ce σ cA h q) := by
  unfold wd
  rw [List.getElem?_map, List.getElem?_range hq]
  rfl
theorem wd_len {σ : Nat → Nat} {cA : Nat → ClassId} {h : Hp} : (wd σ cA h).length = NN := by simp [wd]
theorem wd_at {σ : Nat → Nat} {cA : Nat → ClassId} {h : Hp} {k : Nat} {p : Nat × va_E} (hk : (wd σ cA h)[k]? = some p) : k < NN ∧ p = (σ k, ce σ cA h k) := by
  have hl : k < NN := by
    have := (List.getElem?_eq_some_iff.mp hk).1
    rwa [wd_len] at this
  rw [wd_get hl] at hk
  exact ⟨hl, (Option.some.inj hk).symm⟩
theorem wd_set {σ : Nat → Nat} {cA : Nat → ClassId} {h h' : Hp} {q : Nat} {e : va_E} (hq : q < NN) (he : ce σ cA h' q = e) (ho : ∀ j, j ≠ q → ce σ cA h' j = ce σ cA h j) : (wd σ cA h).set q (σ q, e) = wd σ cA h' := by
  subst he
  apply List.ext_getElem?
  intro i
  by_cases hi : i = q
  · subst hi
    rw [List.getElem?_set_self (by rw [wd_len]; exact hq), wd_get hq]
  · rw [List.getElem?_set_ne (Ne.symm hi)]
    by_cases hl : i < NN
    · rw [wd_get hl, wd_get hl, ho i hi]
    · rw [List.getElem?_eq_none (by rw [wd_len]; omega), List.getElem?_eq_none (by rw [wd_len]; omega)]
theorem u2_ne {α : Type} {f : Nat → Int → α} {q j : Nat} {i : Int} {v : α} (hj : j ≠ q) : u2 f q i v j = f j := by
  funext b
  simp [u2, hj]
theorem u2_eq {α : Type} {f : Nat → Int → α} {q : Nat} {i : Int} {v : α} : u2 f q i v q = fun b => if b = i then v else f q b := by
  funext b
  simp [u2]
theorem ce_sI {σ : Nat → Nat} {cA : Nat → ClassId} {h : Hp} {q : Nat} {i : Int} {v : Int} : ∀ j, j ≠ q → ce σ cA (sI h q i v) j = ce σ cA h j := by
  intro j hj
  show cek σ cA j (u2 h.1 q i v j) _ _ _ = cek σ cA j (h.1 j) _ _ _
  rw [u2_ne hj]
  rfl
theorem ce_sL {σ : Nat → Nat} {cA : Nat → ClassId} {h : Hp} {q : Nat} {i : Int} {v : Int64} : ∀ j, j ≠ q → ce σ cA (sL h q i v) j = ce σ cA h j := by
  intro j hj
  show cek σ cA j _ (u2 h.2.1 q i v j) _ _ = cek σ cA j _ (h.2.1 j) _ _
  rw [u2_ne hj]
  rfl
theorem ce_sR {σ : Nat → Nat} {cA : Nat → ClassId} {h : Hp} {q : Nat} {i : Int} {v : Option Nat} : ∀ j, j ≠ q → ce σ cA (sR h q i v) j = ce σ cA h j := by
  intro j hj
  show cek σ cA j _ _ (u2 h.2.2 q i v j) _ = cek σ cA j _ _ (h.2.2 j) _
  rw [u2_ne hj]
  rfl
/-- the addresses are apart, and may be written -/
def adr (σ : Nat → Nat) (A : Nat → Prop) : Prop := (∀ i j, i < NN → j < NN → σ i = σ j → i = j) ∧ ∀ i, i < NN → A (σ i)
theorem adr_D {σ : Nat → Nat} {A : Nat → Prop} {cA : Nat → ClassId} {h : Hp} (a : adr σ A) : va_D A (wd σ cA h) := by
  refine ⟨fun i j p q hi hj e => ?_, fun k q hk => ?_⟩
  · obtain ⟨h1, rfl⟩ := wd_at hi
    obtain ⟨h2, rfl⟩ := wd_at hj
    exact a.1 i j h1 h2 e
  · obtain ⟨h1, rfl⟩ := wd_at hk
    exact a.2 k h1
/-- what a method may write: the world's cells, and those that it makes -/
def AA (σ : Nat → Nat) (sz : Nat) : Nat → Prop := fun q => (∃ k, k < NN ∧ q = σ k) ∨ sz ≤ q
theorem adr_AA {σ : Nat → Nat} {A : Nat → Prop} {sz : Nat} (a : adr σ A) : adr σ (AA σ sz) := ⟨a.1, fun i hi => Or.inl ⟨i, hi, rfl⟩⟩
/-- the locals: what each holds, as far as it is known -/
def prs (σ : Nat → Nat) (L : List (Option Value)) : List (Nat × Value) := (List.range L.length).filterMap (fun i => (L.getD i none).map (fun v => (i, vm σ v)))
def lok (σ : Nat → Nat) (nL : Nat) (L : List (Option Value)) (lr : Array Slot) : Prop := L.length = nL ∧ lv_has lr nL (prs σ L)
theorem prs_mem {σ : Nat → Nat} {L : List (Option Value)} {q : Nat × Value} : q ∈ prs σ L ↔ ∃ v, L[q.1]? = some (some v) ∧ q.2 = vm σ v := by
  unfold prs
  rw [List.mem_filterMap]
  constructor
  · rintro ⟨i, hi, h⟩
    have hl := List.mem_range.mp hi
    rw [List.getD_eq_getElem?_getD, List.getElem?_eq_getElem hl] at h
    cases hv : L[i] with
    | none => simp [hv] at h
    | some v =>
      simp [hv] at h
      refine ⟨v, ?_, by rw [← h]⟩
      rw [← h]
      simp [hl, hv]
  · rintro ⟨v, h1, h2⟩
    have hl := (List.getElem?_eq_some_iff.mp h1).1
    refine ⟨q.1, List.mem_range.mpr hl, ?_⟩
    rw [List.getD_eq_getElem?_getD, h1]
    simp [← h2]
theorem lok_at {σ : Nat → Nat} {nL : Nat} {L : List (Option Value)} {lr : Array Slot} (h : lok σ nL L lr) {i : Nat} {v : Value} (hi : L[i]? = some (some v)) : lr[i]? = some (.val (vm σ v)) :=
  h.2.2.2 (i, vm σ v) (prs_mem.mpr ⟨v, hi, rfl⟩)
theorem vm_cat {σ : Nat → Nat} {v : Value} : (vm σ v).category = v.category := by cases v <;> rfl
/-- an entry whose second half isn't the next one -/
def c1 : Option Value → Bool
  | some v => v.category == 1
  | none => true
def c1l (pre : List (Option Value)) : Bool := match pre.getLast? with
  | some o => c1 o
  | none => true
theorem c1l_at {pre : List (Option Value)} (h : c1l pre = true) {j : Nat} {w : Value} (hj : pre[j]? = some (some w)) (he : j + 1 = pre.length) : w.category = 1 := by
  have e : pre.getLast? = some (some w) := by
    rw [List.getLast?_eq_getElem?, show pre.length - 1 = j by omega]
    exact hj
  unfold c1l at h
  rw [e] at h
  simpa [c1] using h
theorem lok_set1 {σ : Nat → Nat} {nL : Nat} {pre t : List (Option Value)} {b : Option Value} {v : Value} {lr : Array Slot} (hl : (pre ++ b :: t).length = nL) (hp : c1l pre = true)
    (h : lv_has lr nL ((pre.length, vm σ v) :: (prs σ (pre ++ b :: t)).filter (fun q => !(q.1 == pre.length) && !(q.1 + 1 == pre.length && q.2.category == 2)))) : lok σ nL (pre ++ some v :: t) lr := by
  refine ⟨by rw [← hl]; simp, h.1, h.2.1, fun q hq => h.2.2 q ?_⟩
  obtain ⟨w, h1, h2⟩ := prs_mem.mp hq
  by_cases hk : q.1 = pre.length
  · rw [hk, List.getElem?_append_right (Nat.le_refl _), Nat.sub_self] at h1
    simp at h1
    refine List.mem_cons.mpr (Or.inl ?_)
    rw [h1, ← h2, ← hk]
  · refine List.mem_cons_of_mem _ (List.mem_filter.mpr ⟨prs_mem.mpr ⟨w, ?_, h2⟩, ?_⟩)
    · by_cases hlt : q.1 < pre.length
      · rw [List.getElem?_append_left hlt] at h1 ⊢
        exact h1
      · rw [List.getElem?_append_right (by omega)] at h1 ⊢
        obtain ⟨z, hz⟩ : ∃ z, q.1 - pre.length = z + 1 := ⟨q.1 - pre.length - 1, by omega⟩
        rw [hz] at h1 ⊢
        simpa using h1
    · by_cases hlt : q.1 + 1 = pre.length
      · have h3 : pre[q.1]? = some (some w) := by
          rw [List.getElem?_append_left (by omega)] at h1
          exact h1
        have h4 := c1l_at hp h3 hlt
        rw [h2, vm_cat, h4]
        simp [hk]
      · simp [hk, hlt]
theorem lok_set2 {σ : Nat → Nat} {nL : Nat} {pre t : List (Option Value)} {b b2 : Option Value} {v : Value} {lr : Array Slot} (hl : (pre ++ b :: b2 :: t).length = nL) (hp : c1l pre = true)
    (h : lv_has lr nL ((pre.length, vm σ v) :: (prs σ (pre ++ b :: b2 :: t)).filter (fun q => !(q.1 == pre.length) && (!(q.1 == pre.length + 1) && !(q.1 + 1 == pre.length && q.2.category == 2))))) : lok σ nL (pre ++ some v :: none :: t) lr := by
  refine ⟨by rw [← hl]; simp, h.1, h.2.1, fun q hq => h.2.2 q ?_⟩
  obtain ⟨w, h1, h2⟩ := prs_mem.mp hq
  by_cases hk : q.1 = pre.length
  · rw [hk, List.getElem?_append_right (Nat.le_refl _), Nat.sub_self] at h1
    simp at h1
    refine List.mem_cons.mpr (Or.inl ?_)
    rw [h1, ← h2, ← hk]
  · by_cases hk2 : q.1 = pre.length + 1
    · rw [hk2, List.getElem?_append_right (by omega), show pre.length + 1 - pre.length = 1 by omega] at h1
      simp at h1
    · refine List.mem_cons_of_mem _ (List.mem_filter.mpr ⟨prs_mem.mpr ⟨w, ?_, h2⟩, ?_⟩)
      · by_cases hlt : q.1 < pre.length
        · rw [List.getElem?_append_left hlt] at h1 ⊢
          exact h1
        · rw [List.getElem?_append_right (by omega)] at h1 ⊢
          obtain ⟨z, hz⟩ : ∃ z, q.1 - pre.length = z + 2 := ⟨q.1 - pre.length - 2, by omega⟩
          rw [hz] at h1 ⊢
          simpa using h1
      · by_cases hlt : q.1 + 1 = pre.length
        · have h3 : pre[q.1]? = some (some w) := by
            rw [List.getElem?_append_left (by omega)] at h1
            exact h1
          have h4 := c1l_at hp h3 hlt
          rw [h2, vm_cat, h4]
          simp [hk, hk2]
        · simp [hk, hk2, hlt]
/-- what is known of the start, beside the world: the nest's links -/
def nwl : List (String × Nat × MethodName × String) := [("SlantSlate", 18, ⟨"SlantSlate$Readings", "<init>", "()V"⟩, "SlantSlate"), ("SlantSlate", 25, ⟨"SlantSlate$Parts", "<init>", "()V"⟩, "SlantSlate"), ("SlantSlate$Parts", 11, ⟨"SlantSlate$Grid", "<init>", "()V"⟩, "SlantSlate"), ("SlantSlate", 40, ⟨"SlantSlate$Drawing", "<init>", "()V"⟩, "SlantSlate")]
/-- castable, and not castable -/
def csl : List (String × String) := [("SlantSlate$State", "java/lang/Object"), ("java/lang/IllegalArgumentException", "java/lang/IllegalArgumentException"), ("java/lang/IllegalStateException", "java/lang/IllegalStateException"), ("java/lang/IndexOutOfBoundsException", "java/lang/IndexOutOfBoundsException")]
def ncl : List (String × String) := []
/-- the class's texts, by their places in its pool -/
def stx : List (Nat × String) := [(195, "no saved state"), (260, "nothing is told by this number"), (252, "no such word"), (246, "no such kind"), (256, "no such reading"), (139, "no reading to flatten"), (254, "no such head"), (119, "no reading would be left"), (88, "the sentence is full")]
def ltB : List (List Int32) := [[110, 118, 97, 100, 112, 99, 116]]
theorem va_Z_nar {C n d : String} {v : Value} {A B : Nat → Prop} {U : State} {H : Heap} (h : va_Z C n d v A U H) (hAB : ∀ q, q < H.size → B q → A q) : va_Z C n d v B U H := by
  obtain ⟨cf, kf, fi, f, a, cell, h1, h2, h3, h4, h5, h6, h7, h8⟩ := h
  exact ⟨cf, kf, fi, f, a, cell, h1, h2, h3, h4, h5, h6, h7, fun hb => h8 (hAB a (Array.getElem?_eq_some_iff.mp h5).1 hb)⟩
theorem va_Zq_nar {C n d : String} {A B : Nat → Prop} {U : State} {H : Heap} (h : va_Zq C n d A U H) (hAB : ∀ q, q < H.size → B q → A q) : va_Zq C n d B U H := by
  rcases h with h | ⟨t, h⟩
  · exact Or.inl (va_Z_nar h hAB)
  · exact Or.inr ⟨t, va_Z_nar h hAB⟩
theorem vx_L_nar {C n d : String} {A B : Nat → Prop} {U : State} {H : Heap} (h : vx_L C n d A U H) (hAB : ∀ q, q < H.size → B q → A q) : vx_L C n d B U H := by
  obtain ⟨c, k, i, f, a, cell, h1, h2, h3, h4, h5, h6, h7, h8, h9, h10⟩ := h
  exact ⟨c, k, i, f, a, cell, h1, h2, h3, h4, h5, h6, h7, h8, h9, fun hb => h10 (hAB a (Array.getElem?_eq_some_iff.mp h5).1 hb)⟩
theorem va_O_nar {E : String} {t : Nat} {A B : Nat → Prop} {U : State} {H : Heap} (h : va_O E t A U H) (hAB : ∀ q, q < H.size → B q → A q) : va_O E t B U H := by
  obtain ⟨cell, h1, h2, h3, h4⟩ := h
  exact ⟨cell, h1, h2, h3, fun hb => h4 (hAB t (Array.getElem?_eq_some_iff.mp h1).1 hb)⟩
theorem va_OF_nar {o n d : String} {v : Value} {t : Nat} {A B : Nat → Prop} {U : State} {H : Heap} (h : va_OF o n d v t A U H) (hAB : ∀ q, q < H.size → B q → A q) : va_OF o n d v t B U H := by
  obtain ⟨cf, k, i, f, cell, h1, h2, h3, h4, h5, h6⟩ := h
  exact ⟨cf, k, i, f, cell, h1, h2, h3, h4, h5, fun hb => h6 (hAB t (Array.getElem?_eq_some_iff.mp h3).1 hb)⟩
theorem va_T_nar {ty : FieldType} {t N : Nat} {f : Nat → Value} {A B : Nat → Prop} {U : State} {H : Heap} (h : va_T ty t N f A U H) (hAB : ∀ q, q < H.size → B q → A q) : va_T ty t N f B U H := by
  obtain ⟨cell, h1, h2, h3, h4, h5, h6, h7⟩ := h
  exact ⟨cell, h1, h2, h3, h4, h5, h6, fun hb => h7 (hAB t (Array.getElem?_eq_some_iff.mp h1).1 hb)⟩
theorem vk_S_nar {N : Nat} {len : List Nat} {byt : List (List Int32)} {adK adV : Nat → Nat} {A B : Nat → Prop} {U : State} {H : Heap} (h : vk_S N len byt adK adV A U H) (hAB : ∀ q, q < H.size → B q → A q) : vk_S N len byt adK adV B U H :=
  ⟨fun i hi => ⟨va_O_nar (h.1 i hi).1 hAB, va_OF_nar (h.1 i hi).2.1 hAB, va_OF_nar (h.1 i hi).2.2.1 hAB, va_T_nar (h.1 i hi).2.2.2 hAB⟩, h.2⟩
theorem va_Nc_warm {C T : String} {s U : State} (hW : s.WarmedH U.vm) (h : va_Nc C T s) : va_Nc C T U := by
  obtain ⟨c, t, h1, h2, h3⟩ := h
  refine ⟨c, t, by rw [hW.alike.findClass]; exact h1, by rw [hW.alike.findClass]; exact h2, ?_⟩
  rw [hW.alike.assignable]; exact h3
def GX (A : Nat → Prop) (U : State) (H : Heap) : Prop := (∀ q ∈ csl, va_Nw (.castable q.1 q.2) U) ∧ (∀ q ∈ ncl, va_Nc q.1 q.2 U) ∧ (∀ q ∈ stx, ∃ a, vk_R "SlantSlate" q.1 q.2 a U) ∧ (vx_Zq Bundle.tN "UNASSIGNED_STACK" Bundle.steD A U H ∧ vx_Zq Bundle.tN "SUPPRESSED_SENTINEL" Bundle.listD A U H) ∧ True
theorem GX.pass {A B : Nat → Prop} {s U : State} {H H1 : Heap} {locs : List Loc} (h : GX A s H) (hS : va_S A H H1 locs) (hW : s.WarmedH U.vm) (hAB : ∀ q, q < H1.size → B q → A q) : GX B U H1 := by
  obtain ⟨h1, h2, h3, ⟨h4, h5⟩, -⟩ := h
  have hq := hS.2.1
  have zq : ∀ {C n d : String}, vx_Zq C n d A s H → vx_Zq C n d B U H1 := by
    intro C n d z
    have z2 := vx_Zq.moved hW.alike (z.kept hq)
    exact ⟨va_Zq_nar z2.1 hAB, vx_L_nar z2.2 hAB⟩
  refine ⟨fun q hq2 => va_Nw.warmC hW (h1 q hq2), fun q hq2 => va_Nc_warm hW (h2 q hq2), fun q hq2 => ?_, ⟨zq h4, zq h5⟩, trivial⟩
  obtain ⟨x, hx⟩ := h3 q hq2
  exact ⟨x, vk_R.warm hW hx⟩
def GE (A : Nat → Prop) (U : State) (H : Heap) : Prop := (∀ q ∈ nwl, va_Nw (.methodLinkNest q.1 q.2.1 q.2.2.1 q.2.2.2) U) ∧ GX A U H
theorem GE.pass {A B : Nat → Prop} {s U : State} {H H1 : Heap} {locs : List Loc} (h : GE A s H) (hS : va_S A H H1 locs) (hW : s.WarmedH U.vm) (hAB : ∀ q, q < H1.size → B q → A q) : GE B U H1 := ⟨fun q hq => va_Nw.warmM hW (h.1 q hq), GX.pass h.2 hS hW hAB⟩
theorem GX.same {A : Nat → Prop} {u U : State} {H : Heap} (h : GX A u H) (hv : u.vm = U.vm) : GX A U H := by
  obtain ⟨h1, h2, h3, ⟨h4, h5⟩, -⟩ := h
  have al : u.vm.Alike U.vm := hv ▸ Vm.Alike.refl u.vm
  refine ⟨fun q hq => va_Nw.same rfl hv (h1 q hq), fun q hq => va_Nc.moved al (h2 q hq), fun q hq => ?_, ⟨vx_Zq.moved al h4, vx_Zq.moved al h5⟩, trivial⟩
  obtain ⟨x, hx⟩ := h3 q hq
  exact ⟨x, vk_R.same hv.symm hx⟩
theorem GE.same {A : Nat → Prop} {u U : State} {H : Heap} (h : GE A u H) (hv : u.vm = U.vm) : GE A U H := ⟨fun q hq => va_Nw.same rfl hv (h.1 q hq), GX.same h.2 hv⟩
/-- all that a walk stands in: program, launch, env, room, start, method, args, frames below, method, code, classes' numbers, arrays' classes, what may be written, records of draws, the end, the places' addresses, how many locals -/
abbrev Cxt : Type := Program × Launch × Env × Room × State × MethodId × Array Value × List Frame × Method × Code × va_G × (Nat → ClassId) × (Nat → Prop) × (Drawn → Prop) × (State → Prop) × (Nat → Nat) × Nat
/-- from every state with the heap h at the places, with these locals and this stack, the machine comes to its end -/
def V (X : Cxt) (k n pc : Nat) (ls : List (Option Value)) (st : List Value) (h : Hp) : Prop := match X with
  | (p, l, e, R, s, m, args, below, meth, c, D, cA, A, Dp, Q, σ, nL) => ∀ (H : Heap) (locs : List Loc) (d0 : Drawn) (lr : Array Slot), Dp d0 → va_P D vwCl (wd σ cA h) H → va_S A s.heap H locs → lok σ nL ls lr → W p l e R (s.setDrawn d0) m args below meth c H locs k n Q (F0 m pc lr (st.map (vm σ)))
/-- the walk's own facts: own class, code, locals; depth, cells and slots -/
def Gd (X : Cxt) (own : String) (cc : ByteArray) (d kc ks : Nat) : Prop := match X with
  | (p, _, _, R, s, m, args, _, meth, c, D, cA, A, _, _, σ, nL) => p.tables.exec = Jvm.exec ∧ c.code = cc ∧ c.maxLocals = nL ∧ s.vm.findClass own = some m.cls ∧ (∀ w ∈ tw, w.before args s = true) ∧ va_K D vwCl (atys cA) s ∧ adr σ A ∧ (∀ q, s.heap.size ≤ q → A q) ∧ GE A s s.heap ∧ meth.locks = false ∧ d ≤ R.frames ∧ 64 * d ≤ R.locals ∧ kc ≤ R.cells ∧ ks ≤ R.slots
/-- contracts -/
def rmm (d kc ks : Nat) : Room := { frames := d, cells := kc, slots := ks, locals := 64 * d }
def PCd (D : va_G) (cA : Nat → ClassId) (σ : Nat → Nat) (sz : Nat) (av : List Value) (h : Hp) : Array Value → State → Prop := va_Pc (av.map (vm σ)) (fun U => U.heap.size = sz ∧ va_P D vwCl (wd σ cA h) U.heap ∧ va_K D vwCl (atys cA) U ∧ adr σ (fun _ => True) ∧ GE (AA σ sz) U U.heap)
def QCd (D : va_G) (cA : Nat → ClassId) (σ : Nat → Nat) (sz : Nat) (post : Option Value → Hp → Prop) : Array Value → State → Outcome → State → Prop := fun _ st oc t => (∃ (r : Option Value) (h' : Hp), oc = .returned (r.map (vm σ)) ∧ post r h' ∧ va_P D vwCl (wd σ cA h') t.heap) ∧ va_F (AA σ sz) st t
/-- method y, called with av over h, within d frames, kc cells and ks slots, returns r over h' with 'post r h'' -/
def CP (l : Launch) (d kc ks : Nat) (y : MethodName) (bytes : ByteArray) (maxL : Nat) (ret : Option FieldType) (av : List Value) (h : Hp) (post : Option Value → Hp → Prop) : Prop :=
  ∀ (D : va_G) (cA : Nat → ClassId) (σ : Nat → Nat) (sz : Nat), Met l y (Cond.code y bytes maxL ret :: tw) (rmm d kc ks) (PCd D cA σ sz av h) (QCd D cA σ sz post) kc ks (AA σ sz)
/-- the same of a method that may draw -/
def CD (l : Launch) (d kc ks : Nat) (y : MethodName) (bytes : ByteArray) (maxL : Nat) (ret : Option FieldType) (av : List Value) (h : Hp) (post : Option Value → Hp → Prop) : Prop :=
  ∀ (D : va_G) (cA : Nat → ClassId) (σ : Nat → Nat) (sz : Nat), MetD lw_cs l y (Cond.code y bytes maxL ret :: tw) (rmm d kc ks) (PCd D cA σ sz av h) (QCd D cA σ sz post) kc ks (AA σ sz)
def rets (cc : ByteArray) (pc : Nat) (rt : Option FieldType) (r : Option Value) : Prop :=
  (∃ x ty, r = some (.int x) ∧ decode cc pc = .ok (.ireturn, 1) ∧ rt = some ty ∧ narrow ty (.int x) = .int x) ∨ (∃ x, r = some (.long x) ∧ decode cc pc = .ok (.lreturn, 1) ∧ rt = some .long) ∨ (∃ x, r = some (.double x) ∧ decode cc pc = .ok (.dreturn, 1) ∧ rt = some .double) ∨ (r = none ∧ decode cc pc = .ok (.return_, 1) ∧ rt = none) ∨ (∃ q nm, r = some (.ref q) ∧ decode cc pc = .ok (.areturn, 1) ∧ rt = some (.object nm))
/-- the walk's end: any return with the post -/
def Ends (X : Cxt) (cc : ByteArray) (rt : Option FieldType) (kc ks : Nat) (post : Option Value → Hp → Prop) : Prop :=
  ∀ (k n pc : Nat) (ls : List (Option Value)) (h : Hp) (r : Option Value), k ≤ kc → n ≤ ks → rets cc pc rt r → post r h → V X k n pc ls r.toList h
def els : List Value → List (Option Value)
  | [] => []
  | v :: vs => if v.category = 2 then some v :: none :: els vs else some v :: els vs
theorem lv_args_els (σ : Nat → Nat) : ∀ (vs : List Value) (z : Nat) (q : Nat × Value), (∃ v, (els vs)[q.1]? = some (some v) ∧ q.2 = vm σ v) → (z + q.1, q.2) ∈ lv_args z (vs.map (vm σ))
  | [], _, q, h => by
    obtain ⟨v, h1, -⟩ := h
    simp [els] at h1
  | u :: vs, z, q, h => by
    obtain ⟨v, h1, h2⟩ := h
    by_cases hc : u.category = 2
    · rw [els, if_pos hc] at h1
      rw [List.map_cons, lv_args]
      simp only [vm_cat, hc, if_true]
      match hq : q.1, h1 with
      | 0, h1 =>
        simp at h1
        rw [h1, h2]
        exact List.mem_cons_self
      | 1, h1 => simp at h1
      | j + 2, h1 =>
        simp at h1
        have := lv_args_els σ vs (z + 2) (j, q.2) ⟨v, h1, h2⟩
        refine List.mem_cons_of_mem _ ?_
        rw [show z + (j + 2) = z + 2 + j by omega]
        exact this
    · rw [els, if_neg hc] at h1
      rw [List.map_cons, lv_args]
      simp only [vm_cat, hc, if_false]
      match hq : q.1, h1 with
      | 0, h1 =>
        simp at h1
        rw [h1, h2]
        exact List.mem_cons_self
      | j + 1, h1 =>
        simp at h1
        have := lv_args_els σ vs (z + 1) (j, q.2) ⟨v, h1, h2⟩
        refine List.mem_cons_of_mem _ ?_
        rw [show z + (j + 1) = z + 1 + j by omega]
        exact this
theorem els_len : ∀ (vs : List Value) (σ : Nat → Nat), (els vs).length = (lg_sl (vs.map (vm σ))).length
  | [], _ => rfl
  | v :: vs, σ => by
    have ih := els_len vs σ
    by_cases hc : v.category = 2
    · rw [els, if_pos hc]
      simp [lg_sl, vm_cat, hc]
      simpa [lg_sl] using ih
    · rw [els, if_neg hc]
      simp [lg_sl, vm_cat, hc]
      simpa [lg_sl] using ih
theorem lok_entry {σ : Nat → Nat} {vs : List Value} {nL : Nat} {L : List (Option Value)} (hL : els vs ++ List.replicate (nL - (els vs).length) none = L) (hn : (els vs).length ≤ nL) : lok σ nL L ((lg_sl (vs.map (vm σ)) ++ List.replicate (nL - (lg_sl (vs.map (vm σ))).length) Slot.unset).toArray) := by
  subst hL
  have h := lv_entry (vs.map (vm σ)) (n := nL) (by rw [← els_len]; exact hn)
  refine ⟨by simp; omega, h.1, h.2.1, fun q hq => h.2.2 q ?_⟩
  obtain ⟨v, h1, h2⟩ := prs_mem.mp hq
  have h3 : (els vs)[q.1]? = some (some v) := by
    by_cases hl : q.1 < (els vs).length
    · rwa [List.getElem?_append_left hl] at h1
    · rw [List.getElem?_append_right (by omega), List.getElem?_replicate] at h1
      split at h1 <;> cases h1
  have := lv_args_els σ vs 0 q ⟨v, h3, h2⟩
  rwa [Nat.zero_add] at this
theorem adr_of {σ : Nat → Nat} {A : Nat → Prop} (a : adr σ A) (B : Nat → Prop) (hB : ∀ i, i < NN → B (σ i)) : adr σ B := ⟨a.1, hB⟩
set_option maxHeartbeats 1000000 in
theorem CP.ofV {l : Launch} {d kc ks : Nat} {y : MethodName} {cc : ByteArray} {maxL : Nat} {rt : Option FieldType} {av : List Value} {h : Hp} {post : Option Value → Hp → Prop} {L : List (Option Value)} (own : String) (hy : plainName y.cls = true) (ho : y.cls = own) (hn : (els av).length ≤ maxL) (hL : els av ++ List.replicate (maxL - (els av).length) none = L)
    (body : ∀ X : Cxt, X.2.1 = l → Gd X own cc d kc ks → Ends X cc rt kc ks post → V X 0 0 0 L [] h) : CP l d kc ks y cc maxL rt av h post := by
  intro D cA σ sz
  refine Met.ofW (cc := cc) (maxL := maxL) (ret := rt) hy rfl ?_
  intro p e s m args below meth c s₁ B hml hv
  obtain ⟨rfl, hsz, hP, hK, hadr, hGE⟩ := hv
  have hts0 := atoms_spec (ws := Cond.code y cc maxL rt :: tw) B.pre
  have hown : s.vm.findClass own = some m.cls := ho ▸ findClass_of_methodNamed B.named
  have hlocks := B.notSynchronized
  have hret := B.returns
  have hx := B.exec
  have hb := B.bytes
  subst hsz
  have a1 : adr σ (AA σ s.heap.size) := adr_AA hadr
  rw [lg_entry_eq]
  have hl := lok_entry (σ := σ) hL hn
  have key := body (p, l, e, (headSpec (Cond.code y cc maxL rt :: tw) (rmm d kc ks)).room, s, m, (av.map (vm σ)).toArray, below, meth, c, D, cA, AA σ s.heap.size, (fun d0 => d0 = s.drawn), MQ below (QCd D cA σ s.heap.size post) (av.map (vm σ)).toArray s kc ks (AA σ s.heap.size), σ, maxL) rfl
    ⟨hx, hb, hml, hown, fun w hw => hts0 w (List.mem_cons_of_mem _ hw), hK, a1, fun q hq => Or.inr hq, hGE, hlocks, Nat.le_refl _, Nat.le_refl _, Nat.le_refl _, Nat.le_refl _⟩ ?_
  · exact key s.heap [] s.drawn _ rfl hP va_S.rf hl
  · intro k n pc ls h1 r hk hn1 hr hp H locs d0 lr hd0 hP1 hS1 hl1
    subst hd0
    refine W.widen hk hn1 ?_
    have post1 : ∀ t : State, t.heap = H → s.WarmedH t.vm → QCd D cA σ s.heap.size post (av.map (vm σ)).toArray s (.returned (r.map (vm σ))) t := fun t ht _ => ⟨⟨r, h1, rfl, hp, by rw [ht]; exact hP1⟩, hS1.F ht⟩
    rcases hr with ⟨x, ty, rfl, hdg, rfl, hnar⟩ | ⟨x, rfl, hdg, rfl⟩ | ⟨x, rfl, hdg, rfl⟩ | ⟨rfl, hdg, rfl⟩ | ⟨q, nm, rfl, hdg, rfl⟩
    · exact W.zret hx hb hret hnar post1 hS1.2.2 hdg hlocks
    · exact W.lret hx hb hret post1 hS1.2.2 hdg hlocks
    · exact W.dret hx hb hret post1 hS1.2.2 hdg hlocks
    · exact W.vret hx hb hret post1 hS1.2.2 hdg hlocks
    · exact W.aret hx hb hret (Or.inl ⟨_, rfl⟩) (Or.inr ⟨_, rfl⟩) post1 hS1.2.2 hdg hlocks
variable {X : Cxt} {own : String} {cc : ByteArray} {d kc ks k n pc : Nat} {ls : List (Option Value)} {st : List Value} {h : Hp}
theorem V_iconst_ (G : Gd X own cc d kc ks) {z : Int} {v : Int32} (hd : decode cc pc = .ok (.iconst z, 1)) (hv : Int32.ofInt z = v) (kk : V X k n (pc + 1) ls (.int v :: st) h) : V X k n pc ls (st) h := by
  obtain ⟨p, l, e, R, s, m, args, below, meth, c, D, cA, A, Dp, Q, σ, nL⟩ := X
  obtain ⟨hx, hb, hml, hown, hts, hK, hadr, hA, hGE, hlk, hfr, hlo, hkc, hks⟩ := G
  intro H locs d0 lr g1 g2 g3 g4
  exact lv_iconst hx hb hd hv (kk H locs d0 lr g1 g2 g3 g4)
theorem V_bipush_ (G : Gd X own cc d kc ks) {z : Int} {v : Int32} (hd : decode cc pc = .ok (.bipush z, 2)) (hv : (Int8.ofInt z).toInt32 = v) (kk : V X k n (pc + 2) ls (.int v :: st) h) : V X k n pc ls (st) h := by
  obtain ⟨p, l, e, R, s, m, args, below, meth, c, D, cA, A, Dp, Q, σ, nL⟩ := X
  obtain ⟨hx, hb, hml, hown, hts, hK, hadr, hA, hGE, hlk, hfr, hlo, hkc, hks⟩ := G
  intro H locs d0 lr g1 g2 g3 g4
  exact lv_bipush hx hb hd hv (kk H locs d0 lr g1 g2 g3 g4)
theorem V_sipush_ (G : Gd X own cc d kc ks) {z : Int} {v : Int32} (hd : decode cc pc = .ok (.sipush z, 3)) (hv : (Int16.ofInt z).toInt32 = v) (kk : V X k n (pc + 3) ls (.int v :: st) h) : V X k n pc ls (st) h := by
  obtain ⟨p, l, e, R, s, m, args, below, meth, c, D, cA, A, Dp, Q, σ, nL⟩ := X
  obtain ⟨hx, hb, hml, hown, hts, hK, hadr, hA, hGE, hlk, hfr, hlo, hkc, hks⟩ := G
  intro H locs d0 lr g1 g2 g3 g4
  exact lv_sipush hx hb hd hv (kk H locs d0 lr g1 g2 g3 g4)
theorem V_lconst (G : Gd X own cc d kc ks) {z : Fin 2} {v : Int64} (hd : decode cc pc = .ok (.lconst z, 1)) (hv : Int64.ofNat (z : Nat) = v) (kk : V X k n (pc + 1) ls (.long v :: st) h) : V X k n pc ls (st) h := by
  obtain ⟨p, l, e, R, s, m, args, below, meth, c, D, cA, A, Dp, Q, σ, nL⟩ := X
  obtain ⟨hx, hb, hml, hown, hts, hK, hadr, hA, hGE, hlk, hfr, hlo, hkc, hks⟩ := G
  intro H locs d0 lr g1 g2 g3 g4
  exact lv_lconst hx hb hd hv (kk H locs d0 lr g1 g2 g3 g4)
theorem V_ldc_ (G : Gd X own cc d kc ks) {ix : Nat} {v : Int32} (hd : decode cc pc = .ok (.ldc ix, 2)) (hw : Jvm.Cond.constant own ix v ∈ tw) (kk : V X k n (pc + 2) ls (.int v :: st) h) : V X k n pc ls (st) h := by
  obtain ⟨p, l, e, R, s, m, args, below, meth, c, D, cA, A, Dp, Q, σ, nL⟩ := X
  obtain ⟨hx, hb, hml, hown, hts, hK, hadr, hA, hGE, hlk, hfr, hlo, hkc, hks⟩ := G
  intro H locs d0 lr g1 g2 g3 g4
  exact lv_ldc hx hb hown (dr_words hts d0 _ hw) hd (kk H locs d0 lr g1 g2 g3 g4)
theorem V_ldcw_ (G : Gd X own cc d kc ks) {ix : Nat} {v : Int32} (hd : decode cc pc = .ok (.ldc_w ix, 3)) (hw : Jvm.Cond.constant own ix v ∈ tw) (kk : V X k n (pc + 3) ls (.int v :: st) h) : V X k n pc ls (st) h := by
  obtain ⟨p, l, e, R, s, m, args, below, meth, c, D, cA, A, Dp, Q, σ, nL⟩ := X
  obtain ⟨hx, hb, hml, hown, hts, hK, hadr, hA, hGE, hlk, hfr, hlo, hkc, hks⟩ := G
  intro H locs d0 lr g1 g2 g3 g4
  exact lv_ldcw hx hb hown (dr_words hts d0 _ hw) hd (kk H locs d0 lr g1 g2 g3 g4)
theorem V_ldc2 (G : Gd X own cc d kc ks) {ix : Nat} {v : Int64} (hd : decode cc pc = .ok (.ldc2_w ix, 3)) (hw : Jvm.Cond.constantLong own ix v ∈ tw) (kk : V X k n (pc + 3) ls (.long v :: st) h) : V X k n pc ls (st) h := by
  obtain ⟨p, l, e, R, s, m, args, below, meth, c, D, cA, A, Dp, Q, σ, nL⟩ := X
  obtain ⟨hx, hb, hml, hown, hts, hK, hadr, hA, hGE, hlk, hfr, hlo, hkc, hks⟩ := G
  intro H locs d0 lr g1 g2 g3 g4
  exact lv_ldc2 hx hb hown (dr_words hts d0 _ hw) hd (kk H locs d0 lr g1 g2 g3 g4)
theorem V_ldc2d (G : Gd X own cc d kc ks) {ix : Nat} {v : UInt64} (hd : decode cc pc = .ok (.ldc2_w ix, 3)) (hw : Jvm.Cond.constantDouble own ix v ∈ tw) (kk : V X k n (pc + 3) ls (.double v :: st) h) : V X k n pc ls (st) h := by
  obtain ⟨p, l, e, R, s, m, args, below, meth, c, D, cA, A, Dp, Q, σ, nL⟩ := X
  obtain ⟨hx, hb, hml, hown, hts, hK, hadr, hA, hGE, hlk, hfr, hlo, hkc, hks⟩ := G
  intro H locs d0 lr g1 g2 g3 g4
  exact lv_ldc2d hx hb hown (dr_words hts d0 _ hw) hd (kk H locs d0 lr g1 g2 g3 g4)
theorem V_iadd_ (G : Gd X own cc d kc ks) {x y : Int32} (hd : decode cc pc = .ok (.iadd, 1))  (kk : V X k n (pc + 1) ls (.int (x + y) :: st) h) : V X k n pc ls (.int y :: .int x :: st) h := by
  obtain ⟨p, l, e, R, s, m, args, below, meth, c, D, cA, A, Dp, Q, σ, nL⟩ := X
  obtain ⟨hx, hb, hml, hown, hts, hK, hadr, hA, hGE, hlk, hfr, hlo, hkc, hks⟩ := G
  intro H locs d0 lr g1 g2 g3 g4
  exact lv_iadd hx hb hd (kk H locs d0 lr g1 g2 g3 g4)
theorem V_isub_ (G : Gd X own cc d kc ks) {x y : Int32} (hd : decode cc pc = .ok (.isub, 1))  (kk : V X k n (pc + 1) ls (.int (x - y) :: st) h) : V X k n pc ls (.int y :: .int x :: st) h := by
  obtain ⟨p, l, e, R, s, m, args, below, meth, c, D, cA, A, Dp, Q, σ, nL⟩ := X
  obtain ⟨hx, hb, hml, hown, hts, hK, hadr, hA, hGE, hlk, hfr, hlo, hkc, hks⟩ := G
  intro H locs d0 lr g1 g2 g3 g4
  exact lv_isub hx hb hd (kk H locs d0 lr g1 g2 g3 g4)
theorem V_imul_ (G : Gd X own cc d kc ks) {x y : Int32} (hd : decode cc pc = .ok (.imul, 1))  (kk : V X k n (pc + 1) ls (.int (x * y) :: st) h) : V X k n pc ls (.int y :: .int x :: st) h := by
  obtain ⟨p, l, e, R, s, m, args, below, meth, c, D, cA, A, Dp, Q, σ, nL⟩ := X
  obtain ⟨hx, hb, hml, hown, hts, hK, hadr, hA, hGE, hlk, hfr, hlo, hkc, hks⟩ := G
  intro H locs d0 lr g1 g2 g3 g4
  exact lv_imul hx hb hd (kk H locs d0 lr g1 g2 g3 g4)
theorem V_ishl_ (G : Gd X own cc d kc ks) {x y : Int32} (hd : decode cc pc = .ok (.ishl, 1))  (kk : V X k n (pc + 1) ls (.int (x <<< (y &&& 31)) :: st) h) : V X k n pc ls (.int y :: .int x :: st) h := by
  obtain ⟨p, l, e, R, s, m, args, below, meth, c, D, cA, A, Dp, Q, σ, nL⟩ := X
  obtain ⟨hx, hb, hml, hown, hts, hK, hadr, hA, hGE, hlk, hfr, hlo, hkc, hks⟩ := G
  intro H locs d0 lr g1 g2 g3 g4
  exact lv_ishl hx hb hd (kk H locs d0 lr g1 g2 g3 g4)
theorem V_ishr_ (G : Gd X own cc d kc ks) {x y : Int32} (hd : decode cc pc = .ok (.ishr, 1))  (kk : V X k n (pc + 1) ls (.int (x >>> (y &&& 31)) :: st) h) : V X k n pc ls (.int y :: .int x :: st) h := by
  obtain ⟨p, l, e, R, s, m, args, below, meth, c, D, cA, A, Dp, Q, σ, nL⟩ := X
  obtain ⟨hx, hb, hml, hown, hts, hK, hadr, hA, hGE, hlk, hfr, hlo, hkc, hks⟩ := G
  intro H locs d0 lr g1 g2 g3 g4
  exact lv_ishr hx hb hd (kk H locs d0 lr g1 g2 g3 g4)
theorem V_iand_ (G : Gd X own cc d kc ks) {x y : Int32} (hd : decode cc pc = .ok (.iand, 1))  (kk : V X k n (pc + 1) ls (.int (x &&& y) :: st) h) : V X k n pc ls (.int y :: .int x :: st) h := by
  obtain ⟨p, l, e, R, s, m, args, below, meth, c, D, cA, A, Dp, Q, σ, nL⟩ := X
  obtain ⟨hx, hb, hml, hown, hts, hK, hadr, hA, hGE, hlk, hfr, hlo, hkc, hks⟩ := G
  intro H locs d0 lr g1 g2 g3 g4
  exact lv_iand hx hb hd (kk H locs d0 lr g1 g2 g3 g4)
theorem V_ior_ (G : Gd X own cc d kc ks) {x y : Int32} (hd : decode cc pc = .ok (.ior, 1))  (kk : V X k n (pc + 1) ls (.int (x ||| y) :: st) h) : V X k n pc ls (.int y :: .int x :: st) h := by
  obtain ⟨p, l, e, R, s, m, args, below, meth, c, D, cA, A, Dp, Q, σ, nL⟩ := X
  obtain ⟨hx, hb, hml, hown, hts, hK, hadr, hA, hGE, hlk, hfr, hlo, hkc, hks⟩ := G
  intro H locs d0 lr g1 g2 g3 g4
  exact lv_ior hx hb hd (kk H locs d0 lr g1 g2 g3 g4)
theorem V_idiv_ (G : Gd X own cc d kc ks) {x y : Int32} (hd : decode cc pc = .ok (.idiv, 1)) (hne : ¬ y = 0) (kk : V X k n (pc + 1) ls (.int (x / y) :: st) h) : V X k n pc ls (.int y :: .int x :: st) h := by
  obtain ⟨p, l, e, R, s, m, args, below, meth, c, D, cA, A, Dp, Q, σ, nL⟩ := X
  obtain ⟨hx, hb, hml, hown, hts, hK, hadr, hA, hGE, hlk, hfr, hlo, hkc, hks⟩ := G
  intro H locs d0 lr g1 g2 g3 g4
  exact lv_idiv hx hb hd hne (kk H locs d0 lr g1 g2 g3 g4)
theorem V_irem_ (G : Gd X own cc d kc ks) {x y : Int32} (hd : decode cc pc = .ok (.irem, 1)) (hne : ¬ y = 0) (kk : V X k n (pc + 1) ls (.int (x - x / y * y) :: st) h) : V X k n pc ls (.int y :: .int x :: st) h := by
  obtain ⟨p, l, e, R, s, m, args, below, meth, c, D, cA, A, Dp, Q, σ, nL⟩ := X
  obtain ⟨hx, hb, hml, hown, hts, hK, hadr, hA, hGE, hlk, hfr, hlo, hkc, hks⟩ := G
  intro H locs d0 lr g1 g2 g3 g4
  exact lv_irem hx hb hd hne (kk H locs d0 lr g1 g2 g3 g4)
theorem V_ladd (G : Gd X own cc d kc ks) {x y : Int64} (hd : decode cc pc = .ok (.ladd, 1))  (kk : V X k n (pc + 1) ls (.long (x + y) :: st) h) : V X k n pc ls (.long y :: .long x :: st) h := by
  obtain ⟨p, l, e, R, s, m, args, below, meth, c, D, cA, A, Dp, Q, σ, nL⟩ := X
  obtain ⟨hx, hb, hml, hown, hts, hK, hadr, hA, hGE, hlk, hfr, hlo, hkc, hks⟩ := G
  intro H locs d0 lr g1 g2 g3 g4
  exact lv_ladd hx hb hd (kk H locs d0 lr g1 g2 g3 g4)
theorem V_lsub (G : Gd X own cc d kc ks) {x y : Int64} (hd : decode cc pc = .ok (.lsub, 1))  (kk : V X k n (pc + 1) ls (.long (x - y) :: st) h) : V X k n pc ls (.long y :: .long x :: st) h := by
  obtain ⟨p, l, e, R, s, m, args, below, meth, c, D, cA, A, Dp, Q, σ, nL⟩ := X
  obtain ⟨hx, hb, hml, hown, hts, hK, hadr, hA, hGE, hlk, hfr, hlo, hkc, hks⟩ := G
  intro H locs d0 lr g1 g2 g3 g4
  exact lv_lsub hx hb hd (kk H locs d0 lr g1 g2 g3 g4)
theorem V_lmul (G : Gd X own cc d kc ks) {x y : Int64} (hd : decode cc pc = .ok (.lmul, 1))  (kk : V X k n (pc + 1) ls (.long (x * y) :: st) h) : V X k n pc ls (.long y :: .long x :: st) h := by
  obtain ⟨p, l, e, R, s, m, args, below, meth, c, D, cA, A, Dp, Q, σ, nL⟩ := X
  obtain ⟨hx, hb, hml, hown, hts, hK, hadr, hA, hGE, hlk, hfr, hlo, hkc, hks⟩ := G
  intro H locs d0 lr g1 g2 g3 g4
  exact lv_lmul hx hb hd (kk H locs d0 lr g1 g2 g3 g4)
theorem V_land (G : Gd X own cc d kc ks) {x y : Int64} (hd : decode cc pc = .ok (.land, 1))  (kk : V X k n (pc + 1) ls (.long (x &&& y) :: st) h) : V X k n pc ls (.long y :: .long x :: st) h := by
  obtain ⟨p, l, e, R, s, m, args, below, meth, c, D, cA, A, Dp, Q, σ, nL⟩ := X
  obtain ⟨hx, hb, hml, hown, hts, hK, hadr, hA, hGE, hlk, hfr, hlo, hkc, hks⟩ := G
  intro H locs d0 lr g1 g2 g3 g4
  exact lv_land hx hb hd (kk H locs d0 lr g1 g2 g3 g4)
theorem V_lor (G : Gd X own cc d kc ks) {x y : Int64} (hd : decode cc pc = .ok (.lor, 1))  (kk : V X k n (pc + 1) ls (.long (x ||| y) :: st) h) : V X k n pc ls (.long y :: .long x :: st) h := by
  obtain ⟨p, l, e, R, s, m, args, below, meth, c, D, cA, A, Dp, Q, σ, nL⟩ := X
  obtain ⟨hx, hb, hml, hown, hts, hK, hadr, hA, hGE, hlk, hfr, hlo, hkc, hks⟩ := G
  intro H locs d0 lr g1 g2 g3 g4
  exact lv_lor hx hb hd (kk H locs d0 lr g1 g2 g3 g4)
theorem V_lshl (G : Gd X own cc d kc ks) {x : Int64} {y : Int32} (hd : decode cc pc = .ok (.lshl, 1))  (kk : V X k n (pc + 1) ls (.long (x <<< (y.toInt64 &&& 63)) :: st) h) : V X k n pc ls (.int y :: .long x :: st) h := by
  obtain ⟨p, l, e, R, s, m, args, below, meth, c, D, cA, A, Dp, Q, σ, nL⟩ := X
  obtain ⟨hx, hb, hml, hown, hts, hK, hadr, hA, hGE, hlk, hfr, hlo, hkc, hks⟩ := G
  intro H locs d0 lr g1 g2 g3 g4
  exact lv_lshl hx hb hd rfl (kk H locs d0 lr g1 g2 g3 g4)
theorem V_lushr (G : Gd X own cc d kc ks) {x : Int64} {y : Int32} (hd : decode cc pc = .ok (.lushr, 1))  (kk : V X k n (pc + 1) ls (.long ((x.toUInt64 >>> (y.toInt64.toUInt64 &&& Int64.toUInt64 63)).toInt64) :: st) h) : V X k n pc ls (.int y :: .long x :: st) h := by
  obtain ⟨p, l, e, R, s, m, args, below, meth, c, D, cA, A, Dp, Q, σ, nL⟩ := X
  obtain ⟨hx, hb, hml, hown, hts, hK, hadr, hA, hGE, hlk, hfr, hlo, hkc, hks⟩ := G
  intro H locs d0 lr g1 g2 g3 g4
  exact lv_lushr hx hb hd rfl (kk H locs d0 lr g1 g2 g3 g4)
theorem V_i2l_ (G : Gd X own cc d kc ks) {x : Int32} (hd : decode cc pc = .ok (.i2l, 1))  (kk : V X k n (pc + 1) ls (.long x.toInt64 :: st) h) : V X k n pc ls (.int x :: st) h := by
  obtain ⟨p, l, e, R, s, m, args, below, meth, c, D, cA, A, Dp, Q, σ, nL⟩ := X
  obtain ⟨hx, hb, hml, hown, hts, hK, hadr, hA, hGE, hlk, hfr, hlo, hkc, hks⟩ := G
  intro H locs d0 lr g1 g2 g3 g4
  exact lv_i2l hx hb hd rfl (kk H locs d0 lr g1 g2 g3 g4)
theorem V_l2i_ (G : Gd X own cc d kc ks) {x : Int64} (hd : decode cc pc = .ok (.l2i, 1))  (kk : V X k n (pc + 1) ls (.int x.toInt32 :: st) h) : V X k n pc ls (.long x :: st) h := by
  obtain ⟨p, l, e, R, s, m, args, below, meth, c, D, cA, A, Dp, Q, σ, nL⟩ := X
  obtain ⟨hx, hb, hml, hown, hts, hK, hadr, hA, hGE, hlk, hfr, hlo, hkc, hks⟩ := G
  intro H locs d0 lr g1 g2 g3 g4
  exact lv_l2i hx hb hd rfl (kk H locs d0 lr g1 g2 g3 g4)
theorem V_lcmp_ (G : Gd X own cc d kc ks) {x y : Int64} (hd : decode cc pc = .ok (.lcmp, 1))  (kk : V X k n (pc + 1) ls (.int (lg_cmp x y) :: st) h) : V X k n pc ls (.long y :: .long x :: st) h := by
  obtain ⟨p, l, e, R, s, m, args, below, meth, c, D, cA, A, Dp, Q, σ, nL⟩ := X
  obtain ⟨hx, hb, hml, hown, hts, hK, hadr, hA, hGE, hlk, hfr, hlo, hkc, hks⟩ := G
  intro H locs d0 lr g1 g2 g3 g4
  exact W.lcmp hx hb hd (kk H locs d0 lr g1 g2 g3 g4)
theorem V_i2d_ (G : Gd X own cc d kc ks) {x : Int32} (hd : decode cc pc = .ok (.i2d, 1))  (kk : V X k n (pc + 1) ls (.double (FP.i2d x) :: st) h) : V X k n pc ls (.int x :: st) h := by
  obtain ⟨p, l, e, R, s, m, args, below, meth, c, D, cA, A, Dp, Q, σ, nL⟩ := X
  obtain ⟨hx, hb, hml, hown, hts, hK, hadr, hA, hGE, hlk, hfr, hlo, hkc, hks⟩ := G
  intro H locs d0 lr g1 g2 g3 g4
  exact lv_i2d hx hb hd (kk H locs d0 lr g1 g2 g3 g4)
theorem V_d2l (G : Gd X own cc d kc ks) {x : UInt64} (hd : decode cc pc = .ok (.d2l, 1))  (kk : V X k n (pc + 1) ls (.long (FP.d2l x) :: st) h) : V X k n pc ls (.double x :: st) h := by
  obtain ⟨p, l, e, R, s, m, args, below, meth, c, D, cA, A, Dp, Q, σ, nL⟩ := X
  obtain ⟨hx, hb, hml, hown, hts, hK, hadr, hA, hGE, hlk, hfr, hlo, hkc, hks⟩ := G
  intro H locs d0 lr g1 g2 g3 g4
  exact lv_d2l hx hb hd (kk H locs d0 lr g1 g2 g3 g4)
theorem V_dcmp (G : Gd X own cc d kc ks) {x y : UInt64} {op : CmpOp} (hd : decode cc pc = .ok (.dcmp op, 1))  (kk : V X k n (pc + 1) ls (.int (Op.cmpValue (FP.dcmp x y) op) :: st) h) : V X k n pc ls (.double y :: .double x :: st) h := by
  obtain ⟨p, l, e, R, s, m, args, below, meth, c, D, cA, A, Dp, Q, σ, nL⟩ := X
  obtain ⟨hx, hb, hml, hown, hts, hK, hadr, hA, hGE, hlk, hfr, hlo, hkc, hks⟩ := G
  intro H locs d0 lr g1 g2 g3 g4
  exact lv_dcmp hx hb hd (kk H locs d0 lr g1 g2 g3 g4)
theorem V_ddiv (G : Gd X own cc d kc ks) {x y : UInt64} (hd : decode cc pc = .ok (.ddiv, 1)) (hne : vf_n64 (FP.ddiv x y)) (kk : V X k n (pc + 1) ls (.double (FP.ddiv x y) :: st) h) : V X k n pc ls (.double y :: .double x :: st) h := by
  obtain ⟨p, l, e, R, s, m, args, below, meth, c, D, cA, A, Dp, Q, σ, nL⟩ := X
  obtain ⟨hx, hb, hml, hown, hts, hK, hadr, hA, hGE, hlk, hfr, hlo, hkc, hks⟩ := G
  intro H locs d0 lr g1 g2 g3 g4
  exact lv_ddiv hx hb hd hne (kk H locs d0 lr g1 g2 g3 g4)
theorem V_dmul (G : Gd X own cc d kc ks) {x y : UInt64} (hd : decode cc pc = .ok (.dmul, 1)) (hne : vf_n64 (FP.dmul x y)) (kk : V X k n (pc + 1) ls (.double (FP.dmul x y) :: st) h) : V X k n pc ls (.double y :: .double x :: st) h := by
  obtain ⟨p, l, e, R, s, m, args, below, meth, c, D, cA, A, Dp, Q, σ, nL⟩ := X
  obtain ⟨hx, hb, hml, hown, hts, hK, hadr, hA, hGE, hlk, hfr, hlo, hkc, hks⟩ := G
  intro H locs d0 lr g1 g2 g3 g4
  exact lv_dmul hx hb hd hne (kk H locs d0 lr g1 g2 g3 g4)
theorem V_dsub (G : Gd X own cc d kc ks) {x y : UInt64} (hd : decode cc pc = .ok (.dsub, 1)) (hne : vf_n64 (FP.dsub x y)) (kk : V X k n (pc + 1) ls (.double (FP.dsub x y) :: st) h) : V X k n pc ls (.double y :: .double x :: st) h := by
  obtain ⟨p, l, e, R, s, m, args, below, meth, c, D, cA, A, Dp, Q, σ, nL⟩ := X
  obtain ⟨hx, hb, hml, hown, hts, hK, hadr, hA, hGE, hlk, hfr, hlo, hkc, hks⟩ := G
  intro H locs d0 lr g1 g2 g3 g4
  exact lv_dsub hx hb hd hne (kk H locs d0 lr g1 g2 g3 g4)
theorem V_dup (G : Gd X own cc d kc ks) {v : Value} (hd : decode cc pc = .ok (.dup, 1)) (hc : v.category = 1) (kk : V X k n (pc + 1) ls (v :: v :: st) h) : V X k n pc ls (v :: st) h := by
  obtain ⟨p, l, e, R, s, m, args, below, meth, c, D, cA, A, Dp, Q, σ, nL⟩ := X
  obtain ⟨hx, hb, hml, hown, hts, hK, hadr, hA, hGE, hlk, hfr, hlo, hkc, hks⟩ := G
  intro H locs d0 lr g1 g2 g3 g4
  exact lv_dup hx hb hd (by rw [vm_cat]; exact hc) (kk H locs d0 lr g1 g2 g3 g4)
theorem V_pop (G : Gd X own cc d kc ks) {v : Value} (hd : decode cc pc = .ok (.pop, 1)) (hc : v.category = 1) (kk : V X k n (pc + 1) ls (st) h) : V X k n pc ls (v :: st) h := by
  obtain ⟨p, l, e, R, s, m, args, below, meth, c, D, cA, A, Dp, Q, σ, nL⟩ := X
  obtain ⟨hx, hb, hml, hown, hts, hK, hadr, hA, hGE, hlk, hfr, hlo, hkc, hks⟩ := G
  intro H locs d0 lr g1 g2 g3 g4
  exact lv_pop hx hb hd (by rw [vm_cat]; exact hc) (kk H locs d0 lr g1 g2 g3 g4)
theorem V_dup2 (G : Gd X own cc d kc ks) {v v2 : Value} (hd : decode cc pc = .ok (.dup2, 1)) (hc : v.category = 1) (hc2 : v2.category = 1) (kk : V X k n (pc + 1) ls (v :: v2 :: v :: v2 :: st) h) : V X k n pc ls (v :: v2 :: st) h := by
  obtain ⟨p, l, e, R, s, m, args, below, meth, c, D, cA, A, Dp, Q, σ, nL⟩ := X
  obtain ⟨hx, hb, hml, hown, hts, hK, hadr, hA, hGE, hlk, hfr, hlo, hkc, hks⟩ := G
  intro H locs d0 lr g1 g2 g3 g4
  exact lv_dup2_11 hx hb hd (by rw [vm_cat]; exact hc) (by rw [vm_cat]; exact hc2) (kk H locs d0 lr g1 g2 g3 g4)
theorem V_iload0 (G : Gd X own cc d kc ks) {t : List (Option Value)} {x : Int32} (hd : decode cc pc = .ok (.iload_n 0, 1))  (kk : V X k n (pc + 1) (some (.int x) :: t) (.int x :: st) h) : V X k n pc (some (.int x) :: t) (st) h := by
  obtain ⟨p, l, e, R, s, m, args, below, meth, c, D, cA, A, Dp, Q, σ, nL⟩ := X
  obtain ⟨hx, hb, hml, hown, hts, hK, hadr, hA, hGE, hlk, hfr, hlo, hkc, hks⟩ := G
  intro H locs d0 lr g1 g2 g3 g4
  exact lv_iload_n (i := 0) hx hb hd rfl (lok_at (i := 0) (v := .int x) g4 rfl) (kk H locs d0 lr g1 g2 g3 g4)
theorem V_istore0 (G : Gd X own cc d kc ks) { b : Option Value} {t : List (Option Value)} {x : Int32} (hd : decode cc pc = .ok (.istore_n 0, 1))  (kk : V X k n (pc + 1) (some (.int x) :: t) (st) h) : V X k n pc (b :: t) (.int x :: st) h := by
  obtain ⟨p, l, e, R, s, m, args, below, meth, c, D, cA, A, Dp, Q, σ, nL⟩ := X
  obtain ⟨hx, hb, hml, hown, hts, hK, hadr, hA, hGE, hlk, hfr, hlo, hkc, hks⟩ := G
  intro H locs d0 lr g1 g2 g3 g4
  exact lv_istore_n hx hb hd rfl g4.2 (by have := g4.1; simp at this; omega) rfl (fun ls2 hl => kk H locs d0 ls2 g1 g2 g3 (lok_set1 (pre := []) (v := .int x) g4.1 (show c1l [] = true from rfl) hl))
theorem V_iinc0_ (G : Gd X own cc d kc ks) {t : List (Option Value)} {x : Int32} {z : Int} {v : Int32} (hd : decode cc pc = .ok (.iinc 0 z, 3)) (hv : Int32.ofInt z = v)  (kk : V X k n (pc + 3) (some (.int (x + v)) :: t) st h) : V X k n pc (some (.int x) :: t) st h := by
  obtain ⟨p, l, e, R, s, m, args, below, meth, c, D, cA, A, Dp, Q, σ, nL⟩ := X
  obtain ⟨hx, hb, hml, hown, hts, hK, hadr, hA, hGE, hlk, hfr, hlo, hkc, hks⟩ := G
  intro H locs d0 lr g1 g2 g3 g4
  obtain ⟨k1, hk1⟩ := List.getElem?_of_mem (prs_mem.mpr ⟨.int x, rfl, rfl⟩ : (0, Value.int x) ∈ prs σ (some (.int x) :: t))
  subst hv
  exact lv_iinc hx hb hd g4.2 hk1 rfl (by have := g4.1; simp at this; omega) rfl (fun ls2 hl => kk H locs d0 ls2 g1 g2 g3 (lok_set1 (pre := []) (v := .int (x + Int32.ofInt z)) g4.1 (show c1l [] = true from rfl) hl))
theorem V_iload1 (G : Gd X own cc d kc ks) {a0 : Option Value} {t : List (Option Value)} {x : Int32} (hd : decode cc pc = .ok (.iload_n 1, 1))  (kk : V X k n (pc + 1) (a0 :: some (.int x) :: t) (.int x :: st) h) : V X k n pc (a0 :: some (.int x) :: t) (st) h := by
  obtain ⟨p, l, e, R, s, m, args, below, meth, c, D, cA, A, Dp, Q, σ, nL⟩ := X
  obtain ⟨hx, hb, hml, hown, hts, hK, hadr, hA, hGE, hlk, hfr, hlo, hkc, hks⟩ := G
  intro H locs d0 lr g1 g2 g3 g4
  exact lv_iload_n (i := 1) hx hb hd rfl (lok_at (i := 1) (v := .int x) g4 rfl) (kk H locs d0 lr g1 g2 g3 g4)
theorem V_istore1 (G : Gd X own cc d kc ks) {a0 b : Option Value} {t : List (Option Value)} {x : Int32} (hd : decode cc pc = .ok (.istore_n 1, 1)) (hc : c1 a0 = true) (kk : V X k n (pc + 1) (a0 :: some (.int x) :: t) (st) h) : V X k n pc (a0 :: b :: t) (.int x :: st) h := by
  obtain ⟨p, l, e, R, s, m, args, below, meth, c, D, cA, A, Dp, Q, σ, nL⟩ := X
  obtain ⟨hx, hb, hml, hown, hts, hK, hadr, hA, hGE, hlk, hfr, hlo, hkc, hks⟩ := G
  intro H locs d0 lr g1 g2 g3 g4
  exact lv_istore_n hx hb hd rfl g4.2 (by have := g4.1; simp at this; omega) rfl (fun ls2 hl => kk H locs d0 ls2 g1 g2 g3 (lok_set1 (pre := [a0]) (v := .int x) g4.1 (show c1l [a0] = true from hc) hl))
theorem V_iinc1_ (G : Gd X own cc d kc ks) {a0 : Option Value} {t : List (Option Value)} {x : Int32} {z : Int} {v : Int32} (hd : decode cc pc = .ok (.iinc 1 z, 3)) (hv : Int32.ofInt z = v) (hc : c1 a0 = true) (kk : V X k n (pc + 3) (a0 :: some (.int (x + v)) :: t) st h) : V X k n pc (a0 :: some (.int x) :: t) st h := by
  obtain ⟨p, l, e, R, s, m, args, below, meth, c, D, cA, A, Dp, Q, σ, nL⟩ := X
  obtain ⟨hx, hb, hml, hown, hts, hK, hadr, hA, hGE, hlk, hfr, hlo, hkc, hks⟩ := G
  intro H locs d0 lr g1 g2 g3 g4
  obtain ⟨k1, hk1⟩ := List.getElem?_of_mem (prs_mem.mpr ⟨.int x, rfl, rfl⟩ : (1, Value.int x) ∈ prs σ (a0 :: some (.int x) :: t))
  subst hv
  exact lv_iinc hx hb hd g4.2 hk1 rfl (by have := g4.1; simp at this; omega) rfl (fun ls2 hl => kk H locs d0 ls2 g1 g2 g3 (lok_set1 (pre := [a0]) (v := .int (x + Int32.ofInt z)) g4.1 (show c1l [a0] = true from hc) hl))
theorem V_iload2 (G : Gd X own cc d kc ks) {a0 a1 : Option Value} {t : List (Option Value)} {x : Int32} (hd : decode cc pc = .ok (.iload_n 2, 1))  (kk : V X k n (pc + 1) (a0 :: a1 :: some (.int x) :: t) (.int x :: st) h) : V X k n pc (a0 :: a1 :: some (.int x) :: t) (st) h := by
  obtain ⟨p, l, e, R, s, m, args, below, meth, c, D, cA, A, Dp, Q, σ, nL⟩ := X
  obtain ⟨hx, hb, hml, hown, hts, hK, hadr, hA, hGE, hlk, hfr, hlo, hkc, hks⟩ := G
  intro H locs d0 lr g1 g2 g3 g4
  exact lv_iload_n (i := 2) hx hb hd rfl (lok_at (i := 2) (v := .int x) g4 rfl) (kk H locs d0 lr g1 g2 g3 g4)
theorem V_istore2 (G : Gd X own cc d kc ks) {a0 a1 b : Option Value} {t : List (Option Value)} {x : Int32} (hd : decode cc pc = .ok (.istore_n 2, 1)) (hc : c1 a1 = true) (kk : V X k n (pc + 1) (a0 :: a1 :: some (.int x) :: t) (st) h) : V X k n pc (a0 :: a1 :: b :: t) (.int x :: st) h := by
  obtain ⟨p, l, e, R, s, m, args, below, meth, c, D, cA, A, Dp, Q, σ, nL⟩ := X
  obtain ⟨hx, hb, hml, hown, hts, hK, hadr, hA, hGE, hlk, hfr, hlo, hkc, hks⟩ := G
  intro H locs d0 lr g1 g2 g3 g4
  exact lv_istore_n hx hb hd rfl g4.2 (by have := g4.1; simp at this; omega) rfl (fun ls2 hl => kk H locs d0 ls2 g1 g2 g3 (lok_set1 (pre := [a0, a1]) (v := .int x) g4.1 (show c1l [a0, a1] = true from hc) hl))
theorem V_iinc2_ (G : Gd X own cc d kc ks) {a0 a1 : Option Value} {t : List (Option Value)} {x : Int32} {z : Int} {v : Int32} (hd : decode cc pc = .ok (.iinc 2 z, 3)) (hv : Int32.ofInt z = v) (hc : c1 a1 = true) (kk : V X k n (pc + 3) (a0 :: a1 :: some (.int (x + v)) :: t) st h) : V X k n pc (a0 :: a1 :: some (.int x) :: t) st h := by
  obtain ⟨p, l, e, R, s, m, args, below, meth, c, D, cA, A, Dp, Q, σ, nL⟩ := X
  obtain ⟨hx, hb, hml, hown, hts, hK, hadr, hA, hGE, hlk, hfr, hlo, hkc, hks⟩ := G
  intro H locs d0 lr g1 g2 g3 g4
  obtain ⟨k1, hk1⟩ := List.getElem?_of_mem (prs_mem.mpr ⟨.int x, rfl, rfl⟩ : (2, Value.int x) ∈ prs σ (a0 :: a1 :: some (.int x) :: t))
  subst hv
  exact lv_iinc hx hb hd g4.2 hk1 rfl (by have := g4.1; simp at this; omega) rfl (fun ls2 hl => kk H locs d0 ls2 g1 g2 g3 (lok_set1 (pre := [a0, a1]) (v := .int (x + Int32.ofInt z)) g4.1 (show c1l [a0, a1] = true from hc) hl))
theorem V_iload3 (G : Gd X own cc d kc ks) {a0 a1 a2 : Option Value} {t : List (Option Value)} {x : Int32} (hd : decode cc pc = .ok (.iload_n 3, 1))  (kk : V X k n (pc + 1) (a0 :: a1 :: a2 :: some (.int x) :: t) (.int x :: st) h) : V X k n pc (a0 :: a1 :: a2 :: some (.int x) :: t) (st) h := by
  obtain ⟨p, l, e, R, s, m, args, below, meth, c, D, cA, A, Dp, Q, σ, nL⟩ := X
  obtain ⟨hx, hb, hml, hown, hts, hK, hadr, hA, hGE, hlk, hfr, hlo, hkc, hks⟩ := G
  intro H locs d0 lr g1 g2 g3 g4
  exact lv_iload_n (i := 3) hx hb hd rfl (lok_at (i := 3) (v := .int x) g4 rfl) (kk H locs d0 lr g1 g2 g3 g4)
theorem V_istore3 (G : Gd X own cc d kc ks) {a0 a1 a2 b : Option Value} {t : List (Option Value)} {x : Int32} (hd : decode cc pc = .ok (.istore_n 3, 1)) (hc : c1 a2 = true) (kk : V X k n (pc + 1) (a0 :: a1 :: a2 :: some (.int x) :: t) (st) h) : V X k n pc (a0 :: a1 :: a2 :: b :: t) (.int x :: st) h := by
  obtain ⟨p, l, e, R, s, m, args, below, meth, c, D, cA, A, Dp, Q, σ, nL⟩ := X
  obtain ⟨hx, hb, hml, hown, hts, hK, hadr, hA, hGE, hlk, hfr, hlo, hkc, hks⟩ := G
  intro H locs d0 lr g1 g2 g3 g4
  exact lv_istore_n hx hb hd rfl g4.2 (by have := g4.1; simp at this; omega) rfl (fun ls2 hl => kk H locs d0 ls2 g1 g2 g3 (lok_set1 (pre := [a0, a1, a2]) (v := .int x) g4.1 (show c1l [a0, a1, a2] = true from hc) hl))
theorem V_iinc3_ (G : Gd X own cc d kc ks) {a0 a1 a2 : Option Value} {t : List (Option Value)} {x : Int32} {z : Int} {v : Int32} (hd : decode cc pc = .ok (.iinc 3 z, 3)) (hv : Int32.ofInt z = v) (hc : c1 a2 = true) (kk : V X k n (pc + 3) (a0 :: a1 :: a2 :: some (.int (x + v)) :: t) st h) : V X k n pc (a0 :: a1 :: a2 :: some (.int x) :: t) st h := by
  obtain ⟨p, l, e, R, s, m, args, below, meth, c, D, cA, A, Dp, Q, σ, nL⟩ := X
  obtain ⟨hx, hb, hml, hown, hts, hK, hadr, hA, hGE, hlk, hfr, hlo, hkc, hks⟩ := G
  intro H locs d0 lr g1 g2 g3 g4
  obtain ⟨k1, hk1⟩ := List.getElem?_of_mem (prs_mem.mpr ⟨.int x, rfl, rfl⟩ : (3, Value.int x) ∈ prs σ (a0 :: a1 :: a2 :: some (.int x) :: t))
  subst hv
  exact lv_iinc hx hb hd g4.2 hk1 rfl (by have := g4.1; simp at this; omega) rfl (fun ls2 hl => kk H locs d0 ls2 g1 g2 g3 (lok_set1 (pre := [a0, a1, a2]) (v := .int (x + Int32.ofInt z)) g4.1 (show c1l [a0, a1, a2] = true from hc) hl))
theorem V_iload4 (G : Gd X own cc d kc ks) {a0 a1 a2 a3 : Option Value} {t : List (Option Value)} {x : Int32} (hd : decode cc pc = .ok (.iload 4, 2))  (kk : V X k n (pc + 2) (a0 :: a1 :: a2 :: a3 :: some (.int x) :: t) (.int x :: st) h) : V X k n pc (a0 :: a1 :: a2 :: a3 :: some (.int x) :: t) (st) h := by
  obtain ⟨p, l, e, R, s, m, args, below, meth, c, D, cA, A, Dp, Q, σ, nL⟩ := X
  obtain ⟨hx, hb, hml, hown, hts, hK, hadr, hA, hGE, hlk, hfr, hlo, hkc, hks⟩ := G
  intro H locs d0 lr g1 g2 g3 g4
  exact lv_iload hx hb hd (lok_at (i := 4) (v := .int x) g4 rfl) (kk H locs d0 lr g1 g2 g3 g4)
theorem V_istore4 (G : Gd X own cc d kc ks) {a0 a1 a2 a3 b : Option Value} {t : List (Option Value)} {x : Int32} (hd : decode cc pc = .ok (.istore 4, 2)) (hc : c1 a3 = true) (kk : V X k n (pc + 2) (a0 :: a1 :: a2 :: a3 :: some (.int x) :: t) (st) h) : V X k n pc (a0 :: a1 :: a2 :: a3 :: b :: t) (.int x :: st) h := by
  obtain ⟨p, l, e, R, s, m, args, below, meth, c, D, cA, A, Dp, Q, σ, nL⟩ := X
  obtain ⟨hx, hb, hml, hown, hts, hK, hadr, hA, hGE, hlk, hfr, hlo, hkc, hks⟩ := G
  intro H locs d0 lr g1 g2 g3 g4
  exact lv_istore hx hb hd g4.2 (by have := g4.1; simp at this; omega) rfl (fun ls2 hl => kk H locs d0 ls2 g1 g2 g3 (lok_set1 (pre := [a0, a1, a2, a3]) (v := .int x) g4.1 (show c1l [a0, a1, a2, a3] = true from hc) hl))
theorem V_iinc4_ (G : Gd X own cc d kc ks) {a0 a1 a2 a3 : Option Value} {t : List (Option Value)} {x : Int32} {z : Int} {v : Int32} (hd : decode cc pc = .ok (.iinc 4 z, 3)) (hv : Int32.ofInt z = v) (hc : c1 a3 = true) (kk : V X k n (pc + 3) (a0 :: a1 :: a2 :: a3 :: some (.int (x + v)) :: t) st h) : V X k n pc (a0 :: a1 :: a2 :: a3 :: some (.int x) :: t) st h := by
  obtain ⟨p, l, e, R, s, m, args, below, meth, c, D, cA, A, Dp, Q, σ, nL⟩ := X
  obtain ⟨hx, hb, hml, hown, hts, hK, hadr, hA, hGE, hlk, hfr, hlo, hkc, hks⟩ := G
  intro H locs d0 lr g1 g2 g3 g4
  obtain ⟨k1, hk1⟩ := List.getElem?_of_mem (prs_mem.mpr ⟨.int x, rfl, rfl⟩ : (4, Value.int x) ∈ prs σ (a0 :: a1 :: a2 :: a3 :: some (.int x) :: t))
  subst hv
  exact lv_iinc hx hb hd g4.2 hk1 rfl (by have := g4.1; simp at this; omega) rfl (fun ls2 hl => kk H locs d0 ls2 g1 g2 g3 (lok_set1 (pre := [a0, a1, a2, a3]) (v := .int (x + Int32.ofInt z)) g4.1 (show c1l [a0, a1, a2, a3] = true from hc) hl))
theorem V_iload5 (G : Gd X own cc d kc ks) {a0 a1 a2 a3 a4 : Option Value} {t : List (Option Value)} {x : Int32} (hd : decode cc pc = .ok (.iload 5, 2))  (kk : V X k n (pc + 2) (a0 :: a1 :: a2 :: a3 :: a4 :: some (.int x) :: t) (.int x :: st) h) : V X k n pc (a0 :: a1 :: a2 :: a3 :: a4 :: some (.int x) :: t) (st) h := by
  obtain ⟨p, l, e, R, s, m, args, below, meth, c, D, cA, A, Dp, Q, σ, nL⟩ := X
  obtain ⟨hx, hb, hml, hown, hts, hK, hadr, hA, hGE, hlk, hfr, hlo, hkc, hks⟩ := G
  intro H locs d0 lr g1 g2 g3 g4
  exact lv_iload hx hb hd (lok_at (i := 5) (v := .int x) g4 rfl) (kk H locs d0 lr g1 g2 g3 g4)
theorem V_istore5 (G : Gd X own cc d kc ks) {a0 a1 a2 a3 a4 b : Option Value} {t : List (Option Value)} {x : Int32} (hd : decode cc pc = .ok (.istore 5, 2)) (hc : c1 a4 = true) (kk : V X k n (pc + 2) (a0 :: a1 :: a2 :: a3 :: a4 :: some (.int x) :: t) (st) h) : V X k n pc (a0 :: a1 :: a2 :: a3 :: a4 :: b :: t) (.int x :: st) h := by
  obtain ⟨p, l, e, R, s, m, args, below, meth, c, D, cA, A, Dp, Q, σ, nL⟩ := X
  obtain ⟨hx, hb, hml, hown, hts, hK, hadr, hA, hGE, hlk, hfr, hlo, hkc, hks⟩ := G
  intro H locs d0 lr g1 g2 g3 g4
  exact lv_istore hx hb hd g4.2 (by have := g4.1; simp at this; omega) rfl (fun ls2 hl => kk H locs d0 ls2 g1 g2 g3 (lok_set1 (pre := [a0, a1, a2, a3, a4]) (v := .int x) g4.1 (show c1l [a0, a1, a2, a3, a4] = true from hc) hl))
theorem V_iinc5_ (G : Gd X own cc d kc ks) {a0 a1 a2 a3 a4 : Option Value} {t : List (Option Value)} {x : Int32} {z : Int} {v : Int32} (hd : decode cc pc = .ok (.iinc 5 z, 3)) (hv : Int32.ofInt z = v) (hc : c1 a4 = true) (kk : V X k n (pc + 3) (a0 :: a1 :: a2 :: a3 :: a4 :: some (.int (x + v)) :: t) st h) : V X k n pc (a0 :: a1 :: a2 :: a3 :: a4 :: some (.int x) :: t) st h := by
  obtain ⟨p, l, e, R, s, m, args, below, meth, c, D, cA, A, Dp, Q, σ, nL⟩ := X
  obtain ⟨hx, hb, hml, hown, hts, hK, hadr, hA, hGE, hlk, hfr, hlo, hkc, hks⟩ := G
  intro H locs d0 lr g1 g2 g3 g4
  obtain ⟨k1, hk1⟩ := List.getElem?_of_mem (prs_mem.mpr ⟨.int x, rfl, rfl⟩ : (5, Value.int x) ∈ prs σ (a0 :: a1 :: a2 :: a3 :: a4 :: some (.int x) :: t))
  subst hv
  exact lv_iinc hx hb hd g4.2 hk1 rfl (by have := g4.1; simp at this; omega) rfl (fun ls2 hl => kk H locs d0 ls2 g1 g2 g3 (lok_set1 (pre := [a0, a1, a2, a3, a4]) (v := .int (x + Int32.ofInt z)) g4.1 (show c1l [a0, a1, a2, a3, a4] = true from hc) hl))
theorem V_iload6 (G : Gd X own cc d kc ks) {a0 a1 a2 a3 a4 a5 : Option Value} {t : List (Option Value)} {x : Int32} (hd : decode cc pc = .ok (.iload 6, 2))  (kk : V X k n (pc + 2) (a0 :: a1 :: a2 :: a3 :: a4 :: a5 :: some (.int x) :: t) (.int x :: st) h) : V X k n pc (a0 :: a1 :: a2 :: a3 :: a4 :: a5 :: some (.int x) :: t) (st) h := by
  obtain ⟨p, l, e, R, s, m, args, below, meth, c, D, cA, A, Dp, Q, σ, nL⟩ := X
  obtain ⟨hx, hb, hml, hown, hts, hK, hadr, hA, hGE, hlk, hfr, hlo, hkc, hks⟩ := G
  intro H locs d0 lr g1 g2 g3 g4
  exact lv_iload hx hb hd (lok_at (i := 6) (v := .int x) g4 rfl) (kk H locs d0 lr g1 g2 g3 g4)
theorem V_istore6 (G : Gd X own cc d kc ks) {a0 a1 a2 a3 a4 a5 b : Option Value} {t : List (Option Value)} {x : Int32} (hd : decode cc pc = .ok (.istore 6, 2)) (hc : c1 a5 = true) (kk : V X k n (pc + 2) (a0 :: a1 :: a2 :: a3 :: a4 :: a5 :: some (.int x) :: t) (st) h) : V X k n pc (a0 :: a1 :: a2 :: a3 :: a4 :: a5 :: b :: t) (.int x :: st) h := by
  obtain ⟨p, l, e, R, s, m, args, below, meth, c, D, cA, A, Dp, Q, σ, nL⟩ := X
  obtain ⟨hx, hb, hml, hown, hts, hK, hadr, hA, hGE, hlk, hfr, hlo, hkc, hks⟩ := G
  intro H locs d0 lr g1 g2 g3 g4
  exact lv_istore hx hb hd g4.2 (by have := g4.1; simp at this; omega) rfl (fun ls2 hl => kk H locs d0 ls2 g1 g2 g3 (lok_set1 (pre := [a0, a1, a2, a3, a4, a5]) (v := .int x) g4.1 (show c1l [a0, a1, a2, a3, a4, a5] = true from hc) hl))
theorem V_iinc6_ (G : Gd X own cc d kc ks) {a0 a1 a2 a3 a4 a5 : Option Value} {t : List (Option Value)} {x : Int32} {z : Int} {v : Int32} (hd : decode cc pc = .ok (.iinc 6 z, 3)) (hv : Int32.ofInt z = v) (hc : c1 a5 = true) (kk : V X k n (pc + 3) (a0 :: a1 :: a2 :: a3 :: a4 :: a5 :: some (.int (x + v)) :: t) st h) : V X k n pc (a0 :: a1 :: a2 :: a3 :: a4 :: a5 :: some (.int x) :: t) st h := by
  obtain ⟨p, l, e, R, s, m, args, below, meth, c, D, cA, A, Dp, Q, σ, nL⟩ := X
  obtain ⟨hx, hb, hml, hown, hts, hK, hadr, hA, hGE, hlk, hfr, hlo, hkc, hks⟩ := G
  intro H locs d0 lr g1 g2 g3 g4
  obtain ⟨k1, hk1⟩ := List.getElem?_of_mem (prs_mem.mpr ⟨.int x, rfl, rfl⟩ : (6, Value.int x) ∈ prs σ (a0 :: a1 :: a2 :: a3 :: a4 :: a5 :: some (.int x) :: t))
  subst hv
  exact lv_iinc hx hb hd g4.2 hk1 rfl (by have := g4.1; simp at this; omega) rfl (fun ls2 hl => kk H locs d0 ls2 g1 g2 g3 (lok_set1 (pre := [a0, a1, a2, a3, a4, a5]) (v := .int (x + Int32.ofInt z)) g4.1 (show c1l [a0, a1, a2, a3, a4, a5] = true from hc) hl))
theorem V_iload7 (G : Gd X own cc d kc ks) {a0 a1 a2 a3 a4 a5 a6 : Option Value} {t : List (Option Value)} {x : Int32} (hd : decode cc pc = .ok (.iload 7, 2))  (kk : V X k n (pc + 2) (a0 :: a1 :: a2 :: a3 :: a4 :: a5 :: a6 :: some (.int x) :: t) (.int x :: st) h) : V X k n pc (a0 :: a1 :: a2 :: a3 :: a4 :: a5 :: a6 :: some (.int x) :: t) (st) h := by
  obtain ⟨p, l, e, R, s, m, args, below, meth, c, D, cA, A, Dp, Q, σ, nL⟩ := X
  obtain ⟨hx, hb, hml, hown, hts, hK, hadr, hA, hGE, hlk, hfr, hlo, hkc, hks⟩ := G
  intro H locs d0 lr g1 g2 g3 g4
  exact lv_iload hx hb hd (lok_at (i := 7) (v := .int x) g4 rfl) (kk H locs d0 lr g1 g2 g3 g4)
theorem V_istore7 (G : Gd X own cc d kc ks) {a0 a1 a2 a3 a4 a5 a6 b : Option Value} {t : List (Option Value)} {x : Int32} (hd : decode cc pc = .ok (.istore 7, 2)) (hc : c1 a6 = true) (kk : V X k n (pc + 2) (a0 :: a1 :: a2 :: a3 :: a4 :: a5 :: a6 :: some (.int x) :: t) (st) h) : V X k n pc (a0 :: a1 :: a2 :: a3 :: a4 :: a5 :: a6 :: b :: t) (.int x :: st) h := by
  obtain ⟨p, l, e, R, s, m, args, below, meth, c, D, cA, A, Dp, Q, σ, nL⟩ := X
  obtain ⟨hx, hb, hml, hown, hts, hK, hadr, hA, hGE, hlk, hfr, hlo, hkc, hks⟩ := G
  intro H locs d0 lr g1 g2 g3 g4
  exact lv_istore hx hb hd g4.2 (by have := g4.1; simp at this; omega) rfl (fun ls2 hl => kk H locs d0 ls2 g1 g2 g3 (lok_set1 (pre := [a0, a1, a2, a3, a4, a5, a6]) (v := .int x) g4.1 (show c1l [a0, a1, a2, a3, a4, a5, a6] = true from hc) hl))
theorem V_iinc7_ (G : Gd X own cc d kc ks) {a0 a1 a2 a3 a4 a5 a6 : Option Value} {t : List (Option Value)} {x : Int32} {z : Int} {v : Int32} (hd : decode cc pc = .ok (.iinc 7 z, 3)) (hv : Int32.ofInt z = v) (hc : c1 a6 = true) (kk : V X k n (pc + 3) (a0 :: a1 :: a2 :: a3 :: a4 :: a5 :: a6 :: some (.int (x + v)) :: t) st h) : V X k n pc (a0 :: a1 :: a2 :: a3 :: a4 :: a5 :: a6 :: some (.int x) :: t) st h := by
  obtain ⟨p, l, e, R, s, m, args, below, meth, c, D, cA, A, Dp, Q, σ, nL⟩ := X
  obtain ⟨hx, hb, hml, hown, hts, hK, hadr, hA, hGE, hlk, hfr, hlo, hkc, hks⟩ := G
  intro H locs d0 lr g1 g2 g3 g4
  obtain ⟨k1, hk1⟩ := List.getElem?_of_mem (prs_mem.mpr ⟨.int x, rfl, rfl⟩ : (7, Value.int x) ∈ prs σ (a0 :: a1 :: a2 :: a3 :: a4 :: a5 :: a6 :: some (.int x) :: t))
  subst hv
  exact lv_iinc hx hb hd g4.2 hk1 rfl (by have := g4.1; simp at this; omega) rfl (fun ls2 hl => kk H locs d0 ls2 g1 g2 g3 (lok_set1 (pre := [a0, a1, a2, a3, a4, a5, a6]) (v := .int (x + Int32.ofInt z)) g4.1 (show c1l [a0, a1, a2, a3, a4, a5, a6] = true from hc) hl))
theorem V_iload8 (G : Gd X own cc d kc ks) {a0 a1 a2 a3 a4 a5 a6 a7 : Option Value} {t : List (Option Value)} {x : Int32} (hd : decode cc pc = .ok (.iload 8, 2))  (kk : V X k n (pc + 2) (a0 :: a1 :: a2 :: a3 :: a4 :: a5 :: a6 :: a7 :: some (.int x) :: t) (.int x :: st) h) : V X k n pc (a0 :: a1 :: a2 :: a3 :: a4 :: a5 :: a6 :: a7 :: some (.int x) :: t) (st) h := by
  obtain ⟨p, l, e, R, s, m, args, below, meth, c, D, cA, A, Dp, Q, σ, nL⟩ := X
  obtain ⟨hx, hb, hml, hown, hts, hK, hadr, hA, hGE, hlk, hfr, hlo, hkc, hks⟩ := G
  intro H locs d0 lr g1 g2 g3 g4
  exact lv_iload hx hb hd (lok_at (i := 8) (v := .int x) g4 rfl) (kk H locs d0 lr g1 g2 g3 g4)
theorem V_istore8 (G : Gd X own cc d kc ks) {a0 a1 a2 a3 a4 a5 a6 a7 b : Option Value} {t : List (Option Value)} {x : Int32} (hd : decode cc pc = .ok (.istore 8, 2)) (hc : c1 a7 = true) (kk : V X k n (pc + 2) (a0 :: a1 :: a2 :: a3 :: a4 :: a5 :: a6 :: a7 :: some (.int x) :: t) (st) h) : V X k n pc (a0 :: a1 :: a2 :: a3 :: a4 :: a5 :: a6 :: a7 :: b :: t) (.int x :: st) h := by
  obtain ⟨p, l, e, R, s, m, args, below, meth, c, D, cA, A, Dp, Q, σ, nL⟩ := X
  obtain ⟨hx, hb, hml, hown, hts, hK, hadr, hA, hGE, hlk, hfr, hlo, hkc, hks⟩ := G
  intro H locs d0 lr g1 g2 g3 g4
  exact lv_istore hx hb hd g4.2 (by have := g4.1; simp at this; omega) rfl (fun ls2 hl => kk H locs d0 ls2 g1 g2 g3 (lok_set1 (pre := [a0, a1, a2, a3, a4, a5, a6, a7]) (v := .int x) g4.1 (show c1l [a0, a1, a2, a3, a4, a5, a6, a7] = true from hc) hl))
theorem V_iinc8_ (G : Gd X own cc d kc ks) {a0 a1 a2 a3 a4 a5 a6 a7 : Option Value} {t : List (Option Value)} {x : Int32} {z : Int} {v : Int32} (hd : decode cc pc = .ok (.iinc 8 z, 3)) (hv : Int32.ofInt z = v) (hc : c1 a7 = true) (kk : V X k n (pc + 3) (a0 :: a1 :: a2 :: a3 :: a4 :: a5 :: a6 :: a7 :: some (.int (x + v)) :: t) st h) : V X k n pc (a0 :: a1 :: a2 :: a3 :: a4 :: a5 :: a6 :: a7 :: some (.int x) :: t) st h := by
  obtain ⟨p, l, e, R, s, m, args, below, meth, c, D, cA, A, Dp, Q, σ, nL⟩ := X
  obtain ⟨hx, hb, hml, hown, hts, hK, hadr, hA, hGE, hlk, hfr, hlo, hkc, hks⟩ := G
  intro H locs d0 lr g1 g2 g3 g4
  obtain ⟨k1, hk1⟩ := List.getElem?_of_mem (prs_mem.mpr ⟨.int x, rfl, rfl⟩ : (8, Value.int x) ∈ prs σ (a0 :: a1 :: a2 :: a3 :: a4 :: a5 :: a6 :: a7 :: some (.int x) :: t))
  subst hv
  exact lv_iinc hx hb hd g4.2 hk1 rfl (by have := g4.1; simp at this; omega) rfl (fun ls2 hl => kk H locs d0 ls2 g1 g2 g3 (lok_set1 (pre := [a0, a1, a2, a3, a4, a5, a6, a7]) (v := .int (x + Int32.ofInt z)) g4.1 (show c1l [a0, a1, a2, a3, a4, a5, a6, a7] = true from hc) hl))
theorem V_iload9 (G : Gd X own cc d kc ks) {a0 a1 a2 a3 a4 a5 a6 a7 a8 : Option Value} {t : List (Option Value)} {x : Int32} (hd : decode cc pc = .ok (.iload 9, 2))  (kk : V X k n (pc + 2) (a0 :: a1 :: a2 :: a3 :: a4 :: a5 :: a6 :: a7 :: a8 :: some (.int x) :: t) (.int x :: st) h) : V X k n pc (a0 :: a1 :: a2 :: a3 :: a4 :: a5 :: a6 :: a7 :: a8 :: some (.int x) :: t) (st) h := by
  obtain ⟨p, l, e, R, s, m, args, below, meth, c, D, cA, A, Dp, Q, σ, nL⟩ := X
  obtain ⟨hx, hb, hml, hown, hts, hK, hadr, hA, hGE, hlk, hfr, hlo, hkc, hks⟩ := G
  intro H locs d0 lr g1 g2 g3 g4
  exact lv_iload hx hb hd (lok_at (i := 9) (v := .int x) g4 rfl) (kk H locs d0 lr g1 g2 g3 g4)
theorem V_istore9 (G : Gd X own cc d kc ks) {a0 a1 a2 a3 a4 a5 a6 a7 a8 b : Option Value} {t : List (Option Value)} {x : Int32} (hd : decode cc pc = .ok (.istore 9, 2)) (hc : c1 a8 = true) (kk : V X k n (pc + 2) (a0 :: a1 :: a2 :: a3 :: a4 :: a5 :: a6 :: a7 :: a8 :: some (.int x) :: t) (st) h) : V X k n pc (a0 :: a1 :: a2 :: a3 :: a4 :: a5 :: a6 :: a7 :: a8 :: b :: t) (.int x :: st) h := by
  obtain ⟨p, l, e, R, s, m, args, below, meth, c, D, cA, A, Dp, Q, σ, nL⟩ := X
  obtain ⟨hx, hb, hml, hown, hts, hK, hadr, hA, hGE, hlk, hfr, hlo, hkc, hks⟩ := G
  intro H locs d0 lr g1 g2 g3 g4
  exact lv_istore hx hb hd g4.2 (by have := g4.1; simp at this; omega) rfl (fun ls2 hl => kk H locs d0 ls2 g1 g2 g3 (lok_set1 (pre := [a0, a1, a2, a3, a4, a5, a6, a7, a8]) (v := .int x) g4.1 (show c1l [a0, a1, a2, a3, a4, a5, a6, a7, a8] = true from hc) hl))
theorem V_iinc9_ (G : Gd X own cc d kc ks) {a0 a1 a2 a3 a4 a5 a6 a7 a8 : Option Value} {t : List (Option Value)} {x : Int32} {z : Int} {v : Int32} (hd : decode cc pc = .ok (.iinc 9 z, 3)) (hv : Int32.ofInt z = v) (hc : c1 a8 = true) (kk : V X k n (pc + 3) (a0 :: a1 :: a2 :: a3 :: a4 :: a5 :: a6 :: a7 :: a8 :: some (.int (x + v)) :: t) st h) : V X k n pc (a0 :: a1 :: a2 :: a3 :: a4 :: a5 :: a6 :: a7 :: a8 :: some (.int x) :: t) st h := by
  obtain ⟨p, l, e, R, s, m, args, below, meth, c, D, cA, A, Dp, Q, σ, nL⟩ := X
  obtain ⟨hx, hb, hml, hown, hts, hK, hadr, hA, hGE, hlk, hfr, hlo, hkc, hks⟩ := G
  intro H locs d0 lr g1 g2 g3 g4
  obtain ⟨k1, hk1⟩ := List.getElem?_of_mem (prs_mem.mpr ⟨.int x, rfl, rfl⟩ : (9, Value.int x) ∈ prs σ (a0 :: a1 :: a2 :: a3 :: a4 :: a5 :: a6 :: a7 :: a8 :: some (.int x) :: t))
  subst hv
  exact lv_iinc hx hb hd g4.2 hk1 rfl (by have := g4.1; simp at this; omega) rfl (fun ls2 hl => kk H locs d0 ls2 g1 g2 g3 (lok_set1 (pre := [a0, a1, a2, a3, a4, a5, a6, a7, a8]) (v := .int (x + Int32.ofInt z)) g4.1 (show c1l [a0, a1, a2, a3, a4, a5, a6, a7, a8] = true from hc) hl))
theorem V_iload10 (G : Gd X own cc d kc ks) {a0 a1 a2 a3 a4 a5 a6 a7 a8 a9 : Option Value} {t : List (Option Value)} {x : Int32} (hd : decode cc pc = .ok (.iload 10, 2))  (kk : V X k n (pc + 2) (a0 :: a1 :: a2 :: a3 :: a4 :: a5 :: a6 :: a7 :: a8 :: a9 :: some (.int x) :: t) (.int x :: st) h) : V X k n pc (a0 :: a1 :: a2 :: a3 :: a4 :: a5 :: a6 :: a7 :: a8 :: a9 :: some (.int x) :: t) (st) h := by
  obtain ⟨p, l, e, R, s, m, args, below, meth, c, D, cA, A, Dp, Q, σ, nL⟩ := X
  obtain ⟨hx, hb, hml, hown, hts, hK, hadr, hA, hGE, hlk, hfr, hlo, hkc, hks⟩ := G
  intro H locs d0 lr g1 g2 g3 g4
  exact lv_iload hx hb hd (lok_at (i := 10) (v := .int x) g4 rfl) (kk H locs d0 lr g1 g2 g3 g4)
theorem V_istore10 (G : Gd X own cc d kc ks) {a0 a1 a2 a3 a4 a5 a6 a7 a8 a9 b : Option Value} {t : List (Option Value)} {x : Int32} (hd : decode cc pc = .ok (.istore 10, 2)) (hc : c1 a9 = true) (kk : V X k n (pc + 2) (a0 :: a1 :: a2 :: a3 :: a4 :: a5 :: a6 :: a7 :: a8 :: a9 :: some (.int x) :: t) (st) h) : V X k n pc (a0 :: a1 :: a2 :: a3 :: a4 :: a5 :: a6 :: a7 :: a8 :: a9 :: b :: t) (.int x :: st) h := by
  obtain ⟨p, l, e, R, s, m, args, below, meth, c, D, cA, A, Dp, Q, σ, nL⟩ := X
  obtain ⟨hx, hb, hml, hown, hts, hK, hadr, hA, hGE, hlk, hfr, hlo, hkc, hks⟩ := G
  intro H locs d0 lr g1 g2 g3 g4
  exact lv_istore hx hb hd g4.2 (by have := g4.1; simp at this; omega) rfl (fun ls2 hl => kk H locs d0 ls2 g1 g2 g3 (lok_set1 (pre := [a0, a1, a2, a3, a4, a5, a6, a7, a8, a9]) (v := .int x) g4.1 (show c1l [a0, a1, a2, a3, a4, a5, a6, a7, a8, a9] = true from hc) hl))
theorem V_iinc10_ (G : Gd X own cc d kc ks) {a0 a1 a2 a3 a4 a5 a6 a7 a8 a9 : Option Value} {t : List (Option Value)} {x : Int32} {z : Int} {v : Int32} (hd : decode cc pc = .ok (.iinc 10 z, 3)) (hv : Int32.ofInt z = v) (hc : c1 a9 = true) (kk : V X k n (pc + 3) (a0 :: a1 :: a2 :: a3 :: a4 :: a5 :: a6 :: a7 :: a8 :: a9 :: some (.int (x + v)) :: t) st h) : V X k n pc (a0 :: a1 :: a2 :: a3 :: a4 :: a5 :: a6 :: a7 :: a8 :: a9 :: some (.int x) :: t) st h := by
  obtain ⟨p, l, e, R, s, m, args, below, meth, c, D, cA, A, Dp, Q, σ, nL⟩ := X
  obtain ⟨hx, hb, hml, hown, hts, hK, hadr, hA, hGE, hlk, hfr, hlo, hkc, hks⟩ := G
  intro H locs d0 lr g1 g2 g3 g4
  obtain ⟨k1, hk1⟩ := List.getElem?_of_mem (prs_mem.mpr ⟨.int x, rfl, rfl⟩ : (10, Value.int x) ∈ prs σ (a0 :: a1 :: a2 :: a3 :: a4 :: a5 :: a6 :: a7 :: a8 :: a9 :: some (.int x) :: t))
  subst hv
  exact lv_iinc hx hb hd g4.2 hk1 rfl (by have := g4.1; simp at this; omega) rfl (fun ls2 hl => kk H locs d0 ls2 g1 g2 g3 (lok_set1 (pre := [a0, a1, a2, a3, a4, a5, a6, a7, a8, a9]) (v := .int (x + Int32.ofInt z)) g4.1 (show c1l [a0, a1, a2, a3, a4, a5, a6, a7, a8, a9] = true from hc) hl))
theorem V_iload11 (G : Gd X own cc d kc ks) {a0 a1 a2 a3 a4 a5 a6 a7 a8 a9 a10 : Option Value} {t : List (Option Value)} {x : Int32} (hd : decode cc pc = .ok (.iload 11, 2))  (kk : V X k n (pc + 2) (a0 :: a1 :: a2 :: a3 :: a4 :: a5 :: a6 :: a7 :: a8 :: a9 :: a10 :: some (.int x) :: t) (.int x :: st) h) : V X k n pc (a0 :: a1 :: a2 :: a3 :: a4 :: a5 :: a6 :: a7 :: a8 :: a9 :: a10 :: some (.int x) :: t) (st) h := by
  obtain ⟨p, l, e, R, s, m, args, below, meth, c, D, cA, A, Dp, Q, σ, nL⟩ := X
  obtain ⟨hx, hb, hml, hown, hts, hK, hadr, hA, hGE, hlk, hfr, hlo, hkc, hks⟩ := G
  intro H locs d0 lr g1 g2 g3 g4
  exact lv_iload hx hb hd (lok_at (i := 11) (v := .int x) g4 rfl) (kk H locs d0 lr g1 g2 g3 g4)
theorem V_istore11 (G : Gd X own cc d kc ks) {a0 a1 a2 a3 a4 a5 a6 a7 a8 a9 a10 b : Option Value} {t : List (Option Value)} {x : Int32} (hd : decode cc pc = .ok (.istore 11, 2)) (hc : c1 a10 = true) (kk : V X k n (pc + 2) (a0 :: a1 :: a2 :: a3 :: a4 :: a5 :: a6 :: a7 :: a8 :: a9 :: a10 :: some (.int x) :: t) (st) h) : V X k n pc (a0 :: a1 :: a2 :: a3 :: a4 :: a5 :: a6 :: a7 :: a8 :: a9 :: a10 :: b :: t) (.int x :: st) h := by
  obtain ⟨p, l, e, R, s, m, args, below, meth, c, D, cA, A, Dp, Q, σ, nL⟩ := X
  obtain ⟨hx, hb, hml, hown, hts, hK, hadr, hA, hGE, hlk, hfr, hlo, hkc, hks⟩ := G
  intro H locs d0 lr g1 g2 g3 g4
  exact lv_istore hx hb hd g4.2 (by have := g4.1; simp at this; omega) rfl (fun ls2 hl => kk H locs d0 ls2 g1 g2 g3 (lok_set1 (pre := [a0, a1, a2, a3, a4, a5, a6, a7, a8, a9, a10]) (v := .int x) g4.1 (show c1l [a0, a1, a2, a3, a4, a5, a6, a7, a8, a9, a10] = true from hc) hl))
theorem V_iinc11_ (G : Gd X own cc d kc ks) {a0 a1 a2 a3 a4 a5 a6 a7 a8 a9 a10 : Option Value} {t : List (Option Value)} {x : Int32} {z : Int} {v : Int32} (hd : decode cc pc = .ok (.iinc 11 z, 3)) (hv : Int32.ofInt z = v) (hc : c1 a10 = true) (kk : V X k n (pc + 3) (a0 :: a1 :: a2 :: a3 :: a4 :: a5 :: a6 :: a7 :: a8 :: a9 :: a10 :: some (.int (x + v)) :: t) st h) : V X k n pc (a0 :: a1 :: a2 :: a3 :: a4 :: a5 :: a6 :: a7 :: a8 :: a9 :: a10 :: some (.int x) :: t) st h := by
  obtain ⟨p, l, e, R, s, m, args, below, meth, c, D, cA, A, Dp, Q, σ, nL⟩ := X
  obtain ⟨hx, hb, hml, hown, hts, hK, hadr, hA, hGE, hlk, hfr, hlo, hkc, hks⟩ := G
  intro H locs d0 lr g1 g2 g3 g4
  obtain ⟨k1, hk1⟩ := List.getElem?_of_mem (prs_mem.mpr ⟨.int x, rfl, rfl⟩ : (11, Value.int x) ∈ prs σ (a0 :: a1 :: a2 :: a3 :: a4 :: a5 :: a6 :: a7 :: a8 :: a9 :: a10 :: some (.int x) :: t))
  subst hv
  exact lv_iinc hx hb hd g4.2 hk1 rfl (by have := g4.1; simp at this; omega) rfl (fun ls2 hl => kk H locs d0 ls2 g1 g2 g3 (lok_set1 (pre := [a0, a1, a2, a3, a4, a5, a6, a7, a8, a9, a10]) (v := .int (x + Int32.ofInt z)) g4.1 (show c1l [a0, a1, a2, a3, a4, a5, a6, a7, a8, a9, a10] = true from hc) hl))
theorem V_iload12 (G : Gd X own cc d kc ks) {a0 a1 a2 a3 a4 a5 a6 a7 a8 a9 a10 a11 : Option Value} {t : List (Option Value)} {x : Int32} (hd : decode cc pc = .ok (.iload 12, 2))  (kk : V X k n (pc + 2) (a0 :: a1 :: a2 :: a3 :: a4 :: a5 :: a6 :: a7 :: a8 :: a9 :: a10 :: a11 :: some (.int x) :: t) (.int x :: st) h) : V X k n pc (a0 :: a1 :: a2 :: a3 :: a4 :: a5 :: a6 :: a7 :: a8 :: a9 :: a10 :: a11 :: some (.int x) :: t) (st) h := by
  obtain ⟨p, l, e, R, s, m, args, below, meth, c, D, cA, A, Dp, Q, σ, nL⟩ := X
  obtain ⟨hx, hb, hml, hown, hts, hK, hadr, hA, hGE, hlk, hfr, hlo, hkc, hks⟩ := G
  intro H locs d0 lr g1 g2 g3 g4
  exact lv_iload hx hb hd (lok_at (i := 12) (v := .int x) g4 rfl) (kk H locs d0 lr g1 g2 g3 g4)
theorem V_istore12 (G : Gd X own cc d kc ks) {a0 a1 a2 a3 a4 a5 a6 a7 a8 a9 a10 a11 b : Option Value} {t : List (Option Value)} {x : Int32} (hd : decode cc pc = .ok (.istore 12, 2)) (hc : c1 a11 = true) (kk : V X k n (pc + 2) (a0 :: a1 :: a2 :: a3 :: a4 :: a5 :: a6 :: a7 :: a8 :: a9 :: a10 :: a11 :: some (.int x) :: t) (st) h) : V X k n pc (a0 :: a1 :: a2 :: a3 :: a4 :: a5 :: a6 :: a7 :: a8 :: a9 :: a10 :: a11 :: b :: t) (.int x :: st) h := by
  obtain ⟨p, l, e, R, s, m, args, below, meth, c, D, cA, A, Dp, Q, σ, nL⟩ := X
  obtain ⟨hx, hb, hml, hown, hts, hK, hadr, hA, hGE, hlk, hfr, hlo, hkc, hks⟩ := G
  intro H locs d0 lr g1 g2 g3 g4
  exact lv_istore hx hb hd g4.2 (by have := g4.1; simp at this; omega) rfl (fun ls2 hl => kk H locs d0 ls2 g1 g2 g3 (lok_set1 (pre := [a0, a1, a2, a3, a4, a5, a6, a7, a8, a9, a10, a11]) (v := .int x) g4.1 (show c1l [a0, a1, a2, a3, a4, a5, a6, a7, a8, a9, a10, a11] = true from hc) hl))
theorem V_iinc12_ (G : Gd X own cc d kc ks) {a0 a1 a2 a3 a4 a5 a6 a7 a8 a9 a10 a11 : Option Value} {t : List (Option Value)} {x : Int32} {z : Int} {v : Int32} (hd : decode cc pc = .ok (.iinc 12 z, 3)) (hv : Int32.ofInt z = v) (hc : c1 a11 = true) (kk : V X k n (pc + 3) (a0 :: a1 :: a2 :: a3 :: a4 :: a5 :: a6 :: a7 :: a8 :: a9 :: a10 :: a11 :: some (.int (x + v)) :: t) st h) : V X k n pc (a0 :: a1 :: a2 :: a3 :: a4 :: a5 :: a6 :: a7 :: a8 :: a9 :: a10 :: a11 :: some (.int x) :: t) st h := by
  obtain ⟨p, l, e, R, s, m, args, below, meth, c, D, cA, A, Dp, Q, σ, nL⟩ := X
  obtain ⟨hx, hb, hml, hown, hts, hK, hadr, hA, hGE, hlk, hfr, hlo, hkc, hks⟩ := G
  intro H locs d0 lr g1 g2 g3 g4
  obtain ⟨k1, hk1⟩ := List.getElem?_of_mem (prs_mem.mpr ⟨.int x, rfl, rfl⟩ : (12, Value.int x) ∈ prs σ (a0 :: a1 :: a2 :: a3 :: a4 :: a5 :: a6 :: a7 :: a8 :: a9 :: a10 :: a11 :: some (.int x) :: t))
  subst hv
  exact lv_iinc hx hb hd g4.2 hk1 rfl (by have := g4.1; simp at this; omega) rfl (fun ls2 hl => kk H locs d0 ls2 g1 g2 g3 (lok_set1 (pre := [a0, a1, a2, a3, a4, a5, a6, a7, a8, a9, a10, a11]) (v := .int (x + Int32.ofInt z)) g4.1 (show c1l [a0, a1, a2, a3, a4, a5, a6, a7, a8, a9, a10, a11] = true from hc) hl))
theorem V_lload0 (G : Gd X own cc d kc ks) {t : List (Option Value)} {x : Int64} (hd : decode cc pc = .ok (.lload_n 0, 1))  (kk : V X k n (pc + 1) (some (.long x) :: t) (.long x :: st) h) : V X k n pc (some (.long x) :: t) (st) h := by
  obtain ⟨p, l, e, R, s, m, args, below, meth, c, D, cA, A, Dp, Q, σ, nL⟩ := X
  obtain ⟨hx, hb, hml, hown, hts, hK, hadr, hA, hGE, hlk, hfr, hlo, hkc, hks⟩ := G
  intro H locs d0 lr g1 g2 g3 g4
  exact lv_lload_n (i := 0) hx hb hd rfl (lok_at (i := 0) (v := .long x) g4 rfl) (kk H locs d0 lr g1 g2 g3 g4)
theorem V_lstore0 (G : Gd X own cc d kc ks) { b b2 : Option Value} {t : List (Option Value)} {x : Int64} (hd : decode cc pc = .ok (.lstore_n 0, 1))  (kk : V X k n (pc + 1) (some (.long x) :: none :: t) (st) h) : V X k n pc (b :: b2 :: t) (.long x :: st) h := by
  obtain ⟨p, l, e, R, s, m, args, below, meth, c, D, cA, A, Dp, Q, σ, nL⟩ := X
  obtain ⟨hx, hb, hml, hown, hts, hK, hadr, hA, hGE, hlk, hfr, hlo, hkc, hks⟩ := G
  intro H locs d0 lr g1 g2 g3 g4
  exact lv_lstore_n hx hb hd rfl g4.2 (by have := g4.1; simp at this; omega) rfl (fun ls2 hl => kk H locs d0 ls2 g1 g2 g3 (lok_set2 (pre := []) (v := .long x) g4.1 (show c1l [] = true from rfl) hl))
theorem V_lload1 (G : Gd X own cc d kc ks) {a0 : Option Value} {t : List (Option Value)} {x : Int64} (hd : decode cc pc = .ok (.lload_n 1, 1))  (kk : V X k n (pc + 1) (a0 :: some (.long x) :: t) (.long x :: st) h) : V X k n pc (a0 :: some (.long x) :: t) (st) h := by
  obtain ⟨p, l, e, R, s, m, args, below, meth, c, D, cA, A, Dp, Q, σ, nL⟩ := X
  obtain ⟨hx, hb, hml, hown, hts, hK, hadr, hA, hGE, hlk, hfr, hlo, hkc, hks⟩ := G
  intro H locs d0 lr g1 g2 g3 g4
  exact lv_lload_n (i := 1) hx hb hd rfl (lok_at (i := 1) (v := .long x) g4 rfl) (kk H locs d0 lr g1 g2 g3 g4)
theorem V_lstore1 (G : Gd X own cc d kc ks) {a0 b b2 : Option Value} {t : List (Option Value)} {x : Int64} (hd : decode cc pc = .ok (.lstore_n 1, 1)) (hc : c1 a0 = true) (kk : V X k n (pc + 1) (a0 :: some (.long x) :: none :: t) (st) h) : V X k n pc (a0 :: b :: b2 :: t) (.long x :: st) h := by
  obtain ⟨p, l, e, R, s, m, args, below, meth, c, D, cA, A, Dp, Q, σ, nL⟩ := X
  obtain ⟨hx, hb, hml, hown, hts, hK, hadr, hA, hGE, hlk, hfr, hlo, hkc, hks⟩ := G
  intro H locs d0 lr g1 g2 g3 g4
  exact lv_lstore_n hx hb hd rfl g4.2 (by have := g4.1; simp at this; omega) rfl (fun ls2 hl => kk H locs d0 ls2 g1 g2 g3 (lok_set2 (pre := [a0]) (v := .long x) g4.1 (show c1l [a0] = true from hc) hl))
theorem V_lload2 (G : Gd X own cc d kc ks) {a0 a1 : Option Value} {t : List (Option Value)} {x : Int64} (hd : decode cc pc = .ok (.lload_n 2, 1))  (kk : V X k n (pc + 1) (a0 :: a1 :: some (.long x) :: t) (.long x :: st) h) : V X k n pc (a0 :: a1 :: some (.long x) :: t) (st) h := by
  obtain ⟨p, l, e, R, s, m, args, below, meth, c, D, cA, A, Dp, Q, σ, nL⟩ := X
  obtain ⟨hx, hb, hml, hown, hts, hK, hadr, hA, hGE, hlk, hfr, hlo, hkc, hks⟩ := G
  intro H locs d0 lr g1 g2 g3 g4
  exact lv_lload_n (i := 2) hx hb hd rfl (lok_at (i := 2) (v := .long x) g4 rfl) (kk H locs d0 lr g1 g2 g3 g4)
theorem V_lstore2 (G : Gd X own cc d kc ks) {a0 a1 b b2 : Option Value} {t : List (Option Value)} {x : Int64} (hd : decode cc pc = .ok (.lstore_n 2, 1)) (hc : c1 a1 = true) (kk : V X k n (pc + 1) (a0 :: a1 :: some (.long x) :: none :: t) (st) h) : V X k n pc (a0 :: a1 :: b :: b2 :: t) (.long x :: st) h := by
  obtain ⟨p, l, e, R, s, m, args, below, meth, c, D, cA, A, Dp, Q, σ, nL⟩ := X
  obtain ⟨hx, hb, hml, hown, hts, hK, hadr, hA, hGE, hlk, hfr, hlo, hkc, hks⟩ := G
  intro H locs d0 lr g1 g2 g3 g4
  exact lv_lstore_n hx hb hd rfl g4.2 (by have := g4.1; simp at this; omega) rfl (fun ls2 hl => kk H locs d0 ls2 g1 g2 g3 (lok_set2 (pre := [a0, a1]) (v := .long x) g4.1 (show c1l [a0, a1] = true from hc) hl))
theorem V_lload3 (G : Gd X own cc d kc ks) {a0 a1 a2 : Option Value} {t : List (Option Value)} {x : Int64} (hd : decode cc pc = .ok (.lload_n 3, 1))  (kk : V X k n (pc + 1) (a0 :: a1 :: a2 :: some (.long x) :: t) (.long x :: st) h) : V X k n pc (a0 :: a1 :: a2 :: some (.long x) :: t) (st) h := by
  obtain ⟨p, l, e, R, s, m, args, below, meth, c, D, cA, A, Dp, Q, σ, nL⟩ := X
  obtain ⟨hx, hb, hml, hown, hts, hK, hadr, hA, hGE, hlk, hfr, hlo, hkc, hks⟩ := G
  intro H locs d0 lr g1 g2 g3 g4
  exact lv_lload_n (i := 3) hx hb hd rfl (lok_at (i := 3) (v := .long x) g4 rfl) (kk H locs d0 lr g1 g2 g3 g4)
theorem V_lstore3 (G : Gd X own cc d kc ks) {a0 a1 a2 b b2 : Option Value} {t : List (Option Value)} {x : Int64} (hd : decode cc pc = .ok (.lstore_n 3, 1)) (hc : c1 a2 = true) (kk : V X k n (pc + 1) (a0 :: a1 :: a2 :: some (.long x) :: none :: t) (st) h) : V X k n pc (a0 :: a1 :: a2 :: b :: b2 :: t) (.long x :: st) h := by
  obtain ⟨p, l, e, R, s, m, args, below, meth, c, D, cA, A, Dp, Q, σ, nL⟩ := X
  obtain ⟨hx, hb, hml, hown, hts, hK, hadr, hA, hGE, hlk, hfr, hlo, hkc, hks⟩ := G
  intro H locs d0 lr g1 g2 g3 g4
  exact lv_lstore_n hx hb hd rfl g4.2 (by have := g4.1; simp at this; omega) rfl (fun ls2 hl => kk H locs d0 ls2 g1 g2 g3 (lok_set2 (pre := [a0, a1, a2]) (v := .long x) g4.1 (show c1l [a0, a1, a2] = true from hc) hl))
theorem V_lload4 (G : Gd X own cc d kc ks) {a0 a1 a2 a3 : Option Value} {t : List (Option Value)} {x : Int64} (hd : decode cc pc = .ok (.lload 4, 2))  (kk : V X k n (pc + 2) (a0 :: a1 :: a2 :: a3 :: some (.long x) :: t) (.long x :: st) h) : V X k n pc (a0 :: a1 :: a2 :: a3 :: some (.long x) :: t) (st) h := by
  obtain ⟨p, l, e, R, s, m, args, below, meth, c, D, cA, A, Dp, Q, σ, nL⟩ := X
  obtain ⟨hx, hb, hml, hown, hts, hK, hadr, hA, hGE, hlk, hfr, hlo, hkc, hks⟩ := G
  intro H locs d0 lr g1 g2 g3 g4
  exact lv_lload hx hb hd (lok_at (i := 4) (v := .long x) g4 rfl) (kk H locs d0 lr g1 g2 g3 g4)
theorem V_lstore4 (G : Gd X own cc d kc ks) {a0 a1 a2 a3 b b2 : Option Value} {t : List (Option Value)} {x : Int64} (hd : decode cc pc = .ok (.lstore 4, 2)) (hc : c1 a3 = true) (kk : V X k n (pc + 2) (a0 :: a1 :: a2 :: a3 :: some (.long x) :: none :: t) (st) h) : V X k n pc (a0 :: a1 :: a2 :: a3 :: b :: b2 :: t) (.long x :: st) h := by
  obtain ⟨p, l, e, R, s, m, args, below, meth, c, D, cA, A, Dp, Q, σ, nL⟩ := X
  obtain ⟨hx, hb, hml, hown, hts, hK, hadr, hA, hGE, hlk, hfr, hlo, hkc, hks⟩ := G
  intro H locs d0 lr g1 g2 g3 g4
  exact lv_lstore hx hb hd g4.2 (by have := g4.1; simp at this; omega) rfl (fun ls2 hl => kk H locs d0 ls2 g1 g2 g3 (lok_set2 (pre := [a0, a1, a2, a3]) (v := .long x) g4.1 (show c1l [a0, a1, a2, a3] = true from hc) hl))
theorem V_lload5 (G : Gd X own cc d kc ks) {a0 a1 a2 a3 a4 : Option Value} {t : List (Option Value)} {x : Int64} (hd : decode cc pc = .ok (.lload 5, 2))  (kk : V X k n (pc + 2) (a0 :: a1 :: a2 :: a3 :: a4 :: some (.long x) :: t) (.long x :: st) h) : V X k n pc (a0 :: a1 :: a2 :: a3 :: a4 :: some (.long x) :: t) (st) h := by
  obtain ⟨p, l, e, R, s, m, args, below, meth, c, D, cA, A, Dp, Q, σ, nL⟩ := X
  obtain ⟨hx, hb, hml, hown, hts, hK, hadr, hA, hGE, hlk, hfr, hlo, hkc, hks⟩ := G
  intro H locs d0 lr g1 g2 g3 g4
  exact lv_lload hx hb hd (lok_at (i := 5) (v := .long x) g4 rfl) (kk H locs d0 lr g1 g2 g3 g4)
theorem V_lstore5 (G : Gd X own cc d kc ks) {a0 a1 a2 a3 a4 b b2 : Option Value} {t : List (Option Value)} {x : Int64} (hd : decode cc pc = .ok (.lstore 5, 2)) (hc : c1 a4 = true) (kk : V X k n (pc + 2) (a0 :: a1 :: a2 :: a3 :: a4 :: some (.long x) :: none :: t) (st) h) : V X k n pc (a0 :: a1 :: a2 :: a3 :: a4 :: b :: b2 :: t) (.long x :: st) h := by
  obtain ⟨p, l, e, R, s, m, args, below, meth, c, D, cA, A, Dp, Q, σ, nL⟩ := X
  obtain ⟨hx, hb, hml, hown, hts, hK, hadr, hA, hGE, hlk, hfr, hlo, hkc, hks⟩ := G
  intro H locs d0 lr g1 g2 g3 g4
  exact lv_lstore hx hb hd g4.2 (by have := g4.1; simp at this; omega) rfl (fun ls2 hl => kk H locs d0 ls2 g1 g2 g3 (lok_set2 (pre := [a0, a1, a2, a3, a4]) (v := .long x) g4.1 (show c1l [a0, a1, a2, a3, a4] = true from hc) hl))
theorem V_lload6 (G : Gd X own cc d kc ks) {a0 a1 a2 a3 a4 a5 : Option Value} {t : List (Option Value)} {x : Int64} (hd : decode cc pc = .ok (.lload 6, 2))  (kk : V X k n (pc + 2) (a0 :: a1 :: a2 :: a3 :: a4 :: a5 :: some (.long x) :: t) (.long x :: st) h) : V X k n pc (a0 :: a1 :: a2 :: a3 :: a4 :: a5 :: some (.long x) :: t) (st) h := by
  obtain ⟨p, l, e, R, s, m, args, below, meth, c, D, cA, A, Dp, Q, σ, nL⟩ := X
  obtain ⟨hx, hb, hml, hown, hts, hK, hadr, hA, hGE, hlk, hfr, hlo, hkc, hks⟩ := G
  intro H locs d0 lr g1 g2 g3 g4
  exact lv_lload hx hb hd (lok_at (i := 6) (v := .long x) g4 rfl) (kk H locs d0 lr g1 g2 g3 g4)
theorem V_lstore6 (G : Gd X own cc d kc ks) {a0 a1 a2 a3 a4 a5 b b2 : Option Value} {t : List (Option Value)} {x : Int64} (hd : decode cc pc = .ok (.lstore 6, 2)) (hc : c1 a5 = true) (kk : V X k n (pc + 2) (a0 :: a1 :: a2 :: a3 :: a4 :: a5 :: some (.long x) :: none :: t) (st) h) : V X k n pc (a0 :: a1 :: a2 :: a3 :: a4 :: a5 :: b :: b2 :: t) (.long x :: st) h := by
  obtain ⟨p, l, e, R, s, m, args, below, meth, c, D, cA, A, Dp, Q, σ, nL⟩ := X
  obtain ⟨hx, hb, hml, hown, hts, hK, hadr, hA, hGE, hlk, hfr, hlo, hkc, hks⟩ := G
  intro H locs d0 lr g1 g2 g3 g4
  exact lv_lstore hx hb hd g4.2 (by have := g4.1; simp at this; omega) rfl (fun ls2 hl => kk H locs d0 ls2 g1 g2 g3 (lok_set2 (pre := [a0, a1, a2, a3, a4, a5]) (v := .long x) g4.1 (show c1l [a0, a1, a2, a3, a4, a5] = true from hc) hl))
theorem V_lload7 (G : Gd X own cc d kc ks) {a0 a1 a2 a3 a4 a5 a6 : Option Value} {t : List (Option Value)} {x : Int64} (hd : decode cc pc = .ok (.lload 7, 2))  (kk : V X k n (pc + 2) (a0 :: a1 :: a2 :: a3 :: a4 :: a5 :: a6 :: some (.long x) :: t) (.long x :: st) h) : V X k n pc (a0 :: a1 :: a2 :: a3 :: a4 :: a5 :: a6 :: some (.long x) :: t) (st) h := by
  obtain ⟨p, l, e, R, s, m, args, below, meth, c, D, cA, A, Dp, Q, σ, nL⟩ := X
  obtain ⟨hx, hb, hml, hown, hts, hK, hadr, hA, hGE, hlk, hfr, hlo, hkc, hks⟩ := G
  intro H locs d0 lr g1 g2 g3 g4
  exact lv_lload hx hb hd (lok_at (i := 7) (v := .long x) g4 rfl) (kk H locs d0 lr g1 g2 g3 g4)
theorem V_lstore7 (G : Gd X own cc d kc ks) {a0 a1 a2 a3 a4 a5 a6 b b2 : Option Value} {t : List (Option Value)} {x : Int64} (hd : decode cc pc = .ok (.lstore 7, 2)) (hc : c1 a6 = true) (kk : V X k n (pc + 2) (a0 :: a1 :: a2 :: a3 :: a4 :: a5 :: a6 :: some (.long x) :: none :: t) (st) h) : V X k n pc (a0 :: a1 :: a2 :: a3 :: a4 :: a5 :: a6 :: b :: b2 :: t) (.long x :: st) h := by
  obtain ⟨p, l, e, R, s, m, args, below, meth, c, D, cA, A, Dp, Q, σ, nL⟩ := X
  obtain ⟨hx, hb, hml, hown, hts, hK, hadr, hA, hGE, hlk, hfr, hlo, hkc, hks⟩ := G
  intro H locs d0 lr g1 g2 g3 g4
  exact lv_lstore hx hb hd g4.2 (by have := g4.1; simp at this; omega) rfl (fun ls2 hl => kk H locs d0 ls2 g1 g2 g3 (lok_set2 (pre := [a0, a1, a2, a3, a4, a5, a6]) (v := .long x) g4.1 (show c1l [a0, a1, a2, a3, a4, a5, a6] = true from hc) hl))
theorem V_lload8 (G : Gd X own cc d kc ks) {a0 a1 a2 a3 a4 a5 a6 a7 : Option Value} {t : List (Option Value)} {x : Int64} (hd : decode cc pc = .ok (.lload 8, 2))  (kk : V X k n (pc + 2) (a0 :: a1 :: a2 :: a3 :: a4 :: a5 :: a6 :: a7 :: some (.long x) :: t) (.long x :: st) h) : V X k n pc (a0 :: a1 :: a2 :: a3 :: a4 :: a5 :: a6 :: a7 :: some (.long x) :: t) (st) h := by
  obtain ⟨p, l, e, R, s, m, args, below, meth, c, D, cA, A, Dp, Q, σ, nL⟩ := X
  obtain ⟨hx, hb, hml, hown, hts, hK, hadr, hA, hGE, hlk, hfr, hlo, hkc, hks⟩ := G
  intro H locs d0 lr g1 g2 g3 g4
  exact lv_lload hx hb hd (lok_at (i := 8) (v := .long x) g4 rfl) (kk H locs d0 lr g1 g2 g3 g4)
theorem V_lstore8 (G : Gd X own cc d kc ks) {a0 a1 a2 a3 a4 a5 a6 a7 b b2 : Option Value} {t : List (Option Value)} {x : Int64} (hd : decode cc pc = .ok (.lstore 8, 2)) (hc : c1 a7 = true) (kk : V X k n (pc + 2) (a0 :: a1 :: a2 :: a3 :: a4 :: a5 :: a6 :: a7 :: some (.long x) :: none :: t) (st) h) : V X k n pc (a0 :: a1 :: a2 :: a3 :: a4 :: a5 :: a6 :: a7 :: b :: b2 :: t) (.long x :: st) h := by
  obtain ⟨p, l, e, R, s, m, args, below, meth, c, D, cA, A, Dp, Q, σ, nL⟩ := X
  obtain ⟨hx, hb, hml, hown, hts, hK, hadr, hA, hGE, hlk, hfr, hlo, hkc, hks⟩ := G
  intro H locs d0 lr g1 g2 g3 g4
  exact lv_lstore hx hb hd g4.2 (by have := g4.1; simp at this; omega) rfl (fun ls2 hl => kk H locs d0 ls2 g1 g2 g3 (lok_set2 (pre := [a0, a1, a2, a3, a4, a5, a6, a7]) (v := .long x) g4.1 (show c1l [a0, a1, a2, a3, a4, a5, a6, a7] = true from hc) hl))
theorem V_lload9 (G : Gd X own cc d kc ks) {a0 a1 a2 a3 a4 a5 a6 a7 a8 : Option Value} {t : List (Option Value)} {x : Int64} (hd : decode cc pc = .ok (.lload 9, 2))  (kk : V X k n (pc + 2) (a0 :: a1 :: a2 :: a3 :: a4 :: a5 :: a6 :: a7 :: a8 :: some (.long x) :: t) (.long x :: st) h) : V X k n pc (a0 :: a1 :: a2 :: a3 :: a4 :: a5 :: a6 :: a7 :: a8 :: some (.long x) :: t) (st) h := by
  obtain ⟨p, l, e, R, s, m, args, below, meth, c, D, cA, A, Dp, Q, σ, nL⟩ := X
  obtain ⟨hx, hb, hml, hown, hts, hK, hadr, hA, hGE, hlk, hfr, hlo, hkc, hks⟩ := G
  intro H locs d0 lr g1 g2 g3 g4
  exact lv_lload hx hb hd (lok_at (i := 9) (v := .long x) g4 rfl) (kk H locs d0 lr g1 g2 g3 g4)
theorem V_lstore9 (G : Gd X own cc d kc ks) {a0 a1 a2 a3 a4 a5 a6 a7 a8 b b2 : Option Value} {t : List (Option Value)} {x : Int64} (hd : decode cc pc = .ok (.lstore 9, 2)) (hc : c1 a8 = true) (kk : V X k n (pc + 2) (a0 :: a1 :: a2 :: a3 :: a4 :: a5 :: a6 :: a7 :: a8 :: some (.long x) :: none :: t) (st) h) : V X k n pc (a0 :: a1 :: a2 :: a3 :: a4 :: a5 :: a6 :: a7 :: a8 :: b :: b2 :: t) (.long x :: st) h := by
  obtain ⟨p, l, e, R, s, m, args, below, meth, c, D, cA, A, Dp, Q, σ, nL⟩ := X
  obtain ⟨hx, hb, hml, hown, hts, hK, hadr, hA, hGE, hlk, hfr, hlo, hkc, hks⟩ := G
  intro H locs d0 lr g1 g2 g3 g4
  exact lv_lstore hx hb hd g4.2 (by have := g4.1; simp at this; omega) rfl (fun ls2 hl => kk H locs d0 ls2 g1 g2 g3 (lok_set2 (pre := [a0, a1, a2, a3, a4, a5, a6, a7, a8]) (v := .long x) g4.1 (show c1l [a0, a1, a2, a3, a4, a5, a6, a7, a8] = true from hc) hl))
theorem V_lload10 (G : Gd X own cc d kc ks) {a0 a1 a2 a3 a4 a5 a6 a7 a8 a9 : Option Value} {t : List (Option Value)} {x : Int64} (hd : decode cc pc = .ok (.lload 10, 2))  (kk : V X k n (pc + 2) (a0 :: a1 :: a2 :: a3 :: a4 :: a5 :: a6 :: a7 :: a8 :: a9 :: some (.long x) :: t) (.long x :: st) h) : V X k n pc (a0 :: a1 :: a2 :: a3 :: a4 :: a5 :: a6 :: a7 :: a8 :: a9 :: some (.long x) :: t) (st) h := by
  obtain ⟨p, l, e, R, s, m, args, below, meth, c, D, cA, A, Dp, Q, σ, nL⟩ := X
  obtain ⟨hx, hb, hml, hown, hts, hK, hadr, hA, hGE, hlk, hfr, hlo, hkc, hks⟩ := G
  intro H locs d0 lr g1 g2 g3 g4
  exact lv_lload hx hb hd (lok_at (i := 10) (v := .long x) g4 rfl) (kk H locs d0 lr g1 g2 g3 g4)
theorem V_lstore10 (G : Gd X own cc d kc ks) {a0 a1 a2 a3 a4 a5 a6 a7 a8 a9 b b2 : Option Value} {t : List (Option Value)} {x : Int64} (hd : decode cc pc = .ok (.lstore 10, 2)) (hc : c1 a9 = true) (kk : V X k n (pc + 2) (a0 :: a1 :: a2 :: a3 :: a4 :: a5 :: a6 :: a7 :: a8 :: a9 :: some (.long x) :: none :: t) (st) h) : V X k n pc (a0 :: a1 :: a2 :: a3 :: a4 :: a5 :: a6 :: a7 :: a8 :: a9 :: b :: b2 :: t) (.long x :: st) h := by
  obtain ⟨p, l, e, R, s, m, args, below, meth, c, D, cA, A, Dp, Q, σ, nL⟩ := X
  obtain ⟨hx, hb, hml, hown, hts, hK, hadr, hA, hGE, hlk, hfr, hlo, hkc, hks⟩ := G
  intro H locs d0 lr g1 g2 g3 g4
  exact lv_lstore hx hb hd g4.2 (by have := g4.1; simp at this; omega) rfl (fun ls2 hl => kk H locs d0 ls2 g1 g2 g3 (lok_set2 (pre := [a0, a1, a2, a3, a4, a5, a6, a7, a8, a9]) (v := .long x) g4.1 (show c1l [a0, a1, a2, a3, a4, a5, a6, a7, a8, a9] = true from hc) hl))
theorem V_lload11 (G : Gd X own cc d kc ks) {a0 a1 a2 a3 a4 a5 a6 a7 a8 a9 a10 : Option Value} {t : List (Option Value)} {x : Int64} (hd : decode cc pc = .ok (.lload 11, 2))  (kk : V X k n (pc + 2) (a0 :: a1 :: a2 :: a3 :: a4 :: a5 :: a6 :: a7 :: a8 :: a9 :: a10 :: some (.long x) :: t) (.long x :: st) h) : V X k n pc (a0 :: a1 :: a2 :: a3 :: a4 :: a5 :: a6 :: a7 :: a8 :: a9 :: a10 :: some (.long x) :: t) (st) h := by
  obtain ⟨p, l, e, R, s, m, args, below, meth, c, D, cA, A, Dp, Q, σ, nL⟩ := X
  obtain ⟨hx, hb, hml, hown, hts, hK, hadr, hA, hGE, hlk, hfr, hlo, hkc, hks⟩ := G
  intro H locs d0 lr g1 g2 g3 g4
  exact lv_lload hx hb hd (lok_at (i := 11) (v := .long x) g4 rfl) (kk H locs d0 lr g1 g2 g3 g4)
theorem V_lstore11 (G : Gd X own cc d kc ks) {a0 a1 a2 a3 a4 a5 a6 a7 a8 a9 a10 b b2 : Option Value} {t : List (Option Value)} {x : Int64} (hd : decode cc pc = .ok (.lstore 11, 2)) (hc : c1 a10 = true) (kk : V X k n (pc + 2) (a0 :: a1 :: a2 :: a3 :: a4 :: a5 :: a6 :: a7 :: a8 :: a9 :: a10 :: some (.long x) :: none :: t) (st) h) : V X k n pc (a0 :: a1 :: a2 :: a3 :: a4 :: a5 :: a6 :: a7 :: a8 :: a9 :: a10 :: b :: b2 :: t) (.long x :: st) h := by
  obtain ⟨p, l, e, R, s, m, args, below, meth, c, D, cA, A, Dp, Q, σ, nL⟩ := X
  obtain ⟨hx, hb, hml, hown, hts, hK, hadr, hA, hGE, hlk, hfr, hlo, hkc, hks⟩ := G
  intro H locs d0 lr g1 g2 g3 g4
  exact lv_lstore hx hb hd g4.2 (by have := g4.1; simp at this; omega) rfl (fun ls2 hl => kk H locs d0 ls2 g1 g2 g3 (lok_set2 (pre := [a0, a1, a2, a3, a4, a5, a6, a7, a8, a9, a10]) (v := .long x) g4.1 (show c1l [a0, a1, a2, a3, a4, a5, a6, a7, a8, a9, a10] = true from hc) hl))
theorem V_lload12 (G : Gd X own cc d kc ks) {a0 a1 a2 a3 a4 a5 a6 a7 a8 a9 a10 a11 : Option Value} {t : List (Option Value)} {x : Int64} (hd : decode cc pc = .ok (.lload 12, 2))  (kk : V X k n (pc + 2) (a0 :: a1 :: a2 :: a3 :: a4 :: a5 :: a6 :: a7 :: a8 :: a9 :: a10 :: a11 :: some (.long x) :: t) (.long x :: st) h) : V X k n pc (a0 :: a1 :: a2 :: a3 :: a4 :: a5 :: a6 :: a7 :: a8 :: a9 :: a10 :: a11 :: some (.long x) :: t) (st) h := by
  obtain ⟨p, l, e, R, s, m, args, below, meth, c, D, cA, A, Dp, Q, σ, nL⟩ := X
  obtain ⟨hx, hb, hml, hown, hts, hK, hadr, hA, hGE, hlk, hfr, hlo, hkc, hks⟩ := G
  intro H locs d0 lr g1 g2 g3 g4
  exact lv_lload hx hb hd (lok_at (i := 12) (v := .long x) g4 rfl) (kk H locs d0 lr g1 g2 g3 g4)
theorem V_lstore12 (G : Gd X own cc d kc ks) {a0 a1 a2 a3 a4 a5 a6 a7 a8 a9 a10 a11 b b2 : Option Value} {t : List (Option Value)} {x : Int64} (hd : decode cc pc = .ok (.lstore 12, 2)) (hc : c1 a11 = true) (kk : V X k n (pc + 2) (a0 :: a1 :: a2 :: a3 :: a4 :: a5 :: a6 :: a7 :: a8 :: a9 :: a10 :: a11 :: some (.long x) :: none :: t) (st) h) : V X k n pc (a0 :: a1 :: a2 :: a3 :: a4 :: a5 :: a6 :: a7 :: a8 :: a9 :: a10 :: a11 :: b :: b2 :: t) (.long x :: st) h := by
  obtain ⟨p, l, e, R, s, m, args, below, meth, c, D, cA, A, Dp, Q, σ, nL⟩ := X
  obtain ⟨hx, hb, hml, hown, hts, hK, hadr, hA, hGE, hlk, hfr, hlo, hkc, hks⟩ := G
  intro H locs d0 lr g1 g2 g3 g4
  exact lv_lstore hx hb hd g4.2 (by have := g4.1; simp at this; omega) rfl (fun ls2 hl => kk H locs d0 ls2 g1 g2 g3 (lok_set2 (pre := [a0, a1, a2, a3, a4, a5, a6, a7, a8, a9, a10, a11]) (v := .long x) g4.1 (show c1l [a0, a1, a2, a3, a4, a5, a6, a7, a8, a9, a10, a11] = true from hc) hl))
theorem V_dload0 (G : Gd X own cc d kc ks) {t : List (Option Value)} {x : UInt64} (hd : decode cc pc = .ok (.dload_n 0, 1))  (kk : V X k n (pc + 1) (some (.double x) :: t) (.double x :: st) h) : V X k n pc (some (.double x) :: t) (st) h := by
  obtain ⟨p, l, e, R, s, m, args, below, meth, c, D, cA, A, Dp, Q, σ, nL⟩ := X
  obtain ⟨hx, hb, hml, hown, hts, hK, hadr, hA, hGE, hlk, hfr, hlo, hkc, hks⟩ := G
  intro H locs d0 lr g1 g2 g3 g4
  exact lv_dload_n (i := 0) hx hb hd rfl (lok_at (i := 0) (v := .double x) g4 rfl) (kk H locs d0 lr g1 g2 g3 g4)
theorem V_dstore0 (G : Gd X own cc d kc ks) { b b2 : Option Value} {t : List (Option Value)} {x : UInt64} (hd : decode cc pc = .ok (.dstore_n 0, 1))  (kk : V X k n (pc + 1) (some (.double x) :: none :: t) (st) h) : V X k n pc (b :: b2 :: t) (.double x :: st) h := by
  obtain ⟨p, l, e, R, s, m, args, below, meth, c, D, cA, A, Dp, Q, σ, nL⟩ := X
  obtain ⟨hx, hb, hml, hown, hts, hK, hadr, hA, hGE, hlk, hfr, hlo, hkc, hks⟩ := G
  intro H locs d0 lr g1 g2 g3 g4
  exact lv_dstore_n hx hb hd rfl g4.2 (by have := g4.1; simp at this; omega) rfl (fun ls2 hl => kk H locs d0 ls2 g1 g2 g3 (lok_set2 (pre := []) (v := .double x) g4.1 (show c1l [] = true from rfl) hl))
theorem V_dload1 (G : Gd X own cc d kc ks) {a0 : Option Value} {t : List (Option Value)} {x : UInt64} (hd : decode cc pc = .ok (.dload_n 1, 1))  (kk : V X k n (pc + 1) (a0 :: some (.double x) :: t) (.double x :: st) h) : V X k n pc (a0 :: some (.double x) :: t) (st) h := by
  obtain ⟨p, l, e, R, s, m, args, below, meth, c, D, cA, A, Dp, Q, σ, nL⟩ := X
  obtain ⟨hx, hb, hml, hown, hts, hK, hadr, hA, hGE, hlk, hfr, hlo, hkc, hks⟩ := G
  intro H locs d0 lr g1 g2 g3 g4
  exact lv_dload_n (i := 1) hx hb hd rfl (lok_at (i := 1) (v := .double x) g4 rfl) (kk H locs d0 lr g1 g2 g3 g4)
theorem V_dstore1 (G : Gd X own cc d kc ks) {a0 b b2 : Option Value} {t : List (Option Value)} {x : UInt64} (hd : decode cc pc = .ok (.dstore_n 1, 1)) (hc : c1 a0 = true) (kk : V X k n (pc + 1) (a0 :: some (.double x) :: none :: t) (st) h) : V X k n pc (a0 :: b :: b2 :: t) (.double x :: st) h := by
  obtain ⟨p, l, e, R, s, m, args, below, meth, c, D, cA, A, Dp, Q, σ, nL⟩ := X
  obtain ⟨hx, hb, hml, hown, hts, hK, hadr, hA, hGE, hlk, hfr, hlo, hkc, hks⟩ := G
  intro H locs d0 lr g1 g2 g3 g4
  exact lv_dstore_n hx hb hd rfl g4.2 (by have := g4.1; simp at this; omega) rfl (fun ls2 hl => kk H locs d0 ls2 g1 g2 g3 (lok_set2 (pre := [a0]) (v := .double x) g4.1 (show c1l [a0] = true from hc) hl))
theorem V_dload2 (G : Gd X own cc d kc ks) {a0 a1 : Option Value} {t : List (Option Value)} {x : UInt64} (hd : decode cc pc = .ok (.dload_n 2, 1))  (kk : V X k n (pc + 1) (a0 :: a1 :: some (.double x) :: t) (.double x :: st) h) : V X k n pc (a0 :: a1 :: some (.double x) :: t) (st) h := by
  obtain ⟨p, l, e, R, s, m, args, below, meth, c, D, cA, A, Dp, Q, σ, nL⟩ := X
  obtain ⟨hx, hb, hml, hown, hts, hK, hadr, hA, hGE, hlk, hfr, hlo, hkc, hks⟩ := G
  intro H locs d0 lr g1 g2 g3 g4
  exact lv_dload_n (i := 2) hx hb hd rfl (lok_at (i := 2) (v := .double x) g4 rfl) (kk H locs d0 lr g1 g2 g3 g4)
theorem V_dstore2 (G : Gd X own cc d kc ks) {a0 a1 b b2 : Option Value} {t : List (Option Value)} {x : UInt64} (hd : decode cc pc = .ok (.dstore_n 2, 1)) (hc : c1 a1 = true) (kk : V X k n (pc + 1) (a0 :: a1 :: some (.double x) :: none :: t) (st) h) : V X k n pc (a0 :: a1 :: b :: b2 :: t) (.double x :: st) h := by
  obtain ⟨p, l, e, R, s, m, args, below, meth, c, D, cA, A, Dp, Q, σ, nL⟩ := X
  obtain ⟨hx, hb, hml, hown, hts, hK, hadr, hA, hGE, hlk, hfr, hlo, hkc, hks⟩ := G
  intro H locs d0 lr g1 g2 g3 g4
  exact lv_dstore_n hx hb hd rfl g4.2 (by have := g4.1; simp at this; omega) rfl (fun ls2 hl => kk H locs d0 ls2 g1 g2 g3 (lok_set2 (pre := [a0, a1]) (v := .double x) g4.1 (show c1l [a0, a1] = true from hc) hl))
theorem V_dload3 (G : Gd X own cc d kc ks) {a0 a1 a2 : Option Value} {t : List (Option Value)} {x : UInt64} (hd : decode cc pc = .ok (.dload_n 3, 1))  (kk : V X k n (pc + 1) (a0 :: a1 :: a2 :: some (.double x) :: t) (.double x :: st) h) : V X k n pc (a0 :: a1 :: a2 :: some (.double x) :: t) (st) h := by
  obtain ⟨p, l, e, R, s, m, args, below, meth, c, D, cA, A, Dp, Q, σ, nL⟩ := X
  obtain ⟨hx, hb, hml, hown, hts, hK, hadr, hA, hGE, hlk, hfr, hlo, hkc, hks⟩ := G
  intro H locs d0 lr g1 g2 g3 g4
  exact lv_dload_n (i := 3) hx hb hd rfl (lok_at (i := 3) (v := .double x) g4 rfl) (kk H locs d0 lr g1 g2 g3 g4)
theorem V_dstore3 (G : Gd X own cc d kc ks) {a0 a1 a2 b b2 : Option Value} {t : List (Option Value)} {x : UInt64} (hd : decode cc pc = .ok (.dstore_n 3, 1)) (hc : c1 a2 = true) (kk : V X k n (pc + 1) (a0 :: a1 :: a2 :: some (.double x) :: none :: t) (st) h) : V X k n pc (a0 :: a1 :: a2 :: b :: b2 :: t) (.double x :: st) h := by
  obtain ⟨p, l, e, R, s, m, args, below, meth, c, D, cA, A, Dp, Q, σ, nL⟩ := X
  obtain ⟨hx, hb, hml, hown, hts, hK, hadr, hA, hGE, hlk, hfr, hlo, hkc, hks⟩ := G
  intro H locs d0 lr g1 g2 g3 g4
  exact lv_dstore_n hx hb hd rfl g4.2 (by have := g4.1; simp at this; omega) rfl (fun ls2 hl => kk H locs d0 ls2 g1 g2 g3 (lok_set2 (pre := [a0, a1, a2]) (v := .double x) g4.1 (show c1l [a0, a1, a2] = true from hc) hl))
theorem V_dload4 (G : Gd X own cc d kc ks) {a0 a1 a2 a3 : Option Value} {t : List (Option Value)} {x : UInt64} (hd : decode cc pc = .ok (.dload 4, 2))  (kk : V X k n (pc + 2) (a0 :: a1 :: a2 :: a3 :: some (.double x) :: t) (.double x :: st) h) : V X k n pc (a0 :: a1 :: a2 :: a3 :: some (.double x) :: t) (st) h := by
  obtain ⟨p, l, e, R, s, m, args, below, meth, c, D, cA, A, Dp, Q, σ, nL⟩ := X
  obtain ⟨hx, hb, hml, hown, hts, hK, hadr, hA, hGE, hlk, hfr, hlo, hkc, hks⟩ := G
  intro H locs d0 lr g1 g2 g3 g4
  exact lv_dload hx hb hd (lok_at (i := 4) (v := .double x) g4 rfl) (kk H locs d0 lr g1 g2 g3 g4)
theorem V_dstore4 (G : Gd X own cc d kc ks) {a0 a1 a2 a3 b b2 : Option Value} {t : List (Option Value)} {x : UInt64} (hd : decode cc pc = .ok (.dstore 4, 2)) (hc : c1 a3 = true) (kk : V X k n (pc + 2) (a0 :: a1 :: a2 :: a3 :: some (.double x) :: none :: t) (st) h) : V X k n pc (a0 :: a1 :: a2 :: a3 :: b :: b2 :: t) (.double x :: st) h := by
  obtain ⟨p, l, e, R, s, m, args, below, meth, c, D, cA, A, Dp, Q, σ, nL⟩ := X
  obtain ⟨hx, hb, hml, hown, hts, hK, hadr, hA, hGE, hlk, hfr, hlo, hkc, hks⟩ := G
  intro H locs d0 lr g1 g2 g3 g4
  exact lv_dstore hx hb hd g4.2 (by have := g4.1; simp at this; omega) rfl (fun ls2 hl => kk H locs d0 ls2 g1 g2 g3 (lok_set2 (pre := [a0, a1, a2, a3]) (v := .double x) g4.1 (show c1l [a0, a1, a2, a3] = true from hc) hl))
theorem V_dload5 (G : Gd X own cc d kc ks) {a0 a1 a2 a3 a4 : Option Value} {t : List (Option Value)} {x : UInt64} (hd : decode cc pc = .ok (.dload 5, 2))  (kk : V X k n (pc + 2) (a0 :: a1 :: a2 :: a3 :: a4 :: some (.double x) :: t) (.double x :: st) h) : V X k n pc (a0 :: a1 :: a2 :: a3 :: a4 :: some (.double x) :: t) (st) h := by
  obtain ⟨p, l, e, R, s, m, args, below, meth, c, D, cA, A, Dp, Q, σ, nL⟩ := X
  obtain ⟨hx, hb, hml, hown, hts, hK, hadr, hA, hGE, hlk, hfr, hlo, hkc, hks⟩ := G
  intro H locs d0 lr g1 g2 g3 g4
  exact lv_dload hx hb hd (lok_at (i := 5) (v := .double x) g4 rfl) (kk H locs d0 lr g1 g2 g3 g4)
theorem V_dstore5 (G : Gd X own cc d kc ks) {a0 a1 a2 a3 a4 b b2 : Option Value} {t : List (Option Value)} {x : UInt64} (hd : decode cc pc = .ok (.dstore 5, 2)) (hc : c1 a4 = true) (kk : V X k n (pc + 2) (a0 :: a1 :: a2 :: a3 :: a4 :: some (.double x) :: none :: t) (st) h) : V X k n pc (a0 :: a1 :: a2 :: a3 :: a4 :: b :: b2 :: t) (.double x :: st) h := by
  obtain ⟨p, l, e, R, s, m, args, below, meth, c, D, cA, A, Dp, Q, σ, nL⟩ := X
  obtain ⟨hx, hb, hml, hown, hts, hK, hadr, hA, hGE, hlk, hfr, hlo, hkc, hks⟩ := G
  intro H locs d0 lr g1 g2 g3 g4
  exact lv_dstore hx hb hd g4.2 (by have := g4.1; simp at this; omega) rfl (fun ls2 hl => kk H locs d0 ls2 g1 g2 g3 (lok_set2 (pre := [a0, a1, a2, a3, a4]) (v := .double x) g4.1 (show c1l [a0, a1, a2, a3, a4] = true from hc) hl))
theorem V_dload6 (G : Gd X own cc d kc ks) {a0 a1 a2 a3 a4 a5 : Option Value} {t : List (Option Value)} {x : UInt64} (hd : decode cc pc = .ok (.dload 6, 2))  (kk : V X k n (pc + 2) (a0 :: a1 :: a2 :: a3 :: a4 :: a5 :: some (.double x) :: t) (.double x :: st) h) : V X k n pc (a0 :: a1 :: a2 :: a3 :: a4 :: a5 :: some (.double x) :: t) (st) h := by
  obtain ⟨p, l, e, R, s, m, args, below, meth, c, D, cA, A, Dp, Q, σ, nL⟩ := X
  obtain ⟨hx, hb, hml, hown, hts, hK, hadr, hA, hGE, hlk, hfr, hlo, hkc, hks⟩ := G
  intro H locs d0 lr g1 g2 g3 g4
  exact lv_dload hx hb hd (lok_at (i := 6) (v := .double x) g4 rfl) (kk H locs d0 lr g1 g2 g3 g4)
theorem V_dstore6 (G : Gd X own cc d kc ks) {a0 a1 a2 a3 a4 a5 b b2 : Option Value} {t : List (Option Value)} {x : UInt64} (hd : decode cc pc = .ok (.dstore 6, 2)) (hc : c1 a5 = true) (kk : V X k n (pc + 2) (a0 :: a1 :: a2 :: a3 :: a4 :: a5 :: some (.double x) :: none :: t) (st) h) : V X k n pc (a0 :: a1 :: a2 :: a3 :: a4 :: a5 :: b :: b2 :: t) (.double x :: st) h := by
  obtain ⟨p, l, e, R, s, m, args, below, meth, c, D, cA, A, Dp, Q, σ, nL⟩ := X
  obtain ⟨hx, hb, hml, hown, hts, hK, hadr, hA, hGE, hlk, hfr, hlo, hkc, hks⟩ := G
  intro H locs d0 lr g1 g2 g3 g4
  exact lv_dstore hx hb hd g4.2 (by have := g4.1; simp at this; omega) rfl (fun ls2 hl => kk H locs d0 ls2 g1 g2 g3 (lok_set2 (pre := [a0, a1, a2, a3, a4, a5]) (v := .double x) g4.1 (show c1l [a0, a1, a2, a3, a4, a5] = true from hc) hl))
theorem V_dload7 (G : Gd X own cc d kc ks) {a0 a1 a2 a3 a4 a5 a6 : Option Value} {t : List (Option Value)} {x : UInt64} (hd : decode cc pc = .ok (.dload 7, 2))  (kk : V X k n (pc + 2) (a0 :: a1 :: a2 :: a3 :: a4 :: a5 :: a6 :: some (.double x) :: t) (.double x :: st) h) : V X k n pc (a0 :: a1 :: a2 :: a3 :: a4 :: a5 :: a6 :: some (.double x) :: t) (st) h := by
  obtain ⟨p, l, e, R, s, m, args, below, meth, c, D, cA, A, Dp, Q, σ, nL⟩ := X
  obtain ⟨hx, hb, hml, hown, hts, hK, hadr, hA, hGE, hlk, hfr, hlo, hkc, hks⟩ := G
  intro H locs d0 lr g1 g2 g3 g4
  exact lv_dload hx hb hd (lok_at (i := 7) (v := .double x) g4 rfl) (kk H locs d0 lr g1 g2 g3 g4)
theorem V_dstore7 (G : Gd X own cc d kc ks) {a0 a1 a2 a3 a4 a5 a6 b b2 : Option Value} {t : List (Option Value)} {x : UInt64} (hd : decode cc pc = .ok (.dstore 7, 2)) (hc : c1 a6 = true) (kk : V X k n (pc + 2) (a0 :: a1 :: a2 :: a3 :: a4 :: a5 :: a6 :: some (.double x) :: none :: t) (st) h) : V X k n pc (a0 :: a1 :: a2 :: a3 :: a4 :: a5 :: a6 :: b :: b2 :: t) (.double x :: st) h := by
  obtain ⟨p, l, e, R, s, m, args, below, meth, c, D, cA, A, Dp, Q, σ, nL⟩ := X
  obtain ⟨hx, hb, hml, hown, hts, hK, hadr, hA, hGE, hlk, hfr, hlo, hkc, hks⟩ := G
  intro H locs d0 lr g1 g2 g3 g4
  exact lv_dstore hx hb hd g4.2 (by have := g4.1; simp at this; omega) rfl (fun ls2 hl => kk H locs d0 ls2 g1 g2 g3 (lok_set2 (pre := [a0, a1, a2, a3, a4, a5, a6]) (v := .double x) g4.1 (show c1l [a0, a1, a2, a3, a4, a5, a6] = true from hc) hl))
theorem V_dload8 (G : Gd X own cc d kc ks) {a0 a1 a2 a3 a4 a5 a6 a7 : Option Value} {t : List (Option Value)} {x : UInt64} (hd : decode cc pc = .ok (.dload 8, 2))  (kk : V X k n (pc + 2) (a0 :: a1 :: a2 :: a3 :: a4 :: a5 :: a6 :: a7 :: some (.double x) :: t) (.double x :: st) h) : V X k n pc (a0 :: a1 :: a2 :: a3 :: a4 :: a5 :: a6 :: a7 :: some (.double x) :: t) (st) h := by
  obtain ⟨p, l, e, R, s, m, args, below, meth, c, D, cA, A, Dp, Q, σ, nL⟩ := X
  obtain ⟨hx, hb, hml, hown, hts, hK, hadr, hA, hGE, hlk, hfr, hlo, hkc, hks⟩ := G
  intro H locs d0 lr g1 g2 g3 g4
  exact lv_dload hx hb hd (lok_at (i := 8) (v := .double x) g4 rfl) (kk H locs d0 lr g1 g2 g3 g4)
theorem V_dstore8 (G : Gd X own cc d kc ks) {a0 a1 a2 a3 a4 a5 a6 a7 b b2 : Option Value} {t : List (Option Value)} {x : UInt64} (hd : decode cc pc = .ok (.dstore 8, 2)) (hc : c1 a7 = true) (kk : V X k n (pc + 2) (a0 :: a1 :: a2 :: a3 :: a4 :: a5 :: a6 :: a7 :: some (.double x) :: none :: t) (st) h) : V X k n pc (a0 :: a1 :: a2 :: a3 :: a4 :: a5 :: a6 :: a7 :: b :: b2 :: t) (.double x :: st) h := by
  obtain ⟨p, l, e, R, s, m, args, below, meth, c, D, cA, A, Dp, Q, σ, nL⟩ := X
  obtain ⟨hx, hb, hml, hown, hts, hK, hadr, hA, hGE, hlk, hfr, hlo, hkc, hks⟩ := G
  intro H locs d0 lr g1 g2 g3 g4
  exact lv_dstore hx hb hd g4.2 (by have := g4.1; simp at this; omega) rfl (fun ls2 hl => kk H locs d0 ls2 g1 g2 g3 (lok_set2 (pre := [a0, a1, a2, a3, a4, a5, a6, a7]) (v := .double x) g4.1 (show c1l [a0, a1, a2, a3, a4, a5, a6, a7] = true from hc) hl))
theorem V_dload9 (G : Gd X own cc d kc ks) {a0 a1 a2 a3 a4 a5 a6 a7 a8 : Option Value} {t : List (Option Value)} {x : UInt64} (hd : decode cc pc = .ok (.dload 9, 2))  (kk : V X k n (pc + 2) (a0 :: a1 :: a2 :: a3 :: a4 :: a5 :: a6 :: a7 :: a8 :: some (.double x) :: t) (.double x :: st) h) : V X k n pc (a0 :: a1 :: a2 :: a3 :: a4 :: a5 :: a6 :: a7 :: a8 :: some (.double x) :: t) (st) h := by
  obtain ⟨p, l, e, R, s, m, args, below, meth, c, D, cA, A, Dp, Q, σ, nL⟩ := X
  obtain ⟨hx, hb, hml, hown, hts, hK, hadr, hA, hGE, hlk, hfr, hlo, hkc, hks⟩ := G
  intro H locs d0 lr g1 g2 g3 g4
  exact lv_dload hx hb hd (lok_at (i := 9) (v := .double x) g4 rfl) (kk H locs d0 lr g1 g2 g3 g4)
theorem V_dstore9 (G : Gd X own cc d kc ks) {a0 a1 a2 a3 a4 a5 a6 a7 a8 b b2 : Option Value} {t : List (Option Value)} {x : UInt64} (hd : decode cc pc = .ok (.dstore 9, 2)) (hc : c1 a8 = true) (kk : V X k n (pc + 2) (a0 :: a1 :: a2 :: a3 :: a4 :: a5 :: a6 :: a7 :: a8 :: some (.double x) :: none :: t) (st) h) : V X k n pc (a0 :: a1 :: a2 :: a3 :: a4 :: a5 :: a6 :: a7 :: a8 :: b :: b2 :: t) (.double x :: st) h := by
  obtain ⟨p, l, e, R, s, m, args, below, meth, c, D, cA, A, Dp, Q, σ, nL⟩ := X
  obtain ⟨hx, hb, hml, hown, hts, hK, hadr, hA, hGE, hlk, hfr, hlo, hkc, hks⟩ := G
  intro H locs d0 lr g1 g2 g3 g4
  exact lv_dstore hx hb hd g4.2 (by have := g4.1; simp at this; omega) rfl (fun ls2 hl => kk H locs d0 ls2 g1 g2 g3 (lok_set2 (pre := [a0, a1, a2, a3, a4, a5, a6, a7, a8]) (v := .double x) g4.1 (show c1l [a0, a1, a2, a3, a4, a5, a6, a7, a8] = true from hc) hl))
theorem V_dload10 (G : Gd X own cc d kc ks) {a0 a1 a2 a3 a4 a5 a6 a7 a8 a9 : Option Value} {t : List (Option Value)} {x : UInt64} (hd : decode cc pc = .ok (.dload 10, 2))  (kk : V X k n (pc + 2) (a0 :: a1 :: a2 :: a3 :: a4 :: a5 :: a6 :: a7 :: a8 :: a9 :: some (.double x) :: t) (.double x :: st) h) : V X k n pc (a0 :: a1 :: a2 :: a3 :: a4 :: a5 :: a6 :: a7 :: a8 :: a9 :: some (.double x) :: t) (st) h := by
  obtain ⟨p, l, e, R, s, m, args, below, meth, c, D, cA, A, Dp, Q, σ, nL⟩ := X
  obtain ⟨hx, hb, hml, hown, hts, hK, hadr, hA, hGE, hlk, hfr, hlo, hkc, hks⟩ := G
  intro H locs d0 lr g1 g2 g3 g4
  exact lv_dload hx hb hd (lok_at (i := 10) (v := .double x) g4 rfl) (kk H locs d0 lr g1 g2 g3 g4)
theorem V_dstore10 (G : Gd X own cc d kc ks) {a0 a1 a2 a3 a4 a5 a6 a7 a8 a9 b b2 : Option Value} {t : List (Option Value)} {x : UInt64} (hd : decode cc pc = .ok (.dstore 10, 2)) (hc : c1 a9 = true) (kk : V X k n (pc + 2) (a0 :: a1 :: a2 :: a3 :: a4 :: a5 :: a6 :: a7 :: a8 :: a9 :: some (.double x) :: none :: t) (st) h) : V X k n pc (a0 :: a1 :: a2 :: a3 :: a4 :: a5 :: a6 :: a7 :: a8 :: a9 :: b :: b2 :: t) (.double x :: st) h := by
  obtain ⟨p, l, e, R, s, m, args, below, meth, c, D, cA, A, Dp, Q, σ, nL⟩ := X
  obtain ⟨hx, hb, hml, hown, hts, hK, hadr, hA, hGE, hlk, hfr, hlo, hkc, hks⟩ := G
  intro H locs d0 lr g1 g2 g3 g4
  exact lv_dstore hx hb hd g4.2 (by have := g4.1; simp at this; omega) rfl (fun ls2 hl => kk H locs d0 ls2 g1 g2 g3 (lok_set2 (pre := [a0, a1, a2, a3, a4, a5, a6, a7, a8, a9]) (v := .double x) g4.1 (show c1l [a0, a1, a2, a3, a4, a5, a6, a7, a8, a9] = true from hc) hl))
theorem V_dload11 (G : Gd X own cc d kc ks) {a0 a1 a2 a3 a4 a5 a6 a7 a8 a9 a10 : Option Value} {t : List (Option Value)} {x : UInt64} (hd : decode cc pc = .ok (.dload 11, 2))  (kk : V X k n (pc + 2) (a0 :: a1 :: a2 :: a3 :: a4 :: a5 :: a6 :: a7 :: a8 :: a9 :: a10 :: some (.double x) :: t) (.double x :: st) h) : V X k n pc (a0 :: a1 :: a2 :: a3 :: a4 :: a5 :: a6 :: a7 :: a8 :: a9 :: a10 :: some (.double x) :: t) (st) h := by
  obtain ⟨p, l, e, R, s, m, args, below, meth, c, D, cA, A, Dp, Q, σ, nL⟩ := X
  obtain ⟨hx, hb, hml, hown, hts, hK, hadr, hA, hGE, hlk, hfr, hlo, hkc, hks⟩ := G
  intro H locs d0 lr g1 g2 g3 g4
  exact lv_dload hx hb hd (lok_at (i := 11) (v := .double x) g4 rfl) (kk H locs d0 lr g1 g2 g3 g4)
theorem V_dstore11 (G : Gd X own cc d kc ks) {a0 a1 a2 a3 a4 a5 a6 a7 a8 a9 a10 b b2 : Option Value} {t : List (Option Value)} {x : UInt64} (hd : decode cc pc = .ok (.dstore 11, 2)) (hc : c1 a10 = true) (kk : V X k n (pc + 2) (a0 :: a1 :: a2 :: a3 :: a4 :: a5 :: a6 :: a7 :: a8 :: a9 :: a10 :: some (.double x) :: none :: t) (st) h) : V X k n pc (a0 :: a1 :: a2 :: a3 :: a4 :: a5 :: a6 :: a7 :: a8 :: a9 :: a10 :: b :: b2 :: t) (.double x :: st) h := by
  obtain ⟨p, l, e, R, s, m, args, below, meth, c, D, cA, A, Dp, Q, σ, nL⟩ := X
  obtain ⟨hx, hb, hml, hown, hts, hK, hadr, hA, hGE, hlk, hfr, hlo, hkc, hks⟩ := G
  intro H locs d0 lr g1 g2 g3 g4
  exact lv_dstore hx hb hd g4.2 (by have := g4.1; simp at this; omega) rfl (fun ls2 hl => kk H locs d0 ls2 g1 g2 g3 (lok_set2 (pre := [a0, a1, a2, a3, a4, a5, a6, a7, a8, a9, a10]) (v := .double x) g4.1 (show c1l [a0, a1, a2, a3, a4, a5, a6, a7, a8, a9, a10] = true from hc) hl))
theorem V_dload12 (G : Gd X own cc d kc ks) {a0 a1 a2 a3 a4 a5 a6 a7 a8 a9 a10 a11 : Option Value} {t : List (Option Value)} {x : UInt64} (hd : decode cc pc = .ok (.dload 12, 2))  (kk : V X k n (pc + 2) (a0 :: a1 :: a2 :: a3 :: a4 :: a5 :: a6 :: a7 :: a8 :: a9 :: a10 :: a11 :: some (.double x) :: t) (.double x :: st) h) : V X k n pc (a0 :: a1 :: a2 :: a3 :: a4 :: a5 :: a6 :: a7 :: a8 :: a9 :: a10 :: a11 :: some (.double x) :: t) (st) h := by
  obtain ⟨p, l, e, R, s, m, args, below, meth, c, D, cA, A, Dp, Q, σ, nL⟩ := X
  obtain ⟨hx, hb, hml, hown, hts, hK, hadr, hA, hGE, hlk, hfr, hlo, hkc, hks⟩ := G
  intro H locs d0 lr g1 g2 g3 g4
  exact lv_dload hx hb hd (lok_at (i := 12) (v := .double x) g4 rfl) (kk H locs d0 lr g1 g2 g3 g4)
theorem V_dstore12 (G : Gd X own cc d kc ks) {a0 a1 a2 a3 a4 a5 a6 a7 a8 a9 a10 a11 b b2 : Option Value} {t : List (Option Value)} {x : UInt64} (hd : decode cc pc = .ok (.dstore 12, 2)) (hc : c1 a11 = true) (kk : V X k n (pc + 2) (a0 :: a1 :: a2 :: a3 :: a4 :: a5 :: a6 :: a7 :: a8 :: a9 :: a10 :: a11 :: some (.double x) :: none :: t) (st) h) : V X k n pc (a0 :: a1 :: a2 :: a3 :: a4 :: a5 :: a6 :: a7 :: a8 :: a9 :: a10 :: a11 :: b :: b2 :: t) (.double x :: st) h := by
  obtain ⟨p, l, e, R, s, m, args, below, meth, c, D, cA, A, Dp, Q, σ, nL⟩ := X
  obtain ⟨hx, hb, hml, hown, hts, hK, hadr, hA, hGE, hlk, hfr, hlo, hkc, hks⟩ := G
  intro H locs d0 lr g1 g2 g3 g4
  exact lv_dstore hx hb hd g4.2 (by have := g4.1; simp at this; omega) rfl (fun ls2 hl => kk H locs d0 ls2 g1 g2 g3 (lok_set2 (pre := [a0, a1, a2, a3, a4, a5, a6, a7, a8, a9, a10, a11]) (v := .double x) g4.1 (show c1l [a0, a1, a2, a3, a4, a5, a6, a7, a8, a9, a10, a11] = true from hc) hl))
theorem V_aload0 (G : Gd X own cc d kc ks) {t : List (Option Value)} {x : Nat} (hd : decode cc pc = .ok (.aload_n 0, 1))  (kk : V X k n (pc + 1) (some (.ref x) :: t) (.ref x :: st) h) : V X k n pc (some (.ref x) :: t) (st) h := by
  obtain ⟨p, l, e, R, s, m, args, below, meth, c, D, cA, A, Dp, Q, σ, nL⟩ := X
  obtain ⟨hx, hb, hml, hown, hts, hK, hadr, hA, hGE, hlk, hfr, hlo, hkc, hks⟩ := G
  intro H locs d0 lr g1 g2 g3 g4
  exact lv_aload_n (i := 0) hx hb hd rfl (lok_at (i := 0) (v := .ref x) g4 rfl) (kk H locs d0 lr g1 g2 g3 g4)
theorem V_astore0 (G : Gd X own cc d kc ks) { b : Option Value} {t : List (Option Value)} {x : Nat} (hd : decode cc pc = .ok (.astore_n 0, 1))  (kk : V X k n (pc + 1) (some (.ref x) :: t) (st) h) : V X k n pc (b :: t) (.ref x :: st) h := by
  obtain ⟨p, l, e, R, s, m, args, below, meth, c, D, cA, A, Dp, Q, σ, nL⟩ := X
  obtain ⟨hx, hb, hml, hown, hts, hK, hadr, hA, hGE, hlk, hfr, hlo, hkc, hks⟩ := G
  intro H locs d0 lr g1 g2 g3 g4
  exact lv_astore_n hx hb hd rfl g4.2 (by have := g4.1; simp at this; omega) rfl (fun ls2 hl => kk H locs d0 ls2 g1 g2 g3 (lok_set1 (pre := []) (v := .ref x) g4.1 (show c1l [] = true from rfl) hl))
theorem V_aload1 (G : Gd X own cc d kc ks) {a0 : Option Value} {t : List (Option Value)} {x : Nat} (hd : decode cc pc = .ok (.aload_n 1, 1))  (kk : V X k n (pc + 1) (a0 :: some (.ref x) :: t) (.ref x :: st) h) : V X k n pc (a0 :: some (.ref x) :: t) (st) h := by
  obtain ⟨p, l, e, R, s, m, args, below, meth, c, D, cA, A, Dp, Q, σ, nL⟩ := X
  obtain ⟨hx, hb, hml, hown, hts, hK, hadr, hA, hGE, hlk, hfr, hlo, hkc, hks⟩ := G
  intro H locs d0 lr g1 g2 g3 g4
  exact lv_aload_n (i := 1) hx hb hd rfl (lok_at (i := 1) (v := .ref x) g4 rfl) (kk H locs d0 lr g1 g2 g3 g4)
theorem V_astore1 (G : Gd X own cc d kc ks) {a0 b : Option Value} {t : List (Option Value)} {x : Nat} (hd : decode cc pc = .ok (.astore_n 1, 1)) (hc : c1 a0 = true) (kk : V X k n (pc + 1) (a0 :: some (.ref x) :: t) (st) h) : V X k n pc (a0 :: b :: t) (.ref x :: st) h := by
  obtain ⟨p, l, e, R, s, m, args, below, meth, c, D, cA, A, Dp, Q, σ, nL⟩ := X
  obtain ⟨hx, hb, hml, hown, hts, hK, hadr, hA, hGE, hlk, hfr, hlo, hkc, hks⟩ := G
  intro H locs d0 lr g1 g2 g3 g4
  exact lv_astore_n hx hb hd rfl g4.2 (by have := g4.1; simp at this; omega) rfl (fun ls2 hl => kk H locs d0 ls2 g1 g2 g3 (lok_set1 (pre := [a0]) (v := .ref x) g4.1 (show c1l [a0] = true from hc) hl))
theorem V_aload2 (G : Gd X own cc d kc ks) {a0 a1 : Option Value} {t : List (Option Value)} {x : Nat} (hd : decode cc pc = .ok (.aload_n 2, 1))  (kk : V X k n (pc + 1) (a0 :: a1 :: some (.ref x) :: t) (.ref x :: st) h) : V X k n pc (a0 :: a1 :: some (.ref x) :: t) (st) h := by
  obtain ⟨p, l, e, R, s, m, args, below, meth, c, D, cA, A, Dp, Q, σ, nL⟩ := X
  obtain ⟨hx, hb, hml, hown, hts, hK, hadr, hA, hGE, hlk, hfr, hlo, hkc, hks⟩ := G
  intro H locs d0 lr g1 g2 g3 g4
  exact lv_aload_n (i := 2) hx hb hd rfl (lok_at (i := 2) (v := .ref x) g4 rfl) (kk H locs d0 lr g1 g2 g3 g4)
theorem V_astore2 (G : Gd X own cc d kc ks) {a0 a1 b : Option Value} {t : List (Option Value)} {x : Nat} (hd : decode cc pc = .ok (.astore_n 2, 1)) (hc : c1 a1 = true) (kk : V X k n (pc + 1) (a0 :: a1 :: some (.ref x) :: t) (st) h) : V X k n pc (a0 :: a1 :: b :: t) (.ref x :: st) h := by
  obtain ⟨p, l, e, R, s, m, args, below, meth, c, D, cA, A, Dp, Q, σ, nL⟩ := X
  obtain ⟨hx, hb, hml, hown, hts, hK, hadr, hA, hGE, hlk, hfr, hlo, hkc, hks⟩ := G
  intro H locs d0 lr g1 g2 g3 g4
  exact lv_astore_n hx hb hd rfl g4.2 (by have := g4.1; simp at this; omega) rfl (fun ls2 hl => kk H locs d0 ls2 g1 g2 g3 (lok_set1 (pre := [a0, a1]) (v := .ref x) g4.1 (show c1l [a0, a1] = true from hc) hl))
theorem V_aload3 (G : Gd X own cc d kc ks) {a0 a1 a2 : Option Value} {t : List (Option Value)} {x : Nat} (hd : decode cc pc = .ok (.aload_n 3, 1))  (kk : V X k n (pc + 1) (a0 :: a1 :: a2 :: some (.ref x) :: t) (.ref x :: st) h) : V X k n pc (a0 :: a1 :: a2 :: some (.ref x) :: t) (st) h := by
  obtain ⟨p, l, e, R, s, m, args, below, meth, c, D, cA, A, Dp, Q, σ, nL⟩ := X
  obtain ⟨hx, hb, hml, hown, hts, hK, hadr, hA, hGE, hlk, hfr, hlo, hkc, hks⟩ := G
  intro H locs d0 lr g1 g2 g3 g4
  exact lv_aload_n (i := 3) hx hb hd rfl (lok_at (i := 3) (v := .ref x) g4 rfl) (kk H locs d0 lr g1 g2 g3 g4)
theorem V_astore3 (G : Gd X own cc d kc ks) {a0 a1 a2 b : Option Value} {t : List (Option Value)} {x : Nat} (hd : decode cc pc = .ok (.astore_n 3, 1)) (hc : c1 a2 = true) (kk : V X k n (pc + 1) (a0 :: a1 :: a2 :: some (.ref x) :: t) (st) h) : V X k n pc (a0 :: a1 :: a2 :: b :: t) (.ref x :: st) h := by
  obtain ⟨p, l, e, R, s, m, args, below, meth, c, D, cA, A, Dp, Q, σ, nL⟩ := X
  obtain ⟨hx, hb, hml, hown, hts, hK, hadr, hA, hGE, hlk, hfr, hlo, hkc, hks⟩ := G
  intro H locs d0 lr g1 g2 g3 g4
  exact lv_astore_n hx hb hd rfl g4.2 (by have := g4.1; simp at this; omega) rfl (fun ls2 hl => kk H locs d0 ls2 g1 g2 g3 (lok_set1 (pre := [a0, a1, a2]) (v := .ref x) g4.1 (show c1l [a0, a1, a2] = true from hc) hl))
theorem V_aload4 (G : Gd X own cc d kc ks) {a0 a1 a2 a3 : Option Value} {t : List (Option Value)} {x : Nat} (hd : decode cc pc = .ok (.aload 4, 2))  (kk : V X k n (pc + 2) (a0 :: a1 :: a2 :: a3 :: some (.ref x) :: t) (.ref x :: st) h) : V X k n pc (a0 :: a1 :: a2 :: a3 :: some (.ref x) :: t) (st) h := by
  obtain ⟨p, l, e, R, s, m, args, below, meth, c, D, cA, A, Dp, Q, σ, nL⟩ := X
  obtain ⟨hx, hb, hml, hown, hts, hK, hadr, hA, hGE, hlk, hfr, hlo, hkc, hks⟩ := G
  intro H locs d0 lr g1 g2 g3 g4
  exact lv_aload hx hb hd (lok_at (i := 4) (v := .ref x) g4 rfl) (kk H locs d0 lr g1 g2 g3 g4)
theorem V_astore4 (G : Gd X own cc d kc ks) {a0 a1 a2 a3 b : Option Value} {t : List (Option Value)} {x : Nat} (hd : decode cc pc = .ok (.astore 4, 2)) (hc : c1 a3 = true) (kk : V X k n (pc + 2) (a0 :: a1 :: a2 :: a3 :: some (.ref x) :: t) (st) h) : V X k n pc (a0 :: a1 :: a2 :: a3 :: b :: t) (.ref x :: st) h := by
  obtain ⟨p, l, e, R, s, m, args, below, meth, c, D, cA, A, Dp, Q, σ, nL⟩ := X
  obtain ⟨hx, hb, hml, hown, hts, hK, hadr, hA, hGE, hlk, hfr, hlo, hkc, hks⟩ := G
  intro H locs d0 lr g1 g2 g3 g4
  exact lv_astore hx hb hd g4.2 (by have := g4.1; simp at this; omega) rfl (fun ls2 hl => kk H locs d0 ls2 g1 g2 g3 (lok_set1 (pre := [a0, a1, a2, a3]) (v := .ref x) g4.1 (show c1l [a0, a1, a2, a3] = true from hc) hl))
theorem V_aload5 (G : Gd X own cc d kc ks) {a0 a1 a2 a3 a4 : Option Value} {t : List (Option Value)} {x : Nat} (hd : decode cc pc = .ok (.aload 5, 2))  (kk : V X k n (pc + 2) (a0 :: a1 :: a2 :: a3 :: a4 :: some (.ref x) :: t) (.ref x :: st) h) : V X k n pc (a0 :: a1 :: a2 :: a3 :: a4 :: some (.ref x) :: t) (st) h := by
  obtain ⟨p, l, e, R, s, m, args, below, meth, c, D, cA, A, Dp, Q, σ, nL⟩ := X
  obtain ⟨hx, hb, hml, hown, hts, hK, hadr, hA, hGE, hlk, hfr, hlo, hkc, hks⟩ := G
  intro H locs d0 lr g1 g2 g3 g4
  exact lv_aload hx hb hd (lok_at (i := 5) (v := .ref x) g4 rfl) (kk H locs d0 lr g1 g2 g3 g4)
theorem V_astore5 (G : Gd X own cc d kc ks) {a0 a1 a2 a3 a4 b : Option Value} {t : List (Option Value)} {x : Nat} (hd : decode cc pc = .ok (.astore 5, 2)) (hc : c1 a4 = true) (kk : V X k n (pc + 2) (a0 :: a1 :: a2 :: a3 :: a4 :: some (.ref x) :: t) (st) h) : V X k n pc (a0 :: a1 :: a2 :: a3 :: a4 :: b :: t) (.ref x :: st) h := by
  obtain ⟨p, l, e, R, s, m, args, below, meth, c, D, cA, A, Dp, Q, σ, nL⟩ := X
  obtain ⟨hx, hb, hml, hown, hts, hK, hadr, hA, hGE, hlk, hfr, hlo, hkc, hks⟩ := G
  intro H locs d0 lr g1 g2 g3 g4
  exact lv_astore hx hb hd g4.2 (by have := g4.1; simp at this; omega) rfl (fun ls2 hl => kk H locs d0 ls2 g1 g2 g3 (lok_set1 (pre := [a0, a1, a2, a3, a4]) (v := .ref x) g4.1 (show c1l [a0, a1, a2, a3, a4] = true from hc) hl))
theorem V_aload6 (G : Gd X own cc d kc ks) {a0 a1 a2 a3 a4 a5 : Option Value} {t : List (Option Value)} {x : Nat} (hd : decode cc pc = .ok (.aload 6, 2))  (kk : V X k n (pc + 2) (a0 :: a1 :: a2 :: a3 :: a4 :: a5 :: some (.ref x) :: t) (.ref x :: st) h) : V X k n pc (a0 :: a1 :: a2 :: a3 :: a4 :: a5 :: some (.ref x) :: t) (st) h := by
  obtain ⟨p, l, e, R, s, m, args, below, meth, c, D, cA, A, Dp, Q, σ, nL⟩ := X
  obtain ⟨hx, hb, hml, hown, hts, hK, hadr, hA, hGE, hlk, hfr, hlo, hkc, hks⟩ := G
  intro H locs d0 lr g1 g2 g3 g4
  exact lv_aload hx hb hd (lok_at (i := 6) (v := .ref x) g4 rfl) (kk H locs d0 lr g1 g2 g3 g4)
theorem V_astore6 (G : Gd X own cc d kc ks) {a0 a1 a2 a3 a4 a5 b : Option Value} {t : List (Option Value)} {x : Nat} (hd : decode cc pc = .ok (.astore 6, 2)) (hc : c1 a5 = true) (kk : V X k n (pc + 2) (a0 :: a1 :: a2 :: a3 :: a4 :: a5 :: some (.ref x) :: t) (st) h) : V X k n pc (a0 :: a1 :: a2 :: a3 :: a4 :: a5 :: b :: t) (.ref x :: st) h := by
  obtain ⟨p, l, e, R, s, m, args, below, meth, c, D, cA, A, Dp, Q, σ, nL⟩ := X
  obtain ⟨hx, hb, hml, hown, hts, hK, hadr, hA, hGE, hlk, hfr, hlo, hkc, hks⟩ := G
  intro H locs d0 lr g1 g2 g3 g4
  exact lv_astore hx hb hd g4.2 (by have := g4.1; simp at this; omega) rfl (fun ls2 hl => kk H locs d0 ls2 g1 g2 g3 (lok_set1 (pre := [a0, a1, a2, a3, a4, a5]) (v := .ref x) g4.1 (show c1l [a0, a1, a2, a3, a4, a5] = true from hc) hl))
theorem V_aload7 (G : Gd X own cc d kc ks) {a0 a1 a2 a3 a4 a5 a6 : Option Value} {t : List (Option Value)} {x : Nat} (hd : decode cc pc = .ok (.aload 7, 2))  (kk : V X k n (pc + 2) (a0 :: a1 :: a2 :: a3 :: a4 :: a5 :: a6 :: some (.ref x) :: t) (.ref x :: st) h) : V X k n pc (a0 :: a1 :: a2 :: a3 :: a4 :: a5 :: a6 :: some (.ref x) :: t) (st) h := by
  obtain ⟨p, l, e, R, s, m, args, below, meth, c, D, cA, A, Dp, Q, σ, nL⟩ := X
  obtain ⟨hx, hb, hml, hown, hts, hK, hadr, hA, hGE, hlk, hfr, hlo, hkc, hks⟩ := G
  intro H locs d0 lr g1 g2 g3 g4
  exact lv_aload hx hb hd (lok_at (i := 7) (v := .ref x) g4 rfl) (kk H locs d0 lr g1 g2 g3 g4)
theorem V_astore7 (G : Gd X own cc d kc ks) {a0 a1 a2 a3 a4 a5 a6 b : Option Value} {t : List (Option Value)} {x : Nat} (hd : decode cc pc = .ok (.astore 7, 2)) (hc : c1 a6 = true) (kk : V X k n (pc + 2) (a0 :: a1 :: a2 :: a3 :: a4 :: a5 :: a6 :: some (.ref x) :: t) (st) h) : V X k n pc (a0 :: a1 :: a2 :: a3 :: a4 :: a5 :: a6 :: b :: t) (.ref x :: st) h := by
  obtain ⟨p, l, e, R, s, m, args, below, meth, c, D, cA, A, Dp, Q, σ, nL⟩ := X
  obtain ⟨hx, hb, hml, hown, hts, hK, hadr, hA, hGE, hlk, hfr, hlo, hkc, hks⟩ := G
  intro H locs d0 lr g1 g2 g3 g4
  exact lv_astore hx hb hd g4.2 (by have := g4.1; simp at this; omega) rfl (fun ls2 hl => kk H locs d0 ls2 g1 g2 g3 (lok_set1 (pre := [a0, a1, a2, a3, a4, a5, a6]) (v := .ref x) g4.1 (show c1l [a0, a1, a2, a3, a4, a5, a6] = true from hc) hl))
theorem V_aload8 (G : Gd X own cc d kc ks) {a0 a1 a2 a3 a4 a5 a6 a7 : Option Value} {t : List (Option Value)} {x : Nat} (hd : decode cc pc = .ok (.aload 8, 2))  (kk : V X k n (pc + 2) (a0 :: a1 :: a2 :: a3 :: a4 :: a5 :: a6 :: a7 :: some (.ref x) :: t) (.ref x :: st) h) : V X k n pc (a0 :: a1 :: a2 :: a3 :: a4 :: a5 :: a6 :: a7 :: some (.ref x) :: t) (st) h := by
  obtain ⟨p, l, e, R, s, m, args, below, meth, c, D, cA, A, Dp, Q, σ, nL⟩ := X
  obtain ⟨hx, hb, hml, hown, hts, hK, hadr, hA, hGE, hlk, hfr, hlo, hkc, hks⟩ := G
  intro H locs d0 lr g1 g2 g3 g4
  exact lv_aload hx hb hd (lok_at (i := 8) (v := .ref x) g4 rfl) (kk H locs d0 lr g1 g2 g3 g4)
theorem V_astore8 (G : Gd X own cc d kc ks) {a0 a1 a2 a3 a4 a5 a6 a7 b : Option Value} {t : List (Option Value)} {x : Nat} (hd : decode cc pc = .ok (.astore 8, 2)) (hc : c1 a7 = true) (kk : V X k n (pc + 2) (a0 :: a1 :: a2 :: a3 :: a4 :: a5 :: a6 :: a7 :: some (.ref x) :: t) (st) h) : V X k n pc (a0 :: a1 :: a2 :: a3 :: a4 :: a5 :: a6 :: a7 :: b :: t) (.ref x :: st) h := by
  obtain ⟨p, l, e, R, s, m, args, below, meth, c, D, cA, A, Dp, Q, σ, nL⟩ := X
  obtain ⟨hx, hb, hml, hown, hts, hK, hadr, hA, hGE, hlk, hfr, hlo, hkc, hks⟩ := G
  intro H locs d0 lr g1 g2 g3 g4
  exact lv_astore hx hb hd g4.2 (by have := g4.1; simp at this; omega) rfl (fun ls2 hl => kk H locs d0 ls2 g1 g2 g3 (lok_set1 (pre := [a0, a1, a2, a3, a4, a5, a6, a7]) (v := .ref x) g4.1 (show c1l [a0, a1, a2, a3, a4, a5, a6, a7] = true from hc) hl))
theorem V_aload9 (G : Gd X own cc d kc ks) {a0 a1 a2 a3 a4 a5 a6 a7 a8 : Option Value} {t : List (Option Value)} {x : Nat} (hd : decode cc pc = .ok (.aload 9, 2))  (kk : V X k n (pc + 2) (a0 :: a1 :: a2 :: a3 :: a4 :: a5 :: a6 :: a7 :: a8 :: some (.ref x) :: t) (.ref x :: st) h) : V X k n pc (a0 :: a1 :: a2 :: a3 :: a4 :: a5 :: a6 :: a7 :: a8 :: some (.ref x) :: t) (st) h := by
  obtain ⟨p, l, e, R, s, m, args, below, meth, c, D, cA, A, Dp, Q, σ, nL⟩ := X
  obtain ⟨hx, hb, hml, hown, hts, hK, hadr, hA, hGE, hlk, hfr, hlo, hkc, hks⟩ := G
  intro H locs d0 lr g1 g2 g3 g4
  exact lv_aload hx hb hd (lok_at (i := 9) (v := .ref x) g4 rfl) (kk H locs d0 lr g1 g2 g3 g4)
theorem V_astore9 (G : Gd X own cc d kc ks) {a0 a1 a2 a3 a4 a5 a6 a7 a8 b : Option Value} {t : List (Option Value)} {x : Nat} (hd : decode cc pc = .ok (.astore 9, 2)) (hc : c1 a8 = true) (kk : V X k n (pc + 2) (a0 :: a1 :: a2 :: a3 :: a4 :: a5 :: a6 :: a7 :: a8 :: some (.ref x) :: t) (st) h) : V X k n pc (a0 :: a1 :: a2 :: a3 :: a4 :: a5 :: a6 :: a7 :: a8 :: b :: t) (.ref x :: st) h := by
  obtain ⟨p, l, e, R, s, m, args, below, meth, c, D, cA, A, Dp, Q, σ, nL⟩ := X
  obtain ⟨hx, hb, hml, hown, hts, hK, hadr, hA, hGE, hlk, hfr, hlo, hkc, hks⟩ := G
  intro H locs d0 lr g1 g2 g3 g4
  exact lv_astore hx hb hd g4.2 (by have := g4.1; simp at this; omega) rfl (fun ls2 hl => kk H locs d0 ls2 g1 g2 g3 (lok_set1 (pre := [a0, a1, a2, a3, a4, a5, a6, a7, a8]) (v := .ref x) g4.1 (show c1l [a0, a1, a2, a3, a4, a5, a6, a7, a8] = true from hc) hl))
theorem V_aload10 (G : Gd X own cc d kc ks) {a0 a1 a2 a3 a4 a5 a6 a7 a8 a9 : Option Value} {t : List (Option Value)} {x : Nat} (hd : decode cc pc = .ok (.aload 10, 2))  (kk : V X k n (pc + 2) (a0 :: a1 :: a2 :: a3 :: a4 :: a5 :: a6 :: a7 :: a8 :: a9 :: some (.ref x) :: t) (.ref x :: st) h) : V X k n pc (a0 :: a1 :: a2 :: a3 :: a4 :: a5 :: a6 :: a7 :: a8 :: a9 :: some (.ref x) :: t) (st) h := by
  obtain ⟨p, l, e, R, s, m, args, below, meth, c, D, cA, A, Dp, Q, σ, nL⟩ := X
  obtain ⟨hx, hb, hml, hown, hts, hK, hadr, hA, hGE, hlk, hfr, hlo, hkc, hks⟩ := G
  intro H locs d0 lr g1 g2 g3 g4
  exact lv_aload hx hb hd (lok_at (i := 10) (v := .ref x) g4 rfl) (kk H locs d0 lr g1 g2 g3 g4)
theorem V_astore10 (G : Gd X own cc d kc ks) {a0 a1 a2 a3 a4 a5 a6 a7 a8 a9 b : Option Value} {t : List (Option Value)} {x : Nat} (hd : decode cc pc = .ok (.astore 10, 2)) (hc : c1 a9 = true) (kk : V X k n (pc + 2) (a0 :: a1 :: a2 :: a3 :: a4 :: a5 :: a6 :: a7 :: a8 :: a9 :: some (.ref x) :: t) (st) h) : V X k n pc (a0 :: a1 :: a2 :: a3 :: a4 :: a5 :: a6 :: a7 :: a8 :: a9 :: b :: t) (.ref x :: st) h := by
  obtain ⟨p, l, e, R, s, m, args, below, meth, c, D, cA, A, Dp, Q, σ, nL⟩ := X
  obtain ⟨hx, hb, hml, hown, hts, hK, hadr, hA, hGE, hlk, hfr, hlo, hkc, hks⟩ := G
  intro H locs d0 lr g1 g2 g3 g4
  exact lv_astore hx hb hd g4.2 (by have := g4.1; simp at this; omega) rfl (fun ls2 hl => kk H locs d0 ls2 g1 g2 g3 (lok_set1 (pre := [a0, a1, a2, a3, a4, a5, a6, a7, a8, a9]) (v := .ref x) g4.1 (show c1l [a0, a1, a2, a3, a4, a5, a6, a7, a8, a9] = true from hc) hl))
theorem V_aload11 (G : Gd X own cc d kc ks) {a0 a1 a2 a3 a4 a5 a6 a7 a8 a9 a10 : Option Value} {t : List (Option Value)} {x : Nat} (hd : decode cc pc = .ok (.aload 11, 2))  (kk : V X k n (pc + 2) (a0 :: a1 :: a2 :: a3 :: a4 :: a5 :: a6 :: a7 :: a8 :: a9 :: a10 :: some (.ref x) :: t) (.ref x :: st) h) : V X k n pc (a0 :: a1 :: a2 :: a3 :: a4 :: a5 :: a6 :: a7 :: a8 :: a9 :: a10 :: some (.ref x) :: t) (st) h := by
  obtain ⟨p, l, e, R, s, m, args, below, meth, c, D, cA, A, Dp, Q, σ, nL⟩ := X
  obtain ⟨hx, hb, hml, hown, hts, hK, hadr, hA, hGE, hlk, hfr, hlo, hkc, hks⟩ := G
  intro H locs d0 lr g1 g2 g3 g4
  exact lv_aload hx hb hd (lok_at (i := 11) (v := .ref x) g4 rfl) (kk H locs d0 lr g1 g2 g3 g4)
theorem V_astore11 (G : Gd X own cc d kc ks) {a0 a1 a2 a3 a4 a5 a6 a7 a8 a9 a10 b : Option Value} {t : List (Option Value)} {x : Nat} (hd : decode cc pc = .ok (.astore 11, 2)) (hc : c1 a10 = true) (kk : V X k n (pc + 2) (a0 :: a1 :: a2 :: a3 :: a4 :: a5 :: a6 :: a7 :: a8 :: a9 :: a10 :: some (.ref x) :: t) (st) h) : V X k n pc (a0 :: a1 :: a2 :: a3 :: a4 :: a5 :: a6 :: a7 :: a8 :: a9 :: a10 :: b :: t) (.ref x :: st) h := by
  obtain ⟨p, l, e, R, s, m, args, below, meth, c, D, cA, A, Dp, Q, σ, nL⟩ := X
  obtain ⟨hx, hb, hml, hown, hts, hK, hadr, hA, hGE, hlk, hfr, hlo, hkc, hks⟩ := G
  intro H locs d0 lr g1 g2 g3 g4
  exact lv_astore hx hb hd g4.2 (by have := g4.1; simp at this; omega) rfl (fun ls2 hl => kk H locs d0 ls2 g1 g2 g3 (lok_set1 (pre := [a0, a1, a2, a3, a4, a5, a6, a7, a8, a9, a10]) (v := .ref x) g4.1 (show c1l [a0, a1, a2, a3, a4, a5, a6, a7, a8, a9, a10] = true from hc) hl))
theorem V_aload12 (G : Gd X own cc d kc ks) {a0 a1 a2 a3 a4 a5 a6 a7 a8 a9 a10 a11 : Option Value} {t : List (Option Value)} {x : Nat} (hd : decode cc pc = .ok (.aload 12, 2))  (kk : V X k n (pc + 2) (a0 :: a1 :: a2 :: a3 :: a4 :: a5 :: a6 :: a7 :: a8 :: a9 :: a10 :: a11 :: some (.ref x) :: t) (.ref x :: st) h) : V X k n pc (a0 :: a1 :: a2 :: a3 :: a4 :: a5 :: a6 :: a7 :: a8 :: a9 :: a10 :: a11 :: some (.ref x) :: t) (st) h := by
  obtain ⟨p, l, e, R, s, m, args, below, meth, c, D, cA, A, Dp, Q, σ, nL⟩ := X
  obtain ⟨hx, hb, hml, hown, hts, hK, hadr, hA, hGE, hlk, hfr, hlo, hkc, hks⟩ := G
  intro H locs d0 lr g1 g2 g3 g4
  exact lv_aload hx hb hd (lok_at (i := 12) (v := .ref x) g4 rfl) (kk H locs d0 lr g1 g2 g3 g4)
theorem V_astore12 (G : Gd X own cc d kc ks) {a0 a1 a2 a3 a4 a5 a6 a7 a8 a9 a10 a11 b : Option Value} {t : List (Option Value)} {x : Nat} (hd : decode cc pc = .ok (.astore 12, 2)) (hc : c1 a11 = true) (kk : V X k n (pc + 2) (a0 :: a1 :: a2 :: a3 :: a4 :: a5 :: a6 :: a7 :: a8 :: a9 :: a10 :: a11 :: some (.ref x) :: t) (st) h) : V X k n pc (a0 :: a1 :: a2 :: a3 :: a4 :: a5 :: a6 :: a7 :: a8 :: a9 :: a10 :: a11 :: b :: t) (.ref x :: st) h := by
  obtain ⟨p, l, e, R, s, m, args, below, meth, c, D, cA, A, Dp, Q, σ, nL⟩ := X
  obtain ⟨hx, hb, hml, hown, hts, hK, hadr, hA, hGE, hlk, hfr, hlo, hkc, hks⟩ := G
  intro H locs d0 lr g1 g2 g3 g4
  exact lv_astore hx hb hd g4.2 (by have := g4.1; simp at this; omega) rfl (fun ls2 hl => kk H locs d0 ls2 g1 g2 g3 (lok_set1 (pre := [a0, a1, a2, a3, a4, a5, a6, a7, a8, a9, a10, a11]) (v := .ref x) g4.1 (show c1l [a0, a1, a2, a3, a4, a5, a6, a7, a8, a9, a10, a11] = true from hc) hl))
theorem V_ifeq_ (G : Gd X own cc d kc ks) {x : Int32} {off : Int} {tgt : Nat} (hd : decode cc pc = .ok (.ifCond .eq off, 3)) (ht : (pc : Int) + off = (tgt : Int)) (kt : x = 0 → V X k n tgt ls st h) (kf : ¬ x = 0 → V X k n (pc + 3) ls st h) : V X k n pc ls (.int x :: st) h := by
  obtain ⟨p, l, e, R, s, m, args, below, meth, c, D, cA, A, Dp, Q, σ, nL⟩ := X
  obtain ⟨hx, hb, hml, hown, hts, hK, hadr, hA, hGE, hlk, hfr, hlo, hkc, hks⟩ := G
  intro H locs d0 lr g1 g2 g3 g4
  exact lv_if_eq hx hb hd ht (fun q => kt q H locs d0 lr g1 g2 g3 g4) (fun q => kf q H locs d0 lr g1 g2 g3 g4)
theorem V_ifne_ (G : Gd X own cc d kc ks) {x : Int32} {off : Int} {tgt : Nat} (hd : decode cc pc = .ok (.ifCond .ne off, 3)) (ht : (pc : Int) + off = (tgt : Int)) (kt : ¬ x = 0 → V X k n tgt ls st h) (kf : x = 0 → V X k n (pc + 3) ls st h) : V X k n pc ls (.int x :: st) h := by
  obtain ⟨p, l, e, R, s, m, args, below, meth, c, D, cA, A, Dp, Q, σ, nL⟩ := X
  obtain ⟨hx, hb, hml, hown, hts, hK, hadr, hA, hGE, hlk, hfr, hlo, hkc, hks⟩ := G
  intro H locs d0 lr g1 g2 g3 g4
  exact lv_if_ne hx hb hd ht (fun q => kt q H locs d0 lr g1 g2 g3 g4) (fun q => kf q H locs d0 lr g1 g2 g3 g4)
theorem V_iflt_ (G : Gd X own cc d kc ks) {x : Int32} {off : Int} {tgt : Nat} (hd : decode cc pc = .ok (.ifCond .lt off, 3)) (ht : (pc : Int) + off = (tgt : Int)) (kt : x < 0 → V X k n tgt ls st h) (kf : ¬ x < 0 → V X k n (pc + 3) ls st h) : V X k n pc ls (.int x :: st) h := by
  obtain ⟨p, l, e, R, s, m, args, below, meth, c, D, cA, A, Dp, Q, σ, nL⟩ := X
  obtain ⟨hx, hb, hml, hown, hts, hK, hadr, hA, hGE, hlk, hfr, hlo, hkc, hks⟩ := G
  intro H locs d0 lr g1 g2 g3 g4
  exact lv_if_lt hx hb hd ht (fun q => kt q H locs d0 lr g1 g2 g3 g4) (fun q => kf q H locs d0 lr g1 g2 g3 g4)
theorem V_ifge_ (G : Gd X own cc d kc ks) {x : Int32} {off : Int} {tgt : Nat} (hd : decode cc pc = .ok (.ifCond .ge off, 3)) (ht : (pc : Int) + off = (tgt : Int)) (kt : 0 ≤ x → V X k n tgt ls st h) (kf : ¬ 0 ≤ x → V X k n (pc + 3) ls st h) : V X k n pc ls (.int x :: st) h := by
  obtain ⟨p, l, e, R, s, m, args, below, meth, c, D, cA, A, Dp, Q, σ, nL⟩ := X
  obtain ⟨hx, hb, hml, hown, hts, hK, hadr, hA, hGE, hlk, hfr, hlo, hkc, hks⟩ := G
  intro H locs d0 lr g1 g2 g3 g4
  exact lv_if_ge hx hb hd ht (fun q => kt q H locs d0 lr g1 g2 g3 g4) (fun q => kf q H locs d0 lr g1 g2 g3 g4)
theorem V_ifgt_ (G : Gd X own cc d kc ks) {x : Int32} {off : Int} {tgt : Nat} (hd : decode cc pc = .ok (.ifCond .gt off, 3)) (ht : (pc : Int) + off = (tgt : Int)) (kt : 0 < x → V X k n tgt ls st h) (kf : ¬ 0 < x → V X k n (pc + 3) ls st h) : V X k n pc ls (.int x :: st) h := by
  obtain ⟨p, l, e, R, s, m, args, below, meth, c, D, cA, A, Dp, Q, σ, nL⟩ := X
  obtain ⟨hx, hb, hml, hown, hts, hK, hadr, hA, hGE, hlk, hfr, hlo, hkc, hks⟩ := G
  intro H locs d0 lr g1 g2 g3 g4
  exact lv_if_gt hx hb hd ht (fun q => kt q H locs d0 lr g1 g2 g3 g4) (fun q => kf q H locs d0 lr g1 g2 g3 g4)
theorem V_ifle_ (G : Gd X own cc d kc ks) {x : Int32} {off : Int} {tgt : Nat} (hd : decode cc pc = .ok (.ifCond .le off, 3)) (ht : (pc : Int) + off = (tgt : Int)) (kt : x ≤ 0 → V X k n tgt ls st h) (kf : ¬ x ≤ 0 → V X k n (pc + 3) ls st h) : V X k n pc ls (.int x :: st) h := by
  obtain ⟨p, l, e, R, s, m, args, below, meth, c, D, cA, A, Dp, Q, σ, nL⟩ := X
  obtain ⟨hx, hb, hml, hown, hts, hK, hadr, hA, hGE, hlk, hfr, hlo, hkc, hks⟩ := G
  intro H locs d0 lr g1 g2 g3 g4
  exact lv_if_le hx hb hd ht (fun q => kt q H locs d0 lr g1 g2 g3 g4) (fun q => kf q H locs d0 lr g1 g2 g3 g4)
theorem V_icmpeq_ (G : Gd X own cc d kc ks) {x y : Int32} {off : Int} {tgt : Nat} (hd : decode cc pc = .ok (.if_icmp .eq off, 3)) (ht : (pc : Int) + off = (tgt : Int)) (kt : x = y → V X k n tgt ls st h) (kf : ¬ x = y → V X k n (pc + 3) ls st h) : V X k n pc ls (.int y :: .int x :: st) h := by
  obtain ⟨p, l, e, R, s, m, args, below, meth, c, D, cA, A, Dp, Q, σ, nL⟩ := X
  obtain ⟨hx, hb, hml, hown, hts, hK, hadr, hA, hGE, hlk, hfr, hlo, hkc, hks⟩ := G
  intro H locs d0 lr g1 g2 g3 g4
  exact lv_icmp_eq hx hb hd ht (fun q => kt q H locs d0 lr g1 g2 g3 g4) (fun q => kf q H locs d0 lr g1 g2 g3 g4)
theorem V_icmpne_ (G : Gd X own cc d kc ks) {x y : Int32} {off : Int} {tgt : Nat} (hd : decode cc pc = .ok (.if_icmp .ne off, 3)) (ht : (pc : Int) + off = (tgt : Int)) (kt : ¬ x = y → V X k n tgt ls st h) (kf : x = y → V X k n (pc + 3) ls st h) : V X k n pc ls (.int y :: .int x :: st) h := by
  obtain ⟨p, l, e, R, s, m, args, below, meth, c, D, cA, A, Dp, Q, σ, nL⟩ := X
  obtain ⟨hx, hb, hml, hown, hts, hK, hadr, hA, hGE, hlk, hfr, hlo, hkc, hks⟩ := G
  intro H locs d0 lr g1 g2 g3 g4
  exact lv_icmp_ne hx hb hd ht (fun q => kt q H locs d0 lr g1 g2 g3 g4) (fun q => kf q H locs d0 lr g1 g2 g3 g4)
theorem V_icmplt_ (G : Gd X own cc d kc ks) {x y : Int32} {off : Int} {tgt : Nat} (hd : decode cc pc = .ok (.if_icmp .lt off, 3)) (ht : (pc : Int) + off = (tgt : Int)) (kt : x < y → V X k n tgt ls st h) (kf : ¬ x < y → V X k n (pc + 3) ls st h) : V X k n pc ls (.int y :: .int x :: st) h := by
  obtain ⟨p, l, e, R, s, m, args, below, meth, c, D, cA, A, Dp, Q, σ, nL⟩ := X
  obtain ⟨hx, hb, hml, hown, hts, hK, hadr, hA, hGE, hlk, hfr, hlo, hkc, hks⟩ := G
  intro H locs d0 lr g1 g2 g3 g4
  exact lv_icmp_lt hx hb hd ht (fun q => kt q H locs d0 lr g1 g2 g3 g4) (fun q => kf q H locs d0 lr g1 g2 g3 g4)
theorem V_icmpge_ (G : Gd X own cc d kc ks) {x y : Int32} {off : Int} {tgt : Nat} (hd : decode cc pc = .ok (.if_icmp .ge off, 3)) (ht : (pc : Int) + off = (tgt : Int)) (kt : y ≤ x → V X k n tgt ls st h) (kf : ¬ y ≤ x → V X k n (pc + 3) ls st h) : V X k n pc ls (.int y :: .int x :: st) h := by
  obtain ⟨p, l, e, R, s, m, args, below, meth, c, D, cA, A, Dp, Q, σ, nL⟩ := X
  obtain ⟨hx, hb, hml, hown, hts, hK, hadr, hA, hGE, hlk, hfr, hlo, hkc, hks⟩ := G
  intro H locs d0 lr g1 g2 g3 g4
  exact lv_icmp_ge hx hb hd ht (fun q => kt q H locs d0 lr g1 g2 g3 g4) (fun q => kf q H locs d0 lr g1 g2 g3 g4)
theorem V_icmpgt_ (G : Gd X own cc d kc ks) {x y : Int32} {off : Int} {tgt : Nat} (hd : decode cc pc = .ok (.if_icmp .gt off, 3)) (ht : (pc : Int) + off = (tgt : Int)) (kt : y < x → V X k n tgt ls st h) (kf : ¬ y < x → V X k n (pc + 3) ls st h) : V X k n pc ls (.int y :: .int x :: st) h := by
  obtain ⟨p, l, e, R, s, m, args, below, meth, c, D, cA, A, Dp, Q, σ, nL⟩ := X
  obtain ⟨hx, hb, hml, hown, hts, hK, hadr, hA, hGE, hlk, hfr, hlo, hkc, hks⟩ := G
  intro H locs d0 lr g1 g2 g3 g4
  exact lv_icmp_gt hx hb hd ht (fun q => kt q H locs d0 lr g1 g2 g3 g4) (fun q => kf q H locs d0 lr g1 g2 g3 g4)
theorem V_icmple_ (G : Gd X own cc d kc ks) {x y : Int32} {off : Int} {tgt : Nat} (hd : decode cc pc = .ok (.if_icmp .le off, 3)) (ht : (pc : Int) + off = (tgt : Int)) (kt : x ≤ y → V X k n tgt ls st h) (kf : ¬ x ≤ y → V X k n (pc + 3) ls st h) : V X k n pc ls (.int y :: .int x :: st) h := by
  obtain ⟨p, l, e, R, s, m, args, below, meth, c, D, cA, A, Dp, Q, σ, nL⟩ := X
  obtain ⟨hx, hb, hml, hown, hts, hK, hadr, hA, hGE, hlk, hfr, hlo, hkc, hks⟩ := G
  intro H locs d0 lr g1 g2 g3 g4
  exact lv_icmp_le hx hb hd ht (fun q => kt q H locs d0 lr g1 g2 g3 g4) (fun q => kf q H locs d0 lr g1 g2 g3 g4)
theorem V_goto (G : Gd X own cc d kc ks) {off : Int} {tgt : Nat} (hd : decode cc pc = .ok (.goto off, 3)) (ht : (pc : Int) + off = (tgt : Int)) (kk : V X k n tgt ls st h) : V X k n pc ls st h := by
  obtain ⟨p, l, e, R, s, m, args, below, meth, c, D, cA, A, Dp, Q, σ, nL⟩ := X
  obtain ⟨hx, hb, hml, hown, hts, hK, hadr, hA, hGE, hlk, hfr, hlo, hkc, hks⟩ := G
  intro H locs d0 lr g1 g2 g3 g4
  exact lv_goto hx hb hd ht (kk H locs d0 lr g1 g2 g3 g4)
theorem V_tableIn_ (G : Gd X own cc d kc ks) {dflt lo hi : Int} {offs : Array Int} {len : Nat} {x : Int32} {off : Int} {tgt : Nat} (hd : decode cc pc = .ok (.tableswitch dflt lo hi offs, len)) (h1 : ¬ x.toInt < lo) (h2 : ¬ hi < x.toInt) (ho : offs[(x.toInt - lo).toNat]? = some off) (ht : (pc : Int) + off = (tgt : Int)) (kk : V X k n tgt ls st h) : V X k n pc ls (.int x :: st) h := by
  obtain ⟨p, l, e, R, s, m, args, below, meth, c, D, cA, A, Dp, Q, σ, nL⟩ := X
  obtain ⟨hx, hb, hml, hown, hts, hK, hadr, hA, hGE, hlk, hfr, hlo, hkc, hks⟩ := G
  intro H locs d0 lr g1 g2 g3 g4
  exact lv_tableIn hx hb hd h1 h2 ho ht (kk H locs d0 lr g1 g2 g3 g4)
theorem V_tableOut_ (G : Gd X own cc d kc ks) {dflt lo hi : Int} {offs : Array Int} {len : Nat} {x : Int32} {tgt : Nat} (hd : decode cc pc = .ok (.tableswitch dflt lo hi offs, len)) (h1 : x.toInt < lo ∨ hi < x.toInt) (ht : (pc : Int) + dflt = (tgt : Int)) (kk : V X k n tgt ls st h) : V X k n pc ls (.int x :: st) h := by
  obtain ⟨p, l, e, R, s, m, args, below, meth, c, D, cA, A, Dp, Q, σ, nL⟩ := X
  obtain ⟨hx, hb, hml, hown, hts, hK, hadr, hA, hGE, hlk, hfr, hlo, hkc, hks⟩ := G
  intro H locs d0 lr g1 g2 g3 g4
  exact lv_tableOut hx hb hd h1 ht (kk H locs d0 lr g1 g2 g3 g4)
theorem V_lookup_ (G : Gd X own cc d kc ks) {dflt : Int} {ps : Array (Int × Int)} {len : Nat} {x : Int32} {off : Int} {tgt : Nat} (hd : decode cc pc = .ok (.lookupswitch dflt ps, len)) (hp : (ps.toList.zip (ps.toList.drop 1)).all (fun (a, next) => a.1 < next.1) = true) (ho : Op.lookupswitch.offset ps.toList dflt x.toInt = off) (ht : (pc : Int) + off = (tgt : Int)) (kk : V X k n tgt ls st h) : V X k n pc ls (.int x :: st) h := by
  obtain ⟨p, l, e, R, s, m, args, below, meth, c, D, cA, A, Dp, Q, σ, nL⟩ := X
  obtain ⟨hx, hb, hml, hown, hts, hK, hadr, hA, hGE, hlk, hfr, hlo, hkc, hks⟩ := G
  intro H locs d0 lr g1 g2 g3 g4
  exact lv_lookup hx hb hd hp ho ht (kk H locs d0 lr g1 g2 g3 g4)
theorem zi_cast {i : Int} {N : Nat} (h : 0 ≤ i ∧ i < N) (hN : N ≤ 5000) : (((Int32.ofInt i).toNatClampNeg : Nat) : Int) = i := by
  rw [Int32.toNatClampNeg_ofInt_of_le (by omega) (by omega)]
  omega
theorem zi_in {i : Int} {N : Nat} (h : 0 ≤ i ∧ i < N) (hN : N ≤ 5000) : vp_in (Int32.ofInt i) N := by
  have e := zi_cast h hN
  rintro (q | q)
  · rw [Int32.lt_iff_toInt_lt, Int32.toInt_ofInt_of_le (by omega) (by omega)] at q
    simp at q
    omega
  · omega

/-- a field's link, as the tables have it: class ci, place j among its fields -/
def FL (own : String) (idx ci j : Nat) : Prop := ∃ (C ref : String) (T : u_T) (N : Nat), vwCl[ci]? = some (C, T, N) ∧ (∀ w ∈ u_ws C T N, w ∈ tw) ∧ j < N ∧ nFd ci = N ∧ Cond.fieldLink own idx ref (T j).2.1 (T j).2.2.1 ∈ tw ∧ (ref = (T j).1 ∨ Cond.sameField ref (T j).1 (T j).2.1 (T j).2.2.1 ∈ tw)
def FW (own : String) (idx ci j : Nat) (ty : FieldType) : Prop := ∃ (C ref : String) (T : u_T) (N : Nat) (ty0 : Nat → FieldType), vwCl[ci]? = some (C, T, N) ∧ (∀ w ∈ u_ws C T N, w ∈ tw) ∧ j < N ∧ nFd ci = N ∧ Cond.fieldLink own idx ref (T j).2.1 (T j).2.2.1 ∈ tw ∧ (ref = (T j).1 ∨ Cond.sameField ref (T j).1 (T j).2.1 (T j).2.2.1 ∈ tw) ∧ (∀ k, k < N → parseFieldDescriptor (T k).2.2.1 = some (ty0 k)) ∧ (∀ a, a < N → ∀ b, b < N → a ≠ b → (T a).2.1 ≠ (T b).2.1) ∧ (T j).2.2.2 = false ∧ parseFieldDescriptor (T j).2.2.1 = some ty
theorem ce_obj {σ : Nat → Nat} {cA : Nat → ClassId} {h : Hp} {q ci : Nat} (hs : SH q = .inl ci) : ce σ cA h q = .inr (ci, (List.range (nFd ci)).map (fun j => fvk σ q (hI h q) (hL h q) j (fkd ci j))) := by
  unfold ce
  rw [hs]
  rfl
theorem ce_i {σ : Nat → Nat} {cA : Nat → ClassId} {h : Hp} {q N : Nat} (hs : SH q = .inr (0, N)) : ce σ cA h q = .inl (cA 0, N, .inl (fun j => Int32.ofInt (hI h q j))) := by
  unfold ce
  rw [hs]
  rfl
theorem ce_l {σ : Nat → Nat} {cA : Nat → ClassId} {h : Hp} {q N : Nat} (hs : SH q = .inr (1, N)) : ce σ cA h q = .inl (cA 1, N, .inr (.inl (fun j => hL h q j))) := by
  unfold ce
  rw [hs]
  rfl
theorem ce_z {σ : Nat → Nat} {cA : Nat → ClassId} {h : Hp} {q N : Nat} (hs : SH q = .inr (2, N)) : ce σ cA h q = .inl (cA 2, N, .inl (fun j => Int32.ofInt (hI h q j))) := by
  unfold ce
  rw [hs]
  rfl
theorem ce_q {σ : Nat → Nat} {cA : Nat → ClassId} {h : Hp} {q N : Nat} (hs : SH q = .inr (3, N)) : ce σ cA h q = .inl (cA 3, N, .inr (.inr (.inr (.inr (fun j => (hR h q j).map σ))))) := by
  unfold ce
  rw [hs]
  rfl
theorem fl_get {fs : Nat → Value} {N j : Nat} (hj : j < N) : ((List.range N).map fs)[j]? = some (fs j) := by
  rw [List.getElem?_map, List.getElem?_range hj]
  rfl
theorem fl_set {fs gs : Nat → Value} {N j : Nat} {v : Value} (hj : gs j = v) (ho : ∀ i, i ≠ j → gs i = fs i) : ((List.range N).map fs).set j v = (List.range N).map gs := by
  apply List.ext_getElem?
  intro i
  by_cases hi : i < N
  · by_cases e : i = j
    · subst e
      rw [List.getElem?_set_self (by simpa using hi), fl_get hi, hj]
    · rw [List.getElem?_set_ne (Ne.symm e), fl_get hi, fl_get hi, ho i e]
  · rw [List.getElem?_eq_none (by simp; omega), List.getElem?_eq_none (by simp; omega)]
theorem V_getI (G : Gd X own cc d kc ks) {idx ci j q : Nat} {jz : Int} (hF : FL own idx ci j) (hd : decode cc pc = .ok (.getfield idx, 3)) (hq : q < NN) (hs : SH q = .inl ci) (hk : fkd ci j = 0) (hjz : (j : Int) = jz) (kk : V X k n (pc + 3) ls (.int (Int32.ofInt (hI h q jz)) :: st) h) : V X k n pc ls (.ref q :: st) h := by
  obtain ⟨p, l, e, R, s, m, args, below, meth, c, D, cA, A, Dp, Q, σ, nL⟩ := X
  obtain ⟨hx, hb, hml, hown, hts, hK, hadr, hA, hGE, hlk, hfr, hlo, hkc, hks⟩ := G
  intro H locs d0 lr g1 g2 g3 g4
  subst hjz
  obtain ⟨C, ref, T, N, hc, hin, hj, hN, hlk2, hsame⟩ := hF
  exact va_get (D := D) (ci := ci) (v := .int (Int32.ofInt (hI h q j))) (C := C) (T := T) (N := N) hx hb (dr_words hts d0) hin hown hK g2 q (by rw [wd_get hq, ce_obj hs]) hc j hj (dr_words hts d0 _ hlk2) (hsame.elim (fun e x hh => e ▸ hh) (fun w x hh => u_same (hts _ w) x hh)) (by rw [fl_get (by omega), hk]; rfl) hd (kk H locs d0 lr g1 g2 g3 g4)
theorem V_getL (G : Gd X own cc d kc ks) {idx ci j q : Nat} {jz : Int} (hF : FL own idx ci j) (hd : decode cc pc = .ok (.getfield idx, 3)) (hq : q < NN) (hs : SH q = .inl ci) (hk : fkd ci j = 1) (hjz : (j : Int) = jz) (kk : V X k n (pc + 3) ls (.long (hL h q jz) :: st) h) : V X k n pc ls (.ref q :: st) h := by
  obtain ⟨p, l, e, R, s, m, args, below, meth, c, D, cA, A, Dp, Q, σ, nL⟩ := X
  obtain ⟨hx, hb, hml, hown, hts, hK, hadr, hA, hGE, hlk, hfr, hlo, hkc, hks⟩ := G
  intro H locs d0 lr g1 g2 g3 g4
  subst hjz
  obtain ⟨C, ref, T, N, hc, hin, hj, hN, hlk2, hsame⟩ := hF
  exact va_get (D := D) (ci := ci) (v := .long (hL h q j)) (C := C) (T := T) (N := N) hx hb (dr_words hts d0) hin hown hK g2 q (by rw [wd_get hq, ce_obj hs]) hc j hj (dr_words hts d0 _ hlk2) (hsame.elim (fun e x hh => e ▸ hh) (fun w x hh => u_same (hts _ w) x hh)) (by rw [fl_get (by omega), hk]; rfl) hd (kk H locs d0 lr g1 g2 g3 g4)
theorem V_getR (G : Gd X own cc d kc ks) {idx ci j q r : Nat} (hF : FL own idx ci j) (hd : decode cc pc = .ok (.getfield idx, 3)) (hq : q < NN) (hs : SH q = .inl ci) (hk : fkd ci j = 2) (hr : RF q j = some r) (kk : V X k n (pc + 3) ls (.ref r :: st) h) : V X k n pc ls (.ref q :: st) h := by
  obtain ⟨p, l, e, R, s, m, args, below, meth, c, D, cA, A, Dp, Q, σ, nL⟩ := X
  obtain ⟨hx, hb, hml, hown, hts, hK, hadr, hA, hGE, hlk, hfr, hlo, hkc, hks⟩ := G
  intro H locs d0 lr g1 g2 g3 g4
  obtain ⟨C, ref, T, N, hc, hin, hj, hN, hlk2, hsame⟩ := hF
  exact va_get (D := D) (ci := ci) (v := .ref (σ r)) (C := C) (T := T) (N := N) hx hb (dr_words hts d0) hin hown hK g2 q (by rw [wd_get hq, ce_obj hs]) hc j hj (dr_words hts d0 _ hlk2) (hsame.elim (fun e x hh => e ▸ hh) (fun w x hh => u_same (hts _ w) x hh)) (by rw [fl_get (by omega), hk]; show some (va_rf ((RF q j).map σ)) = _; rw [hr]; rfl) hd (kk H locs d0 lr g1 g2 g3 g4)
theorem V_putI (G : Gd X own cc d kc ks) {idx ci j q : Nat} {jz : Int} {x : Int} (hF : FW own idx ci j .int) (hd : decode cc pc = .ok (.putfield idx, 3)) (hq : q < NN) (hs : SH q = .inl ci) (hk : fkd ci j = 0) (hjz : (j : Int) = jz) (kk : V X k n (pc + 3) ls st (sI h q jz x)) : V X k n pc ls (.int (Int32.ofInt x) :: .ref q :: st) h := by
  obtain ⟨p, l, e, R, s, m, args, below, meth, c, D, cA, A, Dp, Q, σ, nL⟩ := X
  obtain ⟨hx, hb, hml, hown, hts, hK, hadr, hA, hGE, hlk, hfr, hlo, hkc, hks⟩ := G
  intro H locs d0 lr g1 g2 g3 g4
  subst hjz
  obtain ⟨C, ref, T, N, ty0, hc, hin, hj, hN, hlk2, hsame, hty, hnm, hfin, hpd⟩ := hF
  refine va_put (D := D) (ci := ci) (v := .int (Int32.ofInt x)) (ty := .int) (C := C) (T := T) (N := N) hx hb (dr_words hts d0) hin ty0 hty hnm hown hK g2 (adr_D hadr) g3 q (by rw [wd_get hq, ce_obj hs]) hc j hj (dr_words hts d0 _ hlk2) (hsame.elim (fun e x hh => e ▸ hh) (fun w x hh => u_same (hts _ w) x hh)) hfin hpd rfl rfl (by simp; omega) hd (fun H1 locs1 hP1 _ hS1 => kk H1 locs1 d0 lr g1 ?_ hS1 g4)
  rwa [wd_set (h' := sI h q j x) hq ?_ ce_sI] at hP1
  rw [ce_obj hs, fl_set (gs := fun i => fvk σ q (hI (sI h q j x) q) (hL (sI h q j x) q) i (fkd ci i))]
  · show fvk σ q _ _ j (fkd ci j) = _
    rw [hk]
    show Value.int (Int32.ofInt (u2 h.1 q (j : Int) x q (j : Int))) = _
    simp [u2]
  · intro i hi
    show fvk σ q _ _ i (fkd ci i) = fvk σ q _ _ i (fkd ci i)
    have hi2 : ¬ (i : Int) = (j : Int) := by omega
    unfold fvk
    split <;> simp [hI, hL, sI, sL, u2, hi2]
theorem V_putL (G : Gd X own cc d kc ks) {idx ci j q : Nat} {jz : Int} {x : Int64} (hF : FW own idx ci j .long) (hd : decode cc pc = .ok (.putfield idx, 3)) (hq : q < NN) (hs : SH q = .inl ci) (hk : fkd ci j = 1) (hjz : (j : Int) = jz) (kk : V X k n (pc + 3) ls st (sL h q jz x)) : V X k n pc ls (.long (x) :: .ref q :: st) h := by
  obtain ⟨p, l, e, R, s, m, args, below, meth, c, D, cA, A, Dp, Q, σ, nL⟩ := X
  obtain ⟨hx, hb, hml, hown, hts, hK, hadr, hA, hGE, hlk, hfr, hlo, hkc, hks⟩ := G
  intro H locs d0 lr g1 g2 g3 g4
  subst hjz
  obtain ⟨C, ref, T, N, ty0, hc, hin, hj, hN, hlk2, hsame, hty, hnm, hfin, hpd⟩ := hF
  refine va_put (D := D) (ci := ci) (v := .long (x)) (ty := .long) (C := C) (T := T) (N := N) hx hb (dr_words hts d0) hin ty0 hty hnm hown hK g2 (adr_D hadr) g3 q (by rw [wd_get hq, ce_obj hs]) hc j hj (dr_words hts d0 _ hlk2) (hsame.elim (fun e x hh => e ▸ hh) (fun w x hh => u_same (hts _ w) x hh)) hfin hpd rfl rfl (by simp; omega) hd (fun H1 locs1 hP1 _ hS1 => kk H1 locs1 d0 lr g1 ?_ hS1 g4)
  rwa [wd_set (h' := sL h q j x) hq ?_ ce_sL] at hP1
  rw [ce_obj hs, fl_set (gs := fun i => fvk σ q (hI (sL h q j x) q) (hL (sL h q j x) q) i (fkd ci i))]
  · show fvk σ q _ _ j (fkd ci j) = _
    rw [hk]
    show Value.long (u2 h.2.1 q (j : Int) x q (j : Int)) = _
    simp [u2]
  · intro i hi
    show fvk σ q _ _ i (fkd ci i) = fvk σ q _ _ i (fkd ci i)
    have hi2 : ¬ (i : Int) = (j : Int) := by omega
    unfold fvk
    split <;> simp [hI, hL, sI, sL, u2, hi2]
theorem V_iald (G : Gd X own cc d kc ks) {q N : Nat} {i : Int} (hd : decode cc pc = .ok (.iaload, 1)) (hq : q < NN) (hs : SH q = .inr (0, N)) (hN : N ≤ 5000) (hin : 0 ≤ i ∧ i < N) (kk : V X k n (pc + 1) ls (.int (Int32.ofInt (hI h q i)) :: st) h) : V X k n pc ls (.int (Int32.ofInt i) :: .ref q :: st) h := by
  obtain ⟨p, l, e, R, s, m, args, below, meth, c, D, cA, A, Dp, Q, σ, nL⟩ := X
  obtain ⟨hx, hb, hml, hown, hts, hK, hadr, hA, hGE, hlk, hfr, hlo, hkc, hks⟩ := G
  intro H locs d0 lr g1 g2 g3 g4
  have e2 := zi_cast hin hN
  have kk2 := kk H locs d0 lr g1 g2 g3 g4
  rw [← e2] at kk2
  exact va_iald (s := s.setDrawn d0) (f := fun j : Nat => Int32.ofInt (hI h q j)) hx hb hK g2 q 0 (by rw [wd_get hq, ce_i hs]) rfl (zi_in hin hN) hd kk2
theorem V_lald (G : Gd X own cc d kc ks) {q N : Nat} {i : Int} (hd : decode cc pc = .ok (.laload, 1)) (hq : q < NN) (hs : SH q = .inr (1, N)) (hN : N ≤ 5000) (hin : 0 ≤ i ∧ i < N) (kk : V X k n (pc + 1) ls (.long (hL h q i) :: st) h) : V X k n pc ls (.int (Int32.ofInt i) :: .ref q :: st) h := by
  obtain ⟨p, l, e, R, s, m, args, below, meth, c, D, cA, A, Dp, Q, σ, nL⟩ := X
  obtain ⟨hx, hb, hml, hown, hts, hK, hadr, hA, hGE, hlk, hfr, hlo, hkc, hks⟩ := G
  intro H locs d0 lr g1 g2 g3 g4
  have e2 := zi_cast hin hN
  have kk2 := kk H locs d0 lr g1 g2 g3 g4
  rw [← e2] at kk2
  exact va_lald (s := s.setDrawn d0) (f := fun j : Nat => hL h q j) hx hb hK g2 q 1 (by rw [wd_get hq, ce_l hs]) rfl (zi_in hin hN) hd kk2
theorem V_zald (G : Gd X own cc d kc ks) {q N : Nat} {i : Int} (hd : decode cc pc = .ok (.baload, 1)) (hq : q < NN) (hs : SH q = .inr (2, N)) (hN : N ≤ 5000) (hin : 0 ≤ i ∧ i < N) (kk : V X k n (pc + 1) ls (.int (Int32.ofInt (hI h q i)) :: st) h) : V X k n pc ls (.int (Int32.ofInt i) :: .ref q :: st) h := by
  obtain ⟨p, l, e, R, s, m, args, below, meth, c, D, cA, A, Dp, Q, σ, nL⟩ := X
  obtain ⟨hx, hb, hml, hown, hts, hK, hadr, hA, hGE, hlk, hfr, hlo, hkc, hks⟩ := G
  intro H locs d0 lr g1 g2 g3 g4
  have e2 := zi_cast hin hN
  have kk2 := kk H locs d0 lr g1 g2 g3 g4
  rw [← e2] at kk2
  exact va_zald (s := s.setDrawn d0) (f := fun j : Nat => Int32.ofInt (hI h q j)) hx hb hK g2 q 2 (by rw [wd_get hq, ce_z hs]) rfl (zi_in hin hN) hd kk2
theorem V_iast (G : Gd X own cc d kc ks) {q N : Nat} {i : Int} {x : Int} (hd : decode cc pc = .ok (.iastore, 1)) (hq : q < NN) (hs : SH q = .inr (0, N)) (hN : N ≤ 5000) (hin : 0 ≤ i ∧ i < N)  (kk : V X k n (pc + 1) ls st (sI h q i x)) : V X k n pc ls (.int (Int32.ofInt x) :: .int (Int32.ofInt i) :: .ref q :: st) h := by
  obtain ⟨p, l, e, R, s, m, args, below, meth, c, D, cA, A, Dp, Q, σ, nL⟩ := X
  obtain ⟨hx, hb, hml, hown, hts, hK, hadr, hA, hGE, hlk, hfr, hlo, hkc, hks⟩ := G
  intro H locs d0 lr g1 g2 g3 g4
  refine va_iast (s := s.setDrawn d0) hx hb hK g2 (adr_D hadr) g3 q 0 (by rw [wd_get hq, ce_i hs]) rfl (zi_in hin hN) hd (fun H1 locs1 hP1 _ hS1 => kk H1 locs1 d0 lr g1 ?_ hS1 g4)
  rwa [wd_set (h' := sI h q i x) hq ?_ ce_sI] at hP1
  rw [ce_i hs]
  have e2 := zi_cast hin hN
  refine congrArg (fun f => (Sum.inl (cA 0, N, .inl f) : va_E)) (funext fun (j : Nat) => ?_)
  show Int32.ofInt (u2 h.1 q i x q (j : Int)) = _
  unfold u2 upd
  by_cases hj : (j : Int) = i
  · rw [if_pos ⟨rfl, hj⟩, if_pos (by omega)]
  · rw [if_neg (fun z => hj z.2), if_neg (by omega)]
    rfl
theorem V_last (G : Gd X own cc d kc ks) {q N : Nat} {i : Int} {x : Int64} (hd : decode cc pc = .ok (.lastore, 1)) (hq : q < NN) (hs : SH q = .inr (1, N)) (hN : N ≤ 5000) (hin : 0 ≤ i ∧ i < N)  (kk : V X k n (pc + 1) ls st (sL h q i x)) : V X k n pc ls (.long (x) :: .int (Int32.ofInt i) :: .ref q :: st) h := by
  obtain ⟨p, l, e, R, s, m, args, below, meth, c, D, cA, A, Dp, Q, σ, nL⟩ := X
  obtain ⟨hx, hb, hml, hown, hts, hK, hadr, hA, hGE, hlk, hfr, hlo, hkc, hks⟩ := G
  intro H locs d0 lr g1 g2 g3 g4
  refine va_last (s := s.setDrawn d0) hx hb hK g2 (adr_D hadr) g3 q 1 (by rw [wd_get hq, ce_l hs]) rfl (zi_in hin hN) hd (fun H1 locs1 hP1 _ hS1 => kk H1 locs1 d0 lr g1 ?_ hS1 g4)
  rwa [wd_set (h' := sL h q i x) hq ?_ ce_sL] at hP1
  rw [ce_l hs]
  have e2 := zi_cast hin hN
  refine congrArg (fun f => (Sum.inl (cA 1, N, .inr (.inl f)) : va_E)) (funext fun (j : Nat) => ?_)
  show u2 h.2.1 q i x q (j : Int) = _
  unfold u2 vp_updL
  by_cases hj : (j : Int) = i
  · rw [if_pos ⟨rfl, hj⟩, if_pos (by omega)]
  · rw [if_neg (fun z => hj z.2), if_neg (by omega)]
    rfl
theorem V_zast (G : Gd X own cc d kc ks) {q N : Nat} {i : Int} {x : Int} (hd : decode cc pc = .ok (.bastore, 1)) (hq : q < NN) (hs : SH q = .inr (2, N)) (hN : N ≤ 5000) (hin : 0 ≤ i ∧ i < N) (hz : x = 0 ∨ x = 1) (kk : V X k n (pc + 1) ls st (sI h q i x)) : V X k n pc ls (.int (Int32.ofInt x) :: .int (Int32.ofInt i) :: .ref q :: st) h := by
  obtain ⟨p, l, e, R, s, m, args, below, meth, c, D, cA, A, Dp, Q, σ, nL⟩ := X
  obtain ⟨hx, hb, hml, hown, hts, hK, hadr, hA, hGE, hlk, hfr, hlo, hkc, hks⟩ := G
  intro H locs d0 lr g1 g2 g3 g4
  refine va_zast (s := s.setDrawn d0) hx hb hK g2 (adr_D hadr) g3 q 2 (by rw [wd_get hq, ce_z hs]) rfl (zi_in hin hN) hd (fun H1 locs1 hP1 _ hS1 => kk H1 locs1 d0 lr g1 ?_ hS1 g4)
  rw [show vp_nar .boolean (Int32.ofInt x) = Int32.ofInt x by rcases hz with rfl | rfl <;> decide] at hP1
  rwa [wd_set (h' := sI h q i x) hq ?_ ce_sI] at hP1
  rw [ce_z hs]
  have e2 := zi_cast hin hN
  refine congrArg (fun f => (Sum.inl (cA 2, N, .inl f) : va_E)) (funext fun (j : Nat) => ?_)
  show Int32.ofInt (u2 h.1 q i x q (j : Int)) = _
  unfold u2 upd
  by_cases hj : (j : Int) = i
  · rw [if_pos ⟨rfl, hj⟩, if_pos (by omega)]
  · rw [if_neg (fun z => hj z.2), if_neg (by omega)]
    rfl
theorem V_alen (G : Gd X own cc d kc ks) {q t N : Nat} {v : Int32} (hd : decode cc pc = .ok (.arraylength, 1)) (hq : q < NN) (hs : SH q = .inr (t, N)) (ht : t < 4) (hv : Int32.ofNat N = v) (kk : V X k n (pc + 1) ls (.int v :: st) h) : V X k n pc ls (.ref q :: st) h := by
  obtain ⟨p, l, e, R, s, m, args, below, meth, c, D, cA, A, Dp, Q, σ, nL⟩ := X
  obtain ⟨hx, hb, hml, hown, hts, hK, hadr, hA, hGE, hlk, hfr, hlo, hkc, hks⟩ := G
  intro H locs d0 lr g1 g2 g3 g4
  match t, ht, hs with
  | 0, _, hs => exact va_alen hx hb hK g2 q 0 (by rw [wd_get hq, ce_i hs]) rfl hv hd (kk H locs d0 lr g1 g2 g3 g4)
  | 1, _, hs => exact va_alen hx hb hK g2 q 1 (by rw [wd_get hq, ce_l hs]) rfl hv hd (kk H locs d0 lr g1 g2 g3 g4)
  | 2, _, hs => exact va_alen hx hb hK g2 q 2 (by rw [wd_get hq, ce_z hs]) rfl hv hd (kk H locs d0 lr g1 g2 g3 g4)
  | 3, _, hs => exact va_alen hx hb hK g2 q 3 (by rw [wd_get hq, ce_q hs]) rfl hv hd (kk H locs d0 lr g1 g2 g3 g4)
theorem va_callG {p : Program} {l : Launch} {e : Env} {R : Room} {s : State} {m : MethodId} {args : Array Value} {below : List Frame} {meth : Method} {c : Code} {H : Heap} {locs : List Loc} {cells slots : Nat} {Q : State → Prop} {pc : Nat} {ls : Array Slot} {rest st0 : List Value} {a : Array Value} {A0 : Nat → Prop} {H0 : Heap} {mc ms : Nat} {free : Addr → Prop} {D : va_G} {cA : Nat → ClassId} {σ : Nat → Nat} {sz : Nat} {post : Option Value → Hp → Prop}
    (hr : va_Run p l e R s m args below meth c H locs cells slots mc ms (F0 m pc ls st0) rest (QCd D cA σ sz post a) free) (hS : va_S A0 H0 H locs) (hA : ∀ q, q < H.size → AA σ sz q → A0 q) (hf : ∀ q, free q → A0 q)
    (kk : ∀ (r : Option Value) (h' : Hp) (H1 : Heap) (locs1 : List Loc), post r h' → va_P D vwCl (wd σ cA h') H1 → va_S A0 H0 H1 locs1 → W p l e R s m args below meth c H1 locs1 (cells + mc) (slots + ms) Q (F0 m (pc + 3) ls ((r.map (vm σ)).toList ++ rest))) : W p l e R s m args below meth c H locs cells slots Q (F0 m pc ls st0) := by
  intro T hT X
  obtain ⟨v, st₀, t, T', L, h0, X', hL, e1, e2, ⟨⟨r, h', hv, hp, hb⟩, hz, hk⟩, st⟩ := hr T hT X
  cases hv
  rw [h0] at hz hk
  obtain ⟨t2, a1, b1⟩ := kk r h' T'.heap (locs ++ L) hp (by rw [e1]; exact hb)
    ⟨Nat.le_trans hS.1 (by rw [e1]; exact hz), fun q h1 h2 => by rw [e1, hk q (Nat.lt_of_lt_of_le h1 hS.1) (fun z => h2 (hA q (Nat.lt_of_lt_of_le h1 hS.1) z))]; exact hS.2.1 q h1 h2, fun q hq => by
      rcases List.mem_append.mp hq with h | h
      · exact hS.2.2 q h
      · exact hf _ (hL q h)⟩ T' rfl X'
  exact ⟨t2, st t2 a1, b1⟩
theorem blind_PCd {D : va_G} {cA : Nat → ClassId} {σ : Nat → Nat} {sz : Nat} {av : List Value} {h : Hp} : FrameBlind (PCd D cA σ sz av h) := by
  intro a U g mk q
  obtain ⟨q0, q1, qP, qK, qa, qG⟩ := q
  exact ⟨q0, q1, qP, va_K.moved (u := U) (U := U.calling g mk a) (Vm.Alike.refl U.vm) qK, qa, qG.same rfl⟩
/-- a method's links, as the tables have them: virtual, of class number ci -/
def MV (own : String) (idx ci : Nat) (y : MethodName) (bytes : ByteArray) (maxL : Nat) (ret : Option FieldType) (na : Nat) : Prop := (∃ (T : u_T) (N : Nat), vwCl[ci]? = some (y.cls, T, N)) ∧ Cond.methodLink own idx y ∈ tw ∧ Cond.instanceMethod y ∈ tw ∧ Cond.selects y.cls y y ∈ lw_tbl ∧ goodWord (Cond.selects y.cls y y) = true ∧ Cond.initialized y.cls ∈ tw ∧ Cond.code y bytes maxL ret ∈ tw ∧ (y.cls ≠ "java/lang/invoke/MethodHandle" ∧ y.cls ≠ "java/lang/invoke/VarHandle" ∧ (parseMethodDescriptor y.desc).map (fun d => d.parameters.length) = some na) ∧ maxL ≤ 45
def MS (own : String) (idx : Nat) (y : MethodName) (bytes : ByteArray) (maxL : Nat) (ret : Option FieldType) (na : Nat) : Prop := Cond.methodLink own idx y ∈ tw ∧ Cond.static y ∈ tw ∧ Cond.initialized y.cls ∈ tw ∧ Cond.code y bytes maxL ret ∈ tw ∧ (y.cls ≠ "java/lang/invoke/MethodHandle" ∧ y.cls ≠ "java/lang/invoke/VarHandle" ∧ (parseMethodDescriptor y.desc).map (fun d => d.parameters.length) = some na) ∧ maxL ≤ 45
theorem V_cV0 (G : Gd X own cc d kc ks) {idx ci q maxL d1 kc1 ks1 : Nat} {y : MethodName} {bytes : ByteArray} {ret : Option FieldType} {post : Option Value → Hp → Prop}  (M : MV own idx ci y bytes maxL ret 0) (hd : decode cc pc = .ok (.invokevirtual idx, 3)) (hq : q < NN) (hs : SH q = .inl ci) (hC : CP X.2.1 d1 kc1 ks1 y bytes maxL ret [.ref q] h post) (hdd : d1 + 1 ≤ d) (hk : k + kc1 ≤ kc) (hn : n + ks1 ≤ ks) (hst : (st.map fun v => v.category).sum ≤ 8) (kk : ∀ (r : Option Value) (h1 : Hp), post r h1 → V X (k + kc1) (n + ks1) (pc + 3) ls (r.toList ++ st) h1) : V X k n pc ls (.ref q :: st) h := by
  obtain ⟨p, l, e, R, s, m, args, below, meth, c, D, cA, A, Dp, Q, σ, nL⟩ := X
  obtain ⟨hx, hb, hml, hown, hts, hK, hadr, hA, hGE, hlk, hfr, hlo, hkc, hks⟩ := G
  intro H locs d0 lr g1 g2 g3 g4
  obtain ⟨⟨T, N, hcl⟩, w1, w2, w3, w3g, w4, w5, w6, w7⟩ := M
  have hst2 : ((st.map (vm σ)).map fun v => v.category).sum ≤ 8 := by
    rw [List.map_map, show ((fun v : Value => v.category) ∘ vm σ) = fun v => v.category from funext fun v => vm_cat]; exact hst
  refine va_callG (va_runV (As := []) (rest := st.map (vm σ)) (nL := nL) ⟨hx, hb, hml, hown, dr_words hts d0⟩ (hC D cA σ H.size) ⟨callB_of 0 (dr_words hts d0) (gi_tw w5) rfl rfl rfl (dr_words hts d0 _ w4) (dr_words hts d0 _ w1) w6 ⟨by show d1 + 1 ≤ R.frames; omega, by show 8 + (maxL + 11) + 64 * d1 ≤ R.locals; omega⟩, dr_words hts d0 _ w2, dr_words hts d0 _ (tw_in w3 w3g)⟩ ⟨blind_PCd, va_recv hK g2 hcl (by rw [wd_get hq, ce_obj hs]), fun U hU hW => ⟨rfl, by rw [hU], by rw [hU]; exact g2, va_K.moved hW.alike hK, adr_of hadr _ (fun _ _ => trivial), by rw [hU]; exact GE.pass hGE g3 (show s.WarmedH U.vm from hW) (fun q hq1 hq2 => by
    rcases hq2 with ⟨i, hi, rfl⟩ | hq2
    · exact hadr.2 i hi
    · omega)⟩⟩ rfl rfl g4.2.1 rfl (lv_room hst2) hd ⟨by omega, by omega⟩) g3 (fun q hq1 hq2 => by
      rcases hq2 with ⟨i, hi, rfl⟩ | hq2
      · exact hadr.2 i hi
      · omega) (fun q hq2 => by
      rcases hq2 with ⟨i, hi, rfl⟩ | hq2
      · exact hadr.2 i hi
      · exact hA q (Nat.le_trans g3.1 hq2)) (fun r h1 H1 locs1 hp hP1 hS1 => ?_)
  have := kk r h1 hp H1 locs1 d0 lr g1 hP1 hS1 g4
  rw [List.map_append] at this
  cases r <;> exact this
theorem V_cV1 (G : Gd X own cc d kc ks) {idx ci q maxL d1 kc1 ks1 : Nat} {y : MethodName} {bytes : ByteArray} {ret : Option FieldType} {post : Option Value → Hp → Prop} {v0 : Value} (M : MV own idx ci y bytes maxL ret 1) (hd : decode cc pc = .ok (.invokevirtual idx, 3)) (hq : q < NN) (hs : SH q = .inl ci) (hC : CP X.2.1 d1 kc1 ks1 y bytes maxL ret [.ref q, v0] h post) (hdd : d1 + 1 ≤ d) (hk : k + kc1 ≤ kc) (hn : n + ks1 ≤ ks) (hst : (st.map fun v => v.category).sum ≤ 8) (kk : ∀ (r : Option Value) (h1 : Hp), post r h1 → V X (k + kc1) (n + ks1) (pc + 3) ls (r.toList ++ st) h1) : V X k n pc ls (v0 :: .ref q :: st) h := by
  obtain ⟨p, l, e, R, s, m, args, below, meth, c, D, cA, A, Dp, Q, σ, nL⟩ := X
  obtain ⟨hx, hb, hml, hown, hts, hK, hadr, hA, hGE, hlk, hfr, hlo, hkc, hks⟩ := G
  intro H locs d0 lr g1 g2 g3 g4
  obtain ⟨⟨T, N, hcl⟩, w1, w2, w3, w3g, w4, w5, w6, w7⟩ := M
  have hst2 : ((st.map (vm σ)).map fun v => v.category).sum ≤ 8 := by
    rw [List.map_map, show ((fun v : Value => v.category) ∘ vm σ) = fun v => v.category from funext fun v => vm_cat]; exact hst
  refine va_callG (va_runV (As := [vm σ v0]) (rest := st.map (vm σ)) (nL := nL) ⟨hx, hb, hml, hown, dr_words hts d0⟩ (hC D cA σ H.size) ⟨callB_of 1 (dr_words hts d0) (gi_tw w5) rfl rfl rfl (dr_words hts d0 _ w4) (dr_words hts d0 _ w1) w6 ⟨by show d1 + 1 ≤ R.frames; omega, by show 8 + (maxL + 11) + 64 * d1 ≤ R.locals; omega⟩, dr_words hts d0 _ w2, dr_words hts d0 _ (tw_in w3 w3g)⟩ ⟨blind_PCd, va_recv hK g2 hcl (by rw [wd_get hq, ce_obj hs]), fun U hU hW => ⟨rfl, by rw [hU], by rw [hU]; exact g2, va_K.moved hW.alike hK, adr_of hadr _ (fun _ _ => trivial), by rw [hU]; exact GE.pass hGE g3 (show s.WarmedH U.vm from hW) (fun q hq1 hq2 => by
    rcases hq2 with ⟨i, hi, rfl⟩ | hq2
    · exact hadr.2 i hi
    · omega)⟩⟩ rfl rfl g4.2.1 rfl (lv_room hst2) hd ⟨by omega, by omega⟩) g3 (fun q hq1 hq2 => by
      rcases hq2 with ⟨i, hi, rfl⟩ | hq2
      · exact hadr.2 i hi
      · omega) (fun q hq2 => by
      rcases hq2 with ⟨i, hi, rfl⟩ | hq2
      · exact hadr.2 i hi
      · exact hA q (Nat.le_trans g3.1 hq2)) (fun r h1 H1 locs1 hp hP1 hS1 => ?_)
  have := kk r h1 hp H1 locs1 d0 lr g1 hP1 hS1 g4
  rw [List.map_append] at this
  cases r <;> exact this
theorem V_cV2 (G : Gd X own cc d kc ks) {idx ci q maxL d1 kc1 ks1 : Nat} {y : MethodName} {bytes : ByteArray} {ret : Option FieldType} {post : Option Value → Hp → Prop} {v0 v1 : Value} (M : MV own idx ci y bytes maxL ret 2) (hd : decode cc pc = .ok (.invokevirtual idx, 3)) (hq : q < NN) (hs : SH q = .inl ci) (hC : CP X.2.1 d1 kc1 ks1 y bytes maxL ret [.ref q, v0, v1] h post) (hdd : d1 + 1 ≤ d) (hk : k + kc1 ≤ kc) (hn : n + ks1 ≤ ks) (hst : (st.map fun v => v.category).sum ≤ 8) (kk : ∀ (r : Option Value) (h1 : Hp), post r h1 → V X (k + kc1) (n + ks1) (pc + 3) ls (r.toList ++ st) h1) : V X k n pc ls (v1 :: v0 :: .ref q :: st) h := by
  obtain ⟨p, l, e, R, s, m, args, below, meth, c, D, cA, A, Dp, Q, σ, nL⟩ := X
  obtain ⟨hx, hb, hml, hown, hts, hK, hadr, hA, hGE, hlk, hfr, hlo, hkc, hks⟩ := G
  intro H locs d0 lr g1 g2 g3 g4
  obtain ⟨⟨T, N, hcl⟩, w1, w2, w3, w3g, w4, w5, w6, w7⟩ := M
  have hst2 : ((st.map (vm σ)).map fun v => v.category).sum ≤ 8 := by
    rw [List.map_map, show ((fun v : Value => v.category) ∘ vm σ) = fun v => v.category from funext fun v => vm_cat]; exact hst
  refine va_callG (va_runV (As := [vm σ v0, vm σ v1]) (rest := st.map (vm σ)) (nL := nL) ⟨hx, hb, hml, hown, dr_words hts d0⟩ (hC D cA σ H.size) ⟨callB_of 2 (dr_words hts d0) (gi_tw w5) rfl rfl rfl (dr_words hts d0 _ w4) (dr_words hts d0 _ w1) w6 ⟨by show d1 + 1 ≤ R.frames; omega, by show 8 + (maxL + 11) + 64 * d1 ≤ R.locals; omega⟩, dr_words hts d0 _ w2, dr_words hts d0 _ (tw_in w3 w3g)⟩ ⟨blind_PCd, va_recv hK g2 hcl (by rw [wd_get hq, ce_obj hs]), fun U hU hW => ⟨rfl, by rw [hU], by rw [hU]; exact g2, va_K.moved hW.alike hK, adr_of hadr _ (fun _ _ => trivial), by rw [hU]; exact GE.pass hGE g3 (show s.WarmedH U.vm from hW) (fun q hq1 hq2 => by
    rcases hq2 with ⟨i, hi, rfl⟩ | hq2
    · exact hadr.2 i hi
    · omega)⟩⟩ rfl rfl g4.2.1 rfl (lv_room hst2) hd ⟨by omega, by omega⟩) g3 (fun q hq1 hq2 => by
      rcases hq2 with ⟨i, hi, rfl⟩ | hq2
      · exact hadr.2 i hi
      · omega) (fun q hq2 => by
      rcases hq2 with ⟨i, hi, rfl⟩ | hq2
      · exact hadr.2 i hi
      · exact hA q (Nat.le_trans g3.1 hq2)) (fun r h1 H1 locs1 hp hP1 hS1 => ?_)
  have := kk r h1 hp H1 locs1 d0 lr g1 hP1 hS1 g4
  rw [List.map_append] at this
  cases r <;> exact this
theorem V_cV3 (G : Gd X own cc d kc ks) {idx ci q maxL d1 kc1 ks1 : Nat} {y : MethodName} {bytes : ByteArray} {ret : Option FieldType} {post : Option Value → Hp → Prop} {v0 v1 v2 : Value} (M : MV own idx ci y bytes maxL ret 3) (hd : decode cc pc = .ok (.invokevirtual idx, 3)) (hq : q < NN) (hs : SH q = .inl ci) (hC : CP X.2.1 d1 kc1 ks1 y bytes maxL ret [.ref q, v0, v1, v2] h post) (hdd : d1 + 1 ≤ d) (hk : k + kc1 ≤ kc) (hn : n + ks1 ≤ ks) (hst : (st.map fun v => v.category).sum ≤ 8) (kk : ∀ (r : Option Value) (h1 : Hp), post r h1 → V X (k + kc1) (n + ks1) (pc + 3) ls (r.toList ++ st) h1) : V X k n pc ls (v2 :: v1 :: v0 :: .ref q :: st) h := by
  obtain ⟨p, l, e, R, s, m, args, below, meth, c, D, cA, A, Dp, Q, σ, nL⟩ := X
  obtain ⟨hx, hb, hml, hown, hts, hK, hadr, hA, hGE, hlk, hfr, hlo, hkc, hks⟩ := G
  intro H locs d0 lr g1 g2 g3 g4
  obtain ⟨⟨T, N, hcl⟩, w1, w2, w3, w3g, w4, w5, w6, w7⟩ := M
  have hst2 : ((st.map (vm σ)).map fun v => v.category).sum ≤ 8 := by
    rw [List.map_map, show ((fun v : Value => v.category) ∘ vm σ) = fun v => v.category from funext fun v => vm_cat]; exact hst
  refine va_callG (va_runV (As := [vm σ v0, vm σ v1, vm σ v2]) (rest := st.map (vm σ)) (nL := nL) ⟨hx, hb, hml, hown, dr_words hts d0⟩ (hC D cA σ H.size) ⟨callB_of 3 (dr_words hts d0) (gi_tw w5) rfl rfl rfl (dr_words hts d0 _ w4) (dr_words hts d0 _ w1) w6 ⟨by show d1 + 1 ≤ R.frames; omega, by show 8 + (maxL + 11) + 64 * d1 ≤ R.locals; omega⟩, dr_words hts d0 _ w2, dr_words hts d0 _ (tw_in w3 w3g)⟩ ⟨blind_PCd, va_recv hK g2 hcl (by rw [wd_get hq, ce_obj hs]), fun U hU hW => ⟨rfl, by rw [hU], by rw [hU]; exact g2, va_K.moved hW.alike hK, adr_of hadr _ (fun _ _ => trivial), by rw [hU]; exact GE.pass hGE g3 (show s.WarmedH U.vm from hW) (fun q hq1 hq2 => by
    rcases hq2 with ⟨i, hi, rfl⟩ | hq2
    · exact hadr.2 i hi
    · omega)⟩⟩ rfl rfl g4.2.1 rfl (lv_room hst2) hd ⟨by omega, by omega⟩) g3 (fun q hq1 hq2 => by
      rcases hq2 with ⟨i, hi, rfl⟩ | hq2
      · exact hadr.2 i hi
      · omega) (fun q hq2 => by
      rcases hq2 with ⟨i, hi, rfl⟩ | hq2
      · exact hadr.2 i hi
      · exact hA q (Nat.le_trans g3.1 hq2)) (fun r h1 H1 locs1 hp hP1 hS1 => ?_)
  have := kk r h1 hp H1 locs1 d0 lr g1 hP1 hS1 g4
  rw [List.map_append] at this
  cases r <;> exact this
theorem V_cV4 (G : Gd X own cc d kc ks) {idx ci q maxL d1 kc1 ks1 : Nat} {y : MethodName} {bytes : ByteArray} {ret : Option FieldType} {post : Option Value → Hp → Prop} {v0 v1 v2 v3 : Value} (M : MV own idx ci y bytes maxL ret 4) (hd : decode cc pc = .ok (.invokevirtual idx, 3)) (hq : q < NN) (hs : SH q = .inl ci) (hC : CP X.2.1 d1 kc1 ks1 y bytes maxL ret [.ref q, v0, v1, v2, v3] h post) (hdd : d1 + 1 ≤ d) (hk : k + kc1 ≤ kc) (hn : n + ks1 ≤ ks) (hst : (st.map fun v => v.category).sum ≤ 8) (kk : ∀ (r : Option Value) (h1 : Hp), post r h1 → V X (k + kc1) (n + ks1) (pc + 3) ls (r.toList ++ st) h1) : V X k n pc ls (v3 :: v2 :: v1 :: v0 :: .ref q :: st) h := by
  obtain ⟨p, l, e, R, s, m, args, below, meth, c, D, cA, A, Dp, Q, σ, nL⟩ := X
  obtain ⟨hx, hb, hml, hown, hts, hK, hadr, hA, hGE, hlk, hfr, hlo, hkc, hks⟩ := G
  intro H locs d0 lr g1 g2 g3 g4
  obtain ⟨⟨T, N, hcl⟩, w1, w2, w3, w3g, w4, w5, w6, w7⟩ := M
  have hst2 : ((st.map (vm σ)).map fun v => v.category).sum ≤ 8 := by
    rw [List.map_map, show ((fun v : Value => v.category) ∘ vm σ) = fun v => v.category from funext fun v => vm_cat]; exact hst
  refine va_callG (va_runV (As := [vm σ v0, vm σ v1, vm σ v2, vm σ v3]) (rest := st.map (vm σ)) (nL := nL) ⟨hx, hb, hml, hown, dr_words hts d0⟩ (hC D cA σ H.size) ⟨callB_of 4 (dr_words hts d0) (gi_tw w5) rfl rfl rfl (dr_words hts d0 _ w4) (dr_words hts d0 _ w1) w6 ⟨by show d1 + 1 ≤ R.frames; omega, by show 8 + (maxL + 11) + 64 * d1 ≤ R.locals; omega⟩, dr_words hts d0 _ w2, dr_words hts d0 _ (tw_in w3 w3g)⟩ ⟨blind_PCd, va_recv hK g2 hcl (by rw [wd_get hq, ce_obj hs]), fun U hU hW => ⟨rfl, by rw [hU], by rw [hU]; exact g2, va_K.moved hW.alike hK, adr_of hadr _ (fun _ _ => trivial), by rw [hU]; exact GE.pass hGE g3 (show s.WarmedH U.vm from hW) (fun q hq1 hq2 => by
    rcases hq2 with ⟨i, hi, rfl⟩ | hq2
    · exact hadr.2 i hi
    · omega)⟩⟩ rfl rfl g4.2.1 rfl (lv_room hst2) hd ⟨by omega, by omega⟩) g3 (fun q hq1 hq2 => by
      rcases hq2 with ⟨i, hi, rfl⟩ | hq2
      · exact hadr.2 i hi
      · omega) (fun q hq2 => by
      rcases hq2 with ⟨i, hi, rfl⟩ | hq2
      · exact hadr.2 i hi
      · exact hA q (Nat.le_trans g3.1 hq2)) (fun r h1 H1 locs1 hp hP1 hS1 => ?_)
  have := kk r h1 hp H1 locs1 d0 lr g1 hP1 hS1 g4
  rw [List.map_append] at this
  cases r <;> exact this
theorem V_cS1 (G : Gd X own cc d kc ks) {idx maxL d1 kc1 ks1 : Nat} {y : MethodName} {bytes : ByteArray} {ret : Option FieldType} {post : Option Value → Hp → Prop} {v0 : Value} (M : MS own idx y bytes maxL ret 1) (hd : decode cc pc = .ok (.invokestatic idx, 3)) (hC : CP X.2.1 d1 kc1 ks1 y bytes maxL ret [v0] h post) (hdd : d1 + 1 ≤ d) (hk : k + kc1 ≤ kc) (hn : n + ks1 ≤ ks) (hst : (st.map fun v => v.category).sum ≤ 8) (kk : ∀ (r : Option Value) (h1 : Hp), post r h1 → V X (k + kc1) (n + ks1) (pc + 3) ls (r.toList ++ st) h1) : V X k n pc ls (v0 :: st) h := by
  obtain ⟨p, l, e, R, s, m, args, below, meth, c, D, cA, A, Dp, Q, σ, nL⟩ := X
  obtain ⟨hx, hb, hml, hown, hts, hK, hadr, hA, hGE, hlk, hfr, hlo, hkc, hks⟩ := G
  intro H locs d0 lr g1 g2 g3 g4
  obtain ⟨w1, w2, w4, w5, w6, w7⟩ := M
  have hst2 : ((st.map (vm σ)).map fun v => v.category).sum ≤ 8 := by
    rw [List.map_map, show ((fun v : Value => v.category) ∘ vm σ) = fun v => v.category from funext fun v => vm_cat]; exact hst
  refine va_callG (va_runS (As := [vm σ v0]) (rest := st.map (vm σ)) (nL := nL) ⟨hx, hb, hml, hown, dr_words hts d0⟩ (hC D cA σ H.size) ⟨callB_of 1 (dr_words hts d0) (gi_tw w5) rfl rfl rfl (dr_words hts d0 _ w4) (dr_words hts d0 _ w1) w6 ⟨by show d1 + 1 ≤ R.frames; omega, by show 8 + (maxL + 11) + 64 * d1 ≤ R.locals; omega⟩, dr_words hts d0 _ w2⟩ ⟨blind_PCd, fun U hU hW => ⟨rfl, by rw [hU], by rw [hU]; exact g2, va_K.moved hW.alike hK, adr_of hadr _ (fun _ _ => trivial), by rw [hU]; exact GE.pass hGE g3 (show s.WarmedH U.vm from hW) (fun q hq1 hq2 => by
    rcases hq2 with ⟨i, hi, rfl⟩ | hq2
    · exact hadr.2 i hi
    · omega)⟩⟩ rfl rfl g4.2.1 rfl (lv_room hst2) hd ⟨by omega, by omega⟩) g3 (fun q hq1 hq2 => by
      rcases hq2 with ⟨i, hi, rfl⟩ | hq2
      · exact hadr.2 i hi
      · omega) (fun q hq2 => by
      rcases hq2 with ⟨i, hi, rfl⟩ | hq2
      · exact hadr.2 i hi
      · exact hA q (Nat.le_trans g3.1 hq2)) (fun r h1 H1 locs1 hp hP1 hS1 => ?_)
  have := kk r h1 hp H1 locs1 d0 lr g1 hP1 hS1 g4
  rw [List.map_append] at this
  cases r <;> exact this
theorem V_cS2 (G : Gd X own cc d kc ks) {idx maxL d1 kc1 ks1 : Nat} {y : MethodName} {bytes : ByteArray} {ret : Option FieldType} {post : Option Value → Hp → Prop} {v0 v1 : Value} (M : MS own idx y bytes maxL ret 2) (hd : decode cc pc = .ok (.invokestatic idx, 3)) (hC : CP X.2.1 d1 kc1 ks1 y bytes maxL ret [v0, v1] h post) (hdd : d1 + 1 ≤ d) (hk : k + kc1 ≤ kc) (hn : n + ks1 ≤ ks) (hst : (st.map fun v => v.category).sum ≤ 8) (kk : ∀ (r : Option Value) (h1 : Hp), post r h1 → V X (k + kc1) (n + ks1) (pc + 3) ls (r.toList ++ st) h1) : V X k n pc ls (v1 :: v0 :: st) h := by
  obtain ⟨p, l, e, R, s, m, args, below, meth, c, D, cA, A, Dp, Q, σ, nL⟩ := X
  obtain ⟨hx, hb, hml, hown, hts, hK, hadr, hA, hGE, hlk, hfr, hlo, hkc, hks⟩ := G
  intro H locs d0 lr g1 g2 g3 g4
  obtain ⟨w1, w2, w4, w5, w6, w7⟩ := M
  have hst2 : ((st.map (vm σ)).map fun v => v.category).sum ≤ 8 := by
    rw [List.map_map, show ((fun v : Value => v.category) ∘ vm σ) = fun v => v.category from funext fun v => vm_cat]; exact hst
  refine va_callG (va_runS (As := [vm σ v0, vm σ v1]) (rest := st.map (vm σ)) (nL := nL) ⟨hx, hb, hml, hown, dr_words hts d0⟩ (hC D cA σ H.size) ⟨callB_of 2 (dr_words hts d0) (gi_tw w5) rfl rfl rfl (dr_words hts d0 _ w4) (dr_words hts d0 _ w1) w6 ⟨by show d1 + 1 ≤ R.frames; omega, by show 8 + (maxL + 11) + 64 * d1 ≤ R.locals; omega⟩, dr_words hts d0 _ w2⟩ ⟨blind_PCd, fun U hU hW => ⟨rfl, by rw [hU], by rw [hU]; exact g2, va_K.moved hW.alike hK, adr_of hadr _ (fun _ _ => trivial), by rw [hU]; exact GE.pass hGE g3 (show s.WarmedH U.vm from hW) (fun q hq1 hq2 => by
    rcases hq2 with ⟨i, hi, rfl⟩ | hq2
    · exact hadr.2 i hi
    · omega)⟩⟩ rfl rfl g4.2.1 rfl (lv_room hst2) hd ⟨by omega, by omega⟩) g3 (fun q hq1 hq2 => by
      rcases hq2 with ⟨i, hi, rfl⟩ | hq2
      · exact hadr.2 i hi
      · omega) (fun q hq2 => by
      rcases hq2 with ⟨i, hi, rfl⟩ | hq2
      · exact hadr.2 i hi
      · exact hA q (Nat.le_trans g3.1 hq2)) (fun r h1 H1 locs1 hp hP1 hS1 => ?_)
  have := kk r h1 hp H1 locs1 d0 lr g1 hP1 hS1 g4
  rw [List.map_append] at this
  cases r <;> exact this
theorem V_cS3 (G : Gd X own cc d kc ks) {idx maxL d1 kc1 ks1 : Nat} {y : MethodName} {bytes : ByteArray} {ret : Option FieldType} {post : Option Value → Hp → Prop} {v0 v1 v2 : Value} (M : MS own idx y bytes maxL ret 3) (hd : decode cc pc = .ok (.invokestatic idx, 3)) (hC : CP X.2.1 d1 kc1 ks1 y bytes maxL ret [v0, v1, v2] h post) (hdd : d1 + 1 ≤ d) (hk : k + kc1 ≤ kc) (hn : n + ks1 ≤ ks) (hst : (st.map fun v => v.category).sum ≤ 8) (kk : ∀ (r : Option Value) (h1 : Hp), post r h1 → V X (k + kc1) (n + ks1) (pc + 3) ls (r.toList ++ st) h1) : V X k n pc ls (v2 :: v1 :: v0 :: st) h := by
  obtain ⟨p, l, e, R, s, m, args, below, meth, c, D, cA, A, Dp, Q, σ, nL⟩ := X
  obtain ⟨hx, hb, hml, hown, hts, hK, hadr, hA, hGE, hlk, hfr, hlo, hkc, hks⟩ := G
  intro H locs d0 lr g1 g2 g3 g4
  obtain ⟨w1, w2, w4, w5, w6, w7⟩ := M
  have hst2 : ((st.map (vm σ)).map fun v => v.category).sum ≤ 8 := by
    rw [List.map_map, show ((fun v : Value => v.category) ∘ vm σ) = fun v => v.category from funext fun v => vm_cat]; exact hst
  refine va_callG (va_runS (As := [vm σ v0, vm σ v1, vm σ v2]) (rest := st.map (vm σ)) (nL := nL) ⟨hx, hb, hml, hown, dr_words hts d0⟩ (hC D cA σ H.size) ⟨callB_of 3 (dr_words hts d0) (gi_tw w5) rfl rfl rfl (dr_words hts d0 _ w4) (dr_words hts d0 _ w1) w6 ⟨by show d1 + 1 ≤ R.frames; omega, by show 8 + (maxL + 11) + 64 * d1 ≤ R.locals; omega⟩, dr_words hts d0 _ w2⟩ ⟨blind_PCd, fun U hU hW => ⟨rfl, by rw [hU], by rw [hU]; exact g2, va_K.moved hW.alike hK, adr_of hadr _ (fun _ _ => trivial), by rw [hU]; exact GE.pass hGE g3 (show s.WarmedH U.vm from hW) (fun q hq1 hq2 => by
    rcases hq2 with ⟨i, hi, rfl⟩ | hq2
    · exact hadr.2 i hi
    · omega)⟩⟩ rfl rfl g4.2.1 rfl (lv_room hst2) hd ⟨by omega, by omega⟩) g3 (fun q hq1 hq2 => by
      rcases hq2 with ⟨i, hi, rfl⟩ | hq2
      · exact hadr.2 i hi
      · omega) (fun q hq2 => by
      rcases hq2 with ⟨i, hi, rfl⟩ | hq2
      · exact hadr.2 i hi
      · exact hA q (Nat.le_trans g3.1 hq2)) (fun r h1 H1 locs1 hp hP1 hS1 => ?_)
  have := kk r h1 hp H1 locs1 d0 lr g1 hP1 hS1 g4
  rw [List.map_append] at this
  cases r <;> exact this
theorem V_cS4 (G : Gd X own cc d kc ks) {idx maxL d1 kc1 ks1 : Nat} {y : MethodName} {bytes : ByteArray} {ret : Option FieldType} {post : Option Value → Hp → Prop} {v0 v1 v2 v3 : Value} (M : MS own idx y bytes maxL ret 4) (hd : decode cc pc = .ok (.invokestatic idx, 3)) (hC : CP X.2.1 d1 kc1 ks1 y bytes maxL ret [v0, v1, v2, v3] h post) (hdd : d1 + 1 ≤ d) (hk : k + kc1 ≤ kc) (hn : n + ks1 ≤ ks) (hst : (st.map fun v => v.category).sum ≤ 8) (kk : ∀ (r : Option Value) (h1 : Hp), post r h1 → V X (k + kc1) (n + ks1) (pc + 3) ls (r.toList ++ st) h1) : V X k n pc ls (v3 :: v2 :: v1 :: v0 :: st) h := by
  obtain ⟨p, l, e, R, s, m, args, below, meth, c, D, cA, A, Dp, Q, σ, nL⟩ := X
  obtain ⟨hx, hb, hml, hown, hts, hK, hadr, hA, hGE, hlk, hfr, hlo, hkc, hks⟩ := G
  intro H locs d0 lr g1 g2 g3 g4
  obtain ⟨w1, w2, w4, w5, w6, w7⟩ := M
  have hst2 : ((st.map (vm σ)).map fun v => v.category).sum ≤ 8 := by
    rw [List.map_map, show ((fun v : Value => v.category) ∘ vm σ) = fun v => v.category from funext fun v => vm_cat]; exact hst
  refine va_callG (va_runS (As := [vm σ v0, vm σ v1, vm σ v2, vm σ v3]) (rest := st.map (vm σ)) (nL := nL) ⟨hx, hb, hml, hown, dr_words hts d0⟩ (hC D cA σ H.size) ⟨callB_of 4 (dr_words hts d0) (gi_tw w5) rfl rfl rfl (dr_words hts d0 _ w4) (dr_words hts d0 _ w1) w6 ⟨by show d1 + 1 ≤ R.frames; omega, by show 8 + (maxL + 11) + 64 * d1 ≤ R.locals; omega⟩, dr_words hts d0 _ w2⟩ ⟨blind_PCd, fun U hU hW => ⟨rfl, by rw [hU], by rw [hU]; exact g2, va_K.moved hW.alike hK, adr_of hadr _ (fun _ _ => trivial), by rw [hU]; exact GE.pass hGE g3 (show s.WarmedH U.vm from hW) (fun q hq1 hq2 => by
    rcases hq2 with ⟨i, hi, rfl⟩ | hq2
    · exact hadr.2 i hi
    · omega)⟩⟩ rfl rfl g4.2.1 rfl (lv_room hst2) hd ⟨by omega, by omega⟩) g3 (fun q hq1 hq2 => by
      rcases hq2 with ⟨i, hi, rfl⟩ | hq2
      · exact hadr.2 i hi
      · omega) (fun q hq2 => by
      rcases hq2 with ⟨i, hi, rfl⟩ | hq2
      · exact hadr.2 i hi
      · exact hA q (Nat.le_trans g3.1 hq2)) (fun r h1 H1 locs1 hp hP1 hS1 => ?_)
  have := kk r h1 hp H1 locs1 d0 lr g1 hP1 hS1 g4
  rw [List.map_append] at this
  cases r <;> exact this
/-- what a method answers: an int, a long, a double, nothing, a reference -/
def pI (P : Int → Hp → Prop) : Option Value → Hp → Prop := fun r h => ∃ x, r = some (.int (Int32.ofInt x)) ∧ P x h
def pL (P : Int64 → Hp → Prop) : Option Value → Hp → Prop := fun r h => ∃ x, r = some (.long x) ∧ P x h
def pD (P : UInt64 → Hp → Prop) : Option Value → Hp → Prop := fun r h => ∃ x, r = some (.double x) ∧ P x h
def pV (P : Hp → Prop) : Option Value → Hp → Prop := fun r h => r = none ∧ P h
def pA (P : Nat → Hp → Prop) : Option Value → Hp → Prop := fun r h => ∃ x, r = some (.ref x) ∧ P x h
theorem V_reti {rt : Option FieldType} {post : Option Value → Hp → Prop} (E : Ends X cc rt kc ks post) {x : Int32} {ty : FieldType} (hd : decode cc pc = .ok (.ireturn, 1)) (hr : rt = some ty) (hn : narrow ty (.int x) = .int x) (hp : post (some (.int x)) h) (h1 : k ≤ kc := by omega) (h2 : n ≤ ks := by omega) : V X k n pc ls [.int x] h := E k n pc ls h (some (.int x)) h1 h2 (Or.inl ⟨x, ty, rfl, hd, hr, hn⟩) hp
theorem V_retl {rt : Option FieldType} {post : Option Value → Hp → Prop} (E : Ends X cc rt kc ks post) {x : Int64} (hd : decode cc pc = .ok (.lreturn, 1)) (hr : rt = some .long) (hp : post (some (.long x)) h) (h1 : k ≤ kc := by omega) (h2 : n ≤ ks := by omega) : V X k n pc ls [.long x] h := E k n pc ls h (some (.long x)) h1 h2 (Or.inr (Or.inl ⟨x, rfl, hd, hr⟩)) hp
theorem V_retd {rt : Option FieldType} {post : Option Value → Hp → Prop} (E : Ends X cc rt kc ks post) {x : UInt64} (hd : decode cc pc = .ok (.dreturn, 1)) (hr : rt = some .double) (hp : post (some (.double x)) h) (h1 : k ≤ kc := by omega) (h2 : n ≤ ks := by omega) : V X k n pc ls [.double x] h := E k n pc ls h (some (.double x)) h1 h2 (Or.inr (Or.inr (Or.inl ⟨x, rfl, hd, hr⟩))) hp
theorem V_retv {rt : Option FieldType} {post : Option Value → Hp → Prop} (E : Ends X cc rt kc ks post) (hd : decode cc pc = .ok (.return_, 1)) (hr : rt = none) (hp : post none h) (h1 : k ≤ kc := by omega) (h2 : n ≤ ks := by omega) : V X k n pc ls [] h := E k n pc ls h none h1 h2 (Or.inr (Or.inr (Or.inr (Or.inl ⟨rfl, hd, hr⟩)))) hp
theorem V_reta {rt : Option FieldType} {post : Option Value → Hp → Prop} (E : Ends X cc rt kc ks post) {q : Nat} {nm : String} (hd : decode cc pc = .ok (.areturn, 1)) (hr : rt = some (.object nm)) (hp : post (some (.ref q)) h) (h1 : k ≤ kc := by omega) (h2 : n ≤ ks := by omega) : V X k n pc ls [.ref q] h := E k n pc ls h (some (.ref q)) h1 h2 (Or.inr (Or.inr (Or.inr (Or.inr ⟨q, nm, rfl, hd, hr⟩)))) hp
/-- a contract says less with a weaker post, in more depth -/
theorem CP.mono {l : Launch} {y : MethodName} {bytes : ByteArray} {maxL : Nat} {ret : Option FieldType} {av : List Value} {P P' : Option Value → Hp → Prop} (hC : CP l d kc ks y bytes maxL ret av h P) (hp : ∀ r h1, P r h1 → P' r h1) : CP l d kc ks y bytes maxL ret av h P' := by
  intro D cA σ sz p e ha hc hk s m args below hf happ hP hK
  obtain ⟨n, o, h1, h2, h3, ⟨⟨r, h', q1, q2, q3⟩, q4⟩, L, h5, h6⟩ := hC D cA σ sz p e ha hc hk s m args below hf happ hP hK
  exact ⟨n, o, h1, h2, h3, ⟨⟨r, h', q1, hp r h' q2, q3⟩, q4⟩, L, h5, h6⟩
theorem V_cV0i (G : Gd X own cc d kc ks) {idx ci q maxL d1 : Nat} {y : MethodName} {bytes : ByteArray} {ret : Option FieldType} {P : Int → Hp → Prop}  (M : MV own idx ci y bytes maxL ret 0) (hd : decode cc pc = .ok (.invokevirtual idx, 3)) (hq : q < NN) (hs : SH q = .inl ci) (hC : CP X.2.1 d1 0 0 y bytes maxL ret [.ref q] h (pI P)) (hdd : d1 + 1 ≤ d) (hk : k ≤ kc) (hn : n ≤ ks) (hst : (st.map fun v => v.category).sum ≤ 8) (kk : ∀ (x : Int) (h1 : Hp), P x h1 → V X k n (pc + 3) ls (.int (Int32.ofInt x) :: st) h1) : V X k n pc ls (.ref q :: st) h := V_cV0 G M hd hq hs hC hdd hk hn hst (fun r h1 hp => by obtain ⟨x, rfl, hp⟩ := hp; exact kk x h1 hp)
theorem V_cV0l (G : Gd X own cc d kc ks) {idx ci q maxL d1 : Nat} {y : MethodName} {bytes : ByteArray} {ret : Option FieldType} {P : Int64 → Hp → Prop}  (M : MV own idx ci y bytes maxL ret 0) (hd : decode cc pc = .ok (.invokevirtual idx, 3)) (hq : q < NN) (hs : SH q = .inl ci) (hC : CP X.2.1 d1 0 0 y bytes maxL ret [.ref q] h (pL P)) (hdd : d1 + 1 ≤ d) (hk : k ≤ kc) (hn : n ≤ ks) (hst : (st.map fun v => v.category).sum ≤ 8) (kk : ∀ (x : Int64) (h1 : Hp), P x h1 → V X k n (pc + 3) ls (.long x :: st) h1) : V X k n pc ls (.ref q :: st) h := V_cV0 G M hd hq hs hC hdd hk hn hst (fun r h1 hp => by obtain ⟨x, rfl, hp⟩ := hp; exact kk x h1 hp)
theorem V_cV0d (G : Gd X own cc d kc ks) {idx ci q maxL d1 : Nat} {y : MethodName} {bytes : ByteArray} {ret : Option FieldType} {P : UInt64 → Hp → Prop}  (M : MV own idx ci y bytes maxL ret 0) (hd : decode cc pc = .ok (.invokevirtual idx, 3)) (hq : q < NN) (hs : SH q = .inl ci) (hC : CP X.2.1 d1 0 0 y bytes maxL ret [.ref q] h (pD P)) (hdd : d1 + 1 ≤ d) (hk : k ≤ kc) (hn : n ≤ ks) (hst : (st.map fun v => v.category).sum ≤ 8) (kk : ∀ (x : UInt64) (h1 : Hp), P x h1 → V X k n (pc + 3) ls (.double x :: st) h1) : V X k n pc ls (.ref q :: st) h := V_cV0 G M hd hq hs hC hdd hk hn hst (fun r h1 hp => by obtain ⟨x, rfl, hp⟩ := hp; exact kk x h1 hp)
theorem V_cV0v (G : Gd X own cc d kc ks) {idx ci q maxL d1 : Nat} {y : MethodName} {bytes : ByteArray} {ret : Option FieldType} {P : Hp → Prop}  (M : MV own idx ci y bytes maxL ret 0) (hd : decode cc pc = .ok (.invokevirtual idx, 3)) (hq : q < NN) (hs : SH q = .inl ci) (hC : CP X.2.1 d1 0 0 y bytes maxL ret [.ref q] h (pV P)) (hdd : d1 + 1 ≤ d) (hk : k ≤ kc) (hn : n ≤ ks) (hst : (st.map fun v => v.category).sum ≤ 8) (kk : ∀ (h1 : Hp), P h1 → V X k n (pc + 3) ls st h1) : V X k n pc ls (.ref q :: st) h := V_cV0 G M hd hq hs hC hdd hk hn hst (fun r h1 hp => by obtain ⟨rfl, hp⟩ := hp; exact kk h1 hp)
theorem V_cV0a (G : Gd X own cc d kc ks) {idx ci q maxL d1 : Nat} {y : MethodName} {bytes : ByteArray} {ret : Option FieldType} {P : Nat → Hp → Prop}  (M : MV own idx ci y bytes maxL ret 0) (hd : decode cc pc = .ok (.invokevirtual idx, 3)) (hq : q < NN) (hs : SH q = .inl ci) (hC : CP X.2.1 d1 0 0 y bytes maxL ret [.ref q] h (pA P)) (hdd : d1 + 1 ≤ d) (hk : k ≤ kc) (hn : n ≤ ks) (hst : (st.map fun v => v.category).sum ≤ 8) (kk : ∀ (x : Nat) (h1 : Hp), P x h1 → V X k n (pc + 3) ls (.ref x :: st) h1) : V X k n pc ls (.ref q :: st) h := V_cV0 G M hd hq hs hC hdd hk hn hst (fun r h1 hp => by obtain ⟨x, rfl, hp⟩ := hp; exact kk x h1 hp)
theorem V_cV1i (G : Gd X own cc d kc ks) {idx ci q maxL d1 : Nat} {y : MethodName} {bytes : ByteArray} {ret : Option FieldType} {P : Int → Hp → Prop} {v0 : Value} (M : MV own idx ci y bytes maxL ret 1) (hd : decode cc pc = .ok (.invokevirtual idx, 3)) (hq : q < NN) (hs : SH q = .inl ci) (hC : CP X.2.1 d1 0 0 y bytes maxL ret [.ref q, v0] h (pI P)) (hdd : d1 + 1 ≤ d) (hk : k ≤ kc) (hn : n ≤ ks) (hst : (st.map fun v => v.category).sum ≤ 8) (kk : ∀ (x : Int) (h1 : Hp), P x h1 → V X k n (pc + 3) ls (.int (Int32.ofInt x) :: st) h1) : V X k n pc ls (v0 :: .ref q :: st) h := V_cV1 G M hd hq hs hC hdd hk hn hst (fun r h1 hp => by obtain ⟨x, rfl, hp⟩ := hp; exact kk x h1 hp)
theorem V_cV1l (G : Gd X own cc d kc ks) {idx ci q maxL d1 : Nat} {y : MethodName} {bytes : ByteArray} {ret : Option FieldType} {P : Int64 → Hp → Prop} {v0 : Value} (M : MV own idx ci y bytes maxL ret 1) (hd : decode cc pc = .ok (.invokevirtual idx, 3)) (hq : q < NN) (hs : SH q = .inl ci) (hC : CP X.2.1 d1 0 0 y bytes maxL ret [.ref q, v0] h (pL P)) (hdd : d1 + 1 ≤ d) (hk : k ≤ kc) (hn : n ≤ ks) (hst : (st.map fun v => v.category).sum ≤ 8) (kk : ∀ (x : Int64) (h1 : Hp), P x h1 → V X k n (pc + 3) ls (.long x :: st) h1) : V X k n pc ls (v0 :: .ref q :: st) h := V_cV1 G M hd hq hs hC hdd hk hn hst (fun r h1 hp => by obtain ⟨x, rfl, hp⟩ := hp; exact kk x h1 hp)
theorem V_cV1d (G : Gd X own cc d kc ks) {idx ci q maxL d1 : Nat} {y : MethodName} {bytes : ByteArray} {ret : Option FieldType} {P : UInt64 → Hp → Prop} {v0 : Value} (M : MV own idx ci y bytes maxL ret 1) (hd : decode cc pc = .ok (.invokevirtual idx, 3)) (hq : q < NN) (hs : SH q = .inl ci) (hC : CP X.2.1 d1 0 0 y bytes maxL ret [.ref q, v0] h (pD P)) (hdd : d1 + 1 ≤ d) (hk : k ≤ kc) (hn : n ≤ ks) (hst : (st.map fun v => v.category).sum ≤ 8) (kk : ∀ (x : UInt64) (h1 : Hp), P x h1 → V X k n (pc + 3) ls (.double x :: st) h1) : V X k n pc ls (v0 :: .ref q :: st) h := V_cV1 G M hd hq hs hC hdd hk hn hst (fun r h1 hp => by obtain ⟨x, rfl, hp⟩ := hp; exact kk x h1 hp)
theorem V_cV1v (G : Gd X own cc d kc ks) {idx ci q maxL d1 : Nat} {y : MethodName} {bytes : ByteArray} {ret : Option FieldType} {P : Hp → Prop} {v0 : Value} (M : MV own idx ci y bytes maxL ret 1) (hd : decode cc pc = .ok (.invokevirtual idx, 3)) (hq : q < NN) (hs : SH q = .inl ci) (hC : CP X.2.1 d1 0 0 y bytes maxL ret [.ref q, v0] h (pV P)) (hdd : d1 + 1 ≤ d) (hk : k ≤ kc) (hn : n ≤ ks) (hst : (st.map fun v => v.category).sum ≤ 8) (kk : ∀ (h1 : Hp), P h1 → V X k n (pc + 3) ls st h1) : V X k n pc ls (v0 :: .ref q :: st) h := V_cV1 G M hd hq hs hC hdd hk hn hst (fun r h1 hp => by obtain ⟨rfl, hp⟩ := hp; exact kk h1 hp)
theorem V_cV1a (G : Gd X own cc d kc ks) {idx ci q maxL d1 : Nat} {y : MethodName} {bytes : ByteArray} {ret : Option FieldType} {P : Nat → Hp → Prop} {v0 : Value} (M : MV own idx ci y bytes maxL ret 1) (hd : decode cc pc = .ok (.invokevirtual idx, 3)) (hq : q < NN) (hs : SH q = .inl ci) (hC : CP X.2.1 d1 0 0 y bytes maxL ret [.ref q, v0] h (pA P)) (hdd : d1 + 1 ≤ d) (hk : k ≤ kc) (hn : n ≤ ks) (hst : (st.map fun v => v.category).sum ≤ 8) (kk : ∀ (x : Nat) (h1 : Hp), P x h1 → V X k n (pc + 3) ls (.ref x :: st) h1) : V X k n pc ls (v0 :: .ref q :: st) h := V_cV1 G M hd hq hs hC hdd hk hn hst (fun r h1 hp => by obtain ⟨x, rfl, hp⟩ := hp; exact kk x h1 hp)
theorem V_cV2i (G : Gd X own cc d kc ks) {idx ci q maxL d1 : Nat} {y : MethodName} {bytes : ByteArray} {ret : Option FieldType} {P : Int → Hp → Prop} {v0 v1 : Value} (M : MV own idx ci y bytes maxL ret 2) (hd : decode cc pc = .ok (.invokevirtual idx, 3)) (hq : q < NN) (hs : SH q = .inl ci) (hC : CP X.2.1 d1 0 0 y bytes maxL ret [.ref q, v0, v1] h (pI P)) (hdd : d1 + 1 ≤ d) (hk : k ≤ kc) (hn : n ≤ ks) (hst : (st.map fun v => v.category).sum ≤ 8) (kk : ∀ (x : Int) (h1 : Hp), P x h1 → V X k n (pc + 3) ls (.int (Int32.ofInt x) :: st) h1) : V X k n pc ls (v1 :: v0 :: .ref q :: st) h := V_cV2 G M hd hq hs hC hdd hk hn hst (fun r h1 hp => by obtain ⟨x, rfl, hp⟩ := hp; exact kk x h1 hp)
theorem V_cV2l (G : Gd X own cc d kc ks) {idx ci q maxL d1 : Nat} {y : MethodName} {bytes : ByteArray} {ret : Option FieldType} {P : Int64 → Hp → Prop} {v0 v1 : Value} (M : MV own idx ci y bytes maxL ret 2) (hd : decode cc pc = .ok (.invokevirtual idx, 3)) (hq : q < NN) (hs : SH q = .inl ci) (hC : CP X.2.1 d1 0 0 y bytes maxL ret [.ref q, v0, v1] h (pL P)) (hdd : d1 + 1 ≤ d) (hk : k ≤ kc) (hn : n ≤ ks) (hst : (st.map fun v => v.category).sum ≤ 8) (kk : ∀ (x : Int64) (h1 : Hp), P x h1 → V X k n (pc + 3) ls (.long x :: st) h1) : V X k n pc ls (v1 :: v0 :: .ref q :: st) h := V_cV2 G M hd hq hs hC hdd hk hn hst (fun r h1 hp => by obtain ⟨x, rfl, hp⟩ := hp; exact kk x h1 hp)
theorem V_cV2d (G : Gd X own cc d kc ks) {idx ci q maxL d1 : Nat} {y : MethodName} {bytes : ByteArray} {ret : Option FieldType} {P : UInt64 → Hp → Prop} {v0 v1 : Value} (M : MV own idx ci y bytes maxL ret 2) (hd : decode cc pc = .ok (.invokevirtual idx, 3)) (hq : q < NN) (hs : SH q = .inl ci) (hC : CP X.2.1 d1 0 0 y bytes maxL ret [.ref q, v0, v1] h (pD P)) (hdd : d1 + 1 ≤ d) (hk : k ≤ kc) (hn : n ≤ ks) (hst : (st.map fun v => v.category).sum ≤ 8) (kk : ∀ (x : UInt64) (h1 : Hp), P x h1 → V X k n (pc + 3) ls (.double x :: st) h1) : V X k n pc ls (v1 :: v0 :: .ref q :: st) h := V_cV2 G M hd hq hs hC hdd hk hn hst (fun r h1 hp => by obtain ⟨x, rfl, hp⟩ := hp; exact kk x h1 hp)
theorem V_cV2v (G : Gd X own cc d kc ks) {idx ci q maxL d1 : Nat} {y : MethodName} {bytes : ByteArray} {ret : Option FieldType} {P : Hp → Prop} {v0 v1 : Value} (M : MV own idx ci y bytes maxL ret 2) (hd : decode cc pc = .ok (.invokevirtual idx, 3)) (hq : q < NN) (hs : SH q = .inl ci) (hC : CP X.2.1 d1 0 0 y bytes maxL ret [.ref q, v0, v1] h (pV P)) (hdd : d1 + 1 ≤ d) (hk : k ≤ kc) (hn : n ≤ ks) (hst : (st.map fun v => v.category).sum ≤ 8) (kk : ∀ (h1 : Hp), P h1 → V X k n (pc + 3) ls st h1) : V X k n pc ls (v1 :: v0 :: .ref q :: st) h := V_cV2 G M hd hq hs hC hdd hk hn hst (fun r h1 hp => by obtain ⟨rfl, hp⟩ := hp; exact kk h1 hp)
theorem V_cV2a (G : Gd X own cc d kc ks) {idx ci q maxL d1 : Nat} {y : MethodName} {bytes : ByteArray} {ret : Option FieldType} {P : Nat → Hp → Prop} {v0 v1 : Value} (M : MV own idx ci y bytes maxL ret 2) (hd : decode cc pc = .ok (.invokevirtual idx, 3)) (hq : q < NN) (hs : SH q = .inl ci) (hC : CP X.2.1 d1 0 0 y bytes maxL ret [.ref q, v0, v1] h (pA P)) (hdd : d1 + 1 ≤ d) (hk : k ≤ kc) (hn : n ≤ ks) (hst : (st.map fun v => v.category).sum ≤ 8) (kk : ∀ (x : Nat) (h1 : Hp), P x h1 → V X k n (pc + 3) ls (.ref x :: st) h1) : V X k n pc ls (v1 :: v0 :: .ref q :: st) h := V_cV2 G M hd hq hs hC hdd hk hn hst (fun r h1 hp => by obtain ⟨x, rfl, hp⟩ := hp; exact kk x h1 hp)
theorem V_cV3i (G : Gd X own cc d kc ks) {idx ci q maxL d1 : Nat} {y : MethodName} {bytes : ByteArray} {ret : Option FieldType} {P : Int → Hp → Prop} {v0 v1 v2 : Value} (M : MV own idx ci y bytes maxL ret 3) (hd : decode cc pc = .ok (.invokevirtual idx, 3)) (hq : q < NN) (hs : SH q = .inl ci) (hC : CP X.2.1 d1 0 0 y bytes maxL ret [.ref q, v0, v1, v2] h (pI P)) (hdd : d1 + 1 ≤ d) (hk : k ≤ kc) (hn : n ≤ ks) (hst : (st.map fun v => v.category).sum ≤ 8) (kk : ∀ (x : Int) (h1 : Hp), P x h1 → V X k n (pc + 3) ls (.int (Int32.ofInt x) :: st) h1) : V X k n pc ls (v2 :: v1 :: v0 :: .ref q :: st) h := V_cV3 G M hd hq hs hC hdd hk hn hst (fun r h1 hp => by obtain ⟨x, rfl, hp⟩ := hp; exact kk x h1 hp)
theorem V_cV3l (G : Gd X own cc d kc ks) {idx ci q maxL d1 : Nat} {y : MethodName} {bytes : ByteArray} {ret : Option FieldType} {P : Int64 → Hp → Prop} {v0 v1 v2 : Value} (M : MV own idx ci y bytes maxL ret 3) (hd : decode cc pc = .ok (.invokevirtual idx, 3)) (hq : q < NN) (hs : SH q = .inl ci) (hC : CP X.2.1 d1 0 0 y bytes maxL ret [.ref q, v0, v1, v2] h (pL P)) (hdd : d1 + 1 ≤ d) (hk : k ≤ kc) (hn : n ≤ ks) (hst : (st.map fun v => v.category).sum ≤ 8) (kk : ∀ (x : Int64) (h1 : Hp), P x h1 → V X k n (pc + 3) ls (.long x :: st) h1) : V X k n pc ls (v2 :: v1 :: v0 :: .ref q :: st) h := V_cV3 G M hd hq hs hC hdd hk hn hst (fun r h1 hp => by obtain ⟨x, rfl, hp⟩ := hp; exact kk x h1 hp)
theorem V_cV3d (G : Gd X own cc d kc ks) {idx ci q maxL d1 : Nat} {y : MethodName} {bytes : ByteArray} {ret : Option FieldType} {P : UInt64 → Hp → Prop} {v0 v1 v2 : Value} (M : MV own idx ci y bytes maxL ret 3) (hd : decode cc pc = .ok (.invokevirtual idx, 3)) (hq : q < NN) (hs : SH q = .inl ci) (hC : CP X.2.1 d1 0 0 y bytes maxL ret [.ref q, v0, v1, v2] h (pD P)) (hdd : d1 + 1 ≤ d) (hk : k ≤ kc) (hn : n ≤ ks) (hst : (st.map fun v => v.category).sum ≤ 8) (kk : ∀ (x : UInt64) (h1 : Hp), P x h1 → V X k n (pc + 3) ls (.double x :: st) h1) : V X k n pc ls (v2 :: v1 :: v0 :: .ref q :: st) h := V_cV3 G M hd hq hs hC hdd hk hn hst (fun r h1 hp => by obtain ⟨x, rfl, hp⟩ := hp; exact kk x h1 hp)
theorem V_cV3v (G : Gd X own cc d kc ks) {idx ci q maxL d1 : Nat} {y : MethodName} {bytes : ByteArray} {ret : Option FieldType} {P : Hp → Prop} {v0 v1 v2 : Value} (M : MV own idx ci y bytes maxL ret 3) (hd : decode cc pc = .ok (.invokevirtual idx, 3)) (hq : q < NN) (hs : SH q = .inl ci) (hC : CP X.2.1 d1 0 0 y bytes maxL ret [.ref q, v0, v1, v2] h (pV P)) (hdd : d1 + 1 ≤ d) (hk : k ≤ kc) (hn : n ≤ ks) (hst : (st.map fun v => v.category).sum ≤ 8) (kk : ∀ (h1 : Hp), P h1 → V X k n (pc + 3) ls st h1) : V X k n pc ls (v2 :: v1 :: v0 :: .ref q :: st) h := V_cV3 G M hd hq hs hC hdd hk hn hst (fun r h1 hp => by obtain ⟨rfl, hp⟩ := hp; exact kk h1 hp)
theorem V_cV3a (G : Gd X own cc d kc ks) {idx ci q maxL d1 : Nat} {y : MethodName} {bytes : ByteArray} {ret : Option FieldType} {P : Nat → Hp → Prop} {v0 v1 v2 : Value} (M : MV own idx ci y bytes maxL ret 3) (hd : decode cc pc = .ok (.invokevirtual idx, 3)) (hq : q < NN) (hs : SH q = .inl ci) (hC : CP X.2.1 d1 0 0 y bytes maxL ret [.ref q, v0, v1, v2] h (pA P)) (hdd : d1 + 1 ≤ d) (hk : k ≤ kc) (hn : n ≤ ks) (hst : (st.map fun v => v.category).sum ≤ 8) (kk : ∀ (x : Nat) (h1 : Hp), P x h1 → V X k n (pc + 3) ls (.ref x :: st) h1) : V X k n pc ls (v2 :: v1 :: v0 :: .ref q :: st) h := V_cV3 G M hd hq hs hC hdd hk hn hst (fun r h1 hp => by obtain ⟨x, rfl, hp⟩ := hp; exact kk x h1 hp)
theorem V_cV4i (G : Gd X own cc d kc ks) {idx ci q maxL d1 : Nat} {y : MethodName} {bytes : ByteArray} {ret : Option FieldType} {P : Int → Hp → Prop} {v0 v1 v2 v3 : Value} (M : MV own idx ci y bytes maxL ret 4) (hd : decode cc pc = .ok (.invokevirtual idx, 3)) (hq : q < NN) (hs : SH q = .inl ci) (hC : CP X.2.1 d1 0 0 y bytes maxL ret [.ref q, v0, v1, v2, v3] h (pI P)) (hdd : d1 + 1 ≤ d) (hk : k ≤ kc) (hn : n ≤ ks) (hst : (st.map fun v => v.category).sum ≤ 8) (kk : ∀ (x : Int) (h1 : Hp), P x h1 → V X k n (pc + 3) ls (.int (Int32.ofInt x) :: st) h1) : V X k n pc ls (v3 :: v2 :: v1 :: v0 :: .ref q :: st) h := V_cV4 G M hd hq hs hC hdd hk hn hst (fun r h1 hp => by obtain ⟨x, rfl, hp⟩ := hp; exact kk x h1 hp)
theorem V_cV4l (G : Gd X own cc d kc ks) {idx ci q maxL d1 : Nat} {y : MethodName} {bytes : ByteArray} {ret : Option FieldType} {P : Int64 → Hp → Prop} {v0 v1 v2 v3 : Value} (M : MV own idx ci y bytes maxL ret 4) (hd : decode cc pc = .ok (.invokevirtual idx, 3)) (hq : q < NN) (hs : SH q = .inl ci) (hC : CP X.2.1 d1 0 0 y bytes maxL ret [.ref q, v0, v1, v2, v3] h (pL P)) (hdd : d1 + 1 ≤ d) (hk : k ≤ kc) (hn : n ≤ ks) (hst : (st.map fun v => v.category).sum ≤ 8) (kk : ∀ (x : Int64) (h1 : Hp), P x h1 → V X k n (pc + 3) ls (.long x :: st) h1) : V X k n pc ls (v3 :: v2 :: v1 :: v0 :: .ref q :: st) h := V_cV4 G M hd hq hs hC hdd hk hn hst (fun r h1 hp => by obtain ⟨x, rfl, hp⟩ := hp; exact kk x h1 hp)
theorem V_cV4d (G : Gd X own cc d kc ks) {idx ci q maxL d1 : Nat} {y : MethodName} {bytes : ByteArray} {ret : Option FieldType} {P : UInt64 → Hp → Prop} {v0 v1 v2 v3 : Value} (M : MV own idx ci y bytes maxL ret 4) (hd : decode cc pc = .ok (.invokevirtual idx, 3)) (hq : q < NN) (hs : SH q = .inl ci) (hC : CP X.2.1 d1 0 0 y bytes maxL ret [.ref q, v0, v1, v2, v3] h (pD P)) (hdd : d1 + 1 ≤ d) (hk : k ≤ kc) (hn : n ≤ ks) (hst : (st.map fun v => v.category).sum ≤ 8) (kk : ∀ (x : UInt64) (h1 : Hp), P x h1 → V X k n (pc + 3) ls (.double x :: st) h1) : V X k n pc ls (v3 :: v2 :: v1 :: v0 :: .ref q :: st) h := V_cV4 G M hd hq hs hC hdd hk hn hst (fun r h1 hp => by obtain ⟨x, rfl, hp⟩ := hp; exact kk x h1 hp)
theorem V_cV4v (G : Gd X own cc d kc ks) {idx ci q maxL d1 : Nat} {y : MethodName} {bytes : ByteArray} {ret : Option FieldType} {P : Hp → Prop} {v0 v1 v2 v3 : Value} (M : MV own idx ci y bytes maxL ret 4) (hd : decode cc pc = .ok (.invokevirtual idx, 3)) (hq : q < NN) (hs : SH q = .inl ci) (hC : CP X.2.1 d1 0 0 y bytes maxL ret [.ref q, v0, v1, v2, v3] h (pV P)) (hdd : d1 + 1 ≤ d) (hk : k ≤ kc) (hn : n ≤ ks) (hst : (st.map fun v => v.category).sum ≤ 8) (kk : ∀ (h1 : Hp), P h1 → V X k n (pc + 3) ls st h1) : V X k n pc ls (v3 :: v2 :: v1 :: v0 :: .ref q :: st) h := V_cV4 G M hd hq hs hC hdd hk hn hst (fun r h1 hp => by obtain ⟨rfl, hp⟩ := hp; exact kk h1 hp)
theorem V_cV4a (G : Gd X own cc d kc ks) {idx ci q maxL d1 : Nat} {y : MethodName} {bytes : ByteArray} {ret : Option FieldType} {P : Nat → Hp → Prop} {v0 v1 v2 v3 : Value} (M : MV own idx ci y bytes maxL ret 4) (hd : decode cc pc = .ok (.invokevirtual idx, 3)) (hq : q < NN) (hs : SH q = .inl ci) (hC : CP X.2.1 d1 0 0 y bytes maxL ret [.ref q, v0, v1, v2, v3] h (pA P)) (hdd : d1 + 1 ≤ d) (hk : k ≤ kc) (hn : n ≤ ks) (hst : (st.map fun v => v.category).sum ≤ 8) (kk : ∀ (x : Nat) (h1 : Hp), P x h1 → V X k n (pc + 3) ls (.ref x :: st) h1) : V X k n pc ls (v3 :: v2 :: v1 :: v0 :: .ref q :: st) h := V_cV4 G M hd hq hs hC hdd hk hn hst (fun r h1 hp => by obtain ⟨x, rfl, hp⟩ := hp; exact kk x h1 hp)
theorem V_cS1i (G : Gd X own cc d kc ks) {idx maxL d1 : Nat} {y : MethodName} {bytes : ByteArray} {ret : Option FieldType} {P : Int → Hp → Prop} {v0 : Value} (M : MS own idx y bytes maxL ret 1) (hd : decode cc pc = .ok (.invokestatic idx, 3)) (hC : CP X.2.1 d1 0 0 y bytes maxL ret [v0] h (pI P)) (hdd : d1 + 1 ≤ d) (hk : k ≤ kc) (hn : n ≤ ks) (hst : (st.map fun v => v.category).sum ≤ 8) (kk : ∀ (x : Int) (h1 : Hp), P x h1 → V X k n (pc + 3) ls (.int (Int32.ofInt x) :: st) h1) : V X k n pc ls (v0 :: st) h := V_cS1 G M hd hC hdd hk hn hst (fun r h1 hp => by obtain ⟨x, rfl, hp⟩ := hp; exact kk x h1 hp)
theorem V_cS1l (G : Gd X own cc d kc ks) {idx maxL d1 : Nat} {y : MethodName} {bytes : ByteArray} {ret : Option FieldType} {P : Int64 → Hp → Prop} {v0 : Value} (M : MS own idx y bytes maxL ret 1) (hd : decode cc pc = .ok (.invokestatic idx, 3)) (hC : CP X.2.1 d1 0 0 y bytes maxL ret [v0] h (pL P)) (hdd : d1 + 1 ≤ d) (hk : k ≤ kc) (hn : n ≤ ks) (hst : (st.map fun v => v.category).sum ≤ 8) (kk : ∀ (x : Int64) (h1 : Hp), P x h1 → V X k n (pc + 3) ls (.long x :: st) h1) : V X k n pc ls (v0 :: st) h := V_cS1 G M hd hC hdd hk hn hst (fun r h1 hp => by obtain ⟨x, rfl, hp⟩ := hp; exact kk x h1 hp)
theorem V_cS1d (G : Gd X own cc d kc ks) {idx maxL d1 : Nat} {y : MethodName} {bytes : ByteArray} {ret : Option FieldType} {P : UInt64 → Hp → Prop} {v0 : Value} (M : MS own idx y bytes maxL ret 1) (hd : decode cc pc = .ok (.invokestatic idx, 3)) (hC : CP X.2.1 d1 0 0 y bytes maxL ret [v0] h (pD P)) (hdd : d1 + 1 ≤ d) (hk : k ≤ kc) (hn : n ≤ ks) (hst : (st.map fun v => v.category).sum ≤ 8) (kk : ∀ (x : UInt64) (h1 : Hp), P x h1 → V X k n (pc + 3) ls (.double x :: st) h1) : V X k n pc ls (v0 :: st) h := V_cS1 G M hd hC hdd hk hn hst (fun r h1 hp => by obtain ⟨x, rfl, hp⟩ := hp; exact kk x h1 hp)
theorem V_cS1v (G : Gd X own cc d kc ks) {idx maxL d1 : Nat} {y : MethodName} {bytes : ByteArray} {ret : Option FieldType} {P : Hp → Prop} {v0 : Value} (M : MS own idx y bytes maxL ret 1) (hd : decode cc pc = .ok (.invokestatic idx, 3)) (hC : CP X.2.1 d1 0 0 y bytes maxL ret [v0] h (pV P)) (hdd : d1 + 1 ≤ d) (hk : k ≤ kc) (hn : n ≤ ks) (hst : (st.map fun v => v.category).sum ≤ 8) (kk : ∀ (h1 : Hp), P h1 → V X k n (pc + 3) ls st h1) : V X k n pc ls (v0 :: st) h := V_cS1 G M hd hC hdd hk hn hst (fun r h1 hp => by obtain ⟨rfl, hp⟩ := hp; exact kk h1 hp)
theorem V_cS1a (G : Gd X own cc d kc ks) {idx maxL d1 : Nat} {y : MethodName} {bytes : ByteArray} {ret : Option FieldType} {P : Nat → Hp → Prop} {v0 : Value} (M : MS own idx y bytes maxL ret 1) (hd : decode cc pc = .ok (.invokestatic idx, 3)) (hC : CP X.2.1 d1 0 0 y bytes maxL ret [v0] h (pA P)) (hdd : d1 + 1 ≤ d) (hk : k ≤ kc) (hn : n ≤ ks) (hst : (st.map fun v => v.category).sum ≤ 8) (kk : ∀ (x : Nat) (h1 : Hp), P x h1 → V X k n (pc + 3) ls (.ref x :: st) h1) : V X k n pc ls (v0 :: st) h := V_cS1 G M hd hC hdd hk hn hst (fun r h1 hp => by obtain ⟨x, rfl, hp⟩ := hp; exact kk x h1 hp)
theorem V_cS2i (G : Gd X own cc d kc ks) {idx maxL d1 : Nat} {y : MethodName} {bytes : ByteArray} {ret : Option FieldType} {P : Int → Hp → Prop} {v0 v1 : Value} (M : MS own idx y bytes maxL ret 2) (hd : decode cc pc = .ok (.invokestatic idx, 3)) (hC : CP X.2.1 d1 0 0 y bytes maxL ret [v0, v1] h (pI P)) (hdd : d1 + 1 ≤ d) (hk : k ≤ kc) (hn : n ≤ ks) (hst : (st.map fun v => v.category).sum ≤ 8) (kk : ∀ (x : Int) (h1 : Hp), P x h1 → V X k n (pc + 3) ls (.int (Int32.ofInt x) :: st) h1) : V X k n pc ls (v1 :: v0 :: st) h := V_cS2 G M hd hC hdd hk hn hst (fun r h1 hp => by obtain ⟨x, rfl, hp⟩ := hp; exact kk x h1 hp)
theorem V_cS2l (G : Gd X own cc d kc ks) {idx maxL d1 : Nat} {y : MethodName} {bytes : ByteArray} {ret : Option FieldType} {P : Int64 → Hp → Prop} {v0 v1 : Value} (M : MS own idx y bytes maxL ret 2) (hd : decode cc pc = .ok (.invokestatic idx, 3)) (hC : CP X.2.1 d1 0 0 y bytes maxL ret [v0, v1] h (pL P)) (hdd : d1 + 1 ≤ d) (hk : k ≤ kc) (hn : n ≤ ks) (hst : (st.map fun v => v.category).sum ≤ 8) (kk : ∀ (x : Int64) (h1 : Hp), P x h1 → V X k n (pc + 3) ls (.long x :: st) h1) : V X k n pc ls (v1 :: v0 :: st) h := V_cS2 G M hd hC hdd hk hn hst (fun r h1 hp => by obtain ⟨x, rfl, hp⟩ := hp; exact kk x h1 hp)
theorem V_cS2d (G : Gd X own cc d kc ks) {idx maxL d1 : Nat} {y : MethodName} {bytes : ByteArray} {ret : Option FieldType} {P : UInt64 → Hp → Prop} {v0 v1 : Value} (M : MS own idx y bytes maxL ret 2) (hd : decode cc pc = .ok (.invokestatic idx, 3)) (hC : CP X.2.1 d1 0 0 y bytes maxL ret [v0, v1] h (pD P)) (hdd : d1 + 1 ≤ d) (hk : k ≤ kc) (hn : n ≤ ks) (hst : (st.map fun v => v.category).sum ≤ 8) (kk : ∀ (x : UInt64) (h1 : Hp), P x h1 → V X k n (pc + 3) ls (.double x :: st) h1) : V X k n pc ls (v1 :: v0 :: st) h := V_cS2 G M hd hC hdd hk hn hst (fun r h1 hp => by obtain ⟨x, rfl, hp⟩ := hp; exact kk x h1 hp)
theorem V_cS2v (G : Gd X own cc d kc ks) {idx maxL d1 : Nat} {y : MethodName} {bytes : ByteArray} {ret : Option FieldType} {P : Hp → Prop} {v0 v1 : Value} (M : MS own idx y bytes maxL ret 2) (hd : decode cc pc = .ok (.invokestatic idx, 3)) (hC : CP X.2.1 d1 0 0 y bytes maxL ret [v0, v1] h (pV P)) (hdd : d1 + 1 ≤ d) (hk : k ≤ kc) (hn : n ≤ ks) (hst : (st.map fun v => v.category).sum ≤ 8) (kk : ∀ (h1 : Hp), P h1 → V X k n (pc + 3) ls st h1) : V X k n pc ls (v1 :: v0 :: st) h := V_cS2 G M hd hC hdd hk hn hst (fun r h1 hp => by obtain ⟨rfl, hp⟩ := hp; exact kk h1 hp)
theorem V_cS2a (G : Gd X own cc d kc ks) {idx maxL d1 : Nat} {y : MethodName} {bytes : ByteArray} {ret : Option FieldType} {P : Nat → Hp → Prop} {v0 v1 : Value} (M : MS own idx y bytes maxL ret 2) (hd : decode cc pc = .ok (.invokestatic idx, 3)) (hC : CP X.2.1 d1 0 0 y bytes maxL ret [v0, v1] h (pA P)) (hdd : d1 + 1 ≤ d) (hk : k ≤ kc) (hn : n ≤ ks) (hst : (st.map fun v => v.category).sum ≤ 8) (kk : ∀ (x : Nat) (h1 : Hp), P x h1 → V X k n (pc + 3) ls (.ref x :: st) h1) : V X k n pc ls (v1 :: v0 :: st) h := V_cS2 G M hd hC hdd hk hn hst (fun r h1 hp => by obtain ⟨x, rfl, hp⟩ := hp; exact kk x h1 hp)
theorem V_cS3i (G : Gd X own cc d kc ks) {idx maxL d1 : Nat} {y : MethodName} {bytes : ByteArray} {ret : Option FieldType} {P : Int → Hp → Prop} {v0 v1 v2 : Value} (M : MS own idx y bytes maxL ret 3) (hd : decode cc pc = .ok (.invokestatic idx, 3)) (hC : CP X.2.1 d1 0 0 y bytes maxL ret [v0, v1, v2] h (pI P)) (hdd : d1 + 1 ≤ d) (hk : k ≤ kc) (hn : n ≤ ks) (hst : (st.map fun v => v.category).sum ≤ 8) (kk : ∀ (x : Int) (h1 : Hp), P x h1 → V X k n (pc + 3) ls (.int (Int32.ofInt x) :: st) h1) : V X k n pc ls (v2 :: v1 :: v0 :: st) h := V_cS3 G M hd hC hdd hk hn hst (fun r h1 hp => by obtain ⟨x, rfl, hp⟩ := hp; exact kk x h1 hp)
theorem V_cS3l (G : Gd X own cc d kc ks) {idx maxL d1 : Nat} {y : MethodName} {bytes : ByteArray} {ret : Option FieldType} {P : Int64 → Hp → Prop} {v0 v1 v2 : Value} (M : MS own idx y bytes maxL ret 3) (hd : decode cc pc = .ok (.invokestatic idx, 3)) (hC : CP X.2.1 d1 0 0 y bytes maxL ret [v0, v1, v2] h (pL P)) (hdd : d1 + 1 ≤ d) (hk : k ≤ kc) (hn : n ≤ ks) (hst : (st.map fun v => v.category).sum ≤ 8) (kk : ∀ (x : Int64) (h1 : Hp), P x h1 → V X k n (pc + 3) ls (.long x :: st) h1) : V X k n pc ls (v2 :: v1 :: v0 :: st) h := V_cS3 G M hd hC hdd hk hn hst (fun r h1 hp => by obtain ⟨x, rfl, hp⟩ := hp; exact kk x h1 hp)
theorem V_cS3d (G : Gd X own cc d kc ks) {idx maxL d1 : Nat} {y : MethodName} {bytes : ByteArray} {ret : Option FieldType} {P : UInt64 → Hp → Prop} {v0 v1 v2 : Value} (M : MS own idx y bytes maxL ret 3) (hd : decode cc pc = .ok (.invokestatic idx, 3)) (hC : CP X.2.1 d1 0 0 y bytes maxL ret [v0, v1, v2] h (pD P)) (hdd : d1 + 1 ≤ d) (hk : k ≤ kc) (hn : n ≤ ks) (hst : (st.map fun v => v.category).sum ≤ 8) (kk : ∀ (x : UInt64) (h1 : Hp), P x h1 → V X k n (pc + 3) ls (.double x :: st) h1) : V X k n pc ls (v2 :: v1 :: v0 :: st) h := V_cS3 G M hd hC hdd hk hn hst (fun r h1 hp => by obtain ⟨x, rfl, hp⟩ := hp; exact kk x h1 hp)
theorem V_cS3v (G : Gd X own cc d kc ks) {idx maxL d1 : Nat} {y : MethodName} {bytes : ByteArray} {ret : Option FieldType} {P : Hp → Prop} {v0 v1 v2 : Value} (M : MS own idx y bytes maxL ret 3) (hd : decode cc pc = .ok (.invokestatic idx, 3)) (hC : CP X.2.1 d1 0 0 y bytes maxL ret [v0, v1, v2] h (pV P)) (hdd : d1 + 1 ≤ d) (hk : k ≤ kc) (hn : n ≤ ks) (hst : (st.map fun v => v.category).sum ≤ 8) (kk : ∀ (h1 : Hp), P h1 → V X k n (pc + 3) ls st h1) : V X k n pc ls (v2 :: v1 :: v0 :: st) h := V_cS3 G M hd hC hdd hk hn hst (fun r h1 hp => by obtain ⟨rfl, hp⟩ := hp; exact kk h1 hp)
theorem V_cS3a (G : Gd X own cc d kc ks) {idx maxL d1 : Nat} {y : MethodName} {bytes : ByteArray} {ret : Option FieldType} {P : Nat → Hp → Prop} {v0 v1 v2 : Value} (M : MS own idx y bytes maxL ret 3) (hd : decode cc pc = .ok (.invokestatic idx, 3)) (hC : CP X.2.1 d1 0 0 y bytes maxL ret [v0, v1, v2] h (pA P)) (hdd : d1 + 1 ≤ d) (hk : k ≤ kc) (hn : n ≤ ks) (hst : (st.map fun v => v.category).sum ≤ 8) (kk : ∀ (x : Nat) (h1 : Hp), P x h1 → V X k n (pc + 3) ls (.ref x :: st) h1) : V X k n pc ls (v2 :: v1 :: v0 :: st) h := V_cS3 G M hd hC hdd hk hn hst (fun r h1 hp => by obtain ⟨x, rfl, hp⟩ := hp; exact kk x h1 hp)
theorem V_cS4i (G : Gd X own cc d kc ks) {idx maxL d1 : Nat} {y : MethodName} {bytes : ByteArray} {ret : Option FieldType} {P : Int → Hp → Prop} {v0 v1 v2 v3 : Value} (M : MS own idx y bytes maxL ret 4) (hd : decode cc pc = .ok (.invokestatic idx, 3)) (hC : CP X.2.1 d1 0 0 y bytes maxL ret [v0, v1, v2, v3] h (pI P)) (hdd : d1 + 1 ≤ d) (hk : k ≤ kc) (hn : n ≤ ks) (hst : (st.map fun v => v.category).sum ≤ 8) (kk : ∀ (x : Int) (h1 : Hp), P x h1 → V X k n (pc + 3) ls (.int (Int32.ofInt x) :: st) h1) : V X k n pc ls (v3 :: v2 :: v1 :: v0 :: st) h := V_cS4 G M hd hC hdd hk hn hst (fun r h1 hp => by obtain ⟨x, rfl, hp⟩ := hp; exact kk x h1 hp)
theorem V_cS4l (G : Gd X own cc d kc ks) {idx maxL d1 : Nat} {y : MethodName} {bytes : ByteArray} {ret : Option FieldType} {P : Int64 → Hp → Prop} {v0 v1 v2 v3 : Value} (M : MS own idx y bytes maxL ret 4) (hd : decode cc pc = .ok (.invokestatic idx, 3)) (hC : CP X.2.1 d1 0 0 y bytes maxL ret [v0, v1, v2, v3] h (pL P)) (hdd : d1 + 1 ≤ d) (hk : k ≤ kc) (hn : n ≤ ks) (hst : (st.map fun v => v.category).sum ≤ 8) (kk : ∀ (x : Int64) (h1 : Hp), P x h1 → V X k n (pc + 3) ls (.long x :: st) h1) : V X k n pc ls (v3 :: v2 :: v1 :: v0 :: st) h := V_cS4 G M hd hC hdd hk hn hst (fun r h1 hp => by obtain ⟨x, rfl, hp⟩ := hp; exact kk x h1 hp)
theorem V_cS4d (G : Gd X own cc d kc ks) {idx maxL d1 : Nat} {y : MethodName} {bytes : ByteArray} {ret : Option FieldType} {P : UInt64 → Hp → Prop} {v0 v1 v2 v3 : Value} (M : MS own idx y bytes maxL ret 4) (hd : decode cc pc = .ok (.invokestatic idx, 3)) (hC : CP X.2.1 d1 0 0 y bytes maxL ret [v0, v1, v2, v3] h (pD P)) (hdd : d1 + 1 ≤ d) (hk : k ≤ kc) (hn : n ≤ ks) (hst : (st.map fun v => v.category).sum ≤ 8) (kk : ∀ (x : UInt64) (h1 : Hp), P x h1 → V X k n (pc + 3) ls (.double x :: st) h1) : V X k n pc ls (v3 :: v2 :: v1 :: v0 :: st) h := V_cS4 G M hd hC hdd hk hn hst (fun r h1 hp => by obtain ⟨x, rfl, hp⟩ := hp; exact kk x h1 hp)
theorem V_cS4v (G : Gd X own cc d kc ks) {idx maxL d1 : Nat} {y : MethodName} {bytes : ByteArray} {ret : Option FieldType} {P : Hp → Prop} {v0 v1 v2 v3 : Value} (M : MS own idx y bytes maxL ret 4) (hd : decode cc pc = .ok (.invokestatic idx, 3)) (hC : CP X.2.1 d1 0 0 y bytes maxL ret [v0, v1, v2, v3] h (pV P)) (hdd : d1 + 1 ≤ d) (hk : k ≤ kc) (hn : n ≤ ks) (hst : (st.map fun v => v.category).sum ≤ 8) (kk : ∀ (h1 : Hp), P h1 → V X k n (pc + 3) ls st h1) : V X k n pc ls (v3 :: v2 :: v1 :: v0 :: st) h := V_cS4 G M hd hC hdd hk hn hst (fun r h1 hp => by obtain ⟨rfl, hp⟩ := hp; exact kk h1 hp)
theorem V_cS4a (G : Gd X own cc d kc ks) {idx maxL d1 : Nat} {y : MethodName} {bytes : ByteArray} {ret : Option FieldType} {P : Nat → Hp → Prop} {v0 v1 v2 v3 : Value} (M : MS own idx y bytes maxL ret 4) (hd : decode cc pc = .ok (.invokestatic idx, 3)) (hC : CP X.2.1 d1 0 0 y bytes maxL ret [v0, v1, v2, v3] h (pA P)) (hdd : d1 + 1 ≤ d) (hk : k ≤ kc) (hn : n ≤ ks) (hst : (st.map fun v => v.category).sum ≤ 8) (kk : ∀ (x : Nat) (h1 : Hp), P x h1 → V X k n (pc + 3) ls (.ref x :: st) h1) : V X k n pc ls (v3 :: v2 :: v1 :: v0 :: st) h := V_cS4 G M hd hC hdd hk hn hst (fun r h1 hp => by obtain ⟨x, rfl, hp⟩ := hp; exact kk x h1 hp)
/-- an int by an integer -/
abbrev iv (z : Int) : Value := .int (Int32.ofInt z)
abbrev inr (z : Int) : Prop := -2147483648 ≤ z ∧ z < 2147483648
theorem zi_add (a b : Int) : Int32.ofInt (a + b) = Int32.ofInt a + Int32.ofInt b := Int32.toInt_inj.1 (by simp)
theorem zi_sub (a b : Int) : Int32.ofInt (a - b) = Int32.ofInt a - Int32.ofInt b := Int32.toInt_inj.1 (by simp)
theorem zi_mul (a b : Int) : Int32.ofInt (a * b) = Int32.ofInt a * Int32.ofInt b := Int32.toInt_inj.1 (by simp)
theorem zi_toInt {a : Int} (h : inr a) : (Int32.ofInt a).toInt = a := Int32.toInt_ofInt_of_le (by have := h.1; omega) (by have := h.2; omega)
theorem zi_lt {a b : Int} (h : inr a) (h2 : inr b) : Int32.ofInt a < Int32.ofInt b ↔ a < b := by rw [Int32.lt_iff_toInt_lt, zi_toInt h, zi_toInt h2]
theorem zi_le {a b : Int} (h : inr a) (h2 : inr b) : Int32.ofInt a ≤ Int32.ofInt b ↔ a ≤ b := by rw [Int32.le_iff_toInt_le, zi_toInt h, zi_toInt h2]
theorem zi_eq {a b : Int} (h : inr a) (h2 : inr b) : Int32.ofInt a = Int32.ofInt b ↔ a = b := by
  constructor
  · intro e
    have := congrArg Int32.toInt e
    rwa [zi_toInt h, zi_toInt h2] at this
  · rintro rfl
    rfl
theorem zi_0 : (0 : Int32) = Int32.ofInt 0 := rfl
theorem zi_re (w : Int32) : w = Int32.ofInt w.toInt := (Int32.ofInt_toInt w).symm
theorem V_iconst (G : Gd X own cc d kc ks) {z : Int} (hd : decode cc pc = .ok (.iconst z, 1)) (kk : V X k n (pc + 1) ls (.int (Int32.ofInt z) :: st) h) : V X k n pc ls st h := V_iconst_ G hd rfl kk
theorem V_bipush (G : Gd X own cc d kc ks) {z : Int} (hd : decode cc pc = .ok (.bipush z, 2)) (hz : (Int8.ofInt z).toInt32 = Int32.ofInt z) (kk : V X k n (pc + 2) ls (.int (Int32.ofInt z) :: st) h) : V X k n pc ls st h := V_bipush_ G hd hz kk
theorem V_sipush (G : Gd X own cc d kc ks) {z : Int} (hd : decode cc pc = .ok (.sipush z, 3)) (hz : (Int16.ofInt z).toInt32 = Int32.ofInt z) (kk : V X k n (pc + 3) ls (.int (Int32.ofInt z) :: st) h) : V X k n pc ls st h := V_sipush_ G hd hz kk
theorem V_iadd (G : Gd X own cc d kc ks) {x y : Int} (hd : decode cc pc = .ok (.iadd, 1)) (kk : V X k n (pc + 1) ls (.int (Int32.ofInt (x + y)) :: st) h) : V X k n pc ls (.int (Int32.ofInt y) :: .int (Int32.ofInt x) :: st) h := V_iadd_ G hd (by rw [← zi_add]; exact kk)
theorem V_isub (G : Gd X own cc d kc ks) {x y : Int} (hd : decode cc pc = .ok (.isub, 1)) (kk : V X k n (pc + 1) ls (.int (Int32.ofInt (x - y)) :: st) h) : V X k n pc ls (.int (Int32.ofInt y) :: .int (Int32.ofInt x) :: st) h := V_isub_ G hd (by rw [← zi_sub]; exact kk)
theorem V_imul (G : Gd X own cc d kc ks) {x y : Int} (hd : decode cc pc = .ok (.imul, 1)) (kk : V X k n (pc + 1) ls (.int (Int32.ofInt (x * y)) :: st) h) : V X k n pc ls (.int (Int32.ofInt y) :: .int (Int32.ofInt x) :: st) h := V_imul_ G hd (by rw [← zi_mul]; exact kk)
theorem V_idiv (G : Gd X own cc d kc ks) {x y : Int} (hd : decode cc pc = .ok (.idiv, 1)) (hx : 0 ≤ x ∧ x < 2147483648) (hy : 0 < y ∧ y < 2147483648) (kk : V X k n (pc + 1) ls (.int (Int32.ofInt (x / y)) :: st) h) : V X k n pc ls (.int (Int32.ofInt y) :: .int (Int32.ofInt x) :: st) h := by
  have e : Int32.ofInt x / Int32.ofInt y = Int32.ofInt (x / y) := Int32.toInt_inj.1 (by
    rw [Int32.toInt_div_of_ne_right _ _ (fun q => by rw [show (-1 : Int32) = Int32.ofInt (-1) from rfl, zi_eq ⟨by omega, by omega⟩ ⟨by omega, by omega⟩] at q; omega), zi_toInt ⟨by omega, by omega⟩, zi_toInt ⟨by omega, by omega⟩]
    have h1 : x / y ≤ x := Int.ediv_le_self y hx.1
    have h2 : 0 ≤ x / y := Int.ediv_nonneg hx.1 (by omega)
    rw [zi_toInt ⟨by omega, by omega⟩, Int.tdiv_eq_ediv_of_nonneg hx.1])
  refine V_idiv_ G hd (fun q => ?_) (by rw [e]; exact kk)
  rw [zi_0, zi_eq ⟨by omega, by omega⟩ ⟨by omega, by omega⟩] at q
  omega
theorem V_irem (G : Gd X own cc d kc ks) {x y : Int} (hd : decode cc pc = .ok (.irem, 1)) (hx : 0 ≤ x ∧ x < 2147483648) (hy : 0 < y ∧ y < 2147483648) (kk : V X k n (pc + 1) ls (.int (Int32.ofInt (x % y)) :: st) h) : V X k n pc ls (.int (Int32.ofInt y) :: .int (Int32.ofInt x) :: st) h := by
  have e : Int32.ofInt x / Int32.ofInt y = Int32.ofInt (x / y) := Int32.toInt_inj.1 (by
    rw [Int32.toInt_div_of_ne_right _ _ (fun q => by rw [show (-1 : Int32) = Int32.ofInt (-1) from rfl, zi_eq ⟨by omega, by omega⟩ ⟨by omega, by omega⟩] at q; omega), zi_toInt ⟨by omega, by omega⟩, zi_toInt ⟨by omega, by omega⟩]
    have h1 : x / y ≤ x := Int.ediv_le_self y hx.1
    have h2 : 0 ≤ x / y := Int.ediv_nonneg hx.1 (by omega)
    rw [zi_toInt ⟨by omega, by omega⟩, Int.tdiv_eq_ediv_of_nonneg hx.1])
  have e2 : Int32.ofInt x - Int32.ofInt x / Int32.ofInt y * Int32.ofInt y = Int32.ofInt (x % y) := by
    rw [e, ← zi_mul, ← zi_sub]
    congr 1
    have := Int.mul_ediv_add_emod x y
    rw [Int.mul_comm] at this
    omega
  refine V_irem_ G hd (fun q => ?_) (by rw [e2]; exact kk)
  rw [zi_0, zi_eq ⟨by omega, by omega⟩ ⟨by omega, by omega⟩] at q
  omega
theorem V_ibit (G : Gd X own cc d kc ks) {w : Int32} {z : Int} (hz : w.toInt = z) (kk : V X k n pc ls (.int (Int32.ofInt z) :: st) h) : V X k n pc ls (.int w :: st) h := by
  subst hz
  rw [zi_re w]
  exact kk
theorem V_i2l (G : Gd X own cc d kc ks) {x : Int} (hd : decode cc pc = .ok (.i2l, 1)) (hx : inr x) (kk : V X k n (pc + 1) ls (.long (Int64.ofInt x) :: st) h) : V X k n pc ls (.int (Int32.ofInt x) :: st) h := by
  have e1 : Int32.minValue.toInt = -2147483648 := by decide
  have e2 : Int32.maxValue.toInt = 2147483647 := by decide
  refine V_i2l_ G hd ?_
  rw [Int32.toInt64_ofInt (by rw [e1]; exact hx.1) (by rw [e2]; have := hx.2; omega)]
  exact kk
theorem V_iinc0 (G : Gd X own cc d kc ks) {t : List (Option Value)} {x : Int} {z : Int} (hd : decode cc pc = .ok (.iinc 0 z, 3))  (kk : V X k n (pc + 3) (some (.int (Int32.ofInt (x + z))) :: t) st h) : V X k n pc (some (.int (Int32.ofInt x)) :: t) st h := V_iinc0_ G hd rfl  (by rw [← zi_add]; exact kk)
theorem V_iinc1 (G : Gd X own cc d kc ks) {a0 : Option Value} {t : List (Option Value)} {x : Int} {z : Int} (hd : decode cc pc = .ok (.iinc 1 z, 3)) (hc : c1 a0 = true) (kk : V X k n (pc + 3) (a0 :: some (.int (Int32.ofInt (x + z))) :: t) st h) : V X k n pc (a0 :: some (.int (Int32.ofInt x)) :: t) st h := V_iinc1_ G hd rfl hc (by rw [← zi_add]; exact kk)
theorem V_iinc2 (G : Gd X own cc d kc ks) {a0 a1 : Option Value} {t : List (Option Value)} {x : Int} {z : Int} (hd : decode cc pc = .ok (.iinc 2 z, 3)) (hc : c1 a1 = true) (kk : V X k n (pc + 3) (a0 :: a1 :: some (.int (Int32.ofInt (x + z))) :: t) st h) : V X k n pc (a0 :: a1 :: some (.int (Int32.ofInt x)) :: t) st h := V_iinc2_ G hd rfl hc (by rw [← zi_add]; exact kk)
theorem V_iinc3 (G : Gd X own cc d kc ks) {a0 a1 a2 : Option Value} {t : List (Option Value)} {x : Int} {z : Int} (hd : decode cc pc = .ok (.iinc 3 z, 3)) (hc : c1 a2 = true) (kk : V X k n (pc + 3) (a0 :: a1 :: a2 :: some (.int (Int32.ofInt (x + z))) :: t) st h) : V X k n pc (a0 :: a1 :: a2 :: some (.int (Int32.ofInt x)) :: t) st h := V_iinc3_ G hd rfl hc (by rw [← zi_add]; exact kk)
theorem V_iinc4 (G : Gd X own cc d kc ks) {a0 a1 a2 a3 : Option Value} {t : List (Option Value)} {x : Int} {z : Int} (hd : decode cc pc = .ok (.iinc 4 z, 3)) (hc : c1 a3 = true) (kk : V X k n (pc + 3) (a0 :: a1 :: a2 :: a3 :: some (.int (Int32.ofInt (x + z))) :: t) st h) : V X k n pc (a0 :: a1 :: a2 :: a3 :: some (.int (Int32.ofInt x)) :: t) st h := V_iinc4_ G hd rfl hc (by rw [← zi_add]; exact kk)
theorem V_iinc5 (G : Gd X own cc d kc ks) {a0 a1 a2 a3 a4 : Option Value} {t : List (Option Value)} {x : Int} {z : Int} (hd : decode cc pc = .ok (.iinc 5 z, 3)) (hc : c1 a4 = true) (kk : V X k n (pc + 3) (a0 :: a1 :: a2 :: a3 :: a4 :: some (.int (Int32.ofInt (x + z))) :: t) st h) : V X k n pc (a0 :: a1 :: a2 :: a3 :: a4 :: some (.int (Int32.ofInt x)) :: t) st h := V_iinc5_ G hd rfl hc (by rw [← zi_add]; exact kk)
theorem V_iinc6 (G : Gd X own cc d kc ks) {a0 a1 a2 a3 a4 a5 : Option Value} {t : List (Option Value)} {x : Int} {z : Int} (hd : decode cc pc = .ok (.iinc 6 z, 3)) (hc : c1 a5 = true) (kk : V X k n (pc + 3) (a0 :: a1 :: a2 :: a3 :: a4 :: a5 :: some (.int (Int32.ofInt (x + z))) :: t) st h) : V X k n pc (a0 :: a1 :: a2 :: a3 :: a4 :: a5 :: some (.int (Int32.ofInt x)) :: t) st h := V_iinc6_ G hd rfl hc (by rw [← zi_add]; exact kk)
theorem V_iinc7 (G : Gd X own cc d kc ks) {a0 a1 a2 a3 a4 a5 a6 : Option Value} {t : List (Option Value)} {x : Int} {z : Int} (hd : decode cc pc = .ok (.iinc 7 z, 3)) (hc : c1 a6 = true) (kk : V X k n (pc + 3) (a0 :: a1 :: a2 :: a3 :: a4 :: a5 :: a6 :: some (.int (Int32.ofInt (x + z))) :: t) st h) : V X k n pc (a0 :: a1 :: a2 :: a3 :: a4 :: a5 :: a6 :: some (.int (Int32.ofInt x)) :: t) st h := V_iinc7_ G hd rfl hc (by rw [← zi_add]; exact kk)
theorem V_iinc8 (G : Gd X own cc d kc ks) {a0 a1 a2 a3 a4 a5 a6 a7 : Option Value} {t : List (Option Value)} {x : Int} {z : Int} (hd : decode cc pc = .ok (.iinc 8 z, 3)) (hc : c1 a7 = true) (kk : V X k n (pc + 3) (a0 :: a1 :: a2 :: a3 :: a4 :: a5 :: a6 :: a7 :: some (.int (Int32.ofInt (x + z))) :: t) st h) : V X k n pc (a0 :: a1 :: a2 :: a3 :: a4 :: a5 :: a6 :: a7 :: some (.int (Int32.ofInt x)) :: t) st h := V_iinc8_ G hd rfl hc (by rw [← zi_add]; exact kk)
theorem V_iinc9 (G : Gd X own cc d kc ks) {a0 a1 a2 a3 a4 a5 a6 a7 a8 : Option Value} {t : List (Option Value)} {x : Int} {z : Int} (hd : decode cc pc = .ok (.iinc 9 z, 3)) (hc : c1 a8 = true) (kk : V X k n (pc + 3) (a0 :: a1 :: a2 :: a3 :: a4 :: a5 :: a6 :: a7 :: a8 :: some (.int (Int32.ofInt (x + z))) :: t) st h) : V X k n pc (a0 :: a1 :: a2 :: a3 :: a4 :: a5 :: a6 :: a7 :: a8 :: some (.int (Int32.ofInt x)) :: t) st h := V_iinc9_ G hd rfl hc (by rw [← zi_add]; exact kk)
theorem V_iinc10 (G : Gd X own cc d kc ks) {a0 a1 a2 a3 a4 a5 a6 a7 a8 a9 : Option Value} {t : List (Option Value)} {x : Int} {z : Int} (hd : decode cc pc = .ok (.iinc 10 z, 3)) (hc : c1 a9 = true) (kk : V X k n (pc + 3) (a0 :: a1 :: a2 :: a3 :: a4 :: a5 :: a6 :: a7 :: a8 :: a9 :: some (.int (Int32.ofInt (x + z))) :: t) st h) : V X k n pc (a0 :: a1 :: a2 :: a3 :: a4 :: a5 :: a6 :: a7 :: a8 :: a9 :: some (.int (Int32.ofInt x)) :: t) st h := V_iinc10_ G hd rfl hc (by rw [← zi_add]; exact kk)
theorem V_iinc11 (G : Gd X own cc d kc ks) {a0 a1 a2 a3 a4 a5 a6 a7 a8 a9 a10 : Option Value} {t : List (Option Value)} {x : Int} {z : Int} (hd : decode cc pc = .ok (.iinc 11 z, 3)) (hc : c1 a10 = true) (kk : V X k n (pc + 3) (a0 :: a1 :: a2 :: a3 :: a4 :: a5 :: a6 :: a7 :: a8 :: a9 :: a10 :: some (.int (Int32.ofInt (x + z))) :: t) st h) : V X k n pc (a0 :: a1 :: a2 :: a3 :: a4 :: a5 :: a6 :: a7 :: a8 :: a9 :: a10 :: some (.int (Int32.ofInt x)) :: t) st h := V_iinc11_ G hd rfl hc (by rw [← zi_add]; exact kk)
theorem V_iinc12 (G : Gd X own cc d kc ks) {a0 a1 a2 a3 a4 a5 a6 a7 a8 a9 a10 a11 : Option Value} {t : List (Option Value)} {x : Int} {z : Int} (hd : decode cc pc = .ok (.iinc 12 z, 3)) (hc : c1 a11 = true) (kk : V X k n (pc + 3) (a0 :: a1 :: a2 :: a3 :: a4 :: a5 :: a6 :: a7 :: a8 :: a9 :: a10 :: a11 :: some (.int (Int32.ofInt (x + z))) :: t) st h) : V X k n pc (a0 :: a1 :: a2 :: a3 :: a4 :: a5 :: a6 :: a7 :: a8 :: a9 :: a10 :: a11 :: some (.int (Int32.ofInt x)) :: t) st h := V_iinc12_ G hd rfl hc (by rw [← zi_add]; exact kk)
theorem V_ifeq (G : Gd X own cc d kc ks) {x : Int} {off : Int} {tgt : Nat} (hd : decode cc pc = .ok (.ifCond .eq off, 3)) (ht : (pc : Int) + off = (tgt : Int)) (hr : inr x) (kt : x = 0 → V X k n tgt ls st h) (kf : ¬ x = 0 → V X k n (pc + 3) ls st h) : V X k n pc ls (.int (Int32.ofInt x) :: st) h := by
  have r0 : inr 0 := ⟨by decide, by decide⟩
  exact V_ifeq_ G hd ht (fun q => kt (by rwa [zi_0, zi_eq hr r0] at q)) (fun q => kf (by rwa [zi_0, zi_eq hr r0] at q))
theorem V_ifne (G : Gd X own cc d kc ks) {x : Int} {off : Int} {tgt : Nat} (hd : decode cc pc = .ok (.ifCond .ne off, 3)) (ht : (pc : Int) + off = (tgt : Int)) (hr : inr x) (kt : ¬ x = 0 → V X k n tgt ls st h) (kf : x = 0 → V X k n (pc + 3) ls st h) : V X k n pc ls (.int (Int32.ofInt x) :: st) h := by
  have r0 : inr 0 := ⟨by decide, by decide⟩
  exact V_ifne_ G hd ht (fun q => kt (by rwa [zi_0, zi_eq hr r0] at q)) (fun q => kf (by rwa [zi_0, zi_eq hr r0] at q))
theorem V_iflt (G : Gd X own cc d kc ks) {x : Int} {off : Int} {tgt : Nat} (hd : decode cc pc = .ok (.ifCond .lt off, 3)) (ht : (pc : Int) + off = (tgt : Int)) (hr : inr x) (kt : x < 0 → V X k n tgt ls st h) (kf : ¬ x < 0 → V X k n (pc + 3) ls st h) : V X k n pc ls (.int (Int32.ofInt x) :: st) h := by
  have r0 : inr 0 := ⟨by decide, by decide⟩
  exact V_iflt_ G hd ht (fun q => kt (by rwa [zi_0, zi_lt hr r0] at q)) (fun q => kf (by rwa [zi_0, zi_lt hr r0] at q))
theorem V_ifge (G : Gd X own cc d kc ks) {x : Int} {off : Int} {tgt : Nat} (hd : decode cc pc = .ok (.ifCond .ge off, 3)) (ht : (pc : Int) + off = (tgt : Int)) (hr : inr x) (kt : 0 ≤ x → V X k n tgt ls st h) (kf : ¬ 0 ≤ x → V X k n (pc + 3) ls st h) : V X k n pc ls (.int (Int32.ofInt x) :: st) h := by
  have r0 : inr 0 := ⟨by decide, by decide⟩
  exact V_ifge_ G hd ht (fun q => kt (by rwa [zi_0, zi_le r0 hr] at q)) (fun q => kf (by rwa [zi_0, zi_le r0 hr] at q))
theorem V_ifgt (G : Gd X own cc d kc ks) {x : Int} {off : Int} {tgt : Nat} (hd : decode cc pc = .ok (.ifCond .gt off, 3)) (ht : (pc : Int) + off = (tgt : Int)) (hr : inr x) (kt : 0 < x → V X k n tgt ls st h) (kf : ¬ 0 < x → V X k n (pc + 3) ls st h) : V X k n pc ls (.int (Int32.ofInt x) :: st) h := by
  have r0 : inr 0 := ⟨by decide, by decide⟩
  exact V_ifgt_ G hd ht (fun q => kt (by rwa [zi_0, zi_lt r0 hr] at q)) (fun q => kf (by rwa [zi_0, zi_lt r0 hr] at q))
theorem V_ifle (G : Gd X own cc d kc ks) {x : Int} {off : Int} {tgt : Nat} (hd : decode cc pc = .ok (.ifCond .le off, 3)) (ht : (pc : Int) + off = (tgt : Int)) (hr : inr x) (kt : x ≤ 0 → V X k n tgt ls st h) (kf : ¬ x ≤ 0 → V X k n (pc + 3) ls st h) : V X k n pc ls (.int (Int32.ofInt x) :: st) h := by
  have r0 : inr 0 := ⟨by decide, by decide⟩
  exact V_ifle_ G hd ht (fun q => kt (by rwa [zi_0, zi_le hr r0] at q)) (fun q => kf (by rwa [zi_0, zi_le hr r0] at q))
theorem V_icmpeq (G : Gd X own cc d kc ks) {x y : Int} {off : Int} {tgt : Nat} (hd : decode cc pc = .ok (.if_icmp .eq off, 3)) (ht : (pc : Int) + off = (tgt : Int)) (hr : inr x) (hr2 : inr y) (kt : x = y → V X k n tgt ls st h) (kf : ¬ x = y → V X k n (pc + 3) ls st h) : V X k n pc ls (.int (Int32.ofInt y) :: .int (Int32.ofInt x) :: st) h := V_icmpeq_ G hd ht (fun q => kt (by rwa [zi_eq hr hr2] at q)) (fun q => kf (by rwa [zi_eq hr hr2] at q))
theorem V_icmpne (G : Gd X own cc d kc ks) {x y : Int} {off : Int} {tgt : Nat} (hd : decode cc pc = .ok (.if_icmp .ne off, 3)) (ht : (pc : Int) + off = (tgt : Int)) (hr : inr x) (hr2 : inr y) (kt : ¬ x = y → V X k n tgt ls st h) (kf : x = y → V X k n (pc + 3) ls st h) : V X k n pc ls (.int (Int32.ofInt y) :: .int (Int32.ofInt x) :: st) h := V_icmpne_ G hd ht (fun q => kt (by rwa [zi_eq hr hr2] at q)) (fun q => kf (by rwa [zi_eq hr hr2] at q))
theorem V_icmplt (G : Gd X own cc d kc ks) {x y : Int} {off : Int} {tgt : Nat} (hd : decode cc pc = .ok (.if_icmp .lt off, 3)) (ht : (pc : Int) + off = (tgt : Int)) (hr : inr x) (hr2 : inr y) (kt : x < y → V X k n tgt ls st h) (kf : ¬ x < y → V X k n (pc + 3) ls st h) : V X k n pc ls (.int (Int32.ofInt y) :: .int (Int32.ofInt x) :: st) h := V_icmplt_ G hd ht (fun q => kt (by rwa [zi_lt hr hr2] at q)) (fun q => kf (by rwa [zi_lt hr hr2] at q))
theorem V_icmpge (G : Gd X own cc d kc ks) {x y : Int} {off : Int} {tgt : Nat} (hd : decode cc pc = .ok (.if_icmp .ge off, 3)) (ht : (pc : Int) + off = (tgt : Int)) (hr : inr x) (hr2 : inr y) (kt : y ≤ x → V X k n tgt ls st h) (kf : ¬ y ≤ x → V X k n (pc + 3) ls st h) : V X k n pc ls (.int (Int32.ofInt y) :: .int (Int32.ofInt x) :: st) h := V_icmpge_ G hd ht (fun q => kt (by rwa [zi_le hr2 hr] at q)) (fun q => kf (by rwa [zi_le hr2 hr] at q))
theorem V_icmpgt (G : Gd X own cc d kc ks) {x y : Int} {off : Int} {tgt : Nat} (hd : decode cc pc = .ok (.if_icmp .gt off, 3)) (ht : (pc : Int) + off = (tgt : Int)) (hr : inr x) (hr2 : inr y) (kt : y < x → V X k n tgt ls st h) (kf : ¬ y < x → V X k n (pc + 3) ls st h) : V X k n pc ls (.int (Int32.ofInt y) :: .int (Int32.ofInt x) :: st) h := V_icmpgt_ G hd ht (fun q => kt (by rwa [zi_lt hr2 hr] at q)) (fun q => kf (by rwa [zi_lt hr2 hr] at q))
theorem V_icmple (G : Gd X own cc d kc ks) {x y : Int} {off : Int} {tgt : Nat} (hd : decode cc pc = .ok (.if_icmp .le off, 3)) (ht : (pc : Int) + off = (tgt : Int)) (hr : inr x) (hr2 : inr y) (kt : x ≤ y → V X k n tgt ls st h) (kf : ¬ x ≤ y → V X k n (pc + 3) ls st h) : V X k n pc ls (.int (Int32.ofInt y) :: .int (Int32.ofInt x) :: st) h := V_icmple_ G hd ht (fun q => kt (by rwa [zi_le hr hr2] at q)) (fun q => kf (by rwa [zi_le hr hr2] at q))
theorem V_tableIn (G : Gd X own cc d kc ks) {dflt lo hi : Int} {offs : Array Int} {len : Nat} {x : Int} {off : Int} {tgt : Nat} (hd : decode cc pc = .ok (.tableswitch dflt lo hi offs, len)) (hr : inr x) (h1 : lo ≤ x) (h2 : x ≤ hi) (ho : offs[(x - lo).toNat]? = some off) (ht : (pc : Int) + off = (tgt : Int)) (kk : V X k n tgt ls st h) : V X k n pc ls (.int (Int32.ofInt x) :: st) h := V_tableIn_ G hd (by rw [zi_toInt hr]; omega) (by rw [zi_toInt hr]; omega) (by rw [zi_toInt hr]; exact ho) ht kk
theorem V_tableOut (G : Gd X own cc d kc ks) {dflt lo hi : Int} {offs : Array Int} {len : Nat} {x : Int} {tgt : Nat} (hd : decode cc pc = .ok (.tableswitch dflt lo hi offs, len)) (hr : inr x) (h1 : x < lo ∨ hi < x) (ht : (pc : Int) + dflt = (tgt : Int)) (kk : V X k n tgt ls st h) : V X k n pc ls (.int (Int32.ofInt x) :: st) h := V_tableOut_ G hd (by rw [zi_toInt hr]; exact h1) ht kk
theorem V_lookup (G : Gd X own cc d kc ks) {dflt : Int} {ps : Array (Int × Int)} {len : Nat} {x : Int} {off : Int} {tgt : Nat} (hd : decode cc pc = .ok (.lookupswitch dflt ps, len)) (hr : inr x) (hp : (ps.toList.zip (ps.toList.drop 1)).all (fun (a, next) => a.1 < next.1) = true) (ho : Op.lookupswitch.offset ps.toList dflt x = off) (ht : (pc : Int) + off = (tgt : Int)) (kk : V X k n tgt ls st h) : V X k n pc ls (.int (Int32.ofInt x) :: st) h := V_lookup_ G hd hp (by rw [zi_toInt hr]; exact ho) ht kk
end VL
