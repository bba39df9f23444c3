section C15

theorem va_ldcWS {p : Program} {l : Launch} {e : Env} {R : Room} {s : State} {m : MethodId} {args : Array Value} {below : List Frame} {meth : Method} {c : Code} {H : Heap} {locs : List Loc} {cells slots : Nat} {Q : State → Prop} {cc : ByteArray} {pc : Nat} {ls : Array Slot} {rest : List Value} (hexec : p.tables.exec = Jvm.exec) (hb : c.code = cc) {own tx : String} {index q : Nat} (hown : s.vm.findClass own = some m.cls) (hZ : vk_R own index tx q s) (hdg : decode cc pc = .ok (.ldc_w index, 3))
    (k : W p l e R s m args below meth c H locs cells slots Q (F0 m (pc + 3) ls (.ref q :: rest))) : W p l e R s m args below meth c H locs cells slots Q (F0 m pc ls rest) := by
  intro T hT X
  obtain ⟨t, a1, b1⟩ := k T hT X
  exact ⟨t, X.ldcStringW hexec hown (text := tx) (a := q) hZ.1 hZ.2 (g := F0 m pc ls rest) rfl (by rw [hb]; exact hdg) t a1, b1⟩
variable {X : Cxt} {own : String} {cc : ByteArray} {d kc ks k n pc : Nat} {ls : List (Option Value)} {st : List Value} {h : Hp}

theorem knF_let {k : Int} (h0 : 0 ≤ k) (h7 : k < 7) : knF (letF k) = k := by
  have hk : k = 0 ∨ k = 1 ∨ k = 2 ∨ k = 3 ∨ k = 4 ∨ k = 5 ∨ k = 6 := by omega
  rcases hk with rfl | rfl | rfl | rfl | rfl | rfl | rfl <;> decide
theorem knF_no {z : Int} (h : ∀ j, 0 ≤ j → j < 7 → letF j ≠ z) : knF z = -1 := by
  have h0 := h 0 (by decide) (by decide)
  have h1 := h 1 (by decide) (by decide)
  have h2 := h 2 (by decide) (by decide)
  have h3 := h 3 (by decide) (by decide)
  have h4 := h 4 (by decide) (by decide)
  have h5 := h 5 (by decide) (by decide)
  have h6 := h 6 (by decide) (by decide)
  simp [letF] at h0 h1 h2 h3 h4 h5 h6
  unfold knF
  split
  · omega
  split
  · omega
  split
  · omega
  split
  · omega
  split
  · omega
  split
  · omega
  split
  · omega
  rfl

/-- the buffer's cells -/
def BfC (h : Hp) (bf : List Int) : Prop := hI h 0 14 = bf.length ∧ (∀ (i : Nat) (z : Int), bf[i]? = some z → hI h 76 (i : Int) = z)
theorem BfC.eq {h h1 : Hp} {bf : List Int} (a : BfC h bf) (e0 : hI h1 0 14 = hI h 0 14) (e : ∀ j, hI h1 76 j = hI h 76 j) : BfC h1 bf := ⟨e0.trans a.1, fun i z hz => (e _).trans (a.2 i z hz)⟩
theorem BfC.at {h : Hp} {bf : List Int} (a : BfC h bf) {k : Int} (h0 : 0 ≤ k) (h1 : k < bf.length) : hI h 76 k = bfA bf k := by
  have hl : k.toNat < bf.length := by omega
  have := a.2 k.toNat _ (List.getElem?_eq_getElem hl)
  rw [show ((k.toNat : Nat) : Int) = k by omega] at this
  rw [this]
  unfold bfA
  rw [List.getElem?_eq_getElem hl]
  rfl
theorem knF_rr {z : Int} : -1 ≤ knF z ∧ knF z ≤ 6 := by
  unfold knF
  constructor
  · repeat' split
    all_goals omega
  · repeat' split
    all_goals omega

end C15
