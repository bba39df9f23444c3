
section M5
/-- reading by choices: how many words are read; the stack and the heads where all are; how many choices each word had -/
noncomputable def rdF (kd cw : Int → Int) : Nat → Int → List E3 → (Int → Int) → (Int → Int) → Int × Option St3 × (Int → Int)
  | 0, w, L, hd, cn => (w, some (L, hd), cn)
  | m + 1, w, L, hd, cn => match stepW (kd w) w (cw w) L hd with
    | none => (w, none, upH cn w (canW (kd w) L))
    | some (L2, hd2) => rdF kd cw m (w + 1) L2 hd2 (upH cn w (canW (kd w) L))
def rres (n x : Int) (h1 : Hp) (R : Int × Option St3 × (Int → Int)) : Prop := x = R.1 ∧ 0 ≤ x ∧ x ≤ n ∧ hI h1 87 = R.2.2 ∧ match R.2.1 with
  | some (L, hd) => x = n ∧ okL n L ∧ stk h1 L ∧ hI h1 77 11 = L.length ∧ hI h1 88 = hd
  | none => x < n
theorem okL_0 : okL 0 [(0, 0, -1)] := ⟨by simp, fun e he => by simp at he; subst he; exact ⟨by decide, by decide, by decide⟩, fun e he => by simp at he; subst he; exact ⟨by decide, by decide⟩, by simp⟩

theorem stk_all {h : Hp} {p : Int → Prop} : ∀ {L : List E3}, stk h L → ((∀ j : Int, 0 ≤ j → j < L.length → p (hI h 83 j)) ↔ ∀ e ∈ L, p e.1)
  | [], _ => by simp; intro j h1 h2; omega
  | e :: L, s => by
    obtain ⟨s1, -, -, s4⟩ := s
    have ih := stk_all (p := p) s4
    constructor
    · intro q x hx
      rcases List.mem_cons.mp hx with rfl | hx
      · rw [← s1]; exact q _ (by omega) (by simp; omega)
      · exact ih.mp (fun j h1 h2 => q j h1 (by simp; omega)) x hx
    · intro q j h1 h2
      by_cases hj : j = L.length
      · rw [hj, s1]; exact q e List.mem_cons_self
      · exact ih.mpr (fun x hx => q x (List.mem_cons_of_mem _ hx)) j h1 (by simp at h2; omega)
theorem bI_c {p q : Prop} [Decidable p] [Decidable q] (h : p ↔ q) : bI p = bI q := by
  unfold bI
  by_cases z : p
  · rw [if_pos z, if_pos (h.mp z)]
  · rw [if_neg z, if_neg (fun y => z (h.mpr y))]
def compl (a : Int) : Prop := a = 5 ∨ a = 2 ∨ a = 3
/-- all open parts below place k can end -/
noncomputable def whI (p : Prop) : Int := @bI p (Classical.propDecidable p)
theorem whI_01 (p : Prop) : whI p = 0 ∨ whI p = 1 := by unfold whI bI; split <;> simp
theorem whI_t {p : Prop} (h : p) : whI p = 1 := by unfold whI bI; rw [if_pos h]
theorem whI_f {p : Prop} (h : ¬ p) : whI p = 0 := by unfold whI bI; rw [if_neg h]
theorem whI_0 {p : Prop} : whI p = 0 ↔ ¬ p := ⟨fun h z => absurd ((whI_t z).symm.trans h) (by decide), whI_f⟩

def aheadF (f g : Int → Int) : Nat → Int → Bool
  | 0, _ => false
  | m + 1, w => if f w = g w then aheadF f g m (w + 1) else decide (f w < g w)

/-- the next row of choices: the last word ahead of m with a choice left takes the next one -/
def nxF (cw cn : Int → Int) : Nat → Option (Int → Int)
  | 0 => none
  | m + 1 => if cn m ≤ cw m + 1 then nxF cw cn m else some (fun j => if j = m then cw m + 1 else if (m : Int) < j ∧ j < 12 then 0 else cw j)
def S86 (q : Nat) (_ : Int) : Bool := q == 86
def nxres (x : Int) (h h1 : Hp) : Option (Int → Int) → Prop
  | none => x = 0 ∧ h1 = h
  | some c => x = 1 ∧ eqx S86 h h1 ∧ Rg h1 ∧ hI h1 86 = c


end M5
