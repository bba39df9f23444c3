
section M3
theorem cands_n {kd a b c : Int} {T : List E3} (h : ¬ (a = 5 ∨ a = 2 ∨ a = 3)) : cands kd ((a, b, c) :: T) = [] := by rw [cands, if_neg h]
theorem cands_t {kd a b c : Int} {T : List E3} (h : a = 5 ∨ a = 2 ∨ a = 3) (e : if kd = 5 then a = 5 ∧ c = 1 else a ≠ 5 ∨ kd = 4) : cands kd ((a, b, c) :: T) = ((a, b, c) :: T) :: cands kd T := by
  rw [cands, if_pos h]
  split
  · next z => rw [if_pos z] at e; rw [if_pos e]
  · next z => rw [if_neg z] at e; rw [if_pos e]
theorem cands_f {kd a b c : Int} {T : List E3} (h : a = 5 ∨ a = 2 ∨ a = 3) (e : ¬ (if kd = 5 then a = 5 ∧ c = 1 else a ≠ 5 ∨ kd = 4)) : cands kd ((a, b, c) :: T) = cands kd T := by
  rw [cands, if_pos h]
  split
  · next z => rw [if_pos z] at e; rw [if_neg e]
  · next z => rw [if_neg z] at e; rw [if_neg e]
theorem cands_len (kd : Int) : ∀ L : List E3, (cands kd L).length ≤ L.length
  | [] => by simp [cands]
  | (a, b, c) :: T => by
    have := cands_len kd T
    rw [cands]
    split <;> (try split) <;> (try split) <;> simp <;> omega
/-- what chosen answers, by what is left to look at -/
def mChosen (h : Hp) (w n : Int) : Hp := sI h 87 w n
theorem pickF_1 (cw : Int) : ∀ (cs : List (List E3)) (n its : Int), (pickF cw cs n its).1 = n + cs.length
  | [], n, its => by simp [pickF]
  | S :: cs, n, its => by rw [pickF, pickF_1 cw cs]; simp; omega
theorem pickF_lt (cw : Int) : ∀ (cs : List (List E3)) (n its : Int), cw < n → (pickF cw cs n its).2 = its
  | [], n, its, _ => rfl
  | S :: cs, n, its, h => by rw [pickF, if_neg (by omega), pickF_lt cw cs _ _ (by omega)]
theorem pickF_2 (cw : Int) : ∀ (cs : List (List E3)) (n its : Int), n ≤ cw → (pickF cw cs n its).2 = match cs[(cw - n).toNat]? with
    | some S => (S.length : Int) - 1
    | none => its
  | [], n, its, _ => by simp [pickF]
  | S :: cs, n, its, h => by
    rw [pickF]
    by_cases e : n = cw
    · rw [if_pos e, pickF_lt cw cs _ _ (by omega), show (cw - n).toNat = 0 by omega]
      rfl
    · rw [if_neg e, pickF_2 cw cs _ _ (by omega), show (cw - n).toNat = (cw - (n + 1)).toNat + 1 by omega]
      rfl
noncomputable def hangStep (w kd cw : Int) (L : List E3) (hd : Int → Int) : Option St3 := match (cands kd L)[cw.toNat]? with
  | some ((a, b, c) :: T) => if kd = 4 then some ((7, w, 0) :: ((if a = 2 then 3 else a), b, c) :: T, upH hd w b) else if kd = 5 then some ((6, w, c) :: T, upH hd w b) else some (((if a = 2 then 3 else a), b, c) :: T, upH hd w b)
  | _ => none
/-- the parts that can hold are ends of the stack, not empty -/
theorem cands_suf (kd : Int) : ∀ (L S : List E3), S ∈ cands kd L → S ≠ [] ∧ S.length ≤ L.length ∧ (∀ h, stk h L → stk h S) ∧ ∀ e ∈ S, e ∈ L
  | [], S, h => by simp [cands] at h
  | (a, b, c) :: T, S, h => by
    have ih := cands_suf kd T S
    have key : S = (a, b, c) :: T ∨ S ∈ cands kd T := by
      rw [cands] at h
      split at h
      · split at h <;> split at h <;> first | exact (List.mem_cons.mp h).elim Or.inl Or.inr | exact Or.inr h
      · simp at h
    rcases key with rfl | h2
    · exact ⟨by simp, Nat.le_refl _, fun _ z => z, fun e he => he⟩
    · obtain ⟨q1, q2, q3, q4⟩ := ih h2
      exact ⟨q1, by simp; omega, fun g z => q3 g z.2.2.2, fun e he => List.mem_cons_of_mem _ (q4 e he)⟩
theorem cands_top {kd : Int} : ∀ (L : List E3) {a b c : Int} {T : List E3}, (a, b, c) :: T ∈ cands kd L → (a = 5 ∨ a = 2 ∨ a = 3)
  | [], a, b, c, T, h => by simp [cands] at h
  | (a', b', c') :: T', a, b, c, T, h => by
    rw [cands] at h
    split at h
    · next hz =>
      split at h <;> split at h <;> first
        | (rcases List.mem_cons.mp h with e | h
           · cases e; exact hz
           · exact cands_top T' h)
        | exact cands_top T' h
    · simp at h

end M3
