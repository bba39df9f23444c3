
section M2
abbrev E3 : Type := Int × Int × Int
/-- the open parts, the top first, as they lie in the arrays open, word, more -/
def stk (h : Hp) : List E3 → Prop
  | [] => True
  | e :: L => hI h 83 L.length = e.1 ∧ hI h 84 L.length = e.2.1 ∧ hI h 85 L.length = e.2.2 ∧ stk h L
/-- alike but where S says -/
def eqx (S : Nat → Int → Bool) (h h' : Hp) : Prop := (∀ q j, S q j = false → hI h' q j = hI h q j) ∧ hL h' = hL h ∧ hR h' = hR h
theorem eqx.rf {S : Nat → Int → Bool} {h : Hp} : eqx S h h := ⟨fun _ _ _ => rfl, rfl, rfl⟩
theorem eqx.tr {S : Nat → Int → Bool} {h h1 h2 : Hp} (a : eqx S h h1) (b : eqx S h1 h2) : eqx S h h2 := ⟨fun q j e => (b.1 q j e).trans (a.1 q j e), b.2.1.trans a.2.1, b.2.2.trans a.2.2⟩
theorem eqx.st {S : Nat → Int → Bool} {h h1 : Hp} {q : Nat} {j v : Int} (a : eqx S h h1) (b : S q j = true) : eqx S h (sI h1 q j v) := ⟨fun q2 j2 e => by
  rw [hI_sI, if_neg (fun z => by rw [z.1, z.2, b] at e; cases e)]
  exact a.1 q2 j2 e, a.2.1, a.2.2⟩
theorem eqx.mono {S S' : Nat → Int → Bool} {h h1 : Hp} (a : eqx S h h1) (b : ∀ q j, S' q j = false → S q j = false) : eqx S' h h1 := ⟨fun q j e => a.1 q j (b q j e), a.2⟩
def Sp (q : Nat) (j : Int) : Bool := q == 83 || q == 84 || q == 85 || q == 87 || q == 88 || (q == 77 && j == 11)
def Sq (q : Nat) (j : Int) : Bool := q == 83 || q == 84 || q == 85 || q == 88 || (q == 77 && j == 11)
theorem Sq_Sp {h h1 : Hp} (e : eqx Sq h h1) : eqx Sp h h1 := e.mono (fun q j z => by simp [Sp] at z; simp [Sq, z]; exact z.2)
theorem stk_w {h : Hp} {q : Nat} {j v : Int} : ∀ {L : List E3}, (q < 83 ∨ 85 < q ∨ (L.length : Int) ≤ j) → stk h L → stk (sI h q j v) L
  | [], _, _ => trivial
  | e :: L, hq, s => by
    obtain ⟨s1, s2, s3, s4⟩ := s
    have hq2 : q < 83 ∨ 85 < q ∨ (L.length : Int) ≤ j := by simp at hq; omega
    have e1 : ∀ z : Nat, 83 ≤ z → z ≤ 85 → hI (sI h q j v) z L.length = hI h z L.length := fun z h1 h2 => by
      rw [hI_sI, if_neg (by simp at hq; omega)]
    exact ⟨(e1 83 (by omega) (by omega)).trans s1, (e1 84 (by omega) (by omega)).trans s2, (e1 85 (by omega) (by omega)).trans s3, stk_w hq2 s4⟩
def mOpens (h : Hp) (t a b c : Int) : Hp := sI (sI (sI (sI h 83 t a) 84 t b) 85 t c) 77 11 (t + 1)
theorem mOpens_stk {h : Hp} {L : List E3} {t a b c : Int} (ht : t = L.length) (s : stk h L) : stk (mOpens h t a b c) ((a, b, c) :: L) ∧ hI (mOpens h t a b c) 77 11 = ((a, b, c) :: L).length := by
  subst ht
  refine ⟨⟨?_, ?_, ?_, ?_⟩, ?_⟩
  · simp [mOpens, hI_sI]
  · simp [mOpens, hI_sI]
  · simp [mOpens, hI_sI]
  · exact stk_w (by omega) (stk_w (by omega) (stk_w (by omega) (stk_w (by omega) s)))
  · simp [mOpens, hI_sI]
theorem mOpens_ne {h : Hp} {t a b c : Int} {q : Nat} {j : Int} (h1 : q ≠ 83) (h2 : q ≠ 84) (h3 : q ≠ 85) (h4 : q ≠ 77) : hI (mOpens h t a b c) q j = hI h q j := by
  simp [mOpens, hI_sI, h1, h2, h3, h4]
theorem mOpens_eqx {S : Nat → Int → Bool} {h h1 : Hp} {t a b c : Int} (e : eqx S h h1) (h3 : S 83 t = true) (h4 : S 84 t = true) (h5 : S 85 t = true) (h7 : S 77 11 = true) : eqx S h (mOpens h1 t a b c) := (((e.st h3).st h4).st h5).st h7
theorem mOpens_Rg {h : Hp} {t a b c : Int} (r : Rg h) (ht : inr (t + 1)) (ha : inr a) (hb : inr b) (hc : inr c) : Rg (mOpens h t a b c) := (((r.sI ha).sI hb).sI hc).sI ht
def wants (a : Int) : Prop := a = 0 ∨ a = 2 ∨ a = 7 ∨ a = 6


def upH (f : Int → Int) (k v : Int) : Int → Int := fun j => if j = k then v else f j
def fillH (f : Int → Int) (s w : Int) : Int → Int := fun j => if s ≤ j ∧ j < w then w else f j
abbrev St3 : Type := List E3 × (Int → Int)
def nounTop (w : Int) (L : List E3) (hd : Int → Int) : Option St3 := match L with
  | [] => none
  | (a, b, c) :: T => if a = 0 then some ((5, w, 1) :: (1, w, c) :: T, hd) else if a = 2 then some ((5, w, 1) :: (3, b, c) :: T, upH hd w b) else if a = 7 then some ((5, w, 1) :: T, upH hd w b) else if a = 6 then some ((5, w, 0) :: T, upH hd w b) else none
def nounStep (w : Int) (L : List E3) (hd : Int → Int) : Option St3 := match L with
  | [] => none
  | (a, b, c) :: T => if a = 4 then nounTop w T (fillH hd b w) else nounTop w ((a, b, c) :: T) hd
def verbStep (w : Int) (L : List E3) (hd : Int → Int) : Option St3 := match L with
  | [] => none
  | (a, b, c) :: T => if a = 5 then verbStep w T hd else if a = 1 then some ((2, w, c) :: T, upH (upH hd b w) w c) else none
def adjStep (w : Int) (L : List E3) (hd : Int → Int) : Option St3 := match L with
  | [] => none
  | (a, b, c) :: T => if a = 4 then some ((a, b, c) :: T, hd) else if a = 0 ∨ a = 2 ∨ a = 7 ∨ a = 6 then some ((4, w, 0) :: (a, b, c) :: T, hd) else none
def openStep (w : Int) (L : List E3) (hd : Int → Int) : Option St3 := match L with
  | [] => none
  | (a, b, c) :: T => if a = 2 then some ((0, 0, w) :: (3, b, c) :: T, upH hd w b) else none
def elig (kd a c : Int) : Prop := if kd = 5 then a = 5 ∧ c = 1 else a ≠ 5 ∨ kd = 4
noncomputable def cands (kd : Int) : List E3 → List (List E3)
  | [] => []
  | (a, b, c) :: T => if a = 5 ∨ a = 2 ∨ a = 3 then (if kd = 5 then (if a = 5 ∧ c = 1 then ((a, b, c) :: T) :: cands kd T else cands kd T) else (if a ≠ 5 ∨ kd = 4 then ((a, b, c) :: T) :: cands kd T else cands kd T)) else []
def pickF (cw : Int) : List (List E3) → Int → Int → Int × Int
  | [], n, its => (n, its)
  | S :: cs, n, its => pickF cw cs (n + 1) (if n = cw then (S.length : Int) - 1 else its)
/-- what a step's answer says of the heap behind it -/
def nres (x : Int) (h1 : Hp) : Option St3 → Prop
  | none => x = 0
  | some (L2, hd2) => x = 1 ∧ stk h1 L2 ∧ hI h1 77 11 = L2.length ∧ ∀ k, hI h1 88 k = hd2 k
theorem stk_eq {h g : Hp} : ∀ {L : List E3}, (∀ q, 83 ≤ q → q ≤ 85 → ∀ j : Int, hI g q j = hI h q j) → stk h L → stk g L
  | [], _, _ => trivial
  | e :: L, hq, s => ⟨(hq 83 (by omega) (by omega) _).trans s.1, (hq 84 (by omega) (by omega) _).trans s.2.1, (hq 85 (by omega) (by omega) _).trans s.2.2.1, stk_eq hq s.2.2.2⟩


theorem verb_5 {w a b c : Int} {T : List E3} {hd : Int → Int} (h : a = 5) : verbStep w ((a, b, c) :: T) hd = verbStep w T hd := by rw [verbStep, if_pos h]
theorem verb_1 {w a b c : Int} {T : List E3} {hd : Int → Int} (h : a = 1) : verbStep w ((a, b, c) :: T) hd = some ((2, w, c) :: T, upH (upH hd b w) w c) := by rw [verbStep, if_neg (by omega), if_pos h]
theorem verb_0 {w a b c : Int} {T : List E3} {hd : Int → Int} (h : a ≠ 5) (h2 : a ≠ 1) : verbStep w ((a, b, c) :: T) hd = none := by rw [verbStep, if_neg h, if_neg h2]
end M2
