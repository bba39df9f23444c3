
section M9
/-! the class's own search for readings, as a function: forced heads, then the free words' heads in ascending order -/
def follows (a b : Int) : Prop :=
  if a = 0 then b = 1 ∨ b = 3 ∨ b = 4 ∨ b = 5 else if a = 1 then b = 0 ∨ b = 2 ∨ b = 3 ∨ b = 4 ∨ b = 6 else if a = 3 then b = 3 ∨ b = 4 else b = 0 ∨ b = 2
/-- the kind of a word; ahead of the first one and behind the last one a clause begins -/
def kAt (kd : Int → Int) (n w : Int) : Int := if 0 ≤ w ∧ w < n then kd w else 6
/-- adjectives ahead of a noun: from place b down -/
def adjF (ka : Int → Int) (noun : Int) : Nat → (Int → Int) → (Int → Int) × Int
  | 0, hd => (hd, -1)
  | b + 1, hd => if ka b = 2 then adjF ka noun b (upH hd b noun) else (hd, b)
noncomputable def forcF (ka : Int → Int) : Nat → Int → Int → Int → (Int → Int) → Option ((Int → Int) × Int)
  | 0, _, _, sub, hd => some (hd, sub)
  | m + 1, w, op, sub, hd =>
    if whI (follows (ka (w - 1)) (ka w)) = 0 then none else
    if ka w = 0 then (if ka (adjF ka w w.toNat hd).2 = 6 then forcF ka m (w + 1) op w (upH (adjF ka w w.toNat hd).1 w (adjF ka w w.toNat hd).2) else forcF ka m (w + 1) op sub (upH (adjF ka w w.toNat hd).1 w (adjF ka w w.toNat hd).2))
    else if ka w = 1 then (if sub = -1 then none else forcF ka m (w + 1) op (-1) (upH (upH hd sub w) w op))
    else if ka w = 6 then forcF ka m (w + 1) w sub (upH hd w (w - 1))
    else forcF ka m (w + 1) op sub hd
/-- the words that can still hold one behind 'last': the chain of heads that lie ahead -/
def openF (hd : Int → Int) (x : Int) : Nat → Int → Bool
  | 0, _ => false
  | m + 1, w => if w < 0 then false else if w = x then true else openF hd x m (if hd w < w then hd w else -1)
def joinedF (ka hd : Int → Int) (noun : Int) : Nat → Int → Bool
  | 0, _ => false
  | m + 1, j => if ka j = 5 ∧ hd j = noun then true else joinedF ka hd noun m (j + 1)
def holdF (ka hd : Int → Int) (x w : Int) : Bool :=
  if ka x = 1 then decide (ka w ≠ 5) else if ka x ≠ 0 ∨ ka w = 3 ∨ joinedF ka hd x (w - x - 1).toNat (x + 1) = true then false else decide (ka w = 4 ∨ ka (hd x) ≠ 5)
def hangF (ka : Int → Int) : Nat → Int → (Int → Int) → List (Int → Int)
  | 0, _, hd => [hd]
  | m + 1, w, hd => if ka w = 3 ∨ ka w = 4 ∨ ka w = 5 then
      (List.range w.toNat).flatMap (fun (x : Nat) => if openF hd (x : Int) 12 (w - 1) = true ∧ holdF ka hd (x : Int) w = true then hangF ka m (w + 1) (upH hd w (x : Int)) else [])
    else hangF ka m (w + 1) hd
/-- all readings of a sentence, in their order -/
noncomputable def rds (kd : Int → Int) (n : Int) : List (Int → Int) := match forcF (kAt kd n) n.toNat 0 (-1) (-1) (fun _ => 0) with
  | none => []
  | some (hd, sub) => if 0 < n ∧ sub = -1 ∧ (kAt kd n (n - 1) = 0 ∨ kAt kd n (n - 1) = 1 ∨ kAt kd n (n - 1) = 3) then hangF (kAt kd n) n.toNat 0 hd else []
theorem rds_congr {kd kd' : Int → Int} {n : Int} (h : ∀ w, 0 ≤ w → w < n → kd w = kd' w) : rds kd n = rds kd' n := by
  have e : kAt kd n = kAt kd' n := by
    funext w
    unfold kAt
    by_cases z : 0 ≤ w ∧ w < n
    · rw [if_pos z, if_pos z, h w z.1 z.2]
    · rw [if_neg z, if_neg z]
  unfold rds
  rw [e]
/-! the abstract state: what the reference keeps -/
abbrev Cs : Type := Int → Int
abbrev Sg : Type := Cs × List Cs × Option Cs × Option Cs × List Int
def nS (c : Cs) : Int := c 0
def kdS (c : Cs) : Int → Int := fun w => c (2 + w)
def fxS (c : Cs) : Int → Int := fun w => c (14 + w)
noncomputable def AS (c : Cs) : List (Int → Int) := rds (kdS c) (nS c)
def rowA (A : List (Int → Int)) (k : Int) : Int → Int := (A[k.toNat]?).getD (fun _ => 0)
noncomputable def lfS (c : Cs) : List Int := lfF (fun k => fitsP (nS c) (-1) (fxS c) (rowA (AS c) k)) (AS c).length 0
/-- what is to be shown of the list of readings: the reference's run over the choices lays just it; it has at most 42; each is a tree -/
def RdsOk : Prop := ∀ (kd : Int → Int) (n : Int), 0 ≤ n ∧ n ≤ 12 → (∀ w, 0 ≤ w → w < n → 0 ≤ kd w ∧ kd w ≤ 6) →
  (∀ cw : Int → Int, (∀ w, 0 ≤ w → w < 12 → cw w = 0) → ∃ m, erun kd n m cw (rds kd n)) ∧ (rds kd n).Pairwise (ahd n) ∧ (rds kd n).length ≤ 42 ∧ ∀ f ∈ rds kd n, rok n f ∧ rtd n f
/-- a state value is sound -/
def okS (c : Cs) : Prop := (0 ≤ nS c ∧ nS c ≤ 12) ∧ (∀ w, 0 ≤ w → w < nS c → 0 ≤ kdS c w ∧ kdS c w ≤ 6) ∧ (∀ w, 0 ≤ w → w < 12 → 0 ≤ fxS c w ∧ fxS c w ≤ 14) ∧ (0 ≤ c 1 ∧ (((lfS c).length : Int) = 0 ∨ c 1 < (lfS c).length))
  ∧ (∀ w, nS c ≤ w → w < 12 → c (2 + w) = 0 ∧ c (14 + w) = 0)
def InvS (g : Sg) : Prop := okS g.1 ∧ (∀ c ∈ g.2.1, okS c) ∧ (∀ c, g.2.2.1 = some c → okS c) ∧ (∀ c, g.2.2.2.1 = some c → okS c) ∧ g.2.1.length ≤ 6 ∧ g.2.2.2.2.length ≤ 20 ∧ ∀ z ∈ g.2.2.2.2, 33 ≤ z ∧ z ≤ 126
def cAt (h : Hp) (q : Nat) (b : Int) (c : Cs) : Prop := ∀ j, 0 ≤ j → j < 26 → hI h q (b + j) = c j
def sAt (h : Hp) (k : Int) (s : Option Cs) : Prop := match s with
  | none => hI h 81 k = 0
  | some c => hI h 81 k = 1 ∧ cAt h 80 (26 * k) c
/-- the reference's cells hold the abstract state -/
def RepM (g : Sg) (h : Hp) : Prop := cAt h 78 0 g.1 ∧ hI h 77 3 = g.2.1.length ∧ (∀ (i : Nat) (c : Cs), g.2.1[i]? = some c → cAt h 79 (26 * (i : Int)) c) ∧ sAt h 0 g.2.2.1 ∧ sAt h 1 g.2.2.2.1 ∧ hI h 77 7 = g.2.2.2.2.length ∧ ∀ (i : Nat) (z : Int), g.2.2.2.2[i]? = some z → hI h 82 i = z
def SM (q : Nat) (_ : Int) : Bool := decide (77 ≤ q ∧ q ≤ 96)
theorem Sl_SM {h h1 : Hp} (e : eqx Sl h h1) : eqx SM h h1 := e.mono (fun q j z => by
  simp [SM] at z
  simp [Sl]
  omega)
theorem cAt.eq {h h1 : Hp} {q : Nat} {b : Int} {c : Cs} (a : cAt h q b c) (e : ∀ j, hI h1 q j = hI h q j) : cAt h1 q b c := fun j h1 h2 => (e _).trans (a j h1 h2)
theorem sAt.eq {h h1 : Hp} {k : Int} {s : Option Cs} (a : sAt h k s) (e1 : ∀ j, hI h1 81 j = hI h 81 j) (e2 : ∀ j, hI h1 80 j = hI h 80 j) : sAt h1 k s := by
  cases s with
  | none => exact (e1 _).trans a
  | some c => exact ⟨(e1 _).trans a.1, a.2.eq e2⟩
theorem RepM.eq {g : Sg} {h h1 : Hp} (a : RepM g h) (e : ∀ q j, (78 ≤ q ∧ q ≤ 82 ∨ q = 77 ∧ (j = 3 ∨ j = 7)) → hI h1 q j = hI h q j) : RepM g h1 := by
  obtain ⟨a1, a2, a3, a4, a5, a6, a7⟩ := a
  exact ⟨a1.eq (fun j => e 78 j (by omega)), (e 77 3 (by omega)).trans a2, fun i c hc => (a3 i c hc).eq (fun j => e 79 j (by omega)), a4.eq (fun j => e 81 j (by omega)) (fun j => e 80 j (by omega)), a5.eq (fun j => e 81 j (by omega)) (fun j => e 80 j (by omega)), (e 77 7 (by omega)).trans a6, fun i z hz => (e 82 _ (by omega)).trans (a7 i z hz)⟩
theorem RepM.lays {g : Sg} {h h1 : Hp} (a : RepM g h) (e : eqx Sl h h1) : RepM g h1 := a.eq (fun q j z => e.1 q j (by unfold Sl; simp; omega))
theorem RepM.thr {g : Sg} {h : Hp} {v : Int} (a : RepM g h) : RepM g (sI h 77 0 v) := a.eq (fun q j z => by rw [hI_sI, if_neg (by omega)])
/-- the readings are laid in the reference's cells -/
def LaidM (c : Cs) (h : Hp) : Prop := hI h 77 16 = (AS c).length ∧ rowsAt (nS c) h (AS c) ∧ leftAt h (lfS c)
theorem lfF_congr {p q : Int → Prop} : ∀ (m : Nat) (k : Int), (∀ j, k ≤ j → j < k + m → (p j ↔ q j)) → lfF p m k = lfF q m k
  | 0, _, _ => rfl
  | m + 1, k, h => by rw [lfF, lfF, whI_eq (h k (by omega) (by omega)), lfF_congr m (k + 1) (fun j h1 h2 => h j (by omega) (by omega))]
theorem fitsP_congr {n b1 : Int} {fx f g : Int → Int} (h : ∀ w, 0 ≤ w → w < n → f w = g w) : fitsP n b1 fx f ↔ fitsP n b1 fx g := by
  unfold fitsP
  constructor
  · intro q w h1 h2 h3; rw [← h w h1 h2]; exact q w h1 h2 h3
  · intro q w h1 h2 h3; rw [h w h1 h2]; exact q w h1 h2 h3
theorem rowA_at {A : List (Int → Int)} {i : Nat} {f : Int → Int} (h : A[i]? = some f) : rowA A (i : Int) = f := by
  unfold rowA
  rw [Int.toNat_natCast, h]
  rfl
theorem fxS_congr {n b1 : Int} {fx fx' f : Int → Int} (h : ∀ w, 0 ≤ w → w < n → fx w = fx' w) : fitsP n b1 fx f ↔ fitsP n b1 fx' f := by
  unfold fitsP
  constructor
  · intro q w h1 h2 h3; rw [← h w h1 h2] at h3 ⊢; exact q w h1 h2 h3
  · intro q w h1 h2 h3; rw [h w h1 h2] at h3 ⊢; exact q w h1 h2 h3

end M9
