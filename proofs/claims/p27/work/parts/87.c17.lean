section C17

theorem dp_congr {kd kd' : Int → Int} {n : Int} (h : ∀ w, 0 ≤ w → w < n → kd w = kd' w) : ∀ (m t : Nat) (i j : Int), t ≤ 6 → 0 ≤ i → i ≤ j → j ≤ n → 4 * (j - i) + dpo t < m → dp kd t i j = dp kd' t i j := by
  intro m
  induction m with
  | zero => intro t i j ht hi hij hL h1; omega
  | succ m ih =>
    intro t i j ht hi hij hL h1
    have o0 : dpo 0 = 0 := rfl
    have o1 : dpo 1 = 1 := rfl
    have o2 : dpo 2 = 1 := rfl
    have o3 : dpo 3 = 0 := rfl
    have o4 : dpo 4 = 1 := rfl
    have o5 : dpo 5 = 0 := rfl
    have o6 : dpo 6 = 2 := rfl
    match t, ht with
    | 0, _ =>
      rw [dp_0 hij, dp_0 hij]
      by_cases e : i < j
      · rw [h i hi (by omega), ih 4 (i + 1) j (by omega) (by omega) (by omega) hL (by omega)]
      · rw [if_neg (fun q => e q.1), if_neg (fun q => e q.1)]
    | 1, _ =>
      rw [dp_1 hij, dp_1 hij]
      split
      · rfl
      · exact sumF_congr _ _ (fun k k1 k2 => by rw [ih 0 i k (by omega) (by omega) (by omega) (by omega) (by omega), ih 1 k j (by omega) (by omega) (by omega) (by omega) (by omega)])
    | 2, _ =>
      rw [dp_2 hij, dp_2 hij]
      split
      · rfl
      · rw [h i hi (by omega), ih 2 (i + 1) j (by omega) (by omega) (by omega) hL (by omega)]
        congr 1
        exact sumF_congr _ _ (fun k k1 k2 => by rw [ih 0 i k (by omega) (by omega) (by omega) (by omega) (by omega), ih 2 k j (by omega) (by omega) (by omega) (by omega) (by omega)])
    | 3, _ =>
      rw [dp_3 hij, dp_3 hij]
      split
      · rfl
      · rw [h i hi (by omega), ih 1 (i + 1) j (by omega) (by omega) (by omega) hL (by omega), ih 3 (i + 1) j (by omega) (by omega) (by omega) hL (by omega)]
    | 4, _ =>
      rw [dp_4 hij, dp_4 hij, ih 3 i j (by omega) (by omega) (by omega) hL (by omega)]
      congr 1
      exact sumF_congr _ _ (fun k k1 k2 => by rw [h k (by omega) (by omega), ih 3 i k (by omega) (by omega) (by omega) (by omega) (by omega), ih 3 (k + 1) j (by omega) (by omega) (by omega) (by omega) (by omega)])
    | 5, _ =>
      rw [dp_5 hij, dp_5 hij]
      exact sumF_congr _ _ (fun k k1 k2 => by rw [h k (by omega) (by omega), ih 4 i k (by omega) (by omega) (by omega) (by omega) (by omega), ih 6 (k + 1) j (by omega) (by omega) (by omega) (by omega) (by omega)])
    | 6, _ =>
      rw [dp_6 hij, dp_6 hij, ih 2 i j (by omega) (by omega) (by omega) hL (by omega)]
      congr 1
      exact sumF_congr _ _ (fun k k1 k2 => by rw [h i (by omega) (by omega), ih 4 i k (by omega) (by omega) (by omega) (by omega) (by omega), ih 5 (i + 1) k (by omega) (by omega) (by omega) (by omega) (by omega), ih 2 k j (by omega) (by omega) (by omega) (by omega) (by omega)])
theorem PtC.kd {h : Hp} {c c' : Cs} (P : PtC h c) (hn : nS c' = nS c) (hk : ∀ w, 0 ≤ w → w < nS c → kdS c w = kdS c' w) : PtC h c' := ⟨P.1, fun t ht a b ha hab hb hc hp => by
  rw [hn] at hb
  rw [P.2 t ht a b ha hab hb hc hp]
  exact dp_congr hk (4 * (b - a) + dpo t + 1).toNat t a b ht ha hab hb (by omega)⟩
theorem RdC.u {h : Hp} {q : Nat} {c : Cs} {k v : Int} (R : RdC h q c) (hn : nS c ≤ 12) (hk : k = 1 ∨ 14 ≤ k) : RdC h q (uC c k v) := by
  unfold RdC
  rw [AS_u hn hk, nS_u (by omega)]
  exact R
theorem PtC.u {h : Hp} {c : Cs} {k v : Int} (P : PtC h c) (hn : nS c ≤ 12) (hk : k = 1 ∨ 14 ≤ k) : PtC h (uC c k v) := P.kd (nS_u (by omega)) (fun w w0 w1 => (kdS_u (by omega) w0 (by omega)).symm)
/-- a slot's cells -/
def slC (h : Hp) (k : Int) (q : Nat) (s : Option Cs) : Prop := match s with
  | none => hI h 75 k = 0
  | some c => hI h 75 k = 1 ∧ StC h q c
theorem slC.eq {h h1 : Hp} {k : Int} {q : Nat} {s : Option Cs} (a : slC h k q s) (e : ∀ z j, z = 75 ∨ z = q ∨ z = q + 1 ∨ z = q + 2 → hI h1 z j = hI h z j) : slC h1 k q s := by
  cases s with
  | none => exact (e 75 k (by omega)).trans a
  | some c => exact ⟨(e 75 k (by omega)).trans a.1, a.2.eq (fun z j q => e z j (by omega))⟩
def SlC (h : Hp) (s0 s1 : Option Cs) : Prop := LsC h 67 71 [68, 72] ∧ slC h 0 68 s0 ∧ slC h 1 72 s1
theorem SlC.eq {h h1 : Hp} {s0 s1 : Option Cs} (a : SlC h s0 s1) (e : ∀ z j, 67 ≤ z ∧ z ≤ 75 → hI h1 z j = hI h z j) (eR : ∀ j, hR h1 71 j = hR h 71 j) : SlC h1 s0 s1 := by
  obtain ⟨⟨b1, b2, b3, b4⟩, a2, a3⟩ := a
  exact ⟨⟨(e _ _ (by omega)).trans b1, fun i x hx => (eR _).trans (b2 i x hx), b3, b4⟩, a2.eq (fun z j q => e z j (by omega)), a3.eq (fun z j q => e z j (by omega))⟩
/-- the class's cells hold the state g -/
def RepC (g : Sg) (h : Hp) : Prop := BodyC h g.1 ∧ (∃ P, SvC h P g.2.1) ∧ SlC h g.2.2.1 g.2.2.2.1 ∧ BfC h g.2.2.2.2
def eqC (h h1 : Hp) : Prop := (∀ a j, 77 ≤ a → hI h1 a j = hI h a j) ∧ ∀ a j, 77 ≤ a → hL h1 a j = hL h a j
theorem eqC.rf {h : Hp} : eqC h h := ⟨fun _ _ _ => rfl, fun _ _ _ => rfl⟩
theorem eqC.tr {h h1 h2 : Hp} (a : eqC h h1) (b : eqC h1 h2) : eqC h h2 := ⟨fun q j e => (b.1 q j e).trans (a.1 q j e), fun q j e => (b.2 q j e).trans (a.2 q j e)⟩
def SA (a : Nat) (j : Int) : Bool := decide (1 ≤ a ∧ a ≤ 65) || (a == 0 && (j == 4 || j == 10))
def LA (a : Nat) : Bool := a == 5 || a == 42
def opP (o : Rs) (h : Hp) : Int → Hp → Prop := fun x h1 => o.1 = 0 ∧ x = o.2.1 ∧ RepC o.2.2 h1 ∧ Rg h1 ∧ eqC h h1
def opX (o : Rs) (E1 E2 : String) (h : Hp) : String → Hp → Prop := fun E h1 => h1 = h ∧ ((o.1 = 1 ∧ E = E1) ∨ (o.1 = 2 ∧ E = E2))
theorem SA_0 {a : Nat} {j : Int} (h : (a = 0 ∧ j ≠ 4 ∧ j ≠ 10) ∨ 66 ≤ a) : SA a j = false := by
  simp [SA]
  omega
theorem LA_0 {a : Nat} (h : a ≠ 5 ∧ a ≠ 42) : LA a = false := by simp [LA]; omega
theorem rep_done {g : Sg} {h h1 : Hp} {c : Cs} {sv : List Cs} (R : RepC g h) (e : eqz SA LA h h1) (B : BodyC h1 c) (S : ∃ P, SvC h1 P sv) : RepC (c, sv, g.2.2) h1 ∧ eqC h h1 :=
  ⟨⟨B, S, R.2.2.1.eq (fun z j q => e.1 z j (SA_0 (by omega))) (fun j => e.2.2 71 j (by omega)), R.2.2.2.eq (e.1 0 14 (SA_0 (by omega))) (fun j => e.1 76 j (SA_0 (by omega)))⟩, fun a j q => e.1 a j (SA_0 (by omega)), fun a j q => e.2.1 a j (LA_0 (by omega))⟩
def S13 (a : Nat) (_ : Int) : Bool := decide (1 ≤ a ∧ a ≤ 3)
theorem SV_SA {a : Nat} {j : Int} (h : SA a j = false) : SV a j = false := by simp [SA] at h; simp [SV]; omega
theorem S13_SA {a : Nat} {j : Int} (h : SA a j = false) : S13 a j = false := by simp [SA] at h; simp [S13]; omega
theorem SB1_SA {a : Nat} {j : Int} (h : SA a j = false) : SB1 a j = false := by simp [SA] at h; simp [SB1]; omega
theorem SV_SB1 {a : Nat} {j : Int} (h : SV a j = true) : SB1 a j = false := by simp [SV] at h; simp [SB1]; omega
theorem SV_S13 {a : Nat} {j : Int} (h : SV a j = true) : S13 a j = false := by simp [SV] at h; simp [S13]; omega
theorem L5_LA {a : Nat} (h : LA a = false) : L5 a = false := by simp [LA] at h; simp [L5]; omega
/-- saved, changed in the state, told anew -/
theorem fin_sen {g : Sg} {h h1 h2 h3 : Hp} {c : Cs} {sv : List Cs} {P : List Nat} (R : RepC g h) (a : eqz SV noL h h1) (W : SvC h1 P sv) (b : eqx S13 h1 h2) (e : eqw SB1 L5 h2 h3) (B : BodyC h3 c) : RepC (c, sv, g.2.2) h3 ∧ eqC h h3 := by
  refine rep_done R ?_ B ⟨P, W.eq (fun z j q => (e.1 z j (SV_SB1 q)).trans (b.1 z j (SV_S13 q))) (fun j => by rw [e.2.2, b.2.2])⟩
  exact ((a.mono (fun _ _ => SV_SA) (fun _ _ => rfl)).tr (b.z (fun _ _ => S13_SA))).tr (e.z (fun _ _ => SB1_SA) (fun _ => L5_LA))
theorem stkC {h h1 : Hp} {c : Cs} (S : StC h 1 c) (a : eqz SV noL h h1) : StC h1 1 c := S.eq (fun z j q => a.1 z j (by simp [SV]; omega))
theorem zrk {h h1 h2 : Hp} {c : Cs} (P : PtC h c) (a : eqz SV noL h h1) (b : eqx S13 h1 h2) : zrC h2 := P.1.eq (fun z j q => (b.1 z j (by simp [S13]; omega)).trans (a.1 z j (by simp [SV]; omega)))
theorem ptk {h h1 h2 : Hp} {c : Cs} (P : PtC h c) (a : eqz SV noL h h1) (b : eqx S13 h1 h2) : PtC h2 c := P.eq (fun z j q => (b.1 z j (by simp [S13]; omega)).trans (a.1 z j (by simp [SV]; omega)))
theorem rdk {h h1 h2 : Hp} {c : Cs} (R : RdC h 4 c) (a : eqz SV noL h h1) (b : eqx S13 h1 h2) : RdC h2 4 c := R.eq ((b.1 4 1 (by decide)).trans (a.1 4 1 (by decide))) (fun j => by rw [b.2.1]; exact a.2.1 5 j rfl)
theorem kd_add {c : Cs} {p w : Int} (w0 : 0 ≤ w) : kdS (uC (uC c (2 + nS c) p) 0 (nS c + 1)) w = if w = nS c then p else kdS c w := by
  unfold kdS uC
  rw [if_neg (by omega)]
  by_cases e : w = nS c
  · rw [if_pos (by omega), if_pos e]
  · rw [if_neg (by omega), if_neg e]
theorem kd_chg {c : Cs} {p v w : Int} : kdS (uC c (2 + v) p) w = if w = v then p else kdS c w := by
  unfold kdS uC
  by_cases e : w = v
  · rw [if_pos (by omega), if_pos e]
  · rw [if_neg (by omega), if_neg e]
theorem fx_chg {c : Cs} {p v w : Int} : fxS (uC c (14 + v) p) w = if w = v then p else fxS c w := by
  unfold fxS uC
  by_cases e : w = v
  · rw [if_pos (by omega), if_pos e]
  · rw [if_neg (by omega), if_neg e]
theorem kd_wip {c : Cs} {v w : Int} (w0 : 0 ≤ w) (w1 : w < nS c - 1) : kdS (wipeC c v) w = if v ≤ w then kdS c (w + 1) else kdS c w := by
  unfold kdS wipeC
  rw [if_neg (by omega)]
  by_cases e : v ≤ w
  · rw [if_pos (by omega), if_pos e, show 2 + w + 1 = 2 + (w + 1) by omega]
  · rw [if_neg (by omega), if_neg (by omega), if_neg e]
theorem sum_lf {Q : Int → Prop} {f : Int → Int} (hf : ∀ k, f k = whI (Q k)) : ∀ (m : Nat) (k : Int), sumF f m k = ((lfF Q m k).length : Int)
  | 0, k => rfl
  | m + 1, k => by
    rw [sumF, lfF, sum_lf hf m (k + 1), hf k]
    rcases whI_01 (Q k) with e | e
    · rw [e, if_neg (by decide)]; simp
    · rw [e, if_pos rfl]; simp; omega
theorem lb_lf {c : Cs} (I : okS c) {w z : Int} (hw : 0 ≤ w ∧ w < nS c) (hz : -1 ≤ z) : lbS c w z = ((lfS (uC (uC c (14 + w) (z + 2)) 1 0)).length : Int) := by
  have hn := I.1
  have e1 : nS (uC (uC c (14 + w) (z + 2)) 1 0) = nS c := (nS_u (by omega)).trans (nS_u (by omega))
  have e2 : AS (uC (uC c (14 + w) (z + 2)) 1 0) = AS c := (AS_u (by rw [nS_u (by omega)]; exact hn.2) (Or.inl rfl)).trans (AS_u hn.2 (Or.inr (by omega)))
  have e3 : ∀ j, 0 ≤ j → fxS (uC (uC c (14 + w) (z + 2)) 1 0) j = if j = w then z + 2 else fxS c j := fun j j0 => by rw [fxS_u (by omega) j0, fx_chg]
  unfold lbS lfS
  rw [e2, e1]
  refine sum_lf (fun k => ?_) _ _
  have iff : fitsP (nS c) (-1) (fxS (uC (uC c (14 + w) (z + 2)) 1 0)) (rowA (AS c) k) ↔ fitsP (nS c) w (fxS c) (rowA (AS c) k) ∧ rowA (AS c) k w = z := by
    constructor
    · intro h
      refine ⟨fun j j0 j1 j2 => ?_, ?_⟩
      · have := h j j0 j1
        rw [e3 j j0, if_neg j2.2] at this
        exact this ⟨j2.1, by omega⟩
      · have := h w hw.1 hw.2
        rw [e3 w hw.1, if_pos rfl] at this
        have := this ⟨by omega, by omega⟩
        omega
    · intro h j j0 j1 j2
      rw [e3 j j0] at j2 ⊢
      by_cases e : j = w
      · rw [if_pos e, e]
        have := h.2
        omega
      · rw [if_neg e] at j2 ⊢
        exact h.1 j j0 j1 ⟨j2.1, e⟩
  rw [whI_eq iff]
  by_cases a : fitsP (nS c) w (fxS c) (rowA (AS c) k)
  · by_cases b : rowA (AS c) k w = z
    · rw [whI_t a, if_pos ⟨rfl, b⟩, whI_t ⟨a, b⟩]
    · rw [if_neg (fun q => b q.2), whI_f (fun q => b q.2)]
  · rw [whI_f a, if_neg (fun q => by cases q.1), whI_f (fun q => a q.1)]
theorem eqx.cp {S : Nat → Int → Bool} {h h1 : Hp} {q0 q1 : Nat} {x y z : Int} (a : eqx S h h1) (b : ∀ j, S q1 j = true) : eqx S h (cpH h1 q0 q1 x y z) := ⟨fun q j e => by
  rw [hI_cpH, if_neg (fun w => by rw [w.1, b] at e; cases e)]
  exact a.1 q j e, a.2.1, a.2.2⟩

set_option maxRecDepth 100000 in
set_option maxHeartbeats 1600000 in
theorem c_X6_add {l : Launch} {d : Nat} {h : Hp} (hlt : l.stackTraces = false) (r : Rg h) {g : Sg} (R : RepC g h) (I : InvS g) {p : Int} (hp : inr p) (hd : 36 ≤ d := by omega) : CX l d 2 12 yX6_add cX6_add 2 (Option.some Jvm.ClassFile.FieldType.int) [.ref 0, iv p] h (pI (opP (opAdd g p) h)) (opX (opAdd g p) IAE ISE h) := by
  refine CX.ofV (L := [some (.ref 0), some (.int (Int32.ofInt p))]) RX6 hlt (by decide +kernel) rfl (Nat.le_of_ble_eq_true rfl) rfl (fun X hX G Y E => ?_)
  subst hX
  obtain ⟨S, RD, PT, LF, DR⟩ := R.1
  obtain ⟨P, W⟩ := R.2.1
  have i1 := I.1
  have hn0 := i1.1
  have hn := S.1
  refine V_aload0 G dX6_add_0 ?_
  refine V_iload1 G dX6_add_1 ?_
  refine V_xV1v (d1 := 13) (kc1 := 1) (ks1 := 6) G Y m_X6_79 dX6_add_2 (by first | decide | assumption) (by first | rfl | assumption) (c_X6_needKind hlt hp) (fun E h1 q => ⟨q.1, Or.inl ⟨by unfold opAdd; rw [if_pos q.2.2], q.2.1⟩⟩) (by omega) (by omega) (by omega) (Nat.le_of_ble_eq_true rfl) (fun h_2 hp_2 => ?_)
  obtain ⟨e_2, b_2⟩ := hp_2
  rw [e_2]
  refine V_aload0 G dX6_add_5 ?_
  refine V_getR G fl_X6_12 dX6_add_6 (by first | decide | assumption) (by first | rfl | assumption) rfl (by first | rfl | assumption) ?_
  refine V_cV0i (d1 := 1) G m_X6_82 dX6_add_9 (by first | decide | assumption) (by first | rfl | assumption) (c_X4_size isSt_all.1) (by omega) (by omega) (by omega) (Nat.le_of_ble_eq_true rfl) (fun x_9 h_9 hp_9 => ?_)
  rw [show x_9 = nS g.1 from hp_9.1.trans hn, hp_9.2]
  refine V_bipush G dX6_add_12 (by decide) ?_
  refine V_icmplt G dX6_add_14 (tgt := 27) (by decide) (by first | exact r _ _ | assumption | exact ⟨by omega, by omega⟩) (by first | exact r _ _ | assumption | exact ⟨by omega, by omega⟩) (fun c_14 => ?_) (fun c_14 => ?_)
  ·
    refine V_aload0 G dX6_add_27 ?_
    refine V_cV0v (d1 := 20) G m_X6_93 dX6_add_28 (by first | decide | assumption) (by first | rfl | assumption) (c_X6_saveState r W S hn0) (by omega) (by omega) (by omega) (Nat.le_of_ble_eq_true rfl) (fun h_28 hp_28 => ?_)
    obtain ⟨a1, a2, P1, a3⟩ := hp_28
    have s1 := stkC S a1
    refine V_aload0 G dX6_add_31 ?_
    refine V_getR G fl_X6_12 dX6_add_32 (by first | decide | assumption) (by first | rfl | assumption) rfl (by first | rfl | assumption) ?_
    refine V_iload1 G dX6_add_35 ?_
    refine V_cV1v (d1 := 1) G m_X6_96 dX6_add_36 (by first | decide | assumption) (by first | rfl | assumption) (c_X4_pushWord isSt_all.1 (n := nS g.1) s1.1 hn0 (v := p) (by omega)) (by omega) (by omega) (by omega) (Nat.le_of_ble_eq_true rfl) (fun h_36 hp_36 => ?_)
    subst hp_36
    have b1 : eqx S13 h_28 (sI (sI h_28 2 (nS g.1) p) 1 2 (nS g.1 + 1)) := (eqx.rf.st (by rfl)).st (by rfl)
    refine V_aload0 G dX6_add_39 ?_
    refine V_cV0i (d1 := 24) G m_X6_99 dX6_add_40 (by first | decide | assumption) (by first | rfl | assumption) (c_X6_beginSentence (c := (uC (uC g.1 (2 + nS g.1) p) 0 (nS g.1 + 1))) ((a2.sI hp).sI ⟨by omega, by omega⟩) (okS_add i1 b_2 (by omega)) (by
          rw [hI_sI, if_pos ⟨rfl, rfl⟩]
          show _ = uC _ 0 _ 0
          unfold uC
          rw [if_pos rfl]) (fun w w0 w1 => by
          have e0 : nS (uC (uC g.1 (2 + nS g.1) p) 0 (nS g.1 + 1)) = nS g.1 + 1 := by unfold nS uC; rw [if_pos rfl]
          rw [e0] at w1
          rw [hI_sI, if_neg (by omega), hI_sI, kd_add w0]
          by_cases e : w = nS g.1
          · rw [if_pos ⟨rfl, e⟩, if_pos e]
          · rw [if_neg (fun q => e q.2), if_neg e]
            exact s1.2.2.1 w w0 (by omega)) (zrk PT a1 b1)) (by omega) (by omega) (by omega) (Nat.le_of_ble_eq_true rfl) (fun x_40 h_40 hp_40 => ?_)
    obtain ⟨x0, x2, x3, x4⟩ := hp_40
    have fs := fin_sen R a1 a3 b1 x2 x4
    exact V_reti E dX6_add_43 rfl rfl ⟨_, rfl, ⟨by unfold opAdd; rw [if_neg (fun q => q b_2), if_neg (show ¬ nS g.1 = 12 by omega)], by unfold opAdd; rw [if_neg (fun q => q b_2), if_neg (show ¬ nS g.1 = 12 by omega)]; exact x0, by unfold opAdd; rw [if_neg (fun q => q b_2), if_neg (show ¬ nS g.1 = 12 by omega)]; exact fs.1, x3, fs.2⟩⟩
  ·
    exact V_throw G Y th_ISE dX6_add_17 dX6_add_20 dX6_add_21 dX6_add_23 dX6_add_26 (text := "the sentence is full") (by decide) ⟨rfl, Or.inr ⟨by unfold opAdd; rw [if_neg (fun q => q b_2), if_pos (by omega)], rfl⟩⟩ (by omega) (by omega) (by omega)

set_option maxRecDepth 100000 in
set_option maxHeartbeats 1600000 in
theorem c_X6_change {l : Launch} {d : Nat} {h : Hp} (hlt : l.stackTraces = false) (r : Rg h) {g : Sg} (R : RepC g h) (I : InvS g) {w p : Int} (hw : inr w) (hp : inr p) (hd : 36 ≤ d := by omega) : CX l d 2 12 yX6_change cX6_change 3 (Option.some Jvm.ClassFile.FieldType.int) [.ref 0, iv w, iv p] h (pI (opP (opChange g w p) h)) (opX (opChange g w p) IOB IAE h) := by
  refine CX.ofV (L := [some (.ref 0), some (.int (Int32.ofInt w)), some (.int (Int32.ofInt p))]) RX6 hlt (by decide +kernel) rfl (Nat.le_of_ble_eq_true rfl) rfl (fun X hX G Y E => ?_)
  subst hX
  obtain ⟨S, RD, PT, LF, DR⟩ := R.1
  obtain ⟨P, W⟩ := R.2.1
  have i1 := I.1
  have hn0 := i1.1
  have hn := S.1
  refine V_aload0 G dX6_change_0 ?_
  refine V_iload1 G dX6_change_1 ?_
  refine V_xV1v (d1 := 13) (kc1 := 1) (ks1 := 6) G Y m_X6_102 dX6_change_2 (by first | decide | assumption) (by first | rfl | assumption) (c_X6_needWord hlt hw hn hn0) (fun E h1 q => ⟨q.1, Or.inl ⟨by unfold opChange; rw [if_pos q.2.2], q.2.1⟩⟩) (by omega) (by omega) (by omega) (Nat.le_of_ble_eq_true rfl) (fun h_2 hp_2 => ?_)
  obtain ⟨e_2, b_2⟩ := hp_2
  rw [e_2]
  refine V_aload0 G dX6_change_5 ?_
  refine V_iload2 G dX6_change_6 ?_
  refine V_xV1v (d1 := 13) (kc1 := 1) (ks1 := 6) G Y m_X6_79 dX6_change_7 (by first | decide | assumption) (by first | rfl | assumption) (c_X6_needKind hlt hp) (fun E h1 q => ⟨q.1, Or.inr ⟨by unfold opChange; rw [if_neg (fun z => z b_2), if_pos q.2.2], q.2.1⟩⟩) (by omega) (by omega) (by omega) (Nat.le_of_ble_eq_true rfl) (fun h_7 hp_7 => ?_)
  obtain ⟨e_7, b_7⟩ := hp_7
  rw [e_7]
  refine V_aload0 G dX6_change_10 ?_
  refine V_cV0v (d1 := 20) G m_X6_93 dX6_change_11 (by first | decide | assumption) (by first | rfl | assumption) (c_X6_saveState r W S hn0) (by omega) (by omega) (by omega) (Nat.le_of_ble_eq_true rfl) (fun h_11 hp_11 => ?_)
  obtain ⟨a1, a2, P1, a3⟩ := hp_11
  have s1 := stkC S a1
  refine V_aload0 G dX6_change_14 ?_
  refine V_getR G fl_X6_12 dX6_change_15 (by first | decide | assumption) (by first | rfl | assumption) rfl (by first | rfl | assumption) ?_
  refine V_iload1 G dX6_change_18 ?_
  refine V_iload2 G dX6_change_19 ?_
  refine V_cV2v (d1 := 2) G m_X6_105 dX6_change_20 (by first | decide | assumption) (by first | rfl | assumption) (c_X4_setKind isSt_all.1 (n := nS g.1) s1.1 hn0 (w := w) (v := p) b_2) (by omega) (by omega) (by omega) (Nat.le_of_ble_eq_true rfl) (fun h_20 hp_20 => ?_)
  subst hp_20
  have b1 : eqx S13 h_11 (sI h_11 2 w p) := eqx.rf.st (by rfl)
  refine V_aload0 G dX6_change_23 ?_
  refine V_cV0i (d1 := 24) G m_X6_99 dX6_change_24 (by first | decide | assumption) (by first | rfl | assumption) (c_X6_beginSentence (c := (uC g.1 (2 + w) p)) (a2.sI hp) (okS_chg i1 b_7 b_2) (by
        rw [hI_sI, if_neg (by omega), nS_u (by omega)]
        exact s1.1) (fun z w0 w1 => by
        rw [nS_u (by omega)] at w1
        rw [hI_sI, kd_chg]
        by_cases e : z = w
        · rw [if_pos ⟨rfl, e⟩, if_pos e]
        · rw [if_neg (fun q => e q.2), if_neg e]
          exact s1.2.2.1 z w0 (by omega)) (zrk PT a1 b1)) (by omega) (by omega) (by omega) (Nat.le_of_ble_eq_true rfl) (fun x_24 h_24 hp_24 => ?_)
  obtain ⟨x0, x2, x3, x4⟩ := hp_24
  have fs := fin_sen R a1 a3 b1 x2 x4
  exact V_reti E dX6_change_27 rfl rfl ⟨_, rfl, ⟨by unfold opChange; rw [if_neg (fun q => q b_2), if_neg (fun q => q b_7)], by unfold opChange; rw [if_neg (fun q => q b_2), if_neg (fun q => q b_7)]; exact x0, by unfold opChange; rw [if_neg (fun q => q b_2), if_neg (fun q => q b_7)]; exact fs.1, x3, fs.2⟩⟩

set_option maxRecDepth 100000 in
set_option maxHeartbeats 1600000 in
theorem c_X6_wipe {l : Launch} {d : Nat} {h : Hp} (hlt : l.stackTraces = false) (r : Rg h) {g : Sg} (R : RepC g h) (I : InvS g) {w : Int} (hw : inr w) (hd : 36 ≤ d := by omega) : CX l d 2 12 yX6_wipe cX6_wipe 2 (Option.some Jvm.ClassFile.FieldType.int) [.ref 0, iv w] h (pI (opP (opWipe g w) h)) (opX (opWipe g w) IOB IAE h) := by
  refine CX.ofV (L := [some (.ref 0), some (.int (Int32.ofInt w))]) RX6 hlt (by decide +kernel) rfl (Nat.le_of_ble_eq_true rfl) rfl (fun X hX G Y E => ?_)
  subst hX
  obtain ⟨S, RD, PT, LF, DR⟩ := R.1
  obtain ⟨P, W⟩ := R.2.1
  have i1 := I.1
  have hn0 := i1.1
  have hn := S.1
  refine V_aload0 G dX6_wipe_0 ?_
  refine V_iload1 G dX6_wipe_1 ?_
  refine V_xV1v (d1 := 13) (kc1 := 1) (ks1 := 6) G Y m_X6_102 dX6_wipe_2 (by first | decide | assumption) (by first | rfl | assumption) (c_X6_needWord hlt hw hn hn0) (fun E h1 q => ⟨q.1, Or.inl ⟨by unfold opWipe; rw [if_pos q.2.2], q.2.1⟩⟩) (by omega) (by omega) (by omega) (Nat.le_of_ble_eq_true rfl) (fun h_2 hp_2 => ?_)
  obtain ⟨e_2, b_2⟩ := hp_2
  rw [e_2]
  refine V_aload0 G dX6_wipe_5 ?_
  refine V_cV0v (d1 := 20) G m_X6_93 dX6_wipe_6 (by first | decide | assumption) (by first | rfl | assumption) (c_X6_saveState r W S hn0) (by omega) (by omega) (by omega) (Nat.le_of_ble_eq_true rfl) (fun h_6 hp_6 => ?_)
  obtain ⟨a1, a2, P1, a3⟩ := hp_6
  have s1 := stkC S a1
  refine V_aload0 G dX6_wipe_9 ?_
  refine V_getR G fl_X6_12 dX6_wipe_10 (by first | decide | assumption) (by first | rfl | assumption) rfl (by first | rfl | assumption) ?_
  refine V_iload1 G dX6_wipe_13 ?_
  refine V_cV1v (d1 := 13) G m_X6_109 dX6_wipe_14 (by first | decide | assumption) (by first | rfl | assumption) (c_X4_dropWord isSt_all.1 (n := nS g.1) s1.1 hn0 (w := w) b_2) (by omega) (by omega) (by omega) (Nat.le_of_ble_eq_true rfl) (fun h_14 hp_14 => ?_)
  subst hp_14
  have b1 : eqx S13 h_6 (sI (cpH h_6 2 2 (w + 1) w (nS g.1 - w - 1)) 1 2 (nS g.1 - 1)) := (eqx.rf.cp (fun _ => rfl)).st (by rfl)
  refine V_aload0 G dX6_wipe_17 ?_
  refine V_cV0i (d1 := 24) G m_X6_99 dX6_wipe_18 (by first | decide | assumption) (by first | rfl | assumption) (c_X6_beginSentence (c := (wipeC g.1 w)) ((a2.cp).sI ⟨by omega, by omega⟩) (okS_wip i1 b_2) (by
        rw [hI_sI, if_pos ⟨rfl, rfl⟩]
        show _ = wipeC _ _ 0
        unfold wipeC
        rw [if_pos rfl]) (fun z w0 w1 => by
        have e0 : nS (wipeC g.1 w) = nS g.1 - 1 := by unfold nS wipeC; rw [if_pos rfl]; rfl
        rw [e0] at w1
        rw [hI_sI, if_neg (by omega), hI_cpH, kd_wip w0 w1]
        by_cases e : w ≤ z
        · rw [if_pos ⟨rfl, by omega, by omega⟩, if_pos e, s1.2.2.1 _ (by omega) (by omega), show w + 1 + (z - w) = z + 1 by omega]
        · rw [if_neg (by omega), if_neg e]
          exact s1.2.2.1 z w0 (by omega)) (zrk PT a1 b1)) (by omega) (by omega) (by omega) (Nat.le_of_ble_eq_true rfl) (fun x_18 h_18 hp_18 => ?_)
  obtain ⟨x0, x2, x3, x4⟩ := hp_18
  have fs := fin_sen R a1 a3 b1 x2 x4
  exact V_reti E dX6_wipe_21 rfl rfl ⟨_, rfl, ⟨by unfold opWipe; rw [if_neg (fun q => q b_2)], by unfold opWipe; rw [if_neg (fun q => q b_2)]; exact x0, by unfold opWipe; rw [if_neg (fun q => q b_2)]; exact fs.1, x3, fs.2⟩⟩

set_option maxRecDepth 100000 in
set_option maxHeartbeats 1600000 in
theorem c_X6_loosen {l : Launch} {d : Nat} {h : Hp} (hlt : l.stackTraces = false) (r : Rg h) {g : Sg} (R : RepC g h) (I : InvS g) {w : Int} (hw : inr w) (hd : 36 ≤ d := by omega) : CX l d 2 12 yX6_loosen cX6_loosen 2 (Option.some Jvm.ClassFile.FieldType.int) [.ref 0, iv w] h (pI (opP (opLoosen g w) h)) (opX (opLoosen g w) IOB IAE h) := by
  refine CX.ofV (L := [some (.ref 0), some (.int (Int32.ofInt w))]) RX6 hlt (by decide +kernel) rfl (Nat.le_of_ble_eq_true rfl) rfl (fun X hX G Y E => ?_)
  subst hX
  obtain ⟨S, RD, PT, LF, DR⟩ := R.1
  obtain ⟨P, W⟩ := R.2.1
  have i1 := I.1
  have hn0 := i1.1
  have hn := S.1
  refine V_aload0 G dX6_loosen_0 ?_
  refine V_iload1 G dX6_loosen_1 ?_
  refine V_xV1v (d1 := 13) (kc1 := 1) (ks1 := 6) G Y m_X6_102 dX6_loosen_2 (by first | decide | assumption) (by first | rfl | assumption) (c_X6_needWord hlt hw hn hn0) (fun E h1 q => ⟨q.1, Or.inl ⟨by unfold opLoosen; rw [if_pos q.2.2], q.2.1⟩⟩) (by omega) (by omega) (by omega) (Nat.le_of_ble_eq_true rfl) (fun h_2 hp_2 => ?_)
  obtain ⟨e_2, b_2⟩ := hp_2
  rw [e_2]
  refine V_aload0 G dX6_loosen_5 ?_
  refine V_cV0v (d1 := 20) G m_X6_93 dX6_loosen_6 (by first | decide | assumption) (by first | rfl | assumption) (c_X6_saveState r W S hn0) (by omega) (by omega) (by omega) (Nat.le_of_ble_eq_true rfl) (fun h_6 hp_6 => ?_)
  obtain ⟨a1, a2, P1, a3⟩ := hp_6
  have s1 := stkC S a1
  refine V_aload0 G dX6_loosen_9 ?_
  refine V_getR G fl_X6_12 dX6_loosen_10 (by first | decide | assumption) (by first | rfl | assumption) rfl (by first | rfl | assumption) ?_
  refine V_iload1 G dX6_loosen_13 ?_
  refine V_bipush G dX6_loosen_14 (by decide) ?_
  refine V_cV2v (d1 := 2) G m_X6_121 dX6_loosen_16 (by first | decide | assumption) (by first | rfl | assumption) (c_X4_setFixed isSt_all.1 (n := nS g.1) s1.1 hn0 (w := w) (v := -2) b_2) (by omega) (by omega) (by omega) (Nat.le_of_ble_eq_true rfl) (fun h_16 hp_16 => ?_)
  subst hp_16
  have b1 : eqx S13 h_6 (sI h_6 3 w (-2)) := eqx.rf.st (by rfl)
  refine V_aload0 G dX6_loosen_19 ?_
  refine V_cV0i (d1 := 23) G m_X6_124 dX6_loosen_20 (by first | decide | assumption) (by first | rfl | assumption) (c_X6_beginHeads (c := uC (uC g.1 (14 + w) (0)) 1 0) (a2.sI ⟨by omega, by omega⟩) (okS_fx i1 b_2 (by omega)) (by unfold uC; rw [if_pos rfl]) (by
        rw [hI_sI, if_neg (by omega), nS_u (by omega), nS_u (by omega)]
        exact s1.1) (fun z w0 w1 => by
        rw [nS_u (by omega), nS_u (by omega)] at w1
        rw [hI_sI, if_neg (by omega), kdS_u (by omega) w0 (by omega), kdS_u (by omega) w0 (by omega)]
        exact s1.2.2.1 z w0 w1) (fun z w0 w1 => by
        rw [hI_sI, fxS_u (by omega) w0, fx_chg]
        by_cases e : z = w
        · rw [if_pos ⟨rfl, e⟩, if_pos e]
          omega
        · rw [if_neg (fun q => e q.2), if_neg e]
          exact s1.2.2.2 z w0 w1) (((rdk RD a1 b1).u hn0.2 (Or.inr (by omega))).u (by rw [nS_u (by omega)]; exact hn0.2) (Or.inl rfl)) (((ptk PT a1 b1).u hn0.2 (Or.inr (by omega))).u (by rw [nS_u (by omega)]; exact hn0.2) (Or.inl rfl))) (by omega) (by omega) (by omega) (Nat.le_of_ble_eq_true rfl) (fun x_20 h_20 hp_20 => ?_)
  obtain ⟨x0, x2, x3, x4⟩ := hp_20
  have fs := fin_sen R a1 a3 b1 x2 x4
  exact V_reti E dX6_loosen_23 rfl rfl ⟨_, rfl, ⟨by unfold opLoosen; rw [if_neg (fun q => q b_2)], by unfold opLoosen; rw [if_neg (fun q => q b_2)]; exact x0, by unfold opLoosen; rw [if_neg (fun q => q b_2)]; exact fs.1, x3, fs.2⟩⟩

set_option maxRecDepth 100000 in
set_option maxHeartbeats 1600000 in
theorem c_X6_fix {l : Launch} {d : Nat} {h : Hp} (hlt : l.stackTraces = false) (r : Rg h) {g : Sg} (R : RepC g h) (I : InvS g) {w z : Int} (hw : inr w) (hz : inr z) (hd : 36 ≤ d := by omega) : CX l d 3 18 yX6_fix cX6_fix 3 (Option.some Jvm.ClassFile.FieldType.int) [.ref 0, iv w, iv z] h (pI (opP (opFix g w z) h)) (opX (opFix g w z) IOB ISE h) := by
  refine CX.ofV (L := [some (.ref 0), some (.int (Int32.ofInt w)), some (.int (Int32.ofInt z))]) RX6 hlt (by decide +kernel) rfl (Nat.le_of_ble_eq_true rfl) rfl (fun X hX G Y E => ?_)
  subst hX
  obtain ⟨S, RD, PT, LF, DR⟩ := R.1
  obtain ⟨P, W⟩ := R.2.1
  have i1 := I.1
  have hn0 := i1.1
  have hn := S.1
  have lr := lbS_r (c := g.1) (rds_len i1) w z
  refine V_aload0 G dX6_fix_0 ?_
  refine V_iload1 G dX6_fix_1 ?_
  refine V_xV1v (d1 := 13) (kc1 := 1) (ks1 := 6) G Y m_X6_102 dX6_fix_2 (by first | decide | assumption) (by first | rfl | assumption) (c_X6_needWord hlt hw hn hn0) (fun E h1 q => ⟨q.1, Or.inl ⟨by unfold opFix; rw [if_pos (Or.inl q.2.2)], q.2.1⟩⟩) (by omega) (by omega) (by omega) (Nat.le_of_ble_eq_true rfl) (fun h_2 hp_2 => ?_)
  obtain ⟨e_2, b_2⟩ := hp_2
  rw [e_2]
  refine V_aload0 G dX6_fix_5 ?_
  refine V_iload1 G dX6_fix_6 ?_
  refine V_iload2 G dX6_fix_7 ?_
  refine V_xV2v (d1 := 13) (kc1 := 1) (ks1 := 6) G Y m_X6_112 dX6_fix_8 (by first | decide | assumption) (by first | rfl | assumption) (c_X6_needHead hlt hw hz hn hn0) (fun E h1 q => ⟨q.1, Or.inl ⟨by unfold opFix; rw [if_pos (Or.inr q.2.2)], q.2.1⟩⟩) (by omega) (by omega) (by omega) (Nat.le_of_ble_eq_true rfl) (fun h_8 hp_8 => ?_)
  obtain ⟨e_8, b_8⟩ := hp_8
  rw [e_8]
  refine V_aload0 G dX6_fix_11 ?_
  refine V_iload1 G dX6_fix_12 ?_
  refine V_iload2 G dX6_fix_13 ?_
  refine V_cV2i (d1 := 4) G m_X6_115 dX6_fix_14 (by first | decide | assumption) (by first | rfl | assumption) (c_X6_leftIf i1 S RD (w := w) (hd1 := z) b_2 hz) (by omega) (by omega) (by omega) (Nat.le_of_ble_eq_true rfl) (fun x_14 h_14 hp_14 => ?_)
  rw [hp_14.1, hp_14.2]
  refine V_ifne G dX6_fix_17 (tgt := 30) (by decide) (by first | exact r _ _ | assumption | exact ⟨by omega, by omega⟩) (fun c_17 => ?_) (fun c_17 => ?_)
  ·
    refine V_aload0 G dX6_fix_30 ?_
    refine V_cV0v (d1 := 20) G m_X6_93 dX6_fix_31 (by first | decide | assumption) (by first | rfl | assumption) (c_X6_saveState r W S hn0) (by omega) (by omega) (by omega) (Nat.le_of_ble_eq_true rfl) (fun h_31 hp_31 => ?_)
    obtain ⟨a1, a2, P1, a3⟩ := hp_31
    have s1 := stkC S a1
    refine V_aload0 G dX6_fix_34 ?_
    refine V_getR G fl_X6_12 dX6_fix_35 (by first | decide | assumption) (by first | rfl | assumption) rfl (by first | rfl | assumption) ?_
    refine V_iload1 G dX6_fix_38 ?_
    refine V_iload2 G dX6_fix_39 ?_
    refine V_cV2v (d1 := 2) G m_X6_121 dX6_fix_40 (by first | decide | assumption) (by first | rfl | assumption) (c_X4_setFixed isSt_all.1 (n := nS g.1) s1.1 hn0 (w := w) (v := z) b_2) (by omega) (by omega) (by omega) (Nat.le_of_ble_eq_true rfl) (fun h_40 hp_40 => ?_)
    subst hp_40
    have b1 : eqx S13 h_31 (sI h_31 3 w z) := eqx.rf.st (by rfl)
    refine V_aload0 G dX6_fix_43 ?_
    refine V_cV0i (d1 := 23) G m_X6_124 dX6_fix_44 (by first | decide | assumption) (by first | rfl | assumption) (c_X6_beginHeads (c := uC (uC g.1 (14 + w) (z + 2)) 1 0) (a2.sI hz) (okS_fx i1 b_2 (by omega)) (by unfold uC; rw [if_pos rfl]) (by
          rw [hI_sI, if_neg (by omega), nS_u (by omega), nS_u (by omega)]
          exact s1.1) (fun zz w0 w1 => by
          rw [nS_u (by omega), nS_u (by omega)] at w1
          rw [hI_sI, if_neg (by omega), kdS_u (by omega) w0 (by omega), kdS_u (by omega) w0 (by omega)]
          exact s1.2.2.1 zz w0 w1) (fun zz w0 w1 => by
          rw [hI_sI, fxS_u (by omega) w0, fx_chg]
          by_cases e : zz = w
          · rw [if_pos ⟨rfl, e⟩, if_pos e]
            omega
          · rw [if_neg (fun q => e q.2), if_neg e]
            exact s1.2.2.2 zz w0 w1) (((rdk RD a1 b1).u hn0.2 (Or.inr (by omega))).u (by rw [nS_u (by omega)]; exact hn0.2) (Or.inl rfl)) (((ptk PT a1 b1).u hn0.2 (Or.inr (by omega))).u (by rw [nS_u (by omega)]; exact hn0.2) (Or.inl rfl))) (by omega) (by omega) (by omega) (Nat.le_of_ble_eq_true rfl) (fun x_44 h_44 hp_44 => ?_)
    obtain ⟨x0, x2, x3, x4⟩ := hp_44
    have fs := fin_sen R a1 a3 b1 x2 x4
    exact V_reti E dX6_fix_47 rfl rfl ⟨_, rfl, ⟨by unfold opFix; rw [if_neg (fun q => q.elim (fun z => z b_2) (fun z => z b_8)), if_neg c_17], by unfold opFix; rw [if_neg (fun q => q.elim (fun z => z b_2) (fun z => z b_8)), if_neg c_17]; exact (x0.trans (lb_lf i1 b_2 b_8.1).symm), by unfold opFix; rw [if_neg (fun q => q.elim (fun z => z b_2) (fun z => z b_8)), if_neg c_17]; exact fs.1, x3, fs.2⟩⟩
  ·
    exact V_throw G Y th_ISE dX6_fix_20 dX6_fix_23 dX6_fix_24 dX6_fix_26 dX6_fix_29 (text := "no reading would be left") (by decide) ⟨rfl, Or.inr ⟨by unfold opFix; rw [if_neg (fun q => q.elim (fun z => z b_2) (fun z => z b_8)), if_pos c_17], rfl⟩⟩ (by omega) (by omega) (by omega)

end C17
