
section M1
def bI (p : Prop) [Decidable p] : Int := if p then 1 else 0
def Rg (h : Hp) : Prop := ∀ q j, inr (hI h q j)
theorem hI_sI {h : Hp} {q q2 : Nat} {j j2 v : Int} : hI (sI h q j v) q2 j2 = if q2 = q ∧ j2 = j then v else hI h q2 j2 := rfl
theorem hI_sL {h : Hp} {q : Nat} {j : Int} {v : Int64} : hI (sL h q j v) = hI h := rfl
theorem hL_sI {h : Hp} {q : Nat} {j v : Int} : hL (sI h q j v) = hL h := rfl
theorem hL_sL {h : Hp} {q q2 : Nat} {j j2 : Int} {v : Int64} : hL (sL h q j v) q2 j2 = if q2 = q ∧ j2 = j then v else hL h q2 j2 := rfl
theorem hR_sI {h : Hp} {q : Nat} {j v : Int} : hR (sI h q j v) = hR h := rfl
theorem hR_sL {h : Hp} {q : Nat} {j : Int} {v : Int64} : hR (sL h q j v) = hR h := rfl
theorem Rg.sI {h : Hp} {q : Nat} {j v : Int} (r : Rg h) (hv : inr v) : Rg (sI h q j v) := fun a b => by
  rw [hI_sI]
  split
  · exact hv
  · exact r a b
theorem Rg.sL {h : Hp} {q : Nat} {j : Int} {v : Int64} (r : Rg h) : Rg (sL h q j v) := r
section
variable {X : Cxt} {own : String} {cc : ByteArray} {d kc ks k n pc : Nat} {ls : List (Option Value)} {st : List Value} {h : Hp}
theorem bI_0 (p : Prop) [Decidable p] : bI p = 0 ↔ ¬ p := by unfold bI; split <;> simp_all
theorem bI_r (p : Prop) [Decidable p] : inr (bI p) := by unfold bI; split <;> exact ⟨by decide, by decide⟩
theorem V_ifeqB (G : Gd X own cc d kc ks) {p : Prop} {_ : Decidable p} {off : Int} {tgt : Nat} (hd : decode cc pc = .ok (.ifCond .eq off, 3)) (ht : (pc : Int) + off = (tgt : Int)) (kt : ¬ p → V X k n tgt ls st h) (kf : p → V X k n (pc + 3) ls st h) : V X k n pc ls (.int (Int32.ofInt (bI p)) :: st) h :=
  V_ifeq G hd ht (bI_r p) (fun q => kt ((bI_0 p).mp q)) (fun q => kf (Decidable.not_not.mp (fun z => q ((bI_0 p).mpr z))))
theorem V_ifneB (G : Gd X own cc d kc ks) {p : Prop} {_ : Decidable p} {off : Int} {tgt : Nat} (hd : decode cc pc = .ok (.ifCond .ne off, 3)) (ht : (pc : Int) + off = (tgt : Int)) (kt : p → V X k n tgt ls st h) (kf : ¬ p → V X k n (pc + 3) ls st h) : V X k n pc ls (.int (Int32.ofInt (bI p)) :: st) h :=
  V_ifne G hd ht (bI_r p) (fun q => kt (Decidable.not_not.mp (fun z => q ((bI_0 p).mpr z)))) (fun q => kf ((bI_0 p).mp q))
theorem V_getIe (G : Gd X own cc d kc ks) {idx ci j q : Nat} {jz v : Int} (hF : FL own idx ci j) (hd : decode cc pc = .ok (.getfield idx, 3)) (hq : q < NN) (hs : SH q = .inl ci) (hk : fkd ci j = 0) (hjz : (j : Int) = jz) (hv : hI h q jz = v) (kk : V X k n (pc + 3) ls (.int (Int32.ofInt v) :: st) h) : V X k n pc ls (.ref q :: st) h := V_getI G hF hd hq hs hk hjz (by rw [hv]; exact kk)
theorem V_getLe (G : Gd X own cc d kc ks) {idx ci j q : Nat} {jz : Int} {v : Int64} (hF : FL own idx ci j) (hd : decode cc pc = .ok (.getfield idx, 3)) (hq : q < NN) (hs : SH q = .inl ci) (hk : fkd ci j = 1) (hjz : (j : Int) = jz) (hv : hL h q jz = v) (kk : V X k n (pc + 3) ls (.long v :: st) h) : V X k n pc ls (.ref q :: st) h := V_getL G hF hd hq hs hk hjz (by rw [hv]; exact kk)
theorem V_ialde (G : Gd X own cc d kc ks) {q N : Nat} {i v : Int} (hd : decode cc pc = .ok (.iaload, 1)) (hq : q < NN) (hs : SH q = .inr (0, N)) (hN : N ≤ 5000) (hin : 0 ≤ i ∧ i < N) (hv : hI h q i = v) (kk : V X k n (pc + 1) ls (.int (Int32.ofInt v) :: st) h) : V X k n pc ls (.int (Int32.ofInt i) :: .ref q :: st) h := V_iald G hd hq hs hN hin (by rw [hv]; exact kk)
theorem V_zalde (G : Gd X own cc d kc ks) {q N : Nat} {i v : Int} (hd : decode cc pc = .ok (.baload, 1)) (hq : q < NN) (hs : SH q = .inr (2, N)) (hN : N ≤ 5000) (hin : 0 ≤ i ∧ i < N) (hv : hI h q i = v) (kk : V X k n (pc + 1) ls (.int (Int32.ofInt v) :: st) h) : V X k n pc ls (.int (Int32.ofInt i) :: .ref q :: st) h := V_zald G hd hq hs hN hin (by rw [hv]; exact kk)
theorem V_lalde (G : Gd X own cc d kc ks) {q N : Nat} {i : Int} {v : Int64} (hd : decode cc pc = .ok (.laload, 1)) (hq : q < NN) (hs : SH q = .inr (1, N)) (hN : N ≤ 5000) (hin : 0 ≤ i ∧ i < N) (hv : hL h q i = v) (kk : V X k n (pc + 1) ls (.long v :: st) h) : V X k n pc ls (.int (Int32.ofInt i) :: .ref q :: st) h := V_lald G hd hq hs hN hin (by rw [hv]; exact kk)
end
theorem bI_t {p : Prop} [Decidable p] (h : p) : 1 = bI p := (if_pos h).symm
theorem bI_f {p : Prop} [Decidable p] (h : ¬ p) : 0 = bI p := (if_neg h).symm

end M1
