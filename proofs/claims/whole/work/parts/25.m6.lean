section M6
set_option maxRecDepth 100000 in
set_option maxHeartbeats 4000000 in
theorem c_X7_isLeft {l : Launch} {d : Nat} {h : Hp} (r : Rg h) {n k1 b1 : Int} (hn : hI h 78 0 = n) (hn0 : 0 ≤ n ∧ n ≤ 12) (hk1 : 0 ≤ k1 ∧ k1 < 400) (hb : inr b1) (hd : 1 ≤ d := by omega) : CP l d 0 0 yX7_isLeft cX7_isLeft 6 (Option.some Jvm.ClassFile.FieldType.boolean) [.ref 77, iv k1, iv b1] h (pI fun x h1 => x = whI (∀ w : Int, 0 ≤ w → w < n → 0 < hI h 78 (14 + w) ∧ w ≠ b1 → hI h 89 (12 * k1 + w) = hI h 78 (14 + w) - 2) ∧ h1 = h) := by
  refine CP.ofV (L := [some (.ref 77), some (.int (Int32.ofInt k1)), some (.int (Int32.ofInt b1)), none, none, none]) RX7 (by decide +kernel) rfl (Nat.le_of_ble_eq_true rfl) rfl (fun X hX G E => ?_)
  subst hX
  have loop : ∀ (m : Nat) (k : Int) (a5 : Option Value), k + m = n → 0 ≤ k → V X 0 0 5 [some (.ref 77), some (.int (Int32.ofInt k1)), some (.int (Int32.ofInt b1)), some (.int (Int32.ofInt (whI (∀ w : Int, 0 ≤ w → w < k → 0 < hI h 78 (14 + w) ∧ w ≠ b1 → hI h 89 (12 * k1 + w) = hI h 78 (14 + w) - 2)))), some (.int (Int32.ofInt k)), a5] [] h := by
    intro m
    induction m with
    | zero =>
      intro k a5 hm_ hk0
      have q90 := r 78 (14 + k)
      have q91 := r 89 (12 * k1 + k)
      refine V_iload4 G dX7_isLeft_5 ?_
      refine V_aload0 G dX7_isLeft_7 ?_
      refine V_getR G fl_X7_7 dX7_isLeft_8 (by first | decide | assumption) (by first | rfl | assumption) rfl (by first | rfl | assumption) ?_
      refine V_iconst G dX7_isLeft_11 ?_
      refine V_ialde G dX7_isLeft_12 (by first | decide | assumption) (by first | rfl | assumption) (by decide) ⟨by omega, by omega⟩ (by first | (simp only [hI_sI, hI_sL, hL_sI, hL_sL, false_and, true_and, and_false, and_true, and_self, if_false, if_true, hn]; first | done | rfl) | rfl) ?_
      refine V_icmpge G dX7_isLeft_13 (tgt := 90) (by decide) (by first | exact r _ _ | assumption | exact ⟨by omega, by omega⟩) (by first | exact r _ _ | assumption | exact ⟨by omega, by omega⟩) (fun c_13 => ?_) (fun c_13 => ?_)
      ·
        refine V_iload3 G dX7_isLeft_90 ?_
        exact V_reti E dX7_isLeft_91 rfl (nar01 (whI_01 _)) ⟨_, rfl, ⟨by rw [show n = k by omega], rfl⟩⟩
      · omega
    | succ m ih =>
      intro k a5 hm_ hk0
      have q90 := r 78 (14 + k)
      have q91 := r 89 (12 * k1 + k)
      refine V_iload4 G dX7_isLeft_5 ?_
      refine V_aload0 G dX7_isLeft_7 ?_
      refine V_getR G fl_X7_7 dX7_isLeft_8 (by first | decide | assumption) (by first | rfl | assumption) rfl (by first | rfl | assumption) ?_
      refine V_iconst G dX7_isLeft_11 ?_
      refine V_ialde G dX7_isLeft_12 (by first | decide | assumption) (by first | rfl | assumption) (by decide) ⟨by omega, by omega⟩ (by first | (simp only [hI_sI, hI_sL, hL_sI, hL_sL, false_and, true_and, and_false, and_true, and_self, if_false, if_true, hn]; first | done | rfl) | rfl) ?_
      refine V_icmpge G dX7_isLeft_13 (tgt := 90) (by decide) (by first | exact r _ _ | assumption | exact ⟨by omega, by omega⟩) (by first | exact r _ _ | assumption | exact ⟨by omega, by omega⟩) (fun c_13 => ?_) (fun c_13 => ?_)
      · omega
      ·
        refine V_aload0 G dX7_isLeft_16 ?_
        refine V_getR G fl_X7_7 dX7_isLeft_17 (by first | decide | assumption) (by first | rfl | assumption) rfl (by first | rfl | assumption) ?_
        refine V_bipush G dX7_isLeft_20 (by decide) ?_
        refine V_iload4 G dX7_isLeft_22 ?_
        refine V_iadd G dX7_isLeft_24 ?_
        refine V_ialde G dX7_isLeft_25 (by first | decide | assumption) (by first | rfl | assumption) (by decide) ⟨by omega, by omega⟩ (by first | (simp only [hI_sI, hI_sL, hL_sI, hL_sL, false_and, true_and, and_false, and_true, and_self, if_false, if_true, hn]; first | done | rfl) | rfl) ?_
        refine V_ifle G dX7_isLeft_26 (tgt := 39) (by decide) (by first | exact r _ _ | assumption | exact ⟨by omega, by omega⟩) (fun c_26 => ?_) (fun c_26 => ?_)
        ·
          refine V_iconst G dX7_isLeft_39 ?_
          refine V_istore5 G dX7_isLeft_40 rfl ?_
          refine V_iload3 G dX7_isLeft_42 ?_
          refine V_ifeq G dX7_isLeft_43 (tgt := 82) (by decide) (by have := whI_01 (∀ w : Int, 0 ≤ w → w < k → 0 < hI h 78 (14 + w) ∧ w ≠ b1 → hI h 89 (12 * k1 + w) = hI h 78 (14 + w) - 2); exact ⟨by omega, by omega⟩) (fun c_43 => ?_) (fun c_43 => ?_)
          ·
            refine V_iconst G dX7_isLeft_82 ?_
            refine V_istore3 G dX7_isLeft_83 rfl ?_
            refine V_iinc4 G dX7_isLeft_84 rfl ?_
            refine V_goto G dX7_isLeft_87 (tgt := 5) (by decide) ?_
            first
            | (have e : whI (∀ w : Int, 0 ≤ w → w < k + 1 → 0 < hI h 78 (14 + w) ∧ w ≠ b1 → hI h 89 (12 * k1 + w) = hI h 78 (14 + w) - 2) = 1 := whI_t (fun w h1 h2 h3 => by
                 by_cases hj : w = k
                 · subst hj; omega
                 · exact (Classical.byContradiction fun z => c_43 (whI_f (fun y => z (y w h1 (by omega) h3)))))
               have q := fun a5 => ih (k + 1) a5 (by omega) (by omega)
               rw [e] at q
               exact q _)
            | (have e : whI (∀ w : Int, 0 ≤ w → w < k + 1 → 0 < hI h 78 (14 + w) ∧ w ≠ b1 → hI h 89 (12 * k1 + w) = hI h 78 (14 + w) - 2) = 0 := whI_f (fun z => by have := z k hk0 (by omega) ⟨by omega, by omega⟩; omega)
               have q := fun a5 => ih (k + 1) a5 (by omega) (by omega)
               rw [e] at q
               exact q _)
            | (have e : whI (∀ w : Int, 0 ≤ w → w < k + 1 → 0 < hI h 78 (14 + w) ∧ w ≠ b1 → hI h 89 (12 * k1 + w) = hI h 78 (14 + w) - 2) = 0 := whI_f (fun z => (whI_0.mp c_43) (fun w h1 h2 h3 => z w h1 (by omega) h3))
               have q := fun a5 => ih (k + 1) a5 (by omega) (by omega)
               rw [e] at q
               exact q _)
          ·
            refine V_iload5 G dX7_isLeft_46 ?_
            refine V_ifeq G dX7_isLeft_48 (tgt := 78) (by decide) (by first | exact r _ _ | assumption | exact ⟨by omega, by omega⟩) (fun c_48 => ?_) (fun c_48 => ?_)
            ·
              refine V_iconst G dX7_isLeft_78 ?_
              refine V_goto G dX7_isLeft_79 (tgt := 83) (by decide) ?_
              refine V_istore3 G dX7_isLeft_83 rfl ?_
              refine V_iinc4 G dX7_isLeft_84 rfl ?_
              refine V_goto G dX7_isLeft_87 (tgt := 5) (by decide) ?_
              first
              | (have e : whI (∀ w : Int, 0 ≤ w → w < k + 1 → 0 < hI h 78 (14 + w) ∧ w ≠ b1 → hI h 89 (12 * k1 + w) = hI h 78 (14 + w) - 2) = 1 := whI_t (fun w h1 h2 h3 => by
                   by_cases hj : w = k
                   · subst hj; omega
                   · exact (Classical.byContradiction fun z => c_43 (whI_f (fun y => z (y w h1 (by omega) h3)))))
                 have q := fun a5 => ih (k + 1) a5 (by omega) (by omega)
                 rw [e] at q
                 exact q _)
              | (have e : whI (∀ w : Int, 0 ≤ w → w < k + 1 → 0 < hI h 78 (14 + w) ∧ w ≠ b1 → hI h 89 (12 * k1 + w) = hI h 78 (14 + w) - 2) = 0 := whI_f (fun z => by have := z k hk0 (by omega) ⟨by omega, by omega⟩; omega)
                 have q := fun a5 => ih (k + 1) a5 (by omega) (by omega)
                 rw [e] at q
                 exact q _)
              | (have e : whI (∀ w : Int, 0 ≤ w → w < k + 1 → 0 < hI h 78 (14 + w) ∧ w ≠ b1 → hI h 89 (12 * k1 + w) = hI h 78 (14 + w) - 2) = 0 := whI_f (fun z => (whI_0.mp c_43) (fun w h1 h2 h3 => z w h1 (by omega) h3))
                 have q := fun a5 => ih (k + 1) a5 (by omega) (by omega)
                 rw [e] at q
                 exact q _)
            ·
              refine V_aload0 G dX7_isLeft_51 ?_
              refine V_getR G fl_X7_44 dX7_isLeft_52 (by first | decide | assumption) (by first | rfl | assumption) rfl (by first | rfl | assumption) ?_
              refine V_bipush G dX7_isLeft_55 (by decide) ?_
              refine V_iload1 G dX7_isLeft_57 ?_
              refine V_imul G dX7_isLeft_58 ?_
              refine V_iload4 G dX7_isLeft_59 ?_
              refine V_iadd G dX7_isLeft_61 ?_
              refine V_ialde G dX7_isLeft_62 (by first | decide | assumption) (by first | rfl | assumption) (by decide) ⟨by omega, by omega⟩ (by first | (simp only [hI_sI, hI_sL, hL_sI, hL_sL, false_and, true_and, and_false, and_true, and_self, if_false, if_true, hn]; first | done | rfl) | rfl) ?_
              refine V_aload0 G dX7_isLeft_63 ?_
              refine V_getR G fl_X7_7 dX7_isLeft_64 (by first | decide | assumption) (by first | rfl | assumption) rfl (by first | rfl | assumption) ?_
              refine V_bipush G dX7_isLeft_67 (by decide) ?_
              refine V_iload4 G dX7_isLeft_69 ?_
              refine V_iadd G dX7_isLeft_71 ?_
              refine V_ialde G dX7_isLeft_72 (by first | decide | assumption) (by first | rfl | assumption) (by decide) ⟨by omega, by omega⟩ (by first | (simp only [hI_sI, hI_sL, hL_sI, hL_sL, false_and, true_and, and_false, and_true, and_self, if_false, if_true, hn]; first | done | rfl) | rfl) ?_
              refine V_iconst G dX7_isLeft_73 ?_
              refine V_isub G dX7_isLeft_74 ?_
              refine V_icmpne G dX7_isLeft_75 (tgt := 82) (by decide) (r _ _) (by have := r 78 (14 + k); exact ⟨by omega, by omega⟩) (fun c_75 => ?_) (fun c_75 => ?_)
              ·
                refine V_iconst G dX7_isLeft_82 ?_
                refine V_istore3 G dX7_isLeft_83 rfl ?_
                refine V_iinc4 G dX7_isLeft_84 rfl ?_
                refine V_goto G dX7_isLeft_87 (tgt := 5) (by decide) ?_
                first
                | (have e : whI (∀ w : Int, 0 ≤ w → w < k + 1 → 0 < hI h 78 (14 + w) ∧ w ≠ b1 → hI h 89 (12 * k1 + w) = hI h 78 (14 + w) - 2) = 1 := whI_t (fun w h1 h2 h3 => by
                     by_cases hj : w = k
                     · subst hj; omega
                     · exact (Classical.byContradiction fun z => c_43 (whI_f (fun y => z (y w h1 (by omega) h3)))))
                   have q := fun a5 => ih (k + 1) a5 (by omega) (by omega)
                   rw [e] at q
                   exact q _)
                | (have e : whI (∀ w : Int, 0 ≤ w → w < k + 1 → 0 < hI h 78 (14 + w) ∧ w ≠ b1 → hI h 89 (12 * k1 + w) = hI h 78 (14 + w) - 2) = 0 := whI_f (fun z => by have := z k hk0 (by omega) ⟨by omega, by omega⟩; omega)
                   have q := fun a5 => ih (k + 1) a5 (by omega) (by omega)
                   rw [e] at q
                   exact q _)
                | (have e : whI (∀ w : Int, 0 ≤ w → w < k + 1 → 0 < hI h 78 (14 + w) ∧ w ≠ b1 → hI h 89 (12 * k1 + w) = hI h 78 (14 + w) - 2) = 0 := whI_f (fun z => (whI_0.mp c_43) (fun w h1 h2 h3 => z w h1 (by omega) h3))
                   have q := fun a5 => ih (k + 1) a5 (by omega) (by omega)
                   rw [e] at q
                   exact q _)
              ·
                refine V_iconst G dX7_isLeft_78 ?_
                refine V_goto G dX7_isLeft_79 (tgt := 83) (by decide) ?_
                refine V_istore3 G dX7_isLeft_83 rfl ?_
                refine V_iinc4 G dX7_isLeft_84 rfl ?_
                refine V_goto G dX7_isLeft_87 (tgt := 5) (by decide) ?_
                first
                | (have e : whI (∀ w : Int, 0 ≤ w → w < k + 1 → 0 < hI h 78 (14 + w) ∧ w ≠ b1 → hI h 89 (12 * k1 + w) = hI h 78 (14 + w) - 2) = 1 := whI_t (fun w h1 h2 h3 => by
                     by_cases hj : w = k
                     · subst hj; omega
                     · exact (Classical.byContradiction fun z => c_43 (whI_f (fun y => z (y w h1 (by omega) h3)))))
                   have q := fun a5 => ih (k + 1) a5 (by omega) (by omega)
                   rw [e] at q
                   exact q _)
                | (have e : whI (∀ w : Int, 0 ≤ w → w < k + 1 → 0 < hI h 78 (14 + w) ∧ w ≠ b1 → hI h 89 (12 * k1 + w) = hI h 78 (14 + w) - 2) = 0 := whI_f (fun z => by have := z k hk0 (by omega) ⟨by omega, by omega⟩; omega)
                   have q := fun a5 => ih (k + 1) a5 (by omega) (by omega)
                   rw [e] at q
                   exact q _)
                | (have e : whI (∀ w : Int, 0 ≤ w → w < k + 1 → 0 < hI h 78 (14 + w) ∧ w ≠ b1 → hI h 89 (12 * k1 + w) = hI h 78 (14 + w) - 2) = 0 := whI_f (fun z => (whI_0.mp c_43) (fun w h1 h2 h3 => z w h1 (by omega) h3))
                   have q := fun a5 => ih (k + 1) a5 (by omega) (by omega)
                   rw [e] at q
                   exact q _)
        ·
          refine V_iload4 G dX7_isLeft_29 ?_
          refine V_iload2 G dX7_isLeft_31 ?_
          refine V_icmpeq G dX7_isLeft_32 (tgt := 39) (by decide) (by first | exact r _ _ | assumption | exact ⟨by omega, by omega⟩) (by first | exact r _ _ | assumption | exact ⟨by omega, by omega⟩) (fun c_32 => ?_) (fun c_32 => ?_)
          ·
            refine V_iconst G dX7_isLeft_39 ?_
            refine V_istore5 G dX7_isLeft_40 rfl ?_
            refine V_iload3 G dX7_isLeft_42 ?_
            refine V_ifeq G dX7_isLeft_43 (tgt := 82) (by decide) (by have := whI_01 (∀ w : Int, 0 ≤ w → w < k → 0 < hI h 78 (14 + w) ∧ w ≠ b1 → hI h 89 (12 * k1 + w) = hI h 78 (14 + w) - 2); exact ⟨by omega, by omega⟩) (fun c_43 => ?_) (fun c_43 => ?_)
            ·
              refine V_iconst G dX7_isLeft_82 ?_
              refine V_istore3 G dX7_isLeft_83 rfl ?_
              refine V_iinc4 G dX7_isLeft_84 rfl ?_
              refine V_goto G dX7_isLeft_87 (tgt := 5) (by decide) ?_
              first
              | (have e : whI (∀ w : Int, 0 ≤ w → w < k + 1 → 0 < hI h 78 (14 + w) ∧ w ≠ b1 → hI h 89 (12 * k1 + w) = hI h 78 (14 + w) - 2) = 1 := whI_t (fun w h1 h2 h3 => by
                   by_cases hj : w = k
                   · subst hj; omega
                   · exact (Classical.byContradiction fun z => c_43 (whI_f (fun y => z (y w h1 (by omega) h3)))))
                 have q := fun a5 => ih (k + 1) a5 (by omega) (by omega)
                 rw [e] at q
                 exact q _)
              | (have e : whI (∀ w : Int, 0 ≤ w → w < k + 1 → 0 < hI h 78 (14 + w) ∧ w ≠ b1 → hI h 89 (12 * k1 + w) = hI h 78 (14 + w) - 2) = 0 := whI_f (fun z => by have := z k hk0 (by omega) ⟨by omega, by omega⟩; omega)
                 have q := fun a5 => ih (k + 1) a5 (by omega) (by omega)
                 rw [e] at q
                 exact q _)
              | (have e : whI (∀ w : Int, 0 ≤ w → w < k + 1 → 0 < hI h 78 (14 + w) ∧ w ≠ b1 → hI h 89 (12 * k1 + w) = hI h 78 (14 + w) - 2) = 0 := whI_f (fun z => (whI_0.mp c_43) (fun w h1 h2 h3 => z w h1 (by omega) h3))
                 have q := fun a5 => ih (k + 1) a5 (by omega) (by omega)
                 rw [e] at q
                 exact q _)
            ·
              refine V_iload5 G dX7_isLeft_46 ?_
              refine V_ifeq G dX7_isLeft_48 (tgt := 78) (by decide) (by first | exact r _ _ | assumption | exact ⟨by omega, by omega⟩) (fun c_48 => ?_) (fun c_48 => ?_)
              ·
                refine V_iconst G dX7_isLeft_78 ?_
                refine V_goto G dX7_isLeft_79 (tgt := 83) (by decide) ?_
                refine V_istore3 G dX7_isLeft_83 rfl ?_
                refine V_iinc4 G dX7_isLeft_84 rfl ?_
                refine V_goto G dX7_isLeft_87 (tgt := 5) (by decide) ?_
                first
                | (have e : whI (∀ w : Int, 0 ≤ w → w < k + 1 → 0 < hI h 78 (14 + w) ∧ w ≠ b1 → hI h 89 (12 * k1 + w) = hI h 78 (14 + w) - 2) = 1 := whI_t (fun w h1 h2 h3 => by
                     by_cases hj : w = k
                     · subst hj; omega
                     · exact (Classical.byContradiction fun z => c_43 (whI_f (fun y => z (y w h1 (by omega) h3)))))
                   have q := fun a5 => ih (k + 1) a5 (by omega) (by omega)
                   rw [e] at q
                   exact q _)
                | (have e : whI (∀ w : Int, 0 ≤ w → w < k + 1 → 0 < hI h 78 (14 + w) ∧ w ≠ b1 → hI h 89 (12 * k1 + w) = hI h 78 (14 + w) - 2) = 0 := whI_f (fun z => by have := z k hk0 (by omega) ⟨by omega, by omega⟩; omega)
                   have q := fun a5 => ih (k + 1) a5 (by omega) (by omega)
                   rw [e] at q
                   exact q _)
                | (have e : whI (∀ w : Int, 0 ≤ w → w < k + 1 → 0 < hI h 78 (14 + w) ∧ w ≠ b1 → hI h 89 (12 * k1 + w) = hI h 78 (14 + w) - 2) = 0 := whI_f (fun z => (whI_0.mp c_43) (fun w h1 h2 h3 => z w h1 (by omega) h3))
                   have q := fun a5 => ih (k + 1) a5 (by omega) (by omega)
                   rw [e] at q
                   exact q _)
              ·
                refine V_aload0 G dX7_isLeft_51 ?_
                refine V_getR G fl_X7_44 dX7_isLeft_52 (by first | decide | assumption) (by first | rfl | assumption) rfl (by first | rfl | assumption) ?_
                refine V_bipush G dX7_isLeft_55 (by decide) ?_
                refine V_iload1 G dX7_isLeft_57 ?_
                refine V_imul G dX7_isLeft_58 ?_
                refine V_iload4 G dX7_isLeft_59 ?_
                refine V_iadd G dX7_isLeft_61 ?_
                refine V_ialde G dX7_isLeft_62 (by first | decide | assumption) (by first | rfl | assumption) (by decide) ⟨by omega, by omega⟩ (by first | (simp only [hI_sI, hI_sL, hL_sI, hL_sL, false_and, true_and, and_false, and_true, and_self, if_false, if_true, hn]; first | done | rfl) | rfl) ?_
                refine V_aload0 G dX7_isLeft_63 ?_
                refine V_getR G fl_X7_7 dX7_isLeft_64 (by first | decide | assumption) (by first | rfl | assumption) rfl (by first | rfl | assumption) ?_
                refine V_bipush G dX7_isLeft_67 (by decide) ?_
                refine V_iload4 G dX7_isLeft_69 ?_
                refine V_iadd G dX7_isLeft_71 ?_
                refine V_ialde G dX7_isLeft_72 (by first | decide | assumption) (by first | rfl | assumption) (by decide) ⟨by omega, by omega⟩ (by first | (simp only [hI_sI, hI_sL, hL_sI, hL_sL, false_and, true_and, and_false, and_true, and_self, if_false, if_true, hn]; first | done | rfl) | rfl) ?_
                refine V_iconst G dX7_isLeft_73 ?_
                refine V_isub G dX7_isLeft_74 ?_
                refine V_icmpne G dX7_isLeft_75 (tgt := 82) (by decide) (r _ _) (by have := r 78 (14 + k); exact ⟨by omega, by omega⟩) (fun c_75 => ?_) (fun c_75 => ?_)
                ·
                  refine V_iconst G dX7_isLeft_82 ?_
                  refine V_istore3 G dX7_isLeft_83 rfl ?_
                  refine V_iinc4 G dX7_isLeft_84 rfl ?_
                  refine V_goto G dX7_isLeft_87 (tgt := 5) (by decide) ?_
                  first
                  | (have e : whI (∀ w : Int, 0 ≤ w → w < k + 1 → 0 < hI h 78 (14 + w) ∧ w ≠ b1 → hI h 89 (12 * k1 + w) = hI h 78 (14 + w) - 2) = 1 := whI_t (fun w h1 h2 h3 => by
                       by_cases hj : w = k
                       · subst hj; omega
                       · exact (Classical.byContradiction fun z => c_43 (whI_f (fun y => z (y w h1 (by omega) h3)))))
                     have q := fun a5 => ih (k + 1) a5 (by omega) (by omega)
                     rw [e] at q
                     exact q _)
                  | (have e : whI (∀ w : Int, 0 ≤ w → w < k + 1 → 0 < hI h 78 (14 + w) ∧ w ≠ b1 → hI h 89 (12 * k1 + w) = hI h 78 (14 + w) - 2) = 0 := whI_f (fun z => by have := z k hk0 (by omega) ⟨by omega, by omega⟩; omega)
                     have q := fun a5 => ih (k + 1) a5 (by omega) (by omega)
                     rw [e] at q
                     exact q _)
                  | (have e : whI (∀ w : Int, 0 ≤ w → w < k + 1 → 0 < hI h 78 (14 + w) ∧ w ≠ b1 → hI h 89 (12 * k1 + w) = hI h 78 (14 + w) - 2) = 0 := whI_f (fun z => (whI_0.mp c_43) (fun w h1 h2 h3 => z w h1 (by omega) h3))
                     have q := fun a5 => ih (k + 1) a5 (by omega) (by omega)
                     rw [e] at q
                     exact q _)
                ·
                  refine V_iconst G dX7_isLeft_78 ?_
                  refine V_goto G dX7_isLeft_79 (tgt := 83) (by decide) ?_
                  refine V_istore3 G dX7_isLeft_83 rfl ?_
                  refine V_iinc4 G dX7_isLeft_84 rfl ?_
                  refine V_goto G dX7_isLeft_87 (tgt := 5) (by decide) ?_
                  first
                  | (have e : whI (∀ w : Int, 0 ≤ w → w < k + 1 → 0 < hI h 78 (14 + w) ∧ w ≠ b1 → hI h 89 (12 * k1 + w) = hI h 78 (14 + w) - 2) = 1 := whI_t (fun w h1 h2 h3 => by
                       by_cases hj : w = k
                       · subst hj; omega
                       · exact (Classical.byContradiction fun z => c_43 (whI_f (fun y => z (y w h1 (by omega) h3)))))
                     have q := fun a5 => ih (k + 1) a5 (by omega) (by omega)
                     rw [e] at q
                     exact q _)
                  | (have e : whI (∀ w : Int, 0 ≤ w → w < k + 1 → 0 < hI h 78 (14 + w) ∧ w ≠ b1 → hI h 89 (12 * k1 + w) = hI h 78 (14 + w) - 2) = 0 := whI_f (fun z => by have := z k hk0 (by omega) ⟨by omega, by omega⟩; omega)
                     have q := fun a5 => ih (k + 1) a5 (by omega) (by omega)
                     rw [e] at q
                     exact q _)
                  | (have e : whI (∀ w : Int, 0 ≤ w → w < k + 1 → 0 < hI h 78 (14 + w) ∧ w ≠ b1 → hI h 89 (12 * k1 + w) = hI h 78 (14 + w) - 2) = 0 := whI_f (fun z => (whI_0.mp c_43) (fun w h1 h2 h3 => z w h1 (by omega) h3))
                     have q := fun a5 => ih (k + 1) a5 (by omega) (by omega)
                     rw [e] at q
                     exact q _)
          ·
            refine V_iconst G dX7_isLeft_35 ?_
            refine V_goto G dX7_isLeft_36 (tgt := 40) (by decide) ?_
            refine V_istore5 G dX7_isLeft_40 rfl ?_
            refine V_iload3 G dX7_isLeft_42 ?_
            refine V_ifeq G dX7_isLeft_43 (tgt := 82) (by decide) (by have := whI_01 (∀ w : Int, 0 ≤ w → w < k → 0 < hI h 78 (14 + w) ∧ w ≠ b1 → hI h 89 (12 * k1 + w) = hI h 78 (14 + w) - 2); exact ⟨by omega, by omega⟩) (fun c_43 => ?_) (fun c_43 => ?_)
            ·
              refine V_iconst G dX7_isLeft_82 ?_
              refine V_istore3 G dX7_isLeft_83 rfl ?_
              refine V_iinc4 G dX7_isLeft_84 rfl ?_
              refine V_goto G dX7_isLeft_87 (tgt := 5) (by decide) ?_
              first
              | (have e : whI (∀ w : Int, 0 ≤ w → w < k + 1 → 0 < hI h 78 (14 + w) ∧ w ≠ b1 → hI h 89 (12 * k1 + w) = hI h 78 (14 + w) - 2) = 1 := whI_t (fun w h1 h2 h3 => by
                   by_cases hj : w = k
                   · subst hj; omega
                   · exact (Classical.byContradiction fun z => c_43 (whI_f (fun y => z (y w h1 (by omega) h3)))))
                 have q := fun a5 => ih (k + 1) a5 (by omega) (by omega)
                 rw [e] at q
                 exact q _)
              | (have e : whI (∀ w : Int, 0 ≤ w → w < k + 1 → 0 < hI h 78 (14 + w) ∧ w ≠ b1 → hI h 89 (12 * k1 + w) = hI h 78 (14 + w) - 2) = 0 := whI_f (fun z => by have := z k hk0 (by omega) ⟨by omega, by omega⟩; omega)
                 have q := fun a5 => ih (k + 1) a5 (by omega) (by omega)
                 rw [e] at q
                 exact q _)
              | (have e : whI (∀ w : Int, 0 ≤ w → w < k + 1 → 0 < hI h 78 (14 + w) ∧ w ≠ b1 → hI h 89 (12 * k1 + w) = hI h 78 (14 + w) - 2) = 0 := whI_f (fun z => (whI_0.mp c_43) (fun w h1 h2 h3 => z w h1 (by omega) h3))
                 have q := fun a5 => ih (k + 1) a5 (by omega) (by omega)
                 rw [e] at q
                 exact q _)
            ·
              refine V_iload5 G dX7_isLeft_46 ?_
              refine V_ifeq G dX7_isLeft_48 (tgt := 78) (by decide) (by first | exact r _ _ | assumption | exact ⟨by omega, by omega⟩) (fun c_48 => ?_) (fun c_48 => ?_)
              ·
                refine V_iconst G dX7_isLeft_78 ?_
                refine V_goto G dX7_isLeft_79 (tgt := 83) (by decide) ?_
                refine V_istore3 G dX7_isLeft_83 rfl ?_
                refine V_iinc4 G dX7_isLeft_84 rfl ?_
                refine V_goto G dX7_isLeft_87 (tgt := 5) (by decide) ?_
                first
                | (have e : whI (∀ w : Int, 0 ≤ w → w < k + 1 → 0 < hI h 78 (14 + w) ∧ w ≠ b1 → hI h 89 (12 * k1 + w) = hI h 78 (14 + w) - 2) = 1 := whI_t (fun w h1 h2 h3 => by
                     by_cases hj : w = k
                     · subst hj; omega
                     · exact (Classical.byContradiction fun z => c_43 (whI_f (fun y => z (y w h1 (by omega) h3)))))
                   have q := fun a5 => ih (k + 1) a5 (by omega) (by omega)
                   rw [e] at q
                   exact q _)
                | (have e : whI (∀ w : Int, 0 ≤ w → w < k + 1 → 0 < hI h 78 (14 + w) ∧ w ≠ b1 → hI h 89 (12 * k1 + w) = hI h 78 (14 + w) - 2) = 0 := whI_f (fun z => by have := z k hk0 (by omega) ⟨by omega, by omega⟩; omega)
                   have q := fun a5 => ih (k + 1) a5 (by omega) (by omega)
                   rw [e] at q
                   exact q _)
                | (have e : whI (∀ w : Int, 0 ≤ w → w < k + 1 → 0 < hI h 78 (14 + w) ∧ w ≠ b1 → hI h 89 (12 * k1 + w) = hI h 78 (14 + w) - 2) = 0 := whI_f (fun z => (whI_0.mp c_43) (fun w h1 h2 h3 => z w h1 (by omega) h3))
                   have q := fun a5 => ih (k + 1) a5 (by omega) (by omega)
                   rw [e] at q
                   exact q _)
              ·
                refine V_aload0 G dX7_isLeft_51 ?_
                refine V_getR G fl_X7_44 dX7_isLeft_52 (by first | decide | assumption) (by first | rfl | assumption) rfl (by first | rfl | assumption) ?_
                refine V_bipush G dX7_isLeft_55 (by decide) ?_
                refine V_iload1 G dX7_isLeft_57 ?_
                refine V_imul G dX7_isLeft_58 ?_
                refine V_iload4 G dX7_isLeft_59 ?_
                refine V_iadd G dX7_isLeft_61 ?_
                refine V_ialde G dX7_isLeft_62 (by first | decide | assumption) (by first | rfl | assumption) (by decide) ⟨by omega, by omega⟩ (by first | (simp only [hI_sI, hI_sL, hL_sI, hL_sL, false_and, true_and, and_false, and_true, and_self, if_false, if_true, hn]; first | done | rfl) | rfl) ?_
                refine V_aload0 G dX7_isLeft_63 ?_
                refine V_getR G fl_X7_7 dX7_isLeft_64 (by first | decide | assumption) (by first | rfl | assumption) rfl (by first | rfl | assumption) ?_
                refine V_bipush G dX7_isLeft_67 (by decide) ?_
                refine V_iload4 G dX7_isLeft_69 ?_
                refine V_iadd G dX7_isLeft_71 ?_
                refine V_ialde G dX7_isLeft_72 (by first | decide | assumption) (by first | rfl | assumption) (by decide) ⟨by omega, by omega⟩ (by first | (simp only [hI_sI, hI_sL, hL_sI, hL_sL, false_and, true_and, and_false, and_true, and_self, if_false, if_true, hn]; first | done | rfl) | rfl) ?_
                refine V_iconst G dX7_isLeft_73 ?_
                refine V_isub G dX7_isLeft_74 ?_
                refine V_icmpne G dX7_isLeft_75 (tgt := 82) (by decide) (r _ _) (by have := r 78 (14 + k); exact ⟨by omega, by omega⟩) (fun c_75 => ?_) (fun c_75 => ?_)
                ·
                  refine V_iconst G dX7_isLeft_82 ?_
                  refine V_istore3 G dX7_isLeft_83 rfl ?_
                  refine V_iinc4 G dX7_isLeft_84 rfl ?_
                  refine V_goto G dX7_isLeft_87 (tgt := 5) (by decide) ?_
                  first
                  | (have e : whI (∀ w : Int, 0 ≤ w → w < k + 1 → 0 < hI h 78 (14 + w) ∧ w ≠ b1 → hI h 89 (12 * k1 + w) = hI h 78 (14 + w) - 2) = 1 := whI_t (fun w h1 h2 h3 => by
                       by_cases hj : w = k
                       · subst hj; omega
                       · exact (Classical.byContradiction fun z => c_43 (whI_f (fun y => z (y w h1 (by omega) h3)))))
                     have q := fun a5 => ih (k + 1) a5 (by omega) (by omega)
                     rw [e] at q
                     exact q _)
                  | (have e : whI (∀ w : Int, 0 ≤ w → w < k + 1 → 0 < hI h 78 (14 + w) ∧ w ≠ b1 → hI h 89 (12 * k1 + w) = hI h 78 (14 + w) - 2) = 0 := whI_f (fun z => by have := z k hk0 (by omega) ⟨by omega, by omega⟩; omega)
                     have q := fun a5 => ih (k + 1) a5 (by omega) (by omega)
                     rw [e] at q
                     exact q _)
                  | (have e : whI (∀ w : Int, 0 ≤ w → w < k + 1 → 0 < hI h 78 (14 + w) ∧ w ≠ b1 → hI h 89 (12 * k1 + w) = hI h 78 (14 + w) - 2) = 0 := whI_f (fun z => (whI_0.mp c_43) (fun w h1 h2 h3 => z w h1 (by omega) h3))
                     have q := fun a5 => ih (k + 1) a5 (by omega) (by omega)
                     rw [e] at q
                     exact q _)
                ·
                  refine V_iconst G dX7_isLeft_78 ?_
                  refine V_goto G dX7_isLeft_79 (tgt := 83) (by decide) ?_
                  refine V_istore3 G dX7_isLeft_83 rfl ?_
                  refine V_iinc4 G dX7_isLeft_84 rfl ?_
                  refine V_goto G dX7_isLeft_87 (tgt := 5) (by decide) ?_
                  first
                  | (have e : whI (∀ w : Int, 0 ≤ w → w < k + 1 → 0 < hI h 78 (14 + w) ∧ w ≠ b1 → hI h 89 (12 * k1 + w) = hI h 78 (14 + w) - 2) = 1 := whI_t (fun w h1 h2 h3 => by
                       by_cases hj : w = k
                       · subst hj; omega
                       · exact (Classical.byContradiction fun z => c_43 (whI_f (fun y => z (y w h1 (by omega) h3)))))
                     have q := fun a5 => ih (k + 1) a5 (by omega) (by omega)
                     rw [e] at q
                     exact q _)
                  | (have e : whI (∀ w : Int, 0 ≤ w → w < k + 1 → 0 < hI h 78 (14 + w) ∧ w ≠ b1 → hI h 89 (12 * k1 + w) = hI h 78 (14 + w) - 2) = 0 := whI_f (fun z => by have := z k hk0 (by omega) ⟨by omega, by omega⟩; omega)
                     have q := fun a5 => ih (k + 1) a5 (by omega) (by omega)
                     rw [e] at q
                     exact q _)
                  | (have e : whI (∀ w : Int, 0 ≤ w → w < k + 1 → 0 < hI h 78 (14 + w) ∧ w ≠ b1 → hI h 89 (12 * k1 + w) = hI h 78 (14 + w) - 2) = 0 := whI_f (fun z => (whI_0.mp c_43) (fun w h1 h2 h3 => z w h1 (by omega) h3))
                     have q := fun a5 => ih (k + 1) a5 (by omega) (by omega)
                     rw [e] at q
                     exact q _)
  refine V_iconst G dX7_isLeft_0 ?_
  refine V_istore3 G dX7_isLeft_1 rfl ?_
  refine V_iconst G dX7_isLeft_2 ?_
  refine V_istore4 G dX7_isLeft_3 rfl ?_
  exact (by
      have q := loop n.toNat 0 none (by omega) (by omega)
      rw [whI_t (fun w h1 h2 => by omega)] at q
      exact q)


theorem aheadF_congr {f g g' : Int → Int} : ∀ (m : Nat) (w : Int), (∀ j, w ≤ j → j < w + m → g j = g' j) → aheadF f g m w = aheadF f g' m w
  | 0, _, _ => rfl
  | m + 1, w, h => by
    rw [aheadF, aheadF, h w (by omega) (by omega), aheadF_congr m (w + 1) (fun j h1 h2 => h j (by omega) (by omega))]
def S89 (q : Nat) (j : Int) : Bool := q == 89 || (q == 77 && j == 16)

set_option maxRecDepth 100000 in
set_option maxHeartbeats 4000000 in
theorem c_X7_laysReading {l : Launch} {d : Nat} {h : Hp} (r : Rg h) {n A : Int} (hn : hI h 78 0 = n) (hn0 : 0 ≤ n ∧ n ≤ 12) (hA : hI h 77 16 = A) (hA0 : 0 ≤ A ∧ A < 400) (hah : ∀ i : Int, 0 ≤ i → i < A → aheadF (hI h 88) (fun w => hI h 89 (12 * i + w)) n.toNat 0 = true) (hd : 2 ≤ d := by omega) : CP l d 0 0 yX7_laysReading cX7_laysReading 3 (Option.none : Option Jvm.ClassFile.FieldType) [.ref 77] h (pV fun h1 => eqx S89 h h1 ∧ Rg h1 ∧ hI h1 77 16 = A + 1 ∧ (∀ i w : Int, 0 ≤ i → i < A → 0 ≤ w → w < 12 → hI h1 89 (12 * (i + 1) + w) = hI h 89 (12 * i + w)) ∧ ∀ w : Int, 0 ≤ w → w < n → hI h1 89 w = hI h 88 w) := by
  refine CP.ofV (L := [some (.ref 77), none, none]) RX7 (by decide +kernel) rfl (Nat.le_of_ble_eq_true rfl) rfl (fun X hX G E => ?_)
  subst hX
  have last : ∀ (g : Hp) (a2 : Option Value) (k : Int), k = 0 → Rg g → eqx S89 h g → hI g 77 16 = A → (∀ i w : Int, k < i → i ≤ A → 0 ≤ w → w < 12 → hI g 89 (12 * i + w) = hI h 89 (12 * (i - 1) + w)) → (∀ j : Int, 0 ≤ j → j < 12 * k → hI g 89 j = hI h 89 j) → V X 0 0 79 [some (.ref 77), some (.int (Int32.ofInt k)), a2] [] g := by
    intro g a2 k hk r1 eg hA hup hlo
    subst hk
    have loop2 : ∀ (m : Nat) (k : Int) (f : Hp), k + m = 12 → 0 ≤ k → Rg f → eqx S89 h f → hI f 77 16 = A → (∀ j : Int, 12 ≤ j → hI f 89 j = hI g 89 j) → (∀ w : Int, 0 ≤ w → w < k → hI f 89 w = if w < n then hI h 88 w else 0) → V X 0 0 81 [some (.ref 77), some (.int (Int32.ofInt 0)), some (.int (Int32.ofInt k))] [] f := by
      intro m
      induction m with
      | zero =>
        intro k f hm_ hk0 r2 ef hA2 hf1 hf2
        have hn3 : hI f 78 0 = n := (ef.1 _ _ rfl).trans hn
        have h883 : hI f 88 k = hI h 88 k := ef.1 _ _ rfl
        refine V_iload2 G dX7_laysReading_81 ?_
        refine V_bipush G dX7_laysReading_82 (by decide) ?_
        refine V_icmpge G dX7_laysReading_84 (tgt := 124) (by decide) (by first | exact r _ _ | assumption | exact ⟨by omega, by omega⟩) (by first | exact r _ _ | assumption | exact ⟨by omega, by omega⟩) (fun c_84 => ?_) (fun c_84 => ?_)
        ·
          refine V_aload0 G dX7_laysReading_124 ?_
          refine V_dup G dX7_laysReading_125 rfl ?_
          refine V_getIe (jz := 16) G fl_X7_123 dX7_laysReading_126 (by first | decide | assumption) (by first | rfl | assumption) rfl rfl (by first | (simp only [hI_sI, hI_sL, hL_sI, hL_sL, false_and, true_and, and_false, and_true, and_self, if_false, if_true, hA2]; first | done | rfl) | rfl) ?_
          refine V_aload0 G dX7_laysReading_129 ?_
          refine V_getIe (jz := 16) G fl_X7_123 dX7_laysReading_130 (by first | decide | assumption) (by first | rfl | assumption) rfl rfl (by first | (simp only [hI_sI, hI_sL, hL_sI, hL_sL, false_and, true_and, and_false, and_true, and_self, if_false, if_true, hA2]; first | done | rfl) | rfl) ?_
          refine V_sipush G dX7_laysReading_133 (by decide) ?_
          refine V_icmpge G dX7_laysReading_136 (tgt := 143) (by decide) (by first | exact r _ _ | assumption | exact ⟨by omega, by omega⟩) (by first | exact r _ _ | assumption | exact ⟨by omega, by omega⟩) (fun c_136 => ?_) (fun c_136 => ?_)
          · omega
          ·
            refine V_iconst G dX7_laysReading_139 ?_
            refine V_goto G dX7_laysReading_140 (tgt := 144) (by decide) ?_
            refine V_iadd G dX7_laysReading_144 ?_
            refine V_putI (jz := 16) G fw_X7_123 dX7_laysReading_145 (by first | decide | assumption) (by first | rfl | assumption) rfl rfl ?_
            exact V_retv E dX7_laysReading_148 rfl ⟨rfl, by
              first
              | exact ⟨ef.st rfl, r2.sI ⟨by omega, by omega⟩, by simp [hI_sI], fun i w h1 h2 h3 h4 => by
                  simp only [hI_sI, Nat.reduceEqDiff, false_and, if_false]
                  rw [hf1 _ (by omega), hup (i + 1) w (by omega) (by omega) h3 h4, show i + 1 - 1 = i by omega], fun w h1 h2 => by
                  simp only [hI_sI, Nat.reduceEqDiff, false_and, if_false]
                  rw [hf2 w h1 (by omega), if_pos h2]⟩⟩
        · omega
      | succ m ih =>
        intro k f hm_ hk0 r2 ef hA2 hf1 hf2
        have hn3 : hI f 78 0 = n := (ef.1 _ _ rfl).trans hn
        have h883 : hI f 88 k = hI h 88 k := ef.1 _ _ rfl
        refine V_iload2 G dX7_laysReading_81 ?_
        refine V_bipush G dX7_laysReading_82 (by decide) ?_
        refine V_icmpge G dX7_laysReading_84 (tgt := 124) (by decide) (by first | exact r _ _ | assumption | exact ⟨by omega, by omega⟩) (by first | exact r _ _ | assumption | exact ⟨by omega, by omega⟩) (fun c_84 => ?_) (fun c_84 => ?_)
        · omega
        ·
          refine V_aload0 G dX7_laysReading_87 ?_
          refine V_getR G fl_X7_44 dX7_laysReading_88 (by first | decide | assumption) (by first | rfl | assumption) rfl (by first | rfl | assumption) ?_
          refine V_bipush G dX7_laysReading_91 (by decide) ?_
          refine V_iload1 G dX7_laysReading_93 ?_
          refine V_imul G dX7_laysReading_94 ?_
          refine V_iload2 G dX7_laysReading_95 ?_
          refine V_iadd G dX7_laysReading_96 ?_
          refine V_iload2 G dX7_laysReading_97 ?_
          refine V_aload0 G dX7_laysReading_98 ?_
          refine V_getR G fl_X7_7 dX7_laysReading_99 (by first | decide | assumption) (by first | rfl | assumption) rfl (by first | rfl | assumption) ?_
          refine V_iconst G dX7_laysReading_102 ?_
          refine V_ialde G dX7_laysReading_103 (by first | decide | assumption) (by first | rfl | assumption) (by decide) ⟨by omega, by omega⟩ (by first | (simp only [hI_sI, hI_sL, hL_sI, hL_sL, false_and, true_and, and_false, and_true, and_self, if_false, if_true, hn3, h883]; first | done | rfl) | rfl) ?_
          refine V_icmpge G dX7_laysReading_104 (tgt := 116) (by decide) (by first | exact r _ _ | assumption | exact ⟨by omega, by omega⟩) (by first | exact r _ _ | assumption | exact ⟨by omega, by omega⟩) (fun c_104 => ?_) (fun c_104 => ?_)
          ·
            refine V_iconst G dX7_laysReading_116 ?_
            refine V_iast G dX7_laysReading_117 (by first | decide | assumption) (by first | rfl | assumption) (by decide) ⟨by omega, by omega⟩ ?_
            refine V_iinc2 G dX7_laysReading_118 rfl ?_
            refine V_goto G dX7_laysReading_121 (tgt := 81) (by decide) ?_
            first
            | exact ih (k + 1) _ (by omega) (by omega) (r2.sI (r _ _)) (ef.st rfl) (by simp [hI_sI, hA2]) (fun j h1 => by rw [hI_sI, if_neg (by omega)]; exact hf1 j h1) (fun w h1 h2 => by
                rw [hI_sI]
                by_cases hj : w = k
                · rw [if_pos ⟨rfl, by omega⟩, if_pos (by omega), hj]
                · rw [if_neg (by omega)]; exact hf2 w h1 (by omega))
            | exact ih (k + 1) _ (by omega) (by omega) (r2.sI ⟨by omega, by omega⟩) (ef.st rfl) (by simp [hI_sI, hA2]) (fun j h1 => by rw [hI_sI, if_neg (by omega)]; exact hf1 j h1) (fun w h1 h2 => by
                rw [hI_sI]
                by_cases hj : w = k
                · rw [if_pos ⟨rfl, by omega⟩, if_neg (by omega)]
                · rw [if_neg (by omega)]; exact hf2 w h1 (by omega))
          ·
            refine V_aload0 G dX7_laysReading_107 ?_
            refine V_getR G fl_X7_41 dX7_laysReading_108 (by first | decide | assumption) (by first | rfl | assumption) rfl (by first | rfl | assumption) ?_
            refine V_iload2 G dX7_laysReading_111 ?_
            refine V_ialde G dX7_laysReading_112 (by first | decide | assumption) (by first | rfl | assumption) (by decide) ⟨by omega, by omega⟩ (by first | (simp only [hI_sI, hI_sL, hL_sI, hL_sL, false_and, true_and, and_false, and_true, and_self, if_false, if_true, hn3, h883]; first | done | rfl) | rfl) ?_
            refine V_goto G dX7_laysReading_113 (tgt := 117) (by decide) ?_
            refine V_iast G dX7_laysReading_117 (by first | decide | assumption) (by first | rfl | assumption) (by decide) ⟨by omega, by omega⟩ ?_
            refine V_iinc2 G dX7_laysReading_118 rfl ?_
            refine V_goto G dX7_laysReading_121 (tgt := 81) (by decide) ?_
            first
            | exact ih (k + 1) _ (by omega) (by omega) (r2.sI (r _ _)) (ef.st rfl) (by simp [hI_sI, hA2]) (fun j h1 => by rw [hI_sI, if_neg (by omega)]; exact hf1 j h1) (fun w h1 h2 => by
                rw [hI_sI]
                by_cases hj : w = k
                · rw [if_pos ⟨rfl, by omega⟩, if_pos (by omega), hj]
                · rw [if_neg (by omega)]; exact hf2 w h1 (by omega))
            | exact ih (k + 1) _ (by omega) (by omega) (r2.sI ⟨by omega, by omega⟩) (ef.st rfl) (by simp [hI_sI, hA2]) (fun j h1 => by rw [hI_sI, if_neg (by omega)]; exact hf1 j h1) (fun w h1 h2 => by
                rw [hI_sI]
                by_cases hj : w = k
                · rw [if_pos ⟨rfl, by omega⟩, if_neg (by omega)]
                · rw [if_neg (by omega)]; exact hf2 w h1 (by omega))
    refine V_iconst G dX7_laysReading_79 ?_
    refine V_istore2 G dX7_laysReading_80 rfl ?_
    exact loop2 12 0 _ (by omega) (by omega) r1 eg hA (fun j h1 => rfl) (fun w h1 h2 => by omega)
  have down : ∀ (m : Nat) (k : Int) (g : Hp) (a2 : Option Value), k = m → k ≤ A → Rg g → eqx S89 h g → hI g 77 16 = A → (∀ i w : Int, k < i → i ≤ A → 0 ≤ w → w < 12 → hI g 89 (12 * i + w) = hI h 89 (12 * (i - 1) + w)) → (∀ j : Int, 0 ≤ j → j < 12 * k → hI g 89 j = hI h 89 j) → V X 0 0 21 [some (.ref 77), some (.int (Int32.ofInt k)), a2] [] g := by
    intro m
    induction m with
    | zero =>
      intro k g a2 hk hkA r1 eg hA hup hlo
      refine V_iload1 G dX7_laysReading_21 ?_
      refine V_ifle G dX7_laysReading_22 (tgt := 79) (by decide) (by first | exact r _ _ | assumption | exact ⟨by omega, by omega⟩) (fun c_22 => ?_) (fun c_22 => ?_)
      ·
        exact last g _ k (by omega) r1 eg hA hup hlo
      · omega
    | succ m ih =>
      intro k g a2 hk hkA r1 eg hA hup hlo
      have hgn : hI g 78 0 = n := (eg.1 _ _ rfl).trans hn
      have hgh : aheadF (hI g 88) (fun w => hI g 89 (12 * (k - 1) + w)) n.toNat 0 = true := by
        rw [← hah (k - 1) (by omega) (by omega), show hI g 88 = hI h 88 from funext fun j => eg.1 88 j rfl]
        exact aheadF_congr _ _ (fun j h1 h2 => hlo _ (by omega) (by omega))
      have copy : ∀ (m : Nat) (k9 : Int) (f : Hp), k9 + m = 12 → 0 ≤ k9 → Rg f → eqx S89 h f → hI f 77 16 = A → (∀ j : Int, j < 12 * k ∨ 12 * (k + 1) ≤ j → hI f 89 j = hI g 89 j) → (∀ w : Int, 0 ≤ w → w < k9 → hI f 89 (12 * k + w) = hI g 89 (12 * (k - 1) + w)) → V X 0 0 37 [some (.ref 77), some (.int (Int32.ofInt k)), some (.int (Int32.ofInt k9))] [] f := by
        intro m
        induction m with
        | zero =>
          intro k9 f hm_ hk0 r2 ef hA2 hf1 hf2
          refine V_iload2 G dX7_laysReading_37 ?_
          refine V_bipush G dX7_laysReading_38 (by decide) ?_
          refine V_icmpge G dX7_laysReading_40 (tgt := 73) (by decide) (by first | exact r _ _ | assumption | exact ⟨by omega, by omega⟩) (by first | exact r _ _ | assumption | exact ⟨by omega, by omega⟩) (fun c_40 => ?_) (fun c_40 => ?_)
          ·
            refine V_iinc1 G dX7_laysReading_73 rfl ?_
            refine V_goto G dX7_laysReading_76 (tgt := 21) (by decide) ?_
            exact ih (k + -1) f _ (by omega) (by omega) r2 ef hA2 (fun i w h1 h2 h3 h4 => by
              by_cases hi : i = k
              · rw [hi, hf2 w h3 (by omega)]
                exact hlo _ (by omega) (by omega)
              · rw [hf1 _ (by omega)]
                exact hup i w (by omega) h2 h3 h4) (fun j h1 h2 => by
              rw [hf1 j (by omega)]
              exact hlo j h1 (by omega))
          · omega
        | succ m9 ihc =>
          intro k9 f hm_ hk0 r2 ef hA2 hf1 hf2
          refine V_iload2 G dX7_laysReading_37 ?_
          refine V_bipush G dX7_laysReading_38 (by decide) ?_
          refine V_icmpge G dX7_laysReading_40 (tgt := 73) (by decide) (by first | exact r _ _ | assumption | exact ⟨by omega, by omega⟩) (by first | exact r _ _ | assumption | exact ⟨by omega, by omega⟩) (fun c_40 => ?_) (fun c_40 => ?_)
          · omega
          ·
            refine V_aload0 G dX7_laysReading_43 ?_
            refine V_getR G fl_X7_44 dX7_laysReading_44 (by first | decide | assumption) (by first | rfl | assumption) rfl (by first | rfl | assumption) ?_
            refine V_bipush G dX7_laysReading_47 (by decide) ?_
            refine V_iload1 G dX7_laysReading_49 ?_
            refine V_imul G dX7_laysReading_50 ?_
            refine V_iload2 G dX7_laysReading_51 ?_
            refine V_iadd G dX7_laysReading_52 ?_
            refine V_aload0 G dX7_laysReading_53 ?_
            refine V_getR G fl_X7_44 dX7_laysReading_54 (by first | decide | assumption) (by first | rfl | assumption) rfl (by first | rfl | assumption) ?_
            refine V_bipush G dX7_laysReading_57 (by decide) ?_
            refine V_iload1 G dX7_laysReading_59 ?_
            refine V_iconst G dX7_laysReading_60 ?_
            refine V_isub G dX7_laysReading_61 ?_
            refine V_imul G dX7_laysReading_62 ?_
            refine V_iload2 G dX7_laysReading_63 ?_
            refine V_iadd G dX7_laysReading_64 ?_
            refine V_ialde G dX7_laysReading_65 (by first | decide | assumption) (by first | rfl | assumption) (by decide) ⟨by omega, by omega⟩ (by first | (simp only [hI_sI, hI_sL, hL_sI, hL_sL, false_and, true_and, and_false, and_true, and_self, if_false, if_true]; first | done | rfl) | rfl) ?_
            refine V_iast G dX7_laysReading_66 (by first | decide | assumption) (by first | rfl | assumption) (by decide) ⟨by omega, by omega⟩ ?_
            refine V_iinc2 G dX7_laysReading_67 rfl ?_
            refine V_goto G dX7_laysReading_70 (tgt := 37) (by decide) ?_
            exact ihc (k9 + 1) _ (by omega) (by omega) (r2.sI (r2 _ _)) (ef.st rfl) (by simp [hI_sI, hA2]) (fun j h1 => by rw [hI_sI, if_neg (by omega)]; exact hf1 j h1) (fun w h1 h2 => by
                rw [hI_sI]
                by_cases hj : w = k9
                · subst hj
                  rw [if_pos ⟨rfl, rfl⟩]
                  exact hf1 _ (by omega)
                · rw [if_neg (by omega)]; exact hf2 w h1 (by omega))
      refine V_iload1 G dX7_laysReading_21 ?_
      refine V_ifle G dX7_laysReading_22 (tgt := 79) (by decide) (by first | exact r _ _ | assumption | exact ⟨by omega, by omega⟩) (fun c_22 => ?_) (fun c_22 => ?_)
      · omega
      ·
        refine V_aload0 G dX7_laysReading_25 ?_
        refine V_iload1 G dX7_laysReading_26 ?_
        refine V_iconst G dX7_laysReading_27 ?_
        refine V_isub G dX7_laysReading_28 ?_
        refine V_cV1i (d1 := 1) G m_X7_126 dX7_laysReading_29 (by first | decide | assumption) (by first | rfl | assumption) (c_X7_isAhead r1 (n := n) (k1 := k - 1) hgn hn0 (by omega)) (by omega) (by omega) (by omega) (Nat.le_of_ble_eq_true rfl) (fun x_29 h_29 hp_29 => ?_)
        rw [hp_29.1, hp_29.2, bI_c (iff_true_intro hgh)]
        refine V_ifeqB G dX7_laysReading_32 (tgt := 79) (by decide)  (fun c_32 => ?_) (fun c_32 => ?_)
        · exact absurd trivial c_32
        ·
          refine V_iconst G dX7_laysReading_35 ?_
          refine V_istore2 G dX7_laysReading_36 rfl ?_
          exact copy 12 0 g (by omega) (by omega) r1 eg hA (fun j _ => rfl) (fun w h1 h2 => by omega)
  refine V_aload0 G dX7_laysReading_0 ?_
  refine V_getIe (jz := 16) G fl_X7_123 dX7_laysReading_1 (by first | decide | assumption) (by first | rfl | assumption) rfl rfl (by first | (simp only [hI_sI, hI_sL, hL_sI, hL_sL, false_and, true_and, and_false, and_true, and_self, if_false, if_true, hA]; first | done | rfl) | rfl) ?_
  refine V_sipush G dX7_laysReading_4 (by decide) ?_
  refine V_icmpge G dX7_laysReading_7 (tgt := 17) (by decide) (by first | exact r _ _ | assumption | exact ⟨by omega, by omega⟩) (by first | exact r _ _ | assumption | exact ⟨by omega, by omega⟩) (fun c_7 => ?_) (fun c_7 => ?_)
  · omega
  ·
    refine V_aload0 G dX7_laysReading_10 ?_
    refine V_getIe (jz := 16) G fl_X7_123 dX7_laysReading_11 (by first | decide | assumption) (by first | rfl | assumption) rfl rfl (by first | (simp only [hI_sI, hI_sL, hL_sI, hL_sL, false_and, true_and, and_false, and_true, and_self, if_false, if_true, hA]; first | done | rfl) | rfl) ?_
    refine V_goto G dX7_laysReading_14 (tgt := 20) (by decide) ?_
    refine V_istore1 G dX7_laysReading_20 rfl ?_
    exact down A.toNat A h _ (by omega) (by omega) r eqx.rf hA (fun i w h1 h2 h3 h4 => by omega) (fun j h1 h2 => rfl)

end M6
