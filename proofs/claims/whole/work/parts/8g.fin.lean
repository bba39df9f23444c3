section FIN
set_option maxHeartbeats 1000000 in
/-- from the loop's head, over the cells of a new slate and a new reference, the law comes to its end -/
theorem whole_fin {p : Program} {l : Launch} {e : Env} {R : Room} {s : State} {m : MethodId} {args : Array Value} {below : List Frame} {meth : Method} {c : Code} {Q : State → Prop} {D : va_G} {cA : Nat → ClassId} {σ : Nat → Nat} {b L : Nat} {xs : Nat → Int32} (hlt : l.stackTraces = false) (hL : L ≤ 2048)
    (hx : p.tables.exec = Jvm.exec) (hb : c.code = cL_law) (hml : c.maxLocals = 9) (hown : s.vm.findClass RL = some m.cls) (hts : ∀ w ∈ lw_tbl, w.before args s = true) (hlocks : meth.locks = false) (hX : va_X b L xs s s.heap) (hbl : b < s.heap.size)
    (hR : 100 ≤ R.frames ∧ 6400 ≤ R.locals ∧ 601024 ≤ R.cells ∧ 7293034 ≤ R.slots) (hK : va_K D vwCl (atys cA) s) (hinj : ∀ i j, i < NN → j < NN → σ i = σ j → i = j) (hA : ∀ i, i < NN → s.heap.size ≤ σ i) (h98 : σ 98 = b) (hGE : GE (fun q => s.heap.size ≤ q) s s.heap)
    (hend : ∀ (H : Heap) (ls : Array Slot), W p l e R s m args below meth c H [] 601024 7293034 Q (F0 m 1306 ls [.int 1]))
    {H : Heap} {locs : List Loc} {lr : Array Slot} {k n : Nat} (hk : k + 1542 ≤ 601024) (hn : n + 9252 ≤ 7293034) (hP : va_P D vwCl (wd σ cA h00) H) (hS : va_S (fun q => s.heap.size ≤ q) s.heap H locs)
    (hl : lok σ 9 [some (.ref 98), some (.ref 0), some (.ref 77), some (.ref 97), some (.int (Int32.ofInt 0)), none, none, none, none] lr) : W p l e R s m args below meth c H locs k n Q (F0 m 23 lr []) := by
  refine law_loop (X := (p, l, e, R, s, m, args, below, meth, c, D, cA, (fun q => s.heap.size ≤ q), (fun d0 => d0 = s.drawn), Q, σ, 9)) (d := 100) (kc := 601024) (ks := 7293034) (L := L) (xs := xs) hlt
    ⟨hx, hb, hml, hown, fun w hw => hts w (List.mem_filter.mp hw).1, hK, ⟨hinj, hA⟩, fun q hq => hq, hGE, hlocks, hR.1, hR.2.1, hR.2.2.1, hR.2.2.2⟩ ⟨b, h98, hbl, Nat.not_le.mpr hbl, hX⟩ hL ?_ (by omega) hk hn inv0 repC0 repM0 rg0 none none none none H locs s.drawn lr rfl hP hS hl
  intro k1 n1 ls h q1 q2 H1 locs1 d0 lr1 g1 g2 g3 g4
  subst g1
  refine va_forget (fun q hq => g3.2.2 q hq) ?_
  exact W.widen q1 q2 (hend H1 lr1)
end FIN
