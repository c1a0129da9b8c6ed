/-! Rows made of rows: comparisons of longs, calls that take their arguments off the stack. -/
section MORE
variable {p : Program} {l : Launch} {e : Env} {R : Room} {s : State} {m : MethodId} {args : Array Value} {below : List Frame} {meth : Method} {c : Code} {z : Nat} {sa : Nat → Nat} {D : va_G} {dA : Nat → ClassId} {mc ms : Nat} {K : ah_R → ah_H → Prop}
variable {cc : ByteArray} {own nm : String} {nL : Nat} {ret : Option FieldType} {hh : List (Nat × Nat × Nat × Nat)} {pc : Nat} {lv : List (Option Value)} {stk : List Value} {h : ah_H} {n1 n2 : Nat}
theorem rn_lc_ge (C : rn_Ok p l e s m args meth c z sa D dA cc own nm nL ret hh) {st : List Value} {x y : Int64} {off : Int} (tgt : Nat) (d1 : decode cc pc = .ok (.lcmp, 1)) (d2 : decode cc (pc + 1) = .ok (.ifCond .ge off, 3)) (ht : ((pc + 1 : Nat) : Int) + off = (tgt : Int)) (kt : y ≤ x → Run p l e R s m args below meth c z sa D dA mc ms K nL tgt lv st h n1 n2) (kf : ¬ y ≤ x → Run p l e R s m args below meth c z sa D dA mc ms K nL (pc + 1 + 3) lv st h n1 n2) : Run p l e R s m args below meth c z sa D dA mc ms K nL pc lv (.long y :: .long x :: st) h n1 n2 :=
  rn_lcmp C d1 (rn_if_ge C tgt d2 ht (fun q => kt ((lg_cmp_ge x y).mp q)) (fun q => kf (fun w => q ((lg_cmp_ge x y).mpr w))))
theorem rn_lc_le (C : rn_Ok p l e s m args meth c z sa D dA cc own nm nL ret hh) {st : List Value} {x y : Int64} {off : Int} (tgt : Nat) (d1 : decode cc pc = .ok (.lcmp, 1)) (d2 : decode cc (pc + 1) = .ok (.ifCond .le off, 3)) (ht : ((pc + 1 : Nat) : Int) + off = (tgt : Int)) (kt : x ≤ y → Run p l e R s m args below meth c z sa D dA mc ms K nL tgt lv st h n1 n2) (kf : ¬ x ≤ y → Run p l e R s m args below meth c z sa D dA mc ms K nL (pc + 1 + 3) lv st h n1 n2) : Run p l e R s m args below meth c z sa D dA mc ms K nL pc lv (.long y :: .long x :: st) h n1 n2 :=
  rn_lcmp C d1 (rn_if_le C tgt d2 ht (fun q => kt ((lg_cmp_le x y).mp q)) (fun q => kf (fun w => q ((lg_cmp_le x y).mpr w))))
theorem rn_lc_gt (C : rn_Ok p l e s m args meth c z sa D dA cc own nm nL ret hh) {st : List Value} {x y : Int64} {off : Int} (tgt : Nat) (d1 : decode cc pc = .ok (.lcmp, 1)) (d2 : decode cc (pc + 1) = .ok (.ifCond .gt off, 3)) (ht : ((pc + 1 : Nat) : Int) + off = (tgt : Int)) (kt : y < x → Run p l e R s m args below meth c z sa D dA mc ms K nL tgt lv st h n1 n2) (kf : ¬ y < x → Run p l e R s m args below meth c z sa D dA mc ms K nL (pc + 1 + 3) lv st h n1 n2) : Run p l e R s m args below meth c z sa D dA mc ms K nL pc lv (.long y :: .long x :: st) h n1 n2 :=
  rn_lcmp C d1 (rn_if_gt C tgt d2 ht (fun q => kt ((lg_cmp_gt x y).mp q)) (fun q => kf (fun w => q ((lg_cmp_gt x y).mpr w))))
theorem rn_lc_lt (C : rn_Ok p l e s m args meth c z sa D dA cc own nm nL ret hh) {st : List Value} {x y : Int64} {off : Int} (tgt : Nat) (d1 : decode cc pc = .ok (.lcmp, 1)) (d2 : decode cc (pc + 1) = .ok (.ifCond .lt off, 3)) (ht : ((pc + 1 : Nat) : Int) + off = (tgt : Int)) (kt : x < y → Run p l e R s m args below meth c z sa D dA mc ms K nL tgt lv st h n1 n2) (kf : ¬ x < y → Run p l e R s m args below meth c z sa D dA mc ms K nL (pc + 1 + 3) lv st h n1 n2) : Run p l e R s m args below meth c z sa D dA mc ms K nL pc lv (.long y :: .long x :: st) h n1 n2 :=
  rn_lcmp C d1 (rn_if_lt C tgt d2 ht (fun q => kt ((lg_cmp_lt x y).mp q)) (fun q => kf (fun w => q ((lg_cmp_lt x y).mpr w))))
theorem rn_lc_eq (C : rn_Ok p l e s m args meth c z sa D dA cc own nm nL ret hh) {st : List Value} {x y : Int64} {off : Int} (tgt : Nat) (d1 : decode cc pc = .ok (.lcmp, 1)) (d2 : decode cc (pc + 1) = .ok (.ifCond .eq off, 3)) (ht : ((pc + 1 : Nat) : Int) + off = (tgt : Int)) (kt : x = y → Run p l e R s m args below meth c z sa D dA mc ms K nL tgt lv st h n1 n2) (kf : ¬ x = y → Run p l e R s m args below meth c z sa D dA mc ms K nL (pc + 1 + 3) lv st h n1 n2) : Run p l e R s m args below meth c z sa D dA mc ms K nL pc lv (.long y :: .long x :: st) h n1 n2 :=
  rn_lcmp C d1 (rn_if_eq C tgt d2 ht (fun q => kt ((lg_cmp_eq x y).mp q)) (fun q => kf (fun w => q ((lg_cmp_eq x y).mpr w))))
theorem rn_lc_ne (C : rn_Ok p l e s m args meth c z sa D dA cc own nm nL ret hh) {st : List Value} {x y : Int64} {off : Int} (tgt : Nat) (d1 : decode cc pc = .ok (.lcmp, 1)) (d2 : decode cc (pc + 1) = .ok (.ifCond .ne off, 3)) (ht : ((pc + 1 : Nat) : Int) + off = (tgt : Int)) (kt : ¬ x = y → Run p l e R s m args below meth c z sa D dA mc ms K nL tgt lv st h n1 n2) (kf : x = y → Run p l e R s m args below meth c z sa D dA mc ms K nL (pc + 1 + 3) lv st h n1 n2) : Run p l e R s m args below meth c z sa D dA mc ms K nL pc lv (.long y :: .long x :: st) h n1 n2 :=
  rn_lcmp C d1 (rn_if_ne C tgt d2 ht (fun q => kt (fun w => q ((lg_cmp_eq x y).mpr w))) (fun q => kf ((lg_cmp_eq x y).mp q)))
theorem rn_cS (C : rn_Ok p l e s m args meth c z sa D dA cc own nm nL ret hh) {y : MethodName} {wc : Cond} {rm : Room} {G : List Value → ah_H → (ah_R → ah_H → Prop) → Prop} {cy : ByteArray} {nY : Nat} {ry : Option FieldType} {hy : List (Nat × Nat × Nat × Nat)} (hM : rn_Met l y wc rm G) (hmw : rn_mw y cy nY ry hy wc) {i n : Nat} (hcs : rn_cs own i y n) (d : decode cc pc = .ok (.invokestatic i, 3)) (hlen : n ≤ stk.length) (hcat : ((stk.drop n).map fun v => v.category).sum ≤ 8) (hr : rm.frames + 1 ≤ R.frames ∧ 8 + (nY + 11) + rm.locals ≤ R.locals) (hc : n1 + rm.cells ≤ R.cells ∧ n2 + rm.slots ≤ R.slots)
    (hG : G (stk.take n).reverse h (rn_aft fun v h' => Run p l e R s m args below meth c z sa D dA mc ms K nL (pc + 3) lv (v.toList ++ stk.drop n) h' (n1 + rm.cells) (n2 + rm.slots))) : Run p l e R s m args below meth c z sa D dA mc ms K nL pc lv stk h n1 n2 :=
  rn_callS C hM hmw hcs d (stk.take n).reverse (by rw [List.reverse_reverse, List.take_append_drop]) (by rw [List.length_reverse, List.length_take]; omega) hcat hr hc hG
theorem rn_cV (C : rn_Ok p l e s m args meth c z sa D dA cc own nm nL ret hh) {y : MethodName} {wc : Cond} {rm : Room} {G : List Value → ah_H → (ah_R → ah_H → Prop) → Prop} {cy : ByteArray} {nY : Nat} {ry : Option FieldType} {hy : List (Nat × Nat × Nat × Nat)} (hM : rn_Met l y wc rm G) (hmw : rn_mw y cy nY ry hy wc) {i n : Nat} (hcv : rn_cv own i y n) (d : decode cc pc = .ok (.invokevirtual i, 3)) {q : Nat} {st : List Value} (hs : stk.drop n = .ref q :: st) {ci : Nat} {fs : List Value} (hq : h[q]? = some (.inr (ci, fs))) {TT : u_T} {NN : Nat} (hcl : ccl[ci]? = some (y.cls, TT, NN)) (hlen : n ≤ stk.length) (hcat : (st.map fun v => v.category).sum ≤ 8) (hr : rm.frames + 1 ≤ R.frames ∧ 8 + (nY + 11) + rm.locals ≤ R.locals) (hc : n1 + rm.cells ≤ R.cells ∧ n2 + rm.slots ≤ R.slots)
    (hG : G (.ref q :: (stk.take n).reverse) h (rn_aft fun v h' => Run p l e R s m args below meth c z sa D dA mc ms K nL (pc + 3) lv (v.toList ++ st) h' (n1 + rm.cells) (n2 + rm.slots))) : Run p l e R s m args below meth c z sa D dA mc ms K nL pc lv stk h n1 n2 :=
  rn_callV C hM hmw hcv d q (stk.take n).reverse (by rw [List.reverse_reverse, ← hs, List.take_append_drop]) (by rw [List.length_reverse, List.length_take]; omega) hq hcl hcat hr hc hG
theorem rn_cI (C : rn_Ok p l e s m args meth c z sa D dA cc own nm nL ret hh) {y : MethodName} {rm : Room} {G : List Value → ah_H → (ah_R → ah_H → Prop) → Prop} {cy : ByteArray} {nY : Nat} (hM : rn_Met l y (Cond.code y cy nY none) rm G) (hmw : rn_mw y cy nY none [] (Cond.code y cy nY none)) {i n : Nat} (hci : rn_ci own i y n) (d : decode cc pc = .ok (.invokespecial i, 3)) {q : Nat} {st : List Value} (hs : stk.drop n = .ref q :: st) (hlen : n ≤ stk.length) (hcat : (st.map fun v => v.category).sum ≤ 8) (hr : rm.frames + 1 ≤ R.frames ∧ 8 + (nY + 11) + rm.locals ≤ R.locals) (hc : n1 + rm.cells ≤ R.cells ∧ n2 + rm.slots ≤ R.slots)
    (hG : G (.ref q :: (stk.take n).reverse) h (rn_aft fun v h' => Run p l e R s m args below meth c z sa D dA mc ms K nL (pc + 3) lv (v.toList ++ st) h' (n1 + rm.cells) (n2 + rm.slots))) : Run p l e R s m args below meth c z sa D dA mc ms K nL pc lv stk h n1 n2 :=
  rn_callI C hM hmw hci d q (stk.take n).reverse (by rw [List.reverse_reverse, ← hs, List.take_append_drop]) (by rw [List.length_reverse, List.length_take]; omega) hcat hr hc hG
end MORE
theorem rn_in {l : Launch} {y : MethodName} {wc : Cond} {rm : Room} {G : List Value → ah_H → (ah_R → ah_H → Prop) → Prop} {cc : ByteArray} {nL : Nat} {ret : Option FieldType} {hh : List (Nat × Nat × Nat × Nat)} (hw : rn_wc y cc nL ret hh wc) (hy : plainFor y = true)
    (hn : ∀ av h K, G av h K → (lv_in av).length ≤ nL)
    (body : ∀ p e s m args below meth c z sa D dA av h K, l.admits e → rn_Ok p l e s m args meth c z sa D dA cc y.cls y.name nL ret hh → G av h K → Run p l e rm s m args below meth c z sa D dA rm.cells rm.slots K nL 0 (lv_in av) [] h 0 0) : rn_Met l y wc rm G := by
  intro z sa D dA av h K
  refine MetFree.of_bodySF (code := cc) (maxLocals := nL) (ret := ret) hy ?_ ?_
  · intro args s m hp hnm
    obtain ⟨m9, meth, c, hn9, h1, h2, h3, h4, -, h5, h6, -⟩ := hw.spec (atoms_spec (ws := wc :: allW) hp _ List.mem_cons_self)
    cases hnm.symm.trans hn9
    exact ⟨meth, c, h1, h2, h3, h4, h5, h6⟩
  · intro p e s m args below meth c s₁ B hml hP _
    obtain ⟨rfl, hH, hK, hF, hG⟩ := hP
    have hts := atoms_spec (ws := wc :: allW) B.pre
    obtain ⟨m9, meth9, c9, hn9, h1, h2, -, -, h4, -, -, -⟩ := hw.spec (hts _ List.mem_cons_self)
    cases B.named.symm.trans hn9
    cases B.method.symm.trans h1
    have hcc : c9 = c := by
      have e1 := (Stand.of_body B).code
      exact Option.some.inj (h2.symm.trans e1)
    subst hcc
    have C : rn_Ok p l e s m (av.map (ah_v z sa)).toArray meth c9 z sa D dA cc y.cls y.name nL ret hh :=
      ⟨B.exec, B.bytes, hml, findClass_of_methodNamed B.named, fun w hw => hts w (List.mem_cons_of_mem _ hw), B.notSynchronized, B.returns, hK, by rw [hH.1]; omega, hF, (name_of_methodNamed B.named B.method).1, h4⟩
    have hh0 : s₁.heap = s.heap := by rw [B.state]; rfl
    have k := body p e s m _ below meth c9 z sa D dA av h K B.admits C hG s.heap [] _ hH va_S.rf (rn_L.entry (hn _ _ _ hG))
    rw [List.map_nil, ← lg_entry_eq] at k
    obtain ⟨t, a1, o, b1, b2, b3, b4⟩ := k s₁ hh0 (Stand.of_body B)
    exact ⟨t, o, a1, b1, b2, b3, b4⟩
