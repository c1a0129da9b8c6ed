/-! Throws that a method's own table catches; the catch types may be cold. -/
section SEEK
variable {Q : Handler → Pre} {E : CtlPost} {e : Env} {d : Bool} {acts : List Action} {T : State} {f : JFrame} {a : Addr}
theorem rn_seek1 {x : ExceptionTableEntry} {t : List ExceptionTableEntry} {k : ClassId} {cell : Cell} (hx : covers x f.pc = true) (h0 : x.catchType ≠ 0)
    (hl : T.vm.ClassLinks e.platform f.method.cls x.catchType k) (hcell : T.heap[a]? = some cell) (hobj : ∀ j, cell.vm ≠ .statics j)
    (hk : ∃ j, T.vm.classes[cell.cls]? = some j) (hc : ∃ j, T.vm.classes[k]? = some j) :
    wp (findHandler.go f a (x :: t)) Q E e d acts T ↔ if T.vm.assignable cell.cls k = true then Q (.found x.handlerPc) d acts (T.setVm (T.vm.noted f.method.cls x.catchType (.cls k))) else wp (findHandler.go f a t) Q E e d acts (T.setVm (T.vm.noted f.method.cls x.catchType (.cls k))) := by
  simp only [covers] at hx
  obtain ⟨o1, o2⟩ := (resolveClass_links e.toSetting hl).op (op := VmOp.resolveClass f.method.cls x.catchType) rfl
  have al : T.vm.Alike (T.vm.noted f.method.cls x.catchType (.cls k)) := (Vm.Alike.refl T.vm).noted _ _ _
  obtain ⟨j1, g1⟩ := hk
  obtain ⟨j2, g2⟩ := hc
  obtain ⟨i1, r1, -⟩ := al.2.2 _ _ g1
  obtain ⟨i2, r2, -⟩ := al.2.2 _ _ g2
  have ha := al.assignable cell.cls k
  cases hfit : T.vm.assignable cell.cls k with
  | true => simp [findHandler.go, hx, h0, o1, o2, hcell, hobj, r1, r2, ha, hfit, VmOp.dirties, VmOp.acts]
  | false => simp [findHandler.go, hx, h0, o1, o2, hcell, hobj, r1, r2, ha, hfit, VmOp.dirties, VmOp.acts]
end SEEK
/-- which handler of the table takes an exception of the class X thrown at pc -/
def rn_ct (own X : String) (pc hp : Nat) : List (Nat × Nat × Nat × Nat) → Prop
  | [] => False
  | x :: r => if x.1 ≤ pc ∧ pc < x.2.1 then x.2.2.2 ≠ 0 ∧ ∃ C, Cond.classLink own x.2.2.2 C ∈ allW ∧ ((Cond.castable X C ∈ faceW ∧ x.2.2.1 = hp) ∨ ((X, C) ∈ ncW ∧ rn_ct own X pc hp r)) else rn_ct own X pc hp r
section CATCH
variable {p : Program} {l : Launch} {e : Env} {R : Room} {s : State} {m : MethodId} {args : Array Value} {below : List Frame} {meth : Method} {c : Code} {z : Nat} {sa : Nat → Nat} {D : va_G} {dA : Nat → ClassId} {mc ms : Nat} {K : ah_R → ah_H → Prop}
variable {cc : ByteArray} {own nm : String} {nL : Nat} {ret : Option FieldType} {hh : List (Nat × Nat × Nat × Nat)} {pc : Nat} {lv : List (Option Value)} {st : List Value} {h : ah_H} {n1 n2 : Nat}
theorem rn_search (C : rn_Ok p l e s m args meth c z sa D dA cc own nm nL ret hh) (hpl : e.platform.magicAccessors = ({} : Platform).magicAccessors) {X : String} {hp : Nat} {f : JFrame} (hf : f.method = m) {a : Addr} {cell : Cell} (hobj : ∀ j, cell.vm ≠ .statics j) (hX : s.vm.findClass X = some cell.cls) :
    ∀ (tbl : List ExceptionTableEntry) (T : State), s.WarmedH T.vm → T.heap[a]? = some cell → rn_ct own X f.pc hp (tbl.map fun x => (x.startPc, x.endPc, x.handlerPc, x.catchType)) →
      ∃ vm', s.WarmedH vm' ∧ ∀ (Q : Handler → Pre) (E : CtlPost) (d : Bool) (acts : List Action), wp (findHandler.go f a tbl) Q E e d acts T ↔ Q (.found hp) d acts (T.setVm vm') := by
  subst hf
  intro tbl
  induction tbl with
  | nil => intro T _ _ hct; exact absurd hct (fun q => q)
  | cons x t ih =>
    intro T hW hcell hct
    simp only [List.map_cons, rn_ct] at hct
    by_cases hcv : x.startPc ≤ f.pc ∧ f.pc < x.endPc
    · rw [if_pos hcv] at hct
      have hx : covers x f.pc = true := by simp [covers, hcv.1, hcv.2]
      obtain ⟨h0, C', hl, hcase⟩ := hct
      obtain ⟨k, hk, hcl⟩ := Cond.classLink_spec C.ow (C.ts _ hl) e.platform hpl
      obtain ⟨dk, _, _, kt, hd, _, _, _, _, hkt, _, hopen⟩ := hcl.here
      have hcl₀ := hW.classLinks hcl
      have hW' : s.WarmedH (T.vm.noted f.method.cls x.catchType (.cls k)) := hW.noted hd hopen (State.rightAt_cls hcl)
      obtain ⟨kX, hkX, -⟩ := Vm.findClass_spec hX
      obtain ⟨kX', hkX', -⟩ := hW.alike.2.2 _ _ hkX
      obtain ⟨kt', hkt', -⟩ := hW.alike.2.2 _ _ hkt
      have step := fun (Q : Handler → Pre) (E : CtlPost) (d : Bool) (acts : List Action) => rn_seek1 (Q := Q) (E := E) (e := e) (d := d) (acts := acts) (T := T) (f := f) (a := a) (x := x) (t := t) hx h0 hcl₀ hcell hobj ⟨kX', hkX'⟩ ⟨kt', hkt'⟩
      have has := hW.alike.assignable cell.cls k
      rcases hcase with ⟨hc, hhp⟩ | ⟨hn, hr⟩
      · obtain ⟨c3, c4, hc3, hc4, hasg⟩ := Cond.castable_spec (va_Nw.use (A := args) (faceW_ok _ hc).1 (C.ff.2.1 _ hc))
        cases hX.symm.trans hc3
        cases hk.symm.trans hc4
        refine ⟨_, hW', fun Q E d acts => ?_⟩
        rw [step Q E d acts, if_pos (by rw [has]; exact hasg), hhp]
      · obtain ⟨c3, c4, hc3, hc4, hasg⟩ := C.ff.2.2.2.1 _ hn
        cases hX.symm.trans hc3
        cases hk.symm.trans hc4
        obtain ⟨vm', hv, hq⟩ := ih (T.setVm (T.vm.noted f.method.cls x.catchType (.cls k))) hW' hcell hr
        refine ⟨vm', hv, fun Q E d acts => ?_⟩
        rw [step Q E d acts, if_neg (by rw [has, hasg]; decide), hq Q E d acts]
        exact Iff.rfl
    · rw [if_neg hcv] at hct
      have hx : covers x f.pc = false := by
        simp only [covers]
        by_cases h1 : x.startPc ≤ f.pc
        · have h2 : ¬ f.pc < x.endPc := fun q => hcv ⟨h1, q⟩
          simp [h2]
        · simp [h1]
      obtain ⟨vm', hv, hq⟩ := ih T hW hcell hct
      refine ⟨vm', hv, fun Q E d acts => ?_⟩
      rw [W.findHandler_go_skip hx]
      exact hq Q E d acts
theorem rn_caught {U target : State} {g : JFrame} {a : Addr} {hp : Nat} {vm' : Vm} (hA : At U g.method c below)
    (hfind : ∀ (Q : Handler → Pre) (E : CtlPost) (d : Bool) (acts : List Action), wp (findHandler g a) Q E e d acts ((U.setTop g).pushFrame (.throwing a)) ↔ Q (.found hp) d acts (((U.setTop g).pushFrame (.throwing a)).setVm vm'))
    (hrest : Steps p.tables e below ((U.setVm vm').setTop { g with pc := hp, stack := [.ref a] }) target) : Steps p.tables e below ((U.setTop g).pushFrame (.throwing a)) target := by
  obtain ⟨hgo, hw⟩ := hA.throwing a
  refine Steps.head hgo hw ?_
  have key : ∀ r : List Frame, (stepThrowing e ((U.setTop g).pushFrame (.throwing a)) a (.java g :: r)).Is ((((U.setTop g).pushFrame (.throwing a)).setVm vm').setFrames (.java { g with pc := hp, stack := [.ref a] } :: r)) [] := by
    intro r
    simp only [stepThrowing, searchFrame, vmDo]
    generalize hr : Sem.go _ e false [] _ = res
    obtain ⟨as, rfl, ha⟩ := Sem.eq_ok_of hr (a := Handler.found hp) (s' := ((U.setTop g).pushFrame (.throwing a)).setVm vm') (acts' := []) (by simp [hfind _ _ _ _])
    exact ⟨rfl, ha⟩
  rw [stepThread_throwing (frames_entered hA.top _), (key _).1]
  obtain ⟨g₀, hg⟩ := Option.isSome_iff_exists.mp hA.top
  obtain ⟨r, hr⟩ := State.topJava?_eq_some.mp hg
  have hr' : (U.setVm vm').frames = .java g₀ :: r := hr
  rw [State.setTop_of_frames _ hr'] at hrest
  have e1 : ∀ F G : List Frame, ((U.setFrames F).setVm vm').setFrames G = (U.setVm vm').setFrames G := fun F G => by
    have h1 : (U.setFrames F).setVm vm' = (U.setVm vm').setFrames F := rfl
    rw [h1, State.setFrames_setFrames]
  rw [hr, List.tail_cons, State.pushFrame, State.setTop_of_frames _ hr]
  have e2 : ((U.setFrames (.java g :: r)).setFrames (Frame.throwing a :: (U.setFrames (.java g :: r)).frames)) = U.setFrames (Frame.throwing a :: (U.setFrames (.java g :: r)).frames) := State.setFrames_setFrames _ _ _
  rw [e2, e1]
  exact hrest
/-- behind a call that may throw, in a method whose table catches -/
def rn_aftT (own : String) (pc : Nat) (hh : List (Nat × Nat × Nat × Nat)) (Rn : Option Value → ah_H → Prop) (Rt : Nat → Nat → ah_H → Prop) : ah_R → ah_H → Prop := fun r h' => match r with
  | .inl v => Rn v h'
  | .inr k => ∃ (ci : Nat) (X : String) (T : u_T) (hp : Nat), h'[k]? = some (.inr (ci, [])) ∧ ccl[ci]? = some (X, T, 0) ∧ rn_ct own X pc hp hh ∧ Rt hp k h'
theorem rn_goT {locs : List Loc} {y : MethodName} {wc : Cond} {rm : Room} {G : (Nat → Nat) → List Value → ah_H → (ah_R → ah_H → Prop) → Prop} {cy : ByteArray} {nY : Nat} {ry : Option FieldType} {hy : List (Nat × Nat × Nat × Nat)} (hM : rn_MetS l y wc rm G) (hw : rn_wc y cy nY ry hy wc) (hwc : wc ∈ allW)
    (C : rn_Ok p l e s m args meth c z sa D dA cc own nm nL ret hh) {H : Heap} {ls : Array Slot} {T : State} (hT : T.heap = H) (hH : rn_H z sa D dA h H) (hS : va_S (fun q => z ≤ q) s.heap H locs) (hL : rn_L z sa ls nL lv) (hini : Cond.initialized y.cls ∈ allW)
    {ig : Instr} (d : decode cc pc = .ok (ig, 3)) {mk : MethodId} {vm₁ : Vm} (X₁ : Stand p l e R s m args below meth c (T.setVm vm₁) locs n1 n2) (hn : (T.setVm vm₁).methodNamed? y = some mk) {g0 : JFrame} {av : List Value}
    (hstep : ∀ target, (∀ acts, Steps p.tables e below (doInvoke e ((T.setVm vm₁).setTop (F0 m pc ls (st.map (ah_v z sa)))) acts mk (av.map (ah_v z sa)).toArray).1 target) → Steps p.tables e below (T.setTop g0) target)
    (hcat : (st.map fun v => v.category).sum ≤ 8) (hr : rm.frames + 1 ≤ R.frames ∧ 8 + (nY + 11) + rm.locals ≤ R.locals) (hc : n1 + rm.cells ≤ R.cells ∧ n2 + rm.slots ≤ R.slots)
    (hG : G sa av h (rn_aftT own pc hh (fun v h' => Run p l e R s m args below meth c z sa D dA mc ms K nL (pc + 3) lv (v.toList ++ st) h' (n1 + rm.cells) (n2 + rm.slots)) (fun hp k h' => Run p l e R s m args below meth c z sa D dA mc ms K nL hp lv [.ref k] h' (n1 + rm.cells) (n2 + rm.slots)))) : ∃ t, Steps p.tables e below (T.setTop g0) t ∧ rn_MQ below z sa D dA K s mc ms t := by
  have hF : rn_F z sa (T.setVm vm₁) := rn_F.kept (s := s) (U := T.setVm vm₁) X₁.warmed (fun q hq => by show T.heap[q]? = _; rw [hT]; exact hS.2.1 q (Nat.lt_of_lt_of_le hq C.zs) (by omega)) C.ff
  obtain ⟨r, h', U, L, hK', hH', X2, hLz, z1, z2, hst⟩ := rn_back hM hw hwc X₁ C.ts (C.ts _ hini) (g := F0 m pc ls (st.map (ah_v z sa))) rfl (hL.1.trans C.ml.symm) (ig := ig) (by rw [C.by]; exact d) (by show 2 * 0 + _ ≤ 8; rw [ah_catsum]; omega) hn hr.1 hr.2 hc.1 hc.2 (z := z) (sa := sa) (D := D) (dA := dA) (by show rn_H z sa D dA h T.heap; rw [hT]; exact hH) (va_K.moved X₁.warmed.alike C.kk) hF hG
  have z1' : H.size ≤ U.heap.size := by rw [← hT]; exact z1
  have z2' : ∀ q : Nat, q < H.size → ¬ z ≤ q → U.heap[q]? = H[q]? := by rw [← hT]; exact z2
  cases r with
  | inr k =>
    obtain ⟨ci, XX, TT, hp, hk, hcl, hct, hrun⟩ := hK'
    obtain ⟨r9, g1, cell, g2, g3, g4, -⟩ := hH'.2 k _ (ah_get hk)
    have hr9 : r9 = (XX, TT, 0) := Option.some.inj (g1.symm.trans hcl)
    subst hr9
    have hX9 : s.vm.findClass XX = some cell.cls := by rw [g3]; exact (C.kk.1 ci _ hcl).2.1
    have hpl : e.platform.magicAccessors = ({} : Platform).magicAccessors := by rw [X₁.admits.platform]
    have hvm : ((U.setTop (F0 m pc ls (st.map (ah_v z sa)))).pushFrame (.throwing (z + k))).vm = U.vm := Stand.throwing_vm _ _ _
    have hhp : ((U.setTop (F0 m pc ls (st.map (ah_v z sa)))).pushFrame (.throwing (z + k))).heap = U.heap := Stand.throwing_heap _ _ _
    obtain ⟨vm', hv, hq⟩ := rn_search C hpl (X := XX) (hp := hp) (f := F0 m pc ls (st.map (ah_v z sa))) rfl (a := z + k) (cell := cell) (fun j hj => by rw [g4] at hj; cases hj) hX9 c.exceptionTable.toList ((U.setTop (F0 m pc ls (st.map (ah_v z sa)))).pushFrame (.throwing (z + k))) (by rw [hvm]; exact X2.warmed) (by rw [hhp]; exact g2) (by rw [C.tb]; exact hct)
    obtain ⟨t, a1, b1⟩ := hrun U.heap (locs ++ L) ls hH' (rn_S hS z1' z2' hLz) hL (U.setVm vm') rfl (X2.noted hv)
    refine ⟨t, hstep t (fun acts => ?_), b1⟩
    rw [doInvoke_state]
    refine Steps.trans hst ?_
    exact rn_caught X2.here (fun Q E d acts => (W.findHandler_eq (by rw [hvm]; exact X2.method') X2.code).trans (hq Q E d acts)) a1
  | inl v =>
    have k : Run p l e R s m args below meth c z sa D dA mc ms K nL (pc + 3) lv (v.toList ++ st) h' (n1 + rm.cells) (n2 + rm.slots) := hK'
    obtain ⟨t, a1, b1⟩ := k U.heap (locs ++ L) ls hH' (rn_S hS z1' z2' hLz) hL U rfl X2
    refine ⟨t, hstep t (fun acts => ?_), b1⟩
    rw [doInvoke_state]
    refine Steps.trans hst ?_
    cases v <;> exact a1
theorem rn_callVT (C : rn_Ok p l e s m args meth c z sa D dA cc own nm nL ret hh) {y : MethodName} {wc : Cond} {rm : Room} {G : (Nat → Nat) → List Value → ah_H → (ah_R → ah_H → Prop) → Prop} {cy : ByteArray} {nY : Nat} {ry : Option FieldType} {hy : List (Nat × Nat × Nat × Nat)} (hM : rn_MetS l y wc rm G) (hmw : rn_mw y cy nY ry hy wc) {i n : Nat} (hcv : rn_cv own i y n) (d : decode cc pc = .ok (.invokevirtual i, 3)) (q : Nat) (av : List Value) {stk : List Value} (hs : stk = av.reverse ++ .ref q :: st) (hlen : av.length = n) {ci : Nat} {fs : List Value} (hq : h[q]? = some (.inr (ci, fs))) {TT : u_T} {NN : Nat} (hcl : ccl[ci]? = some (y.cls, TT, NN))
    (hcat : (st.map fun v => v.category).sum ≤ 8) (hr : rm.frames + 1 ≤ R.frames ∧ 8 + (nY + 11) + rm.locals ≤ R.locals) (hc : n1 + rm.cells ≤ R.cells ∧ n2 + rm.slots ≤ R.slots)
    (hG : G sa (.ref q :: av) h (rn_aftT own pc hh (fun v h' => Run p l e R s m args below meth c z sa D dA mc ms K nL (pc + 3) lv (v.toList ++ st) h' (n1 + rm.cells) (n2 + rm.slots)) (fun hp k h' => Run p l e R s m args below meth c z sa D dA mc ms K nL hp lv [.ref k] h' (n1 + rm.cells) (n2 + rm.slots)))) : Run p l e R s m args below meth c z sa D dA mc ms K nL pc lv stk h n1 n2 := by
  intro H locs ls hH hS hL T hT X
  subst hs
  obtain ⟨hw, hwc⟩ := hmw
  obtain ⟨hl, hmh, hins, hsel, hini⟩ := hcv
  obtain ⟨cellB, hcB, hoB, hclB⟩ := va_recv C.kk hH.2 hcl (ah_get hq : (ah_w z sa dA h)[q]? = some (z + q, .inr (ci, fs.map (ah_v z sa))))
  obtain ⟨mk, methM, hnamed, hmethM, hstM, habM⟩ := Cond.instanceMethod_spec (C.ts _ hins)
  obtain ⟨m9, meth9, cM, hn9, hm9, -, -, -, -, -, -, hsigM⟩ := hw.spec (C.ts _ hwc)
  cases hnamed.symm.trans hn9
  cases hmethM.symm.trans hm9
  obtain ⟨c2, r2, m2, q1, q2, q3, q4, kP, hkP, hkPi⟩ := Cond.selects_spec (C.ts _ hsel)
  cases hclB.symm.trans q1
  cases (State.methodFound?_of_named hnamed hmh.1).symm.trans q2
  cases hnamed.symm.trans q3
  have hselP : selectMethod e.platform s.vm cellB.cls mk = .method mk := by rw [Launch.admits_selectMethod X.admits]; exact q4
  have hstk : (F0 m pc ls ((av.reverse ++ .ref q :: st).map (ah_v z sa))).stack = (av.map (ah_v z sa)).reverse ++ .ref (z + q) :: st.map (ah_v z sa) := by show (av.reverse ++ .ref q :: st).map (ah_v z sa) = _; rw [List.map_append, List.map_reverse]; rfl
  have hlen' : (av.map (ah_v z sa)).length = methM.sig.parameters.length := by rw [List.length_map, hlen]; exact hmh.len hsigM
  rcases hl with hl | ⟨host, hl⟩
  · obtain ⟨vm₁, X₁, hstep₁⟩ := X.invokevirtual C.ex C.ow (C.ts _ hl) hnamed hmethM hstM hkP hkPi hmh.1 (a := z + q) (cell := cellB) (by rw [hT]; exact hcB) (fun z h => by rw [h] at hoB; cases hoB) hselP hmethM habM hkP hkPi (g := F0 m pc ls ((av.reverse ++ .ref q :: st).map (ah_v z sa))) rfl (argsL := av.map (ah_v z sa)) (rest := st.map (ah_v z sa)) hlen' hstk (by rw [C.by]; exact d)
    exact rn_goT hM hw hwc C hT hH hS hL hini d X₁ (X₁.named hnamed) (av := .ref q :: av) hstep₁ hcat hr hc hG
  · obtain ⟨vm₁, X₁, hstep₁⟩ := X.invokevirtualNest C.ex C.ow (va_Nw.use rfl (C.ff.1 _ hl)) hnamed hmethM hstM hkP hkPi hmh.1 (a := z + q) (cell := cellB) (by rw [hT]; exact hcB) (fun z h => by rw [h] at hoB; cases hoB) hselP hmethM habM hkP hkPi (g := F0 m pc ls ((av.reverse ++ .ref q :: st).map (ah_v z sa))) rfl (argsL := av.map (ah_v z sa)) (rest := st.map (ah_v z sa)) hlen' hstk (by rw [C.by]; exact d)
    exact rn_goT hM hw hwc C hT hH hS hL hini d X₁ (X₁.named hnamed) (av := .ref q :: av) hstep₁ hcat hr hc hG
theorem rn_cVT {stk : List Value} (C : rn_Ok p l e s m args meth c z sa D dA cc own nm nL ret hh) {y : MethodName} {wc : Cond} {rm : Room} {G : (Nat → Nat) → List Value → ah_H → (ah_R → ah_H → Prop) → Prop} {cy : ByteArray} {nY : Nat} {ry : Option FieldType} {hy : List (Nat × Nat × Nat × Nat)} (hM : rn_MetS l y wc rm G) (hmw : rn_mw y cy nY ry hy wc) {i n : Nat} (hcv : rn_cv own i y n) (d : decode cc pc = .ok (.invokevirtual i, 3)) {q : Nat} {st : List Value} (hs : stk.drop n = .ref q :: st) {ci : Nat} {fs : List Value} (hq : h[q]? = some (.inr (ci, fs))) {TT : u_T} {NN : Nat} (hcl : ccl[ci]? = some (y.cls, TT, NN)) (hlen : n ≤ stk.length) (hcat : (st.map fun v => v.category).sum ≤ 8) (hr : rm.frames + 1 ≤ R.frames ∧ 8 + (nY + 11) + rm.locals ≤ R.locals) (hc : n1 + rm.cells ≤ R.cells ∧ n2 + rm.slots ≤ R.slots)
    (hG : G sa (.ref q :: (stk.take n).reverse) h (rn_aftT own pc hh (fun v h' => Run p l e R s m args below meth c z sa D dA mc ms K nL (pc + 3) lv (v.toList ++ st) h' (n1 + rm.cells) (n2 + rm.slots)) (fun hp k h' => Run p l e R s m args below meth c z sa D dA mc ms K nL hp lv [.ref k] h' (n1 + rm.cells) (n2 + rm.slots)))) : Run p l e R s m args below meth c z sa D dA mc ms K nL pc lv stk h n1 n2 :=
  rn_callVT C hM hmw hcv d q (stk.take n).reverse (by rw [List.reverse_reverse, ← hs, List.take_append_drop]) (by rw [List.length_reverse, List.length_take]; omega) hq hcl hcat hr hc hG
end CATCH
