/-! Contracts, and calls by contract. -/
def rn_wc (y : MethodName) (cc : ByteArray) (nL : Nat) (ret : Option FieldType) (hh : List (Nat × Nat × Nat × Nat)) (wc : Cond) : Prop := wc = Cond.codeWith y cc nL ret hh ∨ (wc = Cond.code y cc nL ret ∧ hh = [])
theorem rn_wc.spec {y : MethodName} {cc : ByteArray} {nL : Nat} {ret : Option FieldType} {hh : List (Nat × Nat × Nat × Nat)} {wc : Cond} {args : Array Value} {s : State} (hw : rn_wc y cc nL ret hh wc) (h : wc.before args s = true) :
    ∃ m meth c, s.methodNamed? y = some m ∧ s.vm.method? m = some meth ∧ meth.code = some c ∧ c.code = cc ∧ c.maxLocals = nL ∧ c.exceptionTable.toList.map (fun x => (x.startPc, x.endPc, x.handlerPc, x.catchType)) = hh ∧ meth.sig.returnType = ret ∧ meth.locks = false ∧ parseMethodDescriptor y.desc = some meth.sig := by
  have h2 : (Cond.codeWith y cc nL ret hh).before args s = true := by
    rcases hw with rfl | ⟨rfl, rfl⟩
    · exact h
    · unfold Cond.before Cond.holds at h ⊢
      rw [← Cond.code_iff_codeWith_nil]
      exact h
  exact Cond.codeWith_spec h2
/-- a method's contract: whatever heap and arguments G allows, it ends as K says -/
def rn_MetS (l : Launch) (y : MethodName) (wc : Cond) (rm : Room) (G : (Nat → Nat) → List Value → ah_H → (ah_R → ah_H → Prop) → Prop) : Prop :=
  ∀ (z : Nat) (sa : Nat → Nat) (D : va_G) (dA : Nat → ClassId) (av : List Value) (h : ah_H) (K : ah_R → ah_H → Prop),
    MetFree l y (headSpec (wc :: allW) rm) (fun a U => a = (av.map (ah_v z sa)).toArray ∧ rn_H z sa D dA h U.heap ∧ va_K D ccl (ah_T dA) U ∧ rn_F z sa U ∧ G sa av h K) (fun _ _ _ _ _ => True)
      (fun _ st o t => rn_Q z sa D dA K st o t ∧ ∃ L, rn_End st t L rm.cells rm.slots ∧ ∀ q ∈ L, z ≤ q.base)
abbrev rn_Met (l : Launch) (y : MethodName) (wc : Cond) (rm : Room) (G : List Value → ah_H → (ah_R → ah_H → Prop) → Prop) : Prop := rn_MetS l y wc rm (fun _ => G)
theorem rn_in {l : Launch} {y : MethodName} {wc : Cond} {rm : Room} {G : (Nat → Nat) → List Value → ah_H → (ah_R → ah_H → Prop) → Prop} {cc : ByteArray} {nL : Nat} {ret : Option FieldType} {hh : List (Nat × Nat × Nat × Nat)} (hw : rn_wc y cc nL ret hh wc) (hy : plainFor y = true)
    (hn : ∀ sa av h K, G sa av h K → (lv_in av).length ≤ nL)
    (body : ∀ p e s m args below meth c z sa D dA av h K, l.admits e → rn_Ok p l e s m args meth c z sa D dA cc y.cls y.name nL ret hh → G sa av h K → Run p l e rm s m args below meth c z sa D dA rm.cells rm.slots K nL 0 (lv_in av) [] h 0 0) : rn_MetS l y wc rm G := by
  intro z sa D dA av h K
  refine MetFree.of_bodySF (code := cc) (maxLocals := nL) (ret := ret) hy ?_ ?_
  · intro args s m hp hnm
    obtain ⟨m9, meth, c, hn9, h1, h2, h3, h4, -, h5, h6, -⟩ := hw.spec (atoms_spec (ws := wc :: allW) hp _ List.mem_cons_self)
    cases hnm.symm.trans hn9
    exact ⟨meth, c, h1, h2, h3, h4, h5, h6⟩
  · intro p e s m args below meth c s₁ B hml hP _
    obtain ⟨rfl, hH, hK, hF, hG⟩ := hP
    have hts := atoms_spec (ws := wc :: allW) B.pre
    obtain ⟨m9, meth9, c9, hn9, h1, h2, -, -, h4, -, -, -⟩ := hw.spec (hts _ List.mem_cons_self)
    cases B.named.symm.trans hn9
    cases B.method.symm.trans h1
    have hcc : c9 = c := by
      have e1 := (Stand.of_body B).code
      exact Option.some.inj (h2.symm.trans e1)
    subst hcc
    have C : rn_Ok p l e s m (av.map (ah_v z sa)).toArray meth c9 z sa D dA cc y.cls y.name nL ret hh :=
      ⟨B.exec, B.bytes, hml, findClass_of_methodNamed B.named, fun w hw => hts w (List.mem_cons_of_mem _ hw), B.notSynchronized, B.returns, hK, by rw [hH.1]; omega, hF, (name_of_methodNamed B.named B.method).1, h4⟩
    have hh0 : s₁.heap = s.heap := by rw [B.state]; rfl
    have k := body p e s m _ below meth c9 z sa D dA av h K B.admits C hG s.heap [] _ hH va_S.rf (rn_L.entry (hn _ _ _ _ hG))
    rw [List.map_nil, ← lg_entry_eq] at k
    obtain ⟨t, a1, o, b1, b2, b3, b4⟩ := k s₁ hh0 (Stand.of_body B)
    exact ⟨t, o, a1, b1, b2, b3, b4⟩
section CALL
variable {p : Program} {l : Launch} {e : Env} {R : Room} {s : State} {m : MethodId} {args : Array Value} {below : List Frame} {meth : Method} {c : Code} {z : Nat} {sa : Nat → Nat} {D : va_G} {dA : Nat → ClassId} {T : State} {locs : List Loc} {n1 n2 : Nat}
theorem rn_good {wc : Cond} (h : wc ∈ allW) : GoodIn allW (wc :: allW) := fun w hw => by
  have hm : w ∈ allW := by
    rcases List.mem_cons.mp hw with rfl | hw
    · exact h
    · exact hw
  exact ⟨hm, good_of_word (List.mem_filter.mp hm).2⟩
/-- the call itself: it comes back, or it throws -/
theorem rn_back {y : MethodName} {wc : Cond} {rm : Room} {G : (Nat → Nat) → List Value → ah_H → (ah_R → ah_H → Prop) → Prop} {cy : ByteArray} {nY : Nat} {ry : Option FieldType} {hy : List (Nat × Nat × Nat × Nat)} (hM : rn_MetS l y wc rm G) (hw : rn_wc y cy nY ry hy wc) (hwc : wc ∈ allW)
    (X : Stand p l e R s m args below meth c T locs n1 n2) (hts : ∀ w ∈ allW, w.before args s = true) (hini : (Cond.initialized y.cls).before args s = true)
    {g : JFrame} (hg : g.method = m) (hsize : g.locals.size = c.maxLocals) {ig : Instr} (hdg : decode c.code g.pc = .ok (ig, 3)) (hW : 2 * g.monitorRoom + (g.stack.map fun v => v.category).sum ≤ 8) {mk : MethodId} (hn : T.methodNamed? y = some mk)
    (hfr : rm.frames + 1 ≤ R.frames) (hlo : 8 + (nY + 11) + rm.locals ≤ R.locals) (hc1 : n1 + rm.cells ≤ R.cells) (hc2 : n2 + rm.slots ≤ R.slots)
    {av : List Value} {h : ah_H} {K : ah_R → ah_H → Prop} (hH : rn_H z sa D dA h T.heap) (hK : va_K D ccl (ah_T dA) T) (hF : rn_F z sa T) (hG : G sa av h K) :
    ∃ (r : ah_R) (h' : ah_H) (U : State) (L : List Loc), K r h' ∧ rn_H z sa D dA h' U.heap ∧ Stand p l e R s m args below meth c U (locs ++ L) (n1 + rm.cells) (n2 + rm.slots) ∧ (∀ q ∈ L, z ≤ q.base) ∧ T.heap.size ≤ U.heap.size ∧ (∀ q : Nat, q < T.heap.size → ¬ z ≤ q → U.heap[q]? = T.heap[q]?) ∧
      (match r with
        | .inl v => Steps p.tables e below (doInvoke e (T.setTop g) [] mk (av.map (ah_v z sa)).toArray).1 (U.setTop { g with pc := g.pc + 3, stack := (v.map (ah_v z sa)).toList ++ g.stack })
        | .inr k => Steps p.tables e below (doInvoke e (T.setTop g) [] mk (av.map (ah_v z sa)).toArray).1 ((U.setTop g).pushFrame (.throwing (z + k)))) := by
  have hws : ∀ w ∈ wc :: allW, ∀ (a' : Array Value) (U : State), s.WarmedH U.vm → w.before a' U = true := pay_in hts (rn_good hwc)
  have hpre : (headSpec (wc :: allW) rm).pre.before (av.map (ah_v z sa)).toArray T = true := atoms_intro fun w hw => hws w hw _ _ X.warmed
  obtain ⟨m9, methY, cY, hn9, hmY, hcY, -, hlY, -⟩ := hw.spec (hws wc List.mem_cons_self (av.map (ah_v z sa)).toArray T X.warmed)
  cases hn.symm.trans hn9
  obtain ⟨kY, hkY, -⟩ := className_of_methodNamed hn
  have hini' : (Cond.initialized y.cls).before (av.map (ah_v z sa)).toArray T = true := word_at X.warmed (Or.inl (by first | rfl | simp [Cond.onTables, Cond.keeps, Cond.steady])) hini
  have hinitY : kY.init = .initialized := Cond.initialized_spec (findClass_of_methodNamed hn) hkY hini'
  have hA : At T g.method c below := by rw [hg]; exact X.here
  have happ : (headSpec (wc :: allW) rm).appliesLoose y e.platform (T.calling g mk (av.map (ah_v z sa)).toArray) = true :=
    Spec.appliesLoose_calling (g := g) hA hdg hn hkY hinitY
      (X.room_calling (g := g) (R' := rm) hsize hmY hcY hfr (by rw [hlY]; omega) hc1 hc2) hpre
  obtain ⟨mid, hmid⟩ := hA.above
  have hfr' : (T.setTop g).frames = (.java g :: mid) ++ below := by rw [State.frames_setTop' g hA.top, hmid]; rfl
  have hPP : (av.map (ah_v z sa)).toArray = (av.map (ah_v z sa)).toArray ∧ rn_H z sa D dA h (T.calling g mk (av.map (ah_v z sa)).toArray).heap ∧ va_K D ccl (ah_T dA) (T.calling g mk (av.map (ah_v z sa)).toArray) ∧ rn_F z sa (T.calling g mk (av.map (ah_v z sa)).toArray) ∧ G sa av h K :=
    ⟨rfl, hH, va_K.moved (u := T) (U := T.calling g mk (av.map (ah_v z sa)).toArray) (Vm.Alike.refl T.vm) hK, rn_F.same (u := T) (U := T.calling g mk (av.map (ah_v z sa)).toArray) rfl rfl hF, hG⟩
  obtain ⟨o, s₂, hsteps, -, hend, hq⟩ := Steps.callFree (hM z sa D dA av h K) p X.admits X.cas X.clock (acts := []) hfr' happ hPP trivial
  have hq' : rn_Q z sa D dA K (T.calling g mk (av.map (ah_v z sa)).toArray) o s₂ ∧ ∃ L, rn_End (T.calling g mk (av.map (ah_v z sa)).toArray) s₂ L rm.cells rm.slots ∧ ∀ q ∈ L, z ≤ q.base := hq
  obtain ⟨⟨r, h', hK', hO, hH', hF1, hF2⟩, L, ⟨hW₂, e2, q2, q3, q4, q5, q6⟩, hL⟩ := hq'
  rw [State.frames_setTop' g hA.top] at hend
  have e3 : s₂ = ({ (T.calling g mk (av.map (ah_v z sa)).toArray).setFrames s₂.frames with heap := s₂.heap, slotsUsed := s₂.slotsUsed } : State).setVm s₂.vm := by
    have : s₂ = ({ s₂ with vm := (T.calling g mk (av.map (ah_v z sa)).toArray).vm } : State).setVm s₂.vm := rfl
    rw [e2] at this
    exact this
  have hW' : T.WarmedH s₂.vm := hW₂
  obtain ⟨g₀, hg0⟩ := Option.isSome_iff_exists.mp hA.top
  obtain ⟨rr, hr⟩ := State.topJava?_eq_some.mp hg0
  have hsame : T.sameButNew ({ T with heap := s₂.heap, slotsUsed := s₂.slotsUsed } : State) L rm.cells rm.slots := by
    refine ⟨?_, q2, q3, q4, q5, q6⟩
    obtain ⟨t, ht, -⟩ := State.frames_cons hr
    show ({ T with heap := s₂.heap, slotsUsed := s₂.slotsUsed } : State) = { T.setFrames T.frames with heap := s₂.heap, slotsUsed := s₂.slotsUsed }
    rw [State.setFrames_self ht]
  have hr' : (({ T with heap := s₂.heap, slotsUsed := s₂.slotsUsed } : State).setVm s₂.vm).frames = .java g₀ :: rr := hr
  subst hg
  have X2 : Stand p l e R s g.method args below meth c (({ T with heap := s₂.heap, slotsUsed := s₂.slotsUsed } : State).setVm s₂.vm) (locs ++ L) (n1 + rm.cells) (n2 + rm.slots) :=
    ⟨X.admits, X.cas, X.clock, X.frames, X.room, X.hears, X.method, X.code, (X.here.setHeapUsed s₂.heap s₂.slotsUsed).setVm hW'.alike, X.tail, State.WarmedH.trans X.warmed hW', X.limits, X.bytes, X.same.trans (hsame.setVm s.vm)⟩
  refine ⟨r, h', ({ T with heap := s₂.heap, slotsUsed := s₂.slotsUsed } : State).setVm s₂.vm, L, hK', hH', X2, hL, hF1, hF2, ?_⟩
  cases r with
  | inl v =>
    have hO' : o = .returned (v.map (ah_v z sa)) := hO
    subst hO'
    obtain ⟨c₂, i₂, len₂, hc₂, hd₂, hf₂⟩ := hend
    have hcc : c₂ = c := by
      have h1 : s₂.code? g.method = T.code? g.method := by
        rw [State.code?_eq, State.code?_eq, hW'.alike.method?]
      exact Option.some.inj (hc₂.symm.trans (h1.trans hA.code))
    subst hcc
    have hlen : len₂ = 3 := by rw [hdg] at hd₂; cases hd₂; rfl
    subst hlen
    have hs₂ : s₂ = (({ T with heap := s₂.heap, slotsUsed := s₂.slotsUsed } : State).setVm s₂.vm).setTop { g with pc := g.pc + 3, stack := (v.map (ah_v z sa)).toList ++ g.stack } := by
      refine e3.trans ?_
      rw [hf₂, State.calling_eq hA.top, State.setFrames_setFrames, State.setTop_of_frames _ hr', hr]
      rfl
    show Steps p.tables e below _ ((({ T with heap := s₂.heap, slotsUsed := s₂.slotsUsed } : State).setVm s₂.vm).setTop { g with pc := g.pc + 3, stack := (v.map (ah_v z sa)).toList ++ g.stack })
    rw [← hs₂]
    exact hsteps
  | inr k =>
    have hO' : o = .threw (z + k) := hO
    subst hO'
    have hf₂ : s₂.frames = .throwing (z + k) :: .java g :: T.frames.tail := hend
    have hs₂ : s₂ = ((({ T with heap := s₂.heap, slotsUsed := s₂.slotsUsed } : State).setVm s₂.vm).setTop g).pushFrame (.throwing (z + k)) := by
      refine e3.trans ?_
      rw [hf₂, State.calling_eq hA.top, State.setFrames_setFrames, State.pushFrame, State.frames_setTop _ hr', State.setTop_of_frames _ hr', State.setFrames_setFrames, hr]
      rfl
    show Steps p.tables e below _ (((({ T with heap := s₂.heap, slotsUsed := s₂.slotsUsed } : State).setVm s₂.vm).setTop g).pushFrame (.throwing (z + k)))
    rw [← hs₂]
    exact hsteps
variable {mc ms : Nat} {K : ah_R → ah_H → Prop} {cc : ByteArray} {own nm : String} {nL : Nat} {ret : Option FieldType} {hh : List (Nat × Nat × Nat × Nat)} {pc : Nat} {lv : List (Option Value)} {st : List Value} {h : ah_H}
/-- behind a call that does not throw -/
def rn_aft (Rn : Option Value → ah_H → Prop) : ah_R → ah_H → Prop := fun r h' => match r with
  | .inl v => Rn v h'
  | .inr _ => False
theorem rn_S {H H1 : Heap} {L : List Loc} (hS : va_S (fun q => z ≤ q) s.heap H locs) (h1 : H.size ≤ H1.size) (h2 : ∀ q : Nat, q < H.size → ¬ z ≤ q → H1[q]? = H[q]?) (hL : ∀ q ∈ L, z ≤ q.base) : va_S (fun q => z ≤ q) s.heap H1 (locs ++ L) :=
  ⟨Nat.le_trans hS.1 h1, fun q g1 g2 => (h2 q (Nat.lt_of_lt_of_le g1 hS.1) g2).trans (hS.2.1 q g1 g2), fun q hq => by
    rcases List.mem_append.mp hq with g | g
    · exact hS.2.2 q g
    · exact hL q g⟩
theorem rn_go {y : MethodName} {wc : Cond} {rm : Room} {G : (Nat → Nat) → List Value → ah_H → (ah_R → ah_H → Prop) → Prop} {cy : ByteArray} {nY : Nat} {ry : Option FieldType} {hy : List (Nat × Nat × Nat × Nat)} (hM : rn_MetS l y wc rm G) (hw : rn_wc y cy nY ry hy wc) (hwc : wc ∈ allW)
    (C : rn_Ok p l e s m args meth c z sa D dA cc own nm nL ret hh) {H : Heap} {ls : Array Slot} {T : State} (hT : T.heap = H) (hH : rn_H z sa D dA h H) (hS : va_S (fun q => z ≤ q) s.heap H locs) (hL : rn_L z sa ls nL lv) (hini : Cond.initialized y.cls ∈ allW)
    {ig : Instr} (d : decode cc pc = .ok (ig, 3)) {mk : MethodId} {vm₁ : Vm} (X₁ : Stand p l e R s m args below meth c (T.setVm vm₁) locs n1 n2) (hn : (T.setVm vm₁).methodNamed? y = some mk) {g0 : JFrame} {av : List Value}
    (hstep : ∀ target, (∀ acts, Steps p.tables e below (doInvoke e ((T.setVm vm₁).setTop (F0 m pc ls (st.map (ah_v z sa)))) acts mk (av.map (ah_v z sa)).toArray).1 target) → Steps p.tables e below (T.setTop g0) target)
    (hcat : (st.map fun v => v.category).sum ≤ 8) (hr : rm.frames + 1 ≤ R.frames ∧ 8 + (nY + 11) + rm.locals ≤ R.locals) (hc : n1 + rm.cells ≤ R.cells ∧ n2 + rm.slots ≤ R.slots)
    (hG : G sa av h (rn_aft fun v h' => Run p l e R s m args below meth c z sa D dA mc ms K nL (pc + 3) lv (v.toList ++ st) h' (n1 + rm.cells) (n2 + rm.slots))) : ∃ t, Steps p.tables e below (T.setTop g0) t ∧ rn_MQ below z sa D dA K s mc ms t := by
  have hF : rn_F z sa (T.setVm vm₁) := rn_F.kept (s := s) (U := T.setVm vm₁) X₁.warmed (fun q hq => by show T.heap[q]? = _; rw [hT]; exact hS.2.1 q (Nat.lt_of_lt_of_le hq C.zs) (by omega)) C.ff
  obtain ⟨r, h', U, L, hK', hH', X2, hLz, z1, z2, hst⟩ := rn_back hM hw hwc X₁ C.ts (C.ts _ hini) (g := F0 m pc ls (st.map (ah_v z sa))) rfl (hL.1.trans C.ml.symm) (ig := ig) (by rw [C.by]; exact d) (by show 2 * 0 + _ ≤ 8; rw [ah_catsum]; omega) hn hr.1 hr.2 hc.1 hc.2 (z := z) (sa := sa) (D := D) (dA := dA) (by show rn_H z sa D dA h T.heap; rw [hT]; exact hH) (va_K.moved X₁.warmed.alike C.kk) hF hG
  have z1' : H.size ≤ U.heap.size := by rw [← hT]; exact z1
  have z2' : ∀ q : Nat, q < H.size → ¬ z ≤ q → U.heap[q]? = H[q]? := by rw [← hT]; exact z2
  cases r with
  | inr k => exact absurd hK' (fun q => q)
  | inl v =>
    have k : Run p l e R s m args below meth c z sa D dA mc ms K nL (pc + 3) lv (v.toList ++ st) h' (n1 + rm.cells) (n2 + rm.slots) := hK'
    obtain ⟨t, a1, b1⟩ := k U.heap (locs ++ L) ls hH' (rn_S hS z1' z2' hLz) hL U rfl X2
    refine ⟨t, hstep t (fun acts => ?_), b1⟩
    rw [doInvoke_state]
    refine Steps.trans hst ?_
    cases v <;> exact a1
/-- the words of a call -/
def rn_lk (own : String) (i : Nat) (y : MethodName) : Prop := Cond.methodLink own i y ∈ allW ∨ ∃ host, Cond.methodLinkNest own i y host ∈ nestW
def rn_mh (y : MethodName) (n : Nat) : Prop := (y.cls ≠ "java/lang/invoke/MethodHandle" ∧ y.cls ≠ "java/lang/invoke/VarHandle") ∧ (parseMethodDescriptor y.desc).map (fun d => d.parameters.length) = some n
theorem rn_mh.len {y : MethodName} {n : Nat} (hm : rn_mh y n) {sig : MethodDescriptor} (hs : parseMethodDescriptor y.desc = some sig) : n = sig.parameters.length := by
  have h2 := hm.2
  rw [hs] at h2
  exact (Option.some.inj h2).symm
def rn_mw (y : MethodName) (cc : ByteArray) (nL : Nat) (ret : Option FieldType) (hh : List (Nat × Nat × Nat × Nat)) (wc : Cond) : Prop := rn_wc y cc nL ret hh wc ∧ wc ∈ allW
def rn_cs (own : String) (i : Nat) (y : MethodName) (n : Nat) : Prop := rn_lk own i y ∧ rn_mh y n ∧ Cond.static y ∈ allW ∧ Cond.initialized y.cls ∈ allW
def rn_cv (own : String) (i : Nat) (y : MethodName) (n : Nat) : Prop := rn_lk own i y ∧ rn_mh y n ∧ Cond.instanceMethod y ∈ allW ∧ Cond.selects y.cls y y ∈ allW ∧ Cond.initialized y.cls ∈ allW
def rn_ci (own : String) (i : Nat) (y : MethodName) (n : Nat) : Prop := rn_lk own i y ∧ rn_mh y n ∧ y.name = "<init>" ∧ Cond.instanceMethod y ∈ allW ∧ Cond.initialized y.cls ∈ allW
theorem rn_callS (C : rn_Ok p l e s m args meth c z sa D dA cc own nm nL ret hh) {y : MethodName} {wc : Cond} {rm : Room} {G : (Nat → Nat) → List Value → ah_H → (ah_R → ah_H → Prop) → Prop} {cy : ByteArray} {nY : Nat} {ry : Option FieldType} {hy : List (Nat × Nat × Nat × Nat)} (hM : rn_MetS l y wc rm G) (hmw : rn_mw y cy nY ry hy wc) {i n : Nat} (hcs : rn_cs own i y n) (d : decode cc pc = .ok (.invokestatic i, 3)) (av : List Value) {stk : List Value} (hs : stk = av.reverse ++ st) (hlen : av.length = n)
    (hcat : (st.map fun v => v.category).sum ≤ 8) (hr : rm.frames + 1 ≤ R.frames ∧ 8 + (nY + 11) + rm.locals ≤ R.locals) (hc : n1 + rm.cells ≤ R.cells ∧ n2 + rm.slots ≤ R.slots)
    (hG : G sa av h (rn_aft fun v h' => Run p l e R s m args below meth c z sa D dA mc ms K nL (pc + 3) lv (v.toList ++ st) h' (n1 + rm.cells) (n2 + rm.slots))) : Run p l e R s m args below meth c z sa D dA mc ms K nL pc lv stk h n1 n2 := by
  intro H locs ls hH hS hL T hT X
  subst hs
  obtain ⟨hw, hwc⟩ := hmw
  obtain ⟨hl, hmh, hsta, hini⟩ := hcs
  obtain ⟨mk, methM, cM, hnamed, hmethM, -, -, -, -, -, -, hsigM⟩ := hw.spec (C.ts _ hwc)
  have hstatic : methM.isStatic = true := Cond.static_spec hnamed hmethM (C.ts _ hsta)
  obtain ⟨kP, hkP, -⟩ := className_of_methodNamed hnamed
  have hinitP : kP.init = .initialized := Cond.initialized_spec (findClass_of_methodNamed hnamed) hkP (C.ts _ hini)
  have hstk : (F0 m pc ls ((av.reverse ++ st).map (ah_v z sa))).stack = (av.map (ah_v z sa)).reverse ++ st.map (ah_v z sa) := by show (av.reverse ++ st).map (ah_v z sa) = _; rw [List.map_append, List.map_reverse]
  have hlen' : (av.map (ah_v z sa)).length = methM.sig.parameters.length := by rw [List.length_map, hlen]; exact hmh.len hsigM
  rcases hl with hl | ⟨host, hl⟩
  · obtain ⟨vm₁, X₁, hstep₁⟩ := X.invokestatic C.ex C.ow (C.ts _ hl) hnamed hmethM hstatic hkP hinitP hmh.1 (g := F0 m pc ls ((av.reverse ++ st).map (ah_v z sa))) rfl (argsL := av.map (ah_v z sa)) (rest := st.map (ah_v z sa)) hlen' hstk (by rw [C.by]; exact d)
    exact rn_go hM hw hwc C hT hH hS hL hini d X₁ (X₁.named hnamed) hstep₁ hcat hr hc hG
  · obtain ⟨vm₁, X₁, hstep₁⟩ := X.invokestaticNest C.ex C.ow (va_Nw.use rfl (C.ff.1 _ hl)) hnamed hmethM hstatic hkP hinitP hmh.1 (g := F0 m pc ls ((av.reverse ++ st).map (ah_v z sa))) rfl (argsL := av.map (ah_v z sa)) (rest := st.map (ah_v z sa)) hlen' hstk (by rw [C.by]; exact d)
    exact rn_go hM hw hwc C hT hH hS hL hini d X₁ (X₁.named hnamed) hstep₁ hcat hr hc hG
theorem rn_callV (C : rn_Ok p l e s m args meth c z sa D dA cc own nm nL ret hh) {y : MethodName} {wc : Cond} {rm : Room} {G : (Nat → Nat) → List Value → ah_H → (ah_R → ah_H → Prop) → Prop} {cy : ByteArray} {nY : Nat} {ry : Option FieldType} {hy : List (Nat × Nat × Nat × Nat)} (hM : rn_MetS l y wc rm G) (hmw : rn_mw y cy nY ry hy wc) {i n : Nat} (hcv : rn_cv own i y n) (d : decode cc pc = .ok (.invokevirtual i, 3)) (q : Nat) (av : List Value) {stk : List Value} (hs : stk = av.reverse ++ .ref q :: st) (hlen : av.length = n) {ci : Nat} {fs : List Value} (hq : h[q]? = some (.inr (ci, fs))) {TT : u_T} {NN : Nat} (hcl : ccl[ci]? = some (y.cls, TT, NN))
    (hcat : (st.map fun v => v.category).sum ≤ 8) (hr : rm.frames + 1 ≤ R.frames ∧ 8 + (nY + 11) + rm.locals ≤ R.locals) (hc : n1 + rm.cells ≤ R.cells ∧ n2 + rm.slots ≤ R.slots)
    (hG : G sa (.ref q :: av) h (rn_aft fun v h' => Run p l e R s m args below meth c z sa D dA mc ms K nL (pc + 3) lv (v.toList ++ st) h' (n1 + rm.cells) (n2 + rm.slots))) : Run p l e R s m args below meth c z sa D dA mc ms K nL pc lv stk h n1 n2 := by
  intro H locs ls hH hS hL T hT X
  subst hs
  obtain ⟨hw, hwc⟩ := hmw
  obtain ⟨hl, hmh, hins, hsel, hini⟩ := hcv
  obtain ⟨cellB, hcB, hoB, hclB⟩ := va_recv C.kk hH.2 hcl (ah_get hq : (ah_w z sa dA h)[q]? = some (z + q, .inr (ci, fs.map (ah_v z sa))))
  obtain ⟨mk, methM, hnamed, hmethM, hstM, habM⟩ := Cond.instanceMethod_spec (C.ts _ hins)
  obtain ⟨m9, meth9, cM, hn9, hm9, -, -, -, -, -, -, hsigM⟩ := hw.spec (C.ts _ hwc)
  cases hnamed.symm.trans hn9
  cases hmethM.symm.trans hm9
  obtain ⟨c2, r2, m2, q1, q2, q3, q4, kP, hkP, hkPi⟩ := Cond.selects_spec (C.ts _ hsel)
  cases hclB.symm.trans q1
  cases (State.methodFound?_of_named hnamed hmh.1).symm.trans q2
  cases hnamed.symm.trans q3
  have hselP : selectMethod e.platform s.vm cellB.cls mk = .method mk := by rw [Launch.admits_selectMethod X.admits]; exact q4
  have hstk : (F0 m pc ls ((av.reverse ++ .ref q :: st).map (ah_v z sa))).stack = (av.map (ah_v z sa)).reverse ++ .ref (z + q) :: st.map (ah_v z sa) := by show (av.reverse ++ .ref q :: st).map (ah_v z sa) = _; rw [List.map_append, List.map_reverse]; rfl
  have hlen' : (av.map (ah_v z sa)).length = methM.sig.parameters.length := by rw [List.length_map, hlen]; exact hmh.len hsigM
  rcases hl with hl | ⟨host, hl⟩
  · obtain ⟨vm₁, X₁, hstep₁⟩ := X.invokevirtual C.ex C.ow (C.ts _ hl) hnamed hmethM hstM hkP hkPi hmh.1 (a := z + q) (cell := cellB) (by rw [hT]; exact hcB) (fun z h => by rw [h] at hoB; cases hoB) hselP hmethM habM hkP hkPi (g := F0 m pc ls ((av.reverse ++ .ref q :: st).map (ah_v z sa))) rfl (argsL := av.map (ah_v z sa)) (rest := st.map (ah_v z sa)) hlen' hstk (by rw [C.by]; exact d)
    exact rn_go hM hw hwc C hT hH hS hL hini d X₁ (X₁.named hnamed) (av := .ref q :: av) hstep₁ hcat hr hc hG
  · obtain ⟨vm₁, X₁, hstep₁⟩ := X.invokevirtualNest C.ex C.ow (va_Nw.use rfl (C.ff.1 _ hl)) hnamed hmethM hstM hkP hkPi hmh.1 (a := z + q) (cell := cellB) (by rw [hT]; exact hcB) (fun z h => by rw [h] at hoB; cases hoB) hselP hmethM habM hkP hkPi (g := F0 m pc ls ((av.reverse ++ .ref q :: st).map (ah_v z sa))) rfl (argsL := av.map (ah_v z sa)) (rest := st.map (ah_v z sa)) hlen' hstk (by rw [C.by]; exact d)
    exact rn_go hM hw hwc C hT hH hS hL hini d X₁ (X₁.named hnamed) (av := .ref q :: av) hstep₁ hcat hr hc hG
theorem rn_callI (C : rn_Ok p l e s m args meth c z sa D dA cc own nm nL ret hh) {y : MethodName} {rm : Room} {G : (Nat → Nat) → List Value → ah_H → (ah_R → ah_H → Prop) → Prop} {cy : ByteArray} {nY : Nat} (hM : rn_MetS l y (Cond.code y cy nY none) rm G) (hmw : rn_mw y cy nY none [] (Cond.code y cy nY none)) {i n : Nat} (hci : rn_ci own i y n) (d : decode cc pc = .ok (.invokespecial i, 3)) (q : Nat) (av : List Value) {stk : List Value} (hs : stk = av.reverse ++ .ref q :: st) (hlen : av.length = n)
    (hcat : (st.map fun v => v.category).sum ≤ 8) (hr : rm.frames + 1 ≤ R.frames ∧ 8 + (nY + 11) + rm.locals ≤ R.locals) (hc : n1 + rm.cells ≤ R.cells ∧ n2 + rm.slots ≤ R.slots)
    (hG : G sa (.ref q :: av) h (rn_aft fun v h' => Run p l e R s m args below meth c z sa D dA mc ms K nL (pc + 3) lv (v.toList ++ st) h' (n1 + rm.cells) (n2 + rm.slots))) : Run p l e R s m args below meth c z sa D dA mc ms K nL pc lv stk h n1 n2 := by
  intro H locs ls hH hS hL T hT X
  subst hs
  obtain ⟨hw, hwc⟩ := hmw
  obtain ⟨hl, hmh, hy1, hins, hini⟩ := hci
  have hpl : e.platform.magicAccessors = ({} : Platform).magicAccessors := by rw [X.admits.platform]
  have hstk : (F0 m pc ls ((av.reverse ++ .ref q :: st).map (ah_v z sa))).stack = (av.map (ah_v z sa)).reverse ++ .ref (z + q) :: st.map (ah_v z sa) := by show (av.reverse ++ .ref q :: st).map (ah_v z sa) = _; rw [List.map_append, List.map_reverse]; rfl
  have hlen' : ∀ sig, parseMethodDescriptor y.desc = some sig → (av.map (ah_v z sa)).length = sig.parameters.length := fun sig hs => by rw [List.length_map, hlen]; exact hmh.len hs
  rcases hl with hl | ⟨host, hl⟩
  · obtain ⟨mk, methM, cM, kP, vm₁, hnamed, hmethM, hcodeM, -, hlocalsM, -, hkP, -, hW₁, hstep₁⟩ := Steps.initColdArgs (e := e) X.here C.ex X.warmed hpl C.ow hy1 hmh.1 (C.ts _ hl) (C.ts _ hins) (C.ts _ hwc) (f := F0 m pc ls ((av.reverse ++ .ref q :: st).map (ah_v z sa))) rfl hlen' hstk (by rw [C.by]; exact d)
    have X₁ := X.noted hW₁
    exact rn_go hM (Or.inr ⟨rfl, rfl⟩) hwc C hT hH hS hL hini d X₁ (X₁.named hnamed) (av := .ref q :: av) hstep₁ hcat hr hc hG
  · obtain ⟨mk, methM, cM, kP, vm₁, hnamed, hmethM, hcodeM, -, hlocalsM, -, hkP, -, hW₁, hstep₁⟩ := Steps.initColdArgsNest (e := e) X.here C.ex X.warmed hpl C.ow hy1 hmh.1 (va_Nw.use rfl (C.ff.1 _ hl)) (C.ts _ hins) (C.ts _ hwc) (f := F0 m pc ls ((av.reverse ++ .ref q :: st).map (ah_v z sa))) rfl hlen' hstk (by rw [C.by]; exact d)
    have X₁ := X.noted hW₁
    exact rn_go hM (Or.inr ⟨rfl, rfl⟩) hwc C hT hH hS hL hini d X₁ (X₁.named hnamed) (av := .ref q :: av) hstep₁ hcat hr hc hG
end CALL
