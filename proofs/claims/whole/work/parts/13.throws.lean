/-! The throw as a row of the judgement. -/
def thrN : List String := ["java/lang/RuntimeException", "java/lang/Exception"]
def stW : List Cond := [.laysStatic "java/lang/Throwable" "UNASSIGNED_STACK" "[Ljava/lang/StackTraceElement;", .laysStatic "java/lang/Throwable" "SUPPRESSED_SENTINEL" "Ljava/util/List;", .isRef (.static "java/lang/Throwable" "UNASSIGNED_STACK" "[Ljava/lang/StackTraceElement;"), .isRef (.static "java/lang/Throwable" "SUPPRESSED_SENTINEL" "Ljava/util/List;")]
def thrOk (own : String) (ic : Nat) (X : String) : Bool := (Bundle.ownAtoms own ic X thrN).all (fun a => (decide (a ∈ lw_tbl) && goodWord a) || decide (a ∈ faceW) || decide (a ∈ stW))
/-- the words of a throw: the numbers of the pool, the exception, its number among the classes -/
def rn_tw (own : String) (ik ic : Nat) (X : String) (ci : Nat) : Prop := Cond.classLink own ik X ∈ allW ∧ Cond.instantiable X 6 ∈ allW ∧ Cond.initialized X ∈ allW ∧ thrOk own ic X = true ∧ (∃ T : u_T, ccl[ci]? = some (X, T, 0)) ∧ Bundle.fit X = true
theorem thrN_fit : ∀ n ∈ thrN, Bundle.fit n = true := by decide +kernel
section THROWS
variable {p : Program} {l : Launch} {e : Env} {R : Room} {s : State} {m : MethodId} {args : Array Value} {below : List Frame} {meth : Method} {c : Code} {z : Nat} {sa : Nat → Nat} {D : va_G} {dA : Nat → ClassId} {mc ms : Nat} {K : ah_R → ah_H → Prop}
variable {cc : ByteArray} {own nm : String} {nL : Nat} {ret : Option FieldType} {hh : List (Nat × Nat × Nat × Nat)} {pc : Nat} {lv : List (Option Value)} {st : List Value} {h : ah_H} {n1 n2 : Nat}
theorem rn_Ok.thr (C : rn_Ok p l e s m args meth c z sa D dA cc own nm nL ret hh) {ic : Nat} {X : String} (ht : thrOk own ic X = true) : ∀ a ∈ Bundle.ownAtoms own ic X thrN, a.before args s = true := by
  intro a ha
  have h1 := List.all_eq_true.mp ht a ha
  simp only [Bool.or_eq_true, Bool.and_eq_true, decide_eq_true_eq] at h1
  rcases h1 with (⟨h1, h2⟩ | h1) | h1
  · exact C.ts a (List.mem_filter.mpr ⟨h1, h2⟩)
  · exact va_Nw.use (faceW_ok a h1).1 (C.ff.2.1 a h1)
  · simp only [stW, List.mem_cons, List.not_mem_nil, or_false] at h1
    rcases h1 with rfl | rfl | rfl | rfl
    · exact C.ff.2.2.2.2.1.1.lays args
    · exact C.ff.2.2.2.2.1.2.lays args
    · exact C.ff.2.2.2.2.1.1.isRef args
    · exact C.ff.2.2.2.2.1.2.isRef args
theorem rn_ldcS {T : State} {locs : List Loc} (X : Stand p l e R s m args below meth c T locs n1 n2) (hexec : p.tables.exec = Jvm.exec) {tx : String} {i a : Nat} (hown : s.vm.findClass own = some m.cls) (hZ : vk_R own i tx a s) {g : JFrame} (hg : g.method = m) (hdg : decode c.code g.pc = .ok (.ldc_w i, 3)) :
    ∀ target, Steps p.tables e below (T.setTop { g with pc := g.pc + 3, stack := .ref a :: g.stack }) target → Steps p.tables e below (T.setTop g) target := by
  obtain ⟨k, cf, j, a', hk, hcf, hcp, -, hr, hev'⟩ := Cond.stringRef_spec hown hZ.1
  cases hZ.2.symm.trans hev'
  obtain ⟨k', hk', he⟩ := X.warmed.alike.2.2 _ _ hk
  have hr' : k'.resolved[i]? = some (some (.string a)) := by
    rcases X.warmed.entry hk hk' i with h | ⟨h, -⟩
    · rw [h]; exact hr
    · rw [hr] at h; cases h
  intro target hrest
  subst hg
  jvm_step X.here [hexec, hdg, ldc_w.wp_string (e := e) (s := T) (f := g) X.here.top hk' (by rw [he]; exact hcf) hcp hr']
  exact hrest
theorem rn_thr0 (C : rn_Ok p l e s m args meth c z sa D dA cc own nm nL ret []) (htr : e.platform.stackTraces = false) {ik ic ci ln sx : Nat} {X : String} (tw : rn_tw own ik ic X ci)
    (hldc : ∀ (T : State) (locs : List Loc) (a1 a2 : Nat), Stand p l e R s m args below meth c T locs a1 a2 → ∀ (ls : Array Slot) (vs : List Value) (target : State), Steps p.tables e below (T.setTop (F0 m (pc + 4 + ln) ls (.ref sx :: vs))) target → Steps p.tables e below (T.setTop (F0 m (pc + 4) ls vs)) target)
    (d0 : decode cc pc = .ok (.new ik, 3)) (d3 : decode cc (pc + 3) = .ok (.dup, 1)) (d6 : decode cc (pc + 4 + ln) = .ok (.invokespecial ic, 3)) (d9 : decode cc (pc + 4 + ln + 3) = .ok (.athrow, 1))
    (hfr : 5 < R.frames) (hlo : (st.map fun v => v.category).sum + 82 ≤ R.locals) (hm : n1 + 1 ≤ mc ∧ n2 + 6 ≤ ms) (hR : mc ≤ R.cells ∧ ms ≤ R.slots) (hK : K (.inr h.length) (h ++ [.inr (ci, [])])) :
    Run p l e R s m args below meth c z sa D dA mc ms K nL pc lv st h n1 n2 := by
  intro H locs ls hH hS hL T hT X0
  obtain ⟨w1, w2, w3, w4, ⟨TT, w5⟩, w6⟩ := tw
  obtain ⟨vm₁, cX, kX, hfX, hkX, -, -, X₁, st1⟩ := X0.newCold C.ex (own := own) (C := X) (index := ik) (n := 6) C.ow (C.ts _ w1) (C.ts _ w2) (C.ts _ w3)
    (g := F0 m pc ls (st.map (ah_v z sa))) rfl (by rw [C.by]; exact d0) (by omega) (by omega)
  generalize hT2 : (T.setVm vm₁).pushCell { cls := cX, slots := kX.instanceTypes.map defaultValue, vm := .none } = T2 at X₁ st1
  have hh2 : T2.heap = T.heap.push { cls := cX, slots := kX.instanceTypes.map defaultValue, vm := .none } := by rw [← hT2]; rfl
  have hcellA : T2.heap[T.heap.size]? = some (freshCell cX kX) := by rw [← hT2]; exact State.heap_pushCell_size _ _
  have hsz : T2.heap.size = T.heap.size + 1 := by rw [hh2]; simp
  have hkeep : ∀ q, q < T.heap.size → T2.heap[q]? = T.heap[q]? := fun q hq => by rw [hh2, Array.getElem?_push, if_neg (Nat.ne_of_lt hq)]
  have hz : z ≤ T.heap.size := by rw [hT, hH.1]; omega
  have htab : c.exceptionTable.toList = [] := by
    have := C.tb
    simpa using this
  obtain ⟨U, L, hsteps, hrun, hend, hW, hsame, hLa, hUs, hUk, ce, hce, hceC, hceV⟩ := rn_ctor (z := z) X₁ C.ex htr (own := own) (cls := X) (names := thrN) (ic := ic) C.ow w6 thrN_fit (C.thr w4) C.ff.2.2.2.2.1.1
    (fun q hq => by rw [hkeep q (by omega), hT]; exact hS.2.1 q (Nat.lt_of_lt_of_le hq C.zs) (by omega)) hfX hkX hcellA (by rw [hT]; exact hS.1) (msg := .ref sx) rfl
    (g := F0 m (pc + 4 + ln) ls (.ref sx :: .ref T.heap.size :: .ref T.heap.size :: st.map (ah_v z sa))) rfl (hL.1.trans C.ml.symm) rfl rfl (rest := st.map (ah_v z sa)) rfl
    (by rw [C.by]; exact d6) (by rw [C.by]; exact d9) (by rw [htab]; intro x hx; cases hx) hfr
    (by show 2 * 0 + (1 + (((st.map (ah_v z sa)).map fun v => v.category).sum)) + (13 * 3 + 42) ≤ R.locals; rw [ah_catsum]; omega) C.lk
  have hci : D.1 ci = cX := by
    have h1 := (C.kk.1 ci _ w5).2.1
    exact Option.some.inj (h1.symm.trans hfX)
  have hHU : rn_H z sa D dA (h ++ [.inr (ci, [])]) U.heap := by
    refine hH.push (by rw [hUs, hsz, hT]) (fun q hq => ?_) ?_
    · rw [← hT] at hq ⊢
      rw [hUk q (Nat.ne_of_lt hq), hkeep q hq]
    · refine ⟨_, w5, ce, ?_, ?_, hceV, fun k hk => absurd hk (Nat.not_lt_zero k)⟩
      · show U.heap[z + h.length]? = some ce
        rw [← hH.1, ← hT]; exact hce
      · rw [hci]; exact hceC
  refine ⟨U, st1 _ ?_, .threw T.heap.size, hrun, hend, ⟨.inr h.length, _, hK, ?_, hHU, ?_⟩, locs ++ L, ⟨hW, hsame.mono hm.1 hm.2⟩, ?_⟩
  · show Steps p.tables e below (T2.setTop (F0 m (pc + 3) ls (.ref T.heap.size :: st.map (ah_v z sa)))) _
    have hdd : decode c.code (pc + 3) = .ok (.dup, 1) := by rw [C.by]; exact d3
    jvm_step X₁.here [X₁.here.top, C.ex, hdd, Value.category]
    exact hldc T2 locs _ _ X₁ ls (.ref T.heap.size :: .ref T.heap.size :: st.map (ah_v z sa)) U hsteps
  · show Outcome.threw T.heap.size = .threw (z + h.length)
    rw [hT, hH.1]
  · refine ⟨by rw [hUs, hsz, hT]; exact Nat.le_succ_of_le hS.1, fun q g1 g2 => ?_⟩
    have hq : q < T.heap.size := by rw [hT]; exact Nat.lt_of_lt_of_le g1 hS.1
    rw [hUk q (Nat.ne_of_lt hq), hkeep q hq, hT]
    exact hS.2.1 q g1 g2
  · intro q hq
    rcases List.mem_append.mp hq with g | g
    · exact hS.2.2 q g
    · rw [hLa q g]; exact hz
theorem rn_throw (C : rn_Ok p l e s m args meth c z sa D dA cc own nm nL ret []) (htr : e.platform.stackTraces = false) {ik ic ci i : Nat} {X tx : String} (tw : rn_tw own ik ic X ci) (hs : (own, i, tx) ∈ strW)
    (d0 : decode cc pc = .ok (.new ik, 3)) (d3 : decode cc (pc + 3) = .ok (.dup, 1)) (d4 : decode cc (pc + 4) = .ok (.ldc i, 2)) (d6 : decode cc (pc + 6) = .ok (.invokespecial ic, 3)) (d9 : decode cc (pc + 9) = .ok (.athrow, 1))
    (hfr : 5 < R.frames) (hlo : (st.map fun v => v.category).sum + 82 ≤ R.locals) (hm : n1 + 1 ≤ mc ∧ n2 + 6 ≤ ms) (hR : mc ≤ R.cells ∧ ms ≤ R.slots) (hK : K (.inr h.length) (h ++ [.inr (ci, [])])) :
    Run p l e R s m args below meth c z sa D dA mc ms K nL pc lv st h n1 n2 := by
  obtain ⟨sx, hZ⟩ := C.ff.2.2.1 _ hs
  exact rn_thr0 C htr (ln := 2) (sx := sx) tw (fun T locs a1 a2 X ls vs target h => X.ldcString C.ex C.ow (text := tx) (a := sx) hZ.1 hZ.2 (g := F0 m (pc + 4) ls vs) rfl (by rw [C.by]; exact d4) target h) d0 d3 d6 d9 hfr hlo hm hR hK
theorem rn_throwW (C : rn_Ok p l e s m args meth c z sa D dA cc own nm nL ret []) (htr : e.platform.stackTraces = false) {ik ic ci i : Nat} {X tx : String} (tw : rn_tw own ik ic X ci) (hs : (own, i, tx) ∈ strW)
    (d0 : decode cc pc = .ok (.new ik, 3)) (d3 : decode cc (pc + 3) = .ok (.dup, 1)) (d4 : decode cc (pc + 4) = .ok (.ldc_w i, 3)) (d6 : decode cc (pc + 7) = .ok (.invokespecial ic, 3)) (d9 : decode cc (pc + 10) = .ok (.athrow, 1))
    (hfr : 5 < R.frames) (hlo : (st.map fun v => v.category).sum + 82 ≤ R.locals) (hm : n1 + 1 ≤ mc ∧ n2 + 6 ≤ ms) (hR : mc ≤ R.cells ∧ ms ≤ R.slots) (hK : K (.inr h.length) (h ++ [.inr (ci, [])])) :
    Run p l e R s m args below meth c z sa D dA mc ms K nL pc lv st h n1 n2 := by
  obtain ⟨sx, hZ⟩ := C.ff.2.2.1 _ hs
  exact rn_thr0 C htr (ln := 3) (sx := sx) tw (fun T locs a1 a2 X ls vs target h => rn_ldcS X C.ex C.ow hZ (g := F0 m (pc + 4) ls vs) rfl (by rw [C.by]; exact d4) target h) d0 d3 d6 d9 hfr hlo hm hR hK
end THROWS
theorem tw_1 : rn_tw "ColourCharts" 78 82 "java/lang/IndexOutOfBoundsException" 10 := ⟨ww 313 (by decide +kernel) (by decide +kernel), ww 314 (by decide +kernel) (by decide +kernel), ww 41 (by decide +kernel) (by decide +kernel), by decide +kernel, ⟨_, rfl⟩, by decide +kernel⟩
theorem tw_2 : rn_tw "ColourCharts" 88 92 "java/lang/IllegalArgumentException" 11 := ⟨ww 384 (by decide +kernel) (by decide +kernel), ww 385 (by decide +kernel) (by decide +kernel), ww 42 (by decide +kernel) (by decide +kernel), by decide +kernel, ⟨_, rfl⟩, by decide +kernel⟩
theorem tw_3 : rn_tw "ColourCharts" 118 122 "java/lang/IllegalStateException" 12 := ⟨ww 437 (by decide +kernel) (by decide +kernel), ww 438 (by decide +kernel) (by decide +kernel), ww 43 (by decide +kernel) (by decide +kernel), by decide +kernel, ⟨_, rfl⟩, by decide +kernel⟩
