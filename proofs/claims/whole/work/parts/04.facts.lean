/-! What stays true of the state, and is no plain word of the tables; printed by wip/whole/gen_facts.py. -/
def faceW : List Cond := [(Cond.castable "java/lang/IndexOutOfBoundsException" "java/lang/IndexOutOfBoundsException"), (Cond.declares ({ cls := "java/lang/RuntimeException", name := "<init>", desc := "()V" } : Jvm.MethodName)), (Cond.declares ({ cls := "java/lang/RuntimeException", name := "<init>", desc := "(Ljava/lang/String;)V" } : Jvm.MethodName)), (Cond.declares ({ cls := "java/lang/Exception", name := "<init>", desc := "()V" } : Jvm.MethodName)), (Cond.declares ({ cls := "java/lang/Exception", name := "<init>", desc := "(Ljava/lang/String;)V" } : Jvm.MethodName)), (Cond.declares ({ cls := "java/lang/Throwable", name := "<init>", desc := "()V" } : Jvm.MethodName)), (Cond.declares ({ cls := "java/lang/Throwable", name := "<init>", desc := "(Ljava/lang/String;)V" } : Jvm.MethodName)), (Cond.castable "java/lang/IllegalArgumentException" "java/lang/IllegalArgumentException"), (Cond.castable "java/lang/IllegalStateException" "java/lang/IllegalStateException")]
theorem faceW_in : ∀ w ∈ faceW, w ∈ lw_tbl := by
  intro w hw
  simp only [faceW, List.mem_cons, List.not_mem_nil, or_false] at hw
  rcases hw with rfl | rfl | rfl | rfl | rfl | rfl | rfl | rfl | rfl
  · exact List.mem_of_getElem? (i := 315) (by decide +kernel)
  · exact List.mem_of_getElem? (i := 316) (by decide +kernel)
  · exact List.mem_of_getElem? (i := 317) (by decide +kernel)
  · exact List.mem_of_getElem? (i := 318) (by decide +kernel)
  · exact List.mem_of_getElem? (i := 319) (by decide +kernel)
  · exact List.mem_of_getElem? (i := 320) (by decide +kernel)
  · exact List.mem_of_getElem? (i := 321) (by decide +kernel)
  · exact List.mem_of_getElem? (i := 386) (by decide +kernel)
  · exact List.mem_of_getElem? (i := 439) (by decide +kernel)
theorem faceW_ok : ∀ w ∈ faceW, w.onTables = true ∧ w.faceAtom = true := by decide +kernel
def strW : List (String × Nat × String) := [("ColourCharts", 80, "no such cell or part"), ("ColourCharts", 90, "a part is 0 .. 255"), ("ColourCharts", 97, "no such cell"), ("ColourCharts", 99, "a light is 0 .. 255"), ("ColourCharts", 116, "no such side"), ("ColourCharts", 120, "no frame is found"), ("ColourCharts", 130, "columns and rows are 1 .. 4"), ("ColourCharts", 139, "a quarter is 0 .. 3"), ("ColourCharts", 147, "no such patch or part"), ("ColourCharts", 156, "no such patch or part of a fraction"), ("ColourCharts", 177, "no such patch"), ("ColourCharts", 183, "a target's parts are 0 .. 255"), ("ColourCharts", 193, "the patch has no target"), ("ColourCharts", 211, "no such part or number of a line"), ("ColourCharts", 213, "nothing was fitted"), ("ColourCharts", 219, "no such part"), ("ColourCharts", 224, "no frame is found, or nothing was fitted"), ("ColourCharts", 229, "a sign is 33 .. 126"), ("ColourCharts", 235, "the text has 20 signs"), ("ColourCharts", 244, "there are eight rules"), ("ColourCharts", 260, "a day is 0 .. 100000, its value 0 .. 1000"), ("ColourCharts", 265, "there are 40 days"), ("ColourCharts", 271, "no such part of a fraction"), ("ColourCharts", 291, "no such count")]
theorem strW_in : ∀ q ∈ strW, Cond.stringRef q.1 q.2.1 q.2.2 ∈ lw_tbl := by
  intro q hq
  simp only [strW, List.mem_cons, List.not_mem_nil, or_false] at hq
  rcases hq with rfl | rfl | rfl | rfl | rfl | rfl | rfl | rfl | rfl | rfl | rfl | rfl | rfl | rfl | rfl | rfl | rfl | rfl | rfl | rfl | rfl | rfl | rfl | rfl
  · exact List.mem_of_getElem? (i := 354) (by decide +kernel)
  · exact List.mem_of_getElem? (i := 393) (by decide +kernel)
  · exact List.mem_of_getElem? (i := 411) (by decide +kernel)
  · exact List.mem_of_getElem? (i := 412) (by decide +kernel)
  · exact List.mem_of_getElem? (i := 436) (by decide +kernel)
  · exact List.mem_of_getElem? (i := 446) (by decide +kernel)
  · exact List.mem_of_getElem? (i := 467) (by decide +kernel)
  · exact List.mem_of_getElem? (i := 475) (by decide +kernel)
  · exact List.mem_of_getElem? (i := 491) (by decide +kernel)
  · exact List.mem_of_getElem? (i := 537) (by decide +kernel)
  · exact List.mem_of_getElem? (i := 565) (by decide +kernel)
  · exact List.mem_of_getElem? (i := 570) (by decide +kernel)
  · exact List.mem_of_getElem? (i := 582) (by decide +kernel)
  · exact List.mem_of_getElem? (i := 639) (by decide +kernel)
  · exact List.mem_of_getElem? (i := 640) (by decide +kernel)
  · exact List.mem_of_getElem? (i := 652) (by decide +kernel)
  · exact List.mem_of_getElem? (i := 672) (by decide +kernel)
  · exact List.mem_of_getElem? (i := 686) (by decide +kernel)
  · exact List.mem_of_getElem? (i := 691) (by decide +kernel)
  · exact List.mem_of_getElem? (i := 707) (by decide +kernel)
  · exact List.mem_of_getElem? (i := 749) (by decide +kernel)
  · exact List.mem_of_getElem? (i := 750) (by decide +kernel)
  · exact List.mem_of_getElem? (i := 758) (by decide +kernel)
  · exact List.mem_of_getElem? (i := 768) (by decide +kernel)
def ncW : List (String × String) := [("java/lang/IndexOutOfBoundsException", "java/lang/IllegalArgumentException"), ("java/lang/IndexOutOfBoundsException", "java/lang/IllegalStateException"), ("java/lang/IllegalArgumentException", "java/lang/IndexOutOfBoundsException"), ("java/lang/IllegalArgumentException", "java/lang/IllegalStateException"), ("java/lang/IllegalStateException", "java/lang/IndexOutOfBoundsException"), ("java/lang/IllegalStateException", "java/lang/IllegalArgumentException")]
theorem nestW_form : ∀ w ∈ nestW, ∃ a i x h, w = Cond.methodLinkNest a i x h := by
  intro w hw
  simp only [nestW, List.mem_cons, List.not_mem_nil, or_false] at hw
  rcases hw with rfl | rfl | rfl | rfl | rfl | rfl | rfl | rfl | rfl | rfl <;> exact ⟨_, _, _, _, rfl⟩
/-- a static field of references, in a cell below z -/
def rn_st (z : Nat) (C n d : String) (U : State) : Prop := ∃ (c : ClassId) (k : Class) (i : Nat) (f : Field) (a : Nat) (cell : Cell) (v : Value), U.vm.findClass C = some c ∧ U.fieldFound? C n d = some (c, k, i, f) ∧ f.isStatic = true ∧ k.statics = some a ∧ U.heap[a]? = some cell ∧ cell.vm.isStatics = true ∧ cell.cls = c ∧ f.slot < cell.slots.size ∧ k.staticTypes[f.slot]? = some f.type ∧ cell.slots[f.slot]? = some v ∧ (v = .null ∨ ∃ t, v = .ref t) ∧ a < z
theorem rn_st.kept {z : Nat} {C n d : String} {u U : State} (hvm : u.vm.Alike U.vm) (hq : ∀ q, q < z → U.heap[q]? = u.heap[q]?) (h : rn_st z C n d u) : rn_st z C n d U := by
  obtain ⟨c, k, i, f, a, cell, v, h1, h2, h3, h4, h5, h6, h7, h8, h9, h10, h11, h12⟩ := h
  obtain ⟨k', hi', he⟩ := State.fieldFound?_setVm hvm h2
  exact ⟨c, k', i, f, a, cell, v, by rw [hvm.findClass]; exact h1, hi', h3, by rw [he]; exact h4, by rw [hq a h12]; exact h5, h6, h7, h8, by rw [he]; exact h9, h10, h11, h12⟩
theorem rn_st.lays {z : Nat} {C n d : String} {U : State} (h : rn_st z C n d U) (A : Array Value) : (Cond.laysStatic C n d).before A U = true := by
  obtain ⟨c, k, i, f, a, cell, v, h1, h2, h3, h4, h5, h6, h7, h8, h9, h10, h11, h12⟩ := h
  simp [Cond.before, Cond.holds, Cond.value, h1, h2, h3, h4, h5, h6, h7, h8, h9]
theorem rn_st.isRef {z : Nat} {C n d : String} {U : State} (h : rn_st z C n d U) (A : Array Value) : (Cond.isRef (.static C n d)).before A U = true := by
  obtain ⟨c, k, i, f, a, cell, v, h1, h2, h3, h4, h5, h6, h7, h8, h9, h10, h11, h12⟩ := h
  have he : (Term.static C n d).eval A U none [] U = some v := by simp [Term.eval, State.fieldNamed?, h2, h3, h4, h5, h6, h10]
  rcases h11 with rfl | ⟨t, rfl⟩ <;> simp [Cond.before, Cond.holds, Cond.value, he]
theorem rn_st.of {z : Nat} {C n d : String} {U : State} {A : Array Value} (hl : (Cond.laysStatic C n d).before A U = true) (hr : (Cond.isRef (.static C n d)).before A U = true) (hz : ∀ a : Nat, a < U.heap.size → a < z) : rn_st z C n d U := by
  obtain ⟨c, k, i, f, a, cell, hc, hi, hst, ha, hcell, hs, hcls, hlt, hty⟩ := Cond.laysStatic_spec hl
  have he : (Term.static C n d).eval A U none [] U = cell.slots[f.slot]? := by simp [Term.eval, State.fieldNamed?, hi, hst, ha, hcell, hs]
  cases hv : cell.slots[f.slot]? with
  | none => rw [hv] at he; simp [Cond.before, Cond.holds, Cond.value, he] at hr
  | some v =>
    refine ⟨c, k, i, f, a, cell, v, hc, hi, hst, ha, hcell, hs, hcls, hlt, hty, hv, ?_, hz a (Array.getElem?_eq_some_iff.mp hcell).1⟩
    rw [hv] at he
    cases v with
    | null => exact Or.inl rfl
    | ref t => exact Or.inr ⟨t, rfl⟩
    | _ => simp [Cond.before, Cond.holds, Cond.value, he] at hr
def rn_w3 : Nat → Value := fun j => match j with
  | 0 => .int 2
  | 1 => .int 4
  | _ => .int 3
/-- all that stays -/
def rn_F (z : Nat) (sa : Nat → Nat) (U : State) : Prop :=
  (∀ w ∈ nestW, va_Nw w U) ∧ (∀ w ∈ faceW, va_Nw w U) ∧ (∀ q ∈ strW, ∃ a, vk_R q.1 q.2.1 q.2.2 a U) ∧ (∀ q ∈ ncW, va_Nc q.1 q.2 U) ∧
  (rn_st z "java/lang/Throwable" "UNASSIGNED_STACK" "[Ljava/lang/StackTraceElement;" U ∧ rn_st z "java/lang/Throwable" "SUPPRESSED_SENTINEL" "Ljava/util/List;" U) ∧
  va_Z "ColourCharts" "PART_WEIGHTS" "[I" (.ref (sa 0)) (fun q => z ≤ q) U U.heap ∧ va_T .int (sa 0) 3 rn_w3 (fun q => z ≤ q) U U.heap ∧ va_X (sa 1) (sa 2) (fun j => Int32.ofNat (sa (3 + j))) U U.heap ∧ sa 1 < z
theorem rn_F.kept {z : Nat} {sa : Nat → Nat} {s U : State} (hW : s.WarmedH U.vm) (hq : ∀ q, q < z → U.heap[q]? = s.heap[q]?) (h : rn_F z sa s) : rn_F z sa U := by
  obtain ⟨h1, h2, h3, h4, ⟨h5, h6⟩, h7, h8, h9, h10⟩ := h
  have hk : ∀ a : Nat, a < s.heap.size → ¬ z ≤ a → U.heap[a]? = s.heap[a]? := fun a _ ha => hq a (by omega)
  refine ⟨fun w hw => ?_, fun w hw => ?_, fun q hw => ?_, fun q hw => (h4 q hw).moved hW.alike, ⟨h5.kept hW.alike hq, h6.kept hW.alike hq⟩, (h7.kept hk).moved hW.alike, (h8.kept hk).moved hW.alike, (h9.kept (hq _ h10)).moved hW.alike, h10⟩
  · obtain ⟨a, i, x, y, rfl⟩ := nestW_form w hw
    exact va_Nw.warmM hW (h1 _ hw)
  · exact va_tabs (faceW_ok w hw).1 (rfl : (s.setVm U.vm).vm = U.vm) (Cond.faceAtom_setVm hW.alike w (faceW_ok w hw).2 (h2 w hw))
  · obtain ⟨a, ha⟩ := h3 q hw
    exact ⟨a, ha.warm hW⟩
theorem rn_F.same {z : Nat} {sa : Nat → Nat} {u U : State} (hv : U.vm = u.vm) (hh : U.heap = u.heap) (h : rn_F z sa u) : rn_F z sa U := by
  obtain ⟨h1, h2, h3, h4, ⟨h5, h6⟩, h7, h8, h9, h10⟩ := h
  have al : u.vm.Alike U.vm := by rw [hv]; exact Vm.Alike.refl u.vm
  refine ⟨fun w hw => ?_, fun w hw => va_Nw.same (faceW_ok w hw).1 hv.symm (h2 w hw), fun q hw => ?_, fun q hw => (h4 q hw).moved al, ⟨h5.kept al (fun q _ => by rw [hh]), h6.kept al (fun q _ => by rw [hh])⟩, ?_, ?_, ?_, h10⟩
  · obtain ⟨a, i, x, y, rfl⟩ := nestW_form w hw
    exact va_Nw.same rfl hv.symm (h1 _ hw)
  · obtain ⟨a, ha⟩ := h3 q hw
    exact ⟨a, vk_R.same hv ha⟩
  · rw [hh]; exact h7.moved al
  · rw [hh]; exact h8.moved al
  · rw [hh]; exact h9.moved al
