/-! Rows that read and write cells. -/
/-- a field by its pool number: of the class of number ci the k-th -/
def rn_fl (own : String) (i ci k : Nat) : Prop := ∃ (C : String) (T : u_T) (N : Nat), ccl[ci]? = some (C, T, N) ∧ k < N ∧ (T k).1 = C ∧ (∀ w ∈ u_ws C T N, w ∈ allW) ∧ (Cond.fieldLink own i C (T k).2.1 (T k).2.2.1 ∈ allW ∨ ∃ host, Cond.fieldLinkNest own i C (T k).2.1 (T k).2.2.1 host ∈ nestW)
/-- the same in the class's own code -/
def rn_fo (own : String) (i ci k : Nat) : Prop := ∃ (T : u_T) (N : Nat), ccl[ci]? = some (own, T, N) ∧ k < N ∧ (T k).1 = own ∧ (∀ w ∈ u_ws own T N, w ∈ allW) ∧ Cond.fieldLink own i own (T k).2.1 (T k).2.2.1 ∈ allW
/-- what the tables say of a class's fields: their types, and that they are apart -/
def rn_ft (ci : Nat) (ty : Nat → FieldType) : Prop := ∃ (C : String) (T : u_T) (N : Nat), ccl[ci]? = some (C, T, N) ∧ (∀ j, j < N → parseFieldDescriptor (T j).2.2.1 = some (ty j)) ∧ ∀ a, a < N → ∀ b, b < N → a ≠ b → (T a).2.1 ≠ (T b).2.1
def rn_fin (ci k : Nat) (b : Bool) : Prop := ∃ (C : String) (T : u_T) (N : Nat), ccl[ci]? = some (C, T, N) ∧ (T k).2.2.2 = b
theorem rn_H.upd {z : Nat} {sa : Nat → Nat} {D : va_G} {dA : Nat → ClassId} {h : ah_H} {H H1 : Heap} {q : Nat} {e0 e : ah_E} (hH : rn_H z sa D dA h H) (hq : h[q]? = some e0) (hz : H1.size = H.size) (oq : ∀ a, a ≠ z + q → H1[a]? = H[a]?) (he : va_at D ccl (z + q, ah_e z sa dA e) H1) : rn_H z sa D dA (h.set q e) H1 :=
  ⟨by rw [hz, hH.1, List.length_set], by rw [← ah_set]; exact hH.2.set ah_D (ah_get hq) he oq⟩
theorem rn_H.push {z : Nat} {sa : Nat → Nat} {D : va_G} {dA : Nat → ClassId} {h : ah_H} {H H1 : Heap} {e : ah_E} (hH : rn_H z sa D dA h H) (hz : H1.size = H.size + 1) (oq : ∀ a, a < H.size → H1[a]? = H[a]?) (he : va_at D ccl (z + h.length, ah_e z sa dA e) H1) : rn_H z sa D dA (h ++ [e]) H1 := by
  refine ⟨by rw [hz, hH.1, List.length_append]; rfl, ?_⟩
  rw [← ah_push]
  refine (hH.2.kept (fun k x hx => oq x.1 ((hH.2 k x hx).lt))).app (fun k x hx => ?_)
  have hz : k < 1 := (List.getElem?_eq_some_iff.mp hx).1
  rw [show k = 0 by omega] at hx
  cases hx
  exact he
section HEAP
variable {p : Program} {l : Launch} {e : Env} {R : Room} {s : State} {m : MethodId} {args : Array Value} {below : List Frame} {meth : Method} {c : Code} {z : Nat} {sa : Nat → Nat} {D : va_G} {dA : Nat → ClassId} {mc ms : Nat} {K : ah_R → ah_H → Prop}
variable {cc : ByteArray} {own nm : String} {nL : Nat} {ret : Option FieldType} {hh : List (Nat × Nat × Nat × Nat)} {pc : Nat} {lv : List (Option Value)} {st : List Value} {h : ah_H} {n1 n2 : Nat}
theorem rn_get (C : rn_Ok p l e s m args meth c z sa D dA cc own nm nL ret hh) {i ci k q : Nat} {fs : List Value} {v : Value} (f : rn_fl own i ci k) (d : decode cc pc = .ok (.getfield i, 3)) (hq : h[q]? = some (.inr (ci, fs))) (hv : fs[k]? = some v)
    (kk : Run p l e R s m args below meth c z sa D dA mc ms K nL (pc + 3) lv (v :: st) h n1 n2) : Run p l e R s m args below meth c z sa D dA mc ms K nL pc lv (.ref q :: st) h n1 n2 := by
  intro H locs ls hH hS hL
  obtain ⟨C', T, N, hc, hk, hdc, hin, hl⟩ := f
  have he : (ah_w z sa dA h)[q]? = some (z + q, .inr (ci, fs.map (ah_v z sa))) := ah_get hq
  have hv' : (fs.map (ah_v z sa))[k]? = some (ah_v z sa v) := by rw [List.getElem?_map, hv]; rfl
  rcases hl with hl | ⟨host, hl⟩
  · exact va_get C.ex C.by C.ts hin C.ow C.kk hH.2 q he hc k hk (C.ts _ hl) (fun x hx => by rw [hdc] at hx; exact hx) hv' d (kk H locs ls hH hS hL)
  · exact va_getN C.ex C.by C.ts hin C.ow C.kk hH.2 q he hc k hk (va_Nw.use rfl (C.ff.1 _ hl)) (fun x hx => by rw [hdc] at hx; exact hx) hv' d (kk H locs ls hH hS hL)
theorem rn_put (C : rn_Ok p l e s m args meth c z sa D dA cc own nm nL ret hh) {i ci k q : Nat} {fs : List Value} {v : Value} {ty : Nat → FieldType} (f : rn_fl own i ci k) (ft : rn_ft ci ty) (fn : rn_fin ci k false) (d : decode cc pc = .ok (.putfield i, 3)) (hq : h[q]? = some (.inr (ci, fs))) (hlen : k < fs.length) (hn : ∀ z sa, narrow (ty k) (ah_v z sa v) = ah_v z sa v ∧ fits (ty k) (ah_v z sa v) = true)
    (kk : Run p l e R s m args below meth c z sa D dA mc ms K nL (pc + 3) lv st (h.set q (.inr (ci, fs.set k v))) n1 n2) : Run p l e R s m args below meth c z sa D dA mc ms K nL pc lv (v :: .ref q :: st) h n1 n2 := by
  intro H locs ls hH hS hL
  obtain ⟨C', T, N, hc, hk, hdc, hin, hlk⟩ := f
  obtain ⟨C2, T2, N2, hc2, hty, hnm⟩ := ft
  obtain ⟨C3, T3, N3, hc3, hfin⟩ := fn
  cases hc.symm.trans hc2
  cases hc.symm.trans hc3
  have hap := va_apart (own := own) C.ts hin ty hty hnm C.kk hc
  have he : (ah_w z sa dA h)[q]? = some (z + q, .inr (ci, fs.map (ah_v z sa))) := ah_get hq
  obtain ⟨r, h1, cell, q1, q2, q3, q4⟩ := hH.2 q _ he
  have hr : r = (C', T, N) := Option.some.inj (h1.symm.trans hc)
  subst hr
  obtain ⟨hSl, hfc, kC, hkC, hkind⟩ := C.kk.1 ci _ hc
  obtain ⟨cf, kf, fi, fd, hi, hsl⟩ := hSl k hk
  have hlay := C.ts _ (hin _ (u_in_lay hk))
  unfold u_lay at hlay
  rw [if_neg (by rw [hfin]; decide)] at hlay
  have hst := (u_facts hfc hkC (u_lays C.ts hin hk) hi).1
  have h6 := u_store hfc hkC hkind hlay hi (hty k hk) (hn z sa).1 (hn z sa).2
  have hi' : s.fieldFound? C' (T k).2.1 (T k).2.2.1 = some (cf, kf, fi, fd) := by rw [hdc] at hi; exact hi
  have fin : ∀ (H' : Heap), H'[z + q]? = some (cell.setSlot fd.slot (ah_v z sa v)) → H'.size = H.size → (∀ a, a ≠ z + q → H'[a]? = H[a]?) → W p l e R s m args below meth c H' (locs ++ [⟨z + q, fd.slot⟩]) n1 n2 (rn_MQ below z sa D dA K s mc ms) (F0 m (pc + 3) ls (st.map (ah_v z sa))) := by
    intro H' e1 e2 e3
    rw [hsl] at e1 ⊢
    refine kk H' _ ls (hH.upd hq e2 e3 ⟨_, hc, t_OB.to (V := updV (vp_V (fs.map (ah_v z sa))) k (ah_v z sa v)) ⟨_, e1, q2, q3, t_set q4 hap hk _⟩ (fun j _ => ?_)⟩) (hS.put e2 e3 (Nat.le_add_right z q)) hL
    rw [vp_updV_set (by simpa using hlen), List.map_set]
  rcases hlk with hlk | ⟨host, hlk⟩
  · exact W.putK C.ex C.by (f := fd) ⟨C.ow, C.ts _ hlk, ⟨_, _, _, hi'⟩, hst⟩ (by rw [q2]; exact h6) q1 q3 (by rw [hsl]; exact k2_hasslot (q4 k hk)) rfl rfl d fin
  · exact va_WputK C.ex C.by (f := fd) C.ow (va_Nw.use rfl (C.ff.1 _ hlk)) hi' hst (by rw [q2]; exact h6) q1 q3 (by rw [hsl]; exact k2_hasslot (q4 k hk)) rfl rfl d fin
/-- a final field, in the constructor of its own class -/
theorem rn_putF (C : rn_Ok p l e s m args meth c z sa D dA cc own "<init>" nL ret hh) {i ci k q : Nat} {fs : List Value} {v : Value} {ty : Nat → FieldType} (f : rn_fo own i ci k) (ft : rn_ft ci ty) (fn : rn_fin ci k true) (d : decode cc pc = .ok (.putfield i, 3)) (hq : h[q]? = some (.inr (ci, fs))) (hlen : k < fs.length) (hn : ∀ z sa, narrow (ty k) (ah_v z sa v) = ah_v z sa v ∧ fits (ty k) (ah_v z sa v) = true)
    (kk : Run p l e R s m args below meth c z sa D dA mc ms K nL (pc + 3) lv st (h.set q (.inr (ci, fs.set k v))) n1 n2) : Run p l e R s m args below meth c z sa D dA mc ms K nL pc lv (v :: .ref q :: st) h n1 n2 := by
  intro H locs ls hH hS hL
  obtain ⟨T, N, hc, hk, hdc, hin, hlk⟩ := f
  obtain ⟨C2, T2, N2, hc2, hty, hnm⟩ := ft
  obtain ⟨C3, T3, N3, hc3, hfin⟩ := fn
  cases hc.symm.trans hc2
  cases hc.symm.trans hc3
  have hap := va_apart (own := own) C.ts hin ty hty hnm C.kk hc
  have he : (ah_w z sa dA h)[q]? = some (z + q, .inr (ci, fs.map (ah_v z sa))) := ah_get hq
  obtain ⟨r, h1, cell, q1, q2, q3, q4⟩ := hH.2 q _ he
  have hr : r = (own, T, N) := Option.some.inj (h1.symm.trans hc)
  subst hr
  obtain ⟨hSl, hfc, kC, hkC, hkind⟩ := C.kk.1 ci _ hc
  obtain ⟨cf, kf, fi, fd, hi, hsl⟩ := hSl k hk
  have hlay := C.ts _ (hin _ (u_in_lay hk))
  unfold u_lay at hlay
  rw [if_pos hfin] at hlay
  have hst := (u_facts hfc hkC (u_lays C.ts hin hk) hi).1
  have hcf : m.cls = cf := by
    obtain ⟨_, _, c', _, _, _, -, -, hf', -, -, -, hown2, -⟩ := Cond.laysFinal_spec hlay
    have e1 : c' = cf := by have := hi.symm.trans hf'; simp at this; exact this.1.symm
    rw [hdc] at hown2
    rw [← e1]; exact Option.some.inj (C.ow.symm.trans hown2)
  have h6 := u_fits hfc hkC hkind (Or.inr hlay) hi (hty k hk) (hn z sa).1 (hn z sa).2
  have hi' : s.fieldFound? own (T k).2.1 (T k).2.2.1 = some (cf, kf, fi, fd) := by rw [hdc] at hi; exact hi
  refine W.putFinK C.ex C.by C.ow (C.ts _ hlk) hi' hst hcf C.na (by rw [q2]; exact h6) q1 q3 (by rw [hsl]; exact k2_hasslot (q4 k hk)) rfl rfl d fun H' e1 e2 e3 => ?_
  rw [hsl] at e1 ⊢
  refine kk H' _ ls (hH.upd hq e2 e3 ⟨_, hc, t_OB.to (V := updV (vp_V (fs.map (ah_v z sa))) k (ah_v z sa v)) ⟨_, e1, q2, q3, t_set q4 hap hk _⟩ (fun j _ => ?_)⟩) (hS.put e2 e3 (Nat.le_add_right z q)) hL
  rw [vp_updV_set (by simpa using hlen), List.map_set]
theorem rn_iaload (C : rn_Ok p l e s m args meth c z sa D dA cc own nm nL ret hh) {q n : Nat} {f : Nat → Int32} {i : Int32} (d : decode cc pc = .ok (.iaload, 1)) (hq : h[q]? = some (.inl (0, n, .inl f))) (hin : vp_in i n) (k : Run p l e R s m args below meth c z sa D dA mc ms K nL (pc + 1) lv (.int (f i.toNatClampNeg) :: st) h n1 n2) : Run p l e R s m args below meth c z sa D dA mc ms K nL pc lv (.int i :: .ref q :: st) h n1 n2 :=
  fun H locs ls hH hS hL => va_iald C.ex C.by C.kk hH.2 q 0 (ah_get hq) rfl hin d (k H locs ls hH hS hL)
theorem rn_zaload (C : rn_Ok p l e s m args meth c z sa D dA cc own nm nL ret hh) {q n : Nat} {f : Nat → Int32} {i : Int32} (d : decode cc pc = .ok (.baload, 1)) (hq : h[q]? = some (.inl (2, n, .inl f))) (hin : vp_in i n) (k : Run p l e R s m args below meth c z sa D dA mc ms K nL (pc + 1) lv (.int (f i.toNatClampNeg) :: st) h n1 n2) : Run p l e R s m args below meth c z sa D dA mc ms K nL pc lv (.int i :: .ref q :: st) h n1 n2 :=
  fun H locs ls hH hS hL => va_zald C.ex C.by C.kk hH.2 q 2 (ah_get hq) rfl hin d (k H locs ls hH hS hL)
theorem rn_caload (C : rn_Ok p l e s m args meth c z sa D dA cc own nm nL ret hh) {q n : Nat} {f : Nat → Int32} {i : Int32} (d : decode cc pc = .ok (.caload, 1)) (hq : h[q]? = some (.inl (3, n, .inl f))) (hin : vp_in i n) (k : Run p l e R s m args below meth c z sa D dA mc ms K nL (pc + 1) lv (.int (f i.toNatClampNeg) :: st) h n1 n2) : Run p l e R s m args below meth c z sa D dA mc ms K nL pc lv (.int i :: .ref q :: st) h n1 n2 :=
  fun H locs ls hH hS hL => va_cald C.ex C.by C.kk hH.2 q 3 (ah_get hq) rfl hin d (k H locs ls hH hS hL)
theorem rn_laload (C : rn_Ok p l e s m args meth c z sa D dA cc own nm nL ret hh) {q n : Nat} {f : Nat → Int64} {i : Int32} (d : decode cc pc = .ok (.laload, 1)) (hq : h[q]? = some (.inl (1, n, .inr (.inl f)))) (hin : vp_in i n) (k : Run p l e R s m args below meth c z sa D dA mc ms K nL (pc + 1) lv (.long (f i.toNatClampNeg) :: st) h n1 n2) : Run p l e R s m args below meth c z sa D dA mc ms K nL pc lv (.int i :: .ref q :: st) h n1 n2 :=
  fun H locs ls hH hS hL => va_lald C.ex C.by C.kk hH.2 q 1 (ah_get hq) rfl hin d (k H locs ls hH hS hL)
theorem rn_iastore (C : rn_Ok p l e s m args meth c z sa D dA cc own nm nL ret hh) {q n : Nat} {f : Nat → Int32} {i : Int32} {x : Int32} (d : decode cc pc = .ok (.iastore, 1)) (hq : h[q]? = some (.inl (0, n, .inl f))) (hin : vp_in i n) (k : Run p l e R s m args below meth c z sa D dA mc ms K nL (pc + 1) lv st (h.set q (.inl (0, n, .inl (upd f i.toNatClampNeg x)))) n1 n2) : Run p l e R s m args below meth c z sa D dA mc ms K nL pc lv (.int x :: .int i :: .ref q :: st) h n1 n2 := by
  intro H locs ls hH hS hL
  refine W.iast C.ex C.by (hH.2 q _ (ah_get hq)) ((C.kk.2 0 _ rfl).1 n (fun j => .int (f j))) (fun q => by cases q) (by show ¬ (i < 0 ∨ (arrV _ _ _).slots.size ≤ _); rw [arrV_size]; exact hin) rfl rfl d fun H1 e1 z1 oq => ?_
  refine k H1 _ ls (hH.upd hq z1 oq ?_) (hS.put z1 oq (Nat.le_add_right z q)) hL
  show H1[z + q]? = some (vp_cell _ _)
  rw [e1]
  show some ((vp_cell _ _).setSlot _ _) = _
  rw [vp_cell_i, vp_cell_i, arrV_store]
  congr 2
  funext j
  by_cases hj : j = i.toNatClampNeg
  · subst hj
    simp [updV, upd, vp_nar]
    try rfl
  · simp [updV, upd, hj]
theorem rn_zastore (C : rn_Ok p l e s m args meth c z sa D dA cc own nm nL ret hh) {q n : Nat} {f : Nat → Int32} {i : Int32} {x : Int32} (d : decode cc pc = .ok (.bastore, 1)) (hq : h[q]? = some (.inl (2, n, .inl f))) (hin : vp_in i n) (k : Run p l e R s m args below meth c z sa D dA mc ms K nL (pc + 1) lv st (h.set q (.inl (2, n, .inl (upd f i.toNatClampNeg (vp_nar .boolean x))))) n1 n2) : Run p l e R s m args below meth c z sa D dA mc ms K nL pc lv (.int x :: .int i :: .ref q :: st) h n1 n2 := by
  intro H locs ls hH hS hL
  refine W.zast C.ex C.by (hH.2 q _ (ah_get hq)) ((C.kk.2 2 _ rfl).1 n (fun j => .int (f j))) (fun q => by cases q) (by show ¬ (i < 0 ∨ (arrV _ _ _).slots.size ≤ _); rw [arrV_size]; exact hin) rfl rfl d fun H1 e1 z1 oq => ?_
  refine k H1 _ ls (hH.upd hq z1 oq ?_) (hS.put z1 oq (Nat.le_add_right z q)) hL
  show H1[z + q]? = some (vp_cell _ _)
  rw [e1]
  show some ((vp_cell _ _).setSlot _ _) = _
  rw [vp_cell_i, vp_cell_i, arrV_store]
  congr 2
  funext j
  by_cases hj : j = i.toNatClampNeg
  · subst hj
    simp [updV, upd, vp_nar]
    try rfl
  · simp [updV, upd, hj]
theorem rn_castore (C : rn_Ok p l e s m args meth c z sa D dA cc own nm nL ret hh) {q n : Nat} {f : Nat → Int32} {i : Int32} {x : Int32} (d : decode cc pc = .ok (.castore, 1)) (hq : h[q]? = some (.inl (3, n, .inl f))) (hin : vp_in i n) (k : Run p l e R s m args below meth c z sa D dA mc ms K nL (pc + 1) lv st (h.set q (.inl (3, n, .inl (upd f i.toNatClampNeg (vp_nar .char x))))) n1 n2) : Run p l e R s m args below meth c z sa D dA mc ms K nL pc lv (.int x :: .int i :: .ref q :: st) h n1 n2 := by
  intro H locs ls hH hS hL
  refine W.cast C.ex C.by (hH.2 q _ (ah_get hq)) ((C.kk.2 3 _ rfl).1 n (fun j => .int (f j))) (fun q => by cases q) (by show ¬ (i < 0 ∨ (arrV _ _ _).slots.size ≤ _); rw [arrV_size]; exact hin) rfl rfl d fun H1 e1 z1 oq => ?_
  refine k H1 _ ls (hH.upd hq z1 oq ?_) (hS.put z1 oq (Nat.le_add_right z q)) hL
  show H1[z + q]? = some (vp_cell _ _)
  rw [e1]
  show some ((vp_cell _ _).setSlot _ _) = _
  rw [vp_cell_i, vp_cell_i, arrV_store]
  congr 2
  funext j
  by_cases hj : j = i.toNatClampNeg
  · subst hj
    simp [updV, upd, vp_nar]
    try rfl
  · simp [updV, upd, hj]
theorem rn_lastore (C : rn_Ok p l e s m args meth c z sa D dA cc own nm nL ret hh) {q n : Nat} {f : Nat → Int64} {i : Int32} {x : Int64} (d : decode cc pc = .ok (.lastore, 1)) (hq : h[q]? = some (.inl (1, n, .inr (.inl f)))) (hin : vp_in i n) (k : Run p l e R s m args below meth c z sa D dA mc ms K nL (pc + 1) lv st (h.set q (.inl (1, n, .inr (.inl (vp_updL f i.toNatClampNeg x))))) n1 n2) : Run p l e R s m args below meth c z sa D dA mc ms K nL pc lv (.long x :: .int i :: .ref q :: st) h n1 n2 := by
  intro H locs ls hH hS hL
  refine W.last C.ex C.by (hH.2 q _ (ah_get hq)) ((C.kk.2 1 _ rfl).1 n (fun j => .long (f j))) (fun q => by cases q) (by show ¬ (i < 0 ∨ (arrV _ _ _).slots.size ≤ _); rw [arrV_size]; exact hin) rfl rfl d fun H1 e1 z1 oq => ?_
  refine k H1 _ ls (hH.upd hq z1 oq ?_) (hS.put z1 oq (Nat.le_add_right z q)) hL
  show H1[z + q]? = some (vp_cell _ _)
  rw [e1]
  show some ((vp_cell _ _).setSlot _ _) = _
  rw [vp_cell_l, vp_cell_l, arrV_store]
  congr 2
  funext j
  by_cases hj : j = i.toNatClampNeg
  · subst hj
    simp [updV, vp_updL, vp_nar]
    try rfl
  · simp [updV, vp_updL, hj]
theorem rn_alen (C : rn_Ok p l e s m args meth c z sa D dA cc own nm nL ret hh) {q t n : Nat} {a : vp_A} (d : decode cc pc = .ok (.arraylength, 1)) (hq : h[q]? = some (.inl (t, n, a.2))) {ty : FieldType} (ht : (ah_T dA)[t]? = some (dA t, ty)) (k : Run p l e R s m args below meth c z sa D dA mc ms K nL (pc + 1) lv (.int (Int32.ofNat n) :: st) h n1 n2) : Run p l e R s m args below meth c z sa D dA mc ms K nL pc lv (.ref q :: st) h n1 n2 :=
  fun H locs ls hH hS hL => va_alen C.ex C.by C.kk hH.2 q t (ah_get hq) ht rfl d (k H locs ls hH hS hL)
/-- a new object -/
def rn_cl (own : String) (i ci : Nat) (fs : List Value) : Prop := ∃ (C : String) (T : u_T) (N : Nat) (ty : Nat → FieldType), ccl[ci]? = some (C, T, N) ∧ (∀ w ∈ u_ws C T N, w ∈ allW) ∧ (∀ j, j < N → parseFieldDescriptor (T j).2.2.1 = some (ty j)) ∧ Cond.classLink own i C ∈ allW ∧ Cond.instantiable C N ∈ allW ∧ Cond.initialized C ∈ allW ∧ fs.length = N ∧ ∀ (z : Nat) (sa : Nat → Nat) (j : Nat), j < N → defaultValue (ty j) = vp_V (fs.map (ah_v z sa)) j
theorem rn_new (C : rn_Ok p l e s m args meth c z sa D dA cc own nm nL ret hh) {i ci : Nat} {fs : List Value} (f : rn_cl own i ci fs) (d : decode cc pc = .ok (.new i, 3)) (hcells : n1 + 1 ≤ R.cells) (hslots : n2 + fs.length ≤ R.slots)
    (kk : Run p l e R s m args below meth c z sa D dA mc ms K nL (pc + 3) lv (.ref h.length :: st) (h ++ [.inr (ci, fs)]) (n1 + 1) (n2 + fs.length)) : Run p l e R s m args below meth c z sa D dA mc ms K nL pc lv st h n1 n2 := by
  intro H locs ls hH hS hL
  obtain ⟨C', T, N, ty, hc, hin, hty, hcl, hinst, hini, hfl, hfs⟩ := f
  subst hfl
  have hKn := C.kk.1 ci _ hc
  refine W.newcK C.ex C.by C.ow (C.ts _ hcl) (C.ts _ hinst) (C.ts _ hini) rfl d hcells hslots hKn.2.1 hH.1 fun H1 kC hkC e1 z1 o1 => ?_
  have o2 : ∀ q, q < H.size → H1[q]? = H[q]? := fun q hq => o1 q (by rw [← hH.1]; exact hq)
  refine kk H1 _ ls (hH.push (by rw [z1, hH.1]) o2 ⟨_, hc, (u_born ty C.ts hin hKn hkC e1 hty).to (hfs z sa)⟩) ⟨Nat.le_trans hS.1 (by rw [z1, hH.1]; omega), fun x g1 g2 => (o2 x (Nat.lt_of_lt_of_le g1 hS.1)).trans (hS.2.1 x g1 g2), hS.2.2⟩ hL
theorem rn_newarray (C : rn_Ok p l e s m args meth c z sa D dA cc own nm nL ret hh) {at' : ArrayType} {t : Nat} {ty : FieldType} {n : Int32} {N : Nat} {a0 : vp_A} (hty : newarray.typeOf at' = ty) (ht : (ah_T dA)[t]? = some (dA t, ty)) (hw : Cond.arrayClass ty ∈ allW) (hprim : va_RA s (dA t) ty → s.vm.findClass ("[" ++ ty.toString) = some (dA t)) (ha : ∀ cA : ClassId, vp_cell cA a0 = arrV cA N (fun _ => defaultValue ty)) (hn : ¬ n < 0) (hN : n.toNatClampNeg = N) (hbytes : N * componentBytes ty ≤ 536870912)
    (d : decode cc pc = .ok (.newarray at', 2)) (hcells : n1 + 1 ≤ R.cells) (hslots : n2 + N ≤ R.slots)
    (kk : Run p l e R s m args below meth c z sa D dA mc ms K nL (pc + 2) lv (.ref h.length :: st) (h ++ [.inl (t, a0)]) (n1 + 1) (n2 + N)) : Run p l e R s m args below meth c z sa D dA mc ms K nL pc lv (.int n :: st) h n1 n2 := by
  intro H locs ls hH hS hL
  subst hty
  refine va_newaK C.ex C.by (C.ts _ hw) rfl d rfl hn hN hbytes hcells hslots hH.1 fun H1 cA e1 z1 o1 hAr hNm => ?_
  have hA : cA = dA t := Option.some.inj (hNm.symm.trans (hprim (C.kk.2 t _ ht).2))
  subst hA
  have o2 : ∀ q, q < H.size → H1[q]? = H[q]? := fun q hq => o1 q (by rw [← hH.1]; exact hq)
  refine kk H1 _ ls (hH.push (by rw [z1, hH.1]) o2 ?_) ⟨Nat.le_trans hS.1 (by rw [z1, hH.1]; omega), fun x g1 g2 => (o2 x (Nat.lt_of_lt_of_le g1 hS.1)).trans (hS.2.1 x g1 g2), hS.2.2⟩ hL
  show H1[z + h.length]? = some (vp_cell _ _)
  rw [ha]
  exact e1
theorem rn_obj (C : rn_Ok p l e s m args meth c z sa D dA cc own nm nL ret hh) {i q : Nat} (hl : Cond.methodLink own i Lib.objectInit ∈ allW) (hi : Cond.instanceMethod Lib.objectInit ∈ allW) (hc : Cond.code Lib.objectInit ⟨#[0xb1]⟩ 1 none ∈ allW) (d : decode cc pc = .ok (.invokespecial i, 3)) (hframes : 1 ≤ R.frames) (hlocals : (st.map fun v => v.category).sum + 12 ≤ R.locals)
    (kk : Run p l e R s m args below meth c z sa D dA mc ms K nL (pc + 3) lv st h n1 n2) : Run p l e R s m args below meth c z sa D dA mc ms K nL pc lv (.ref q :: st) h n1 n2 := by
  intro H locs ls hH hS hL
  refine W.objInit C.ex C.by C.ow (C.ts _ hl) (C.ts _ hi) (C.ts _ hc) rfl (hL.1.trans C.ml.symm) rfl d hframes ?_ (kk H locs ls hH hS hL)
  show 2 * 0 + (((st.map (ah_v z sa)).map fun v => v.category).sum) + 12 ≤ R.locals
  rw [ah_catsum]
  omega
/-- the ends -/
theorem rn_mq {Qc : Array Value → State → Outcome → State → Prop} {H : Heap} {locs : List Loc} {g : JFrame} (hm : n1 ≤ mc ∧ n2 ≤ ms) (hf : ∀ (o : Outcome) (t : State), Qc args s o t → rn_Q z sa D dA K s o t) (k : W p l e R s m args below meth c H locs mc ms (MQ below Qc args s mc ms (fun q => z ≤ q)) g) : W p l e R s m args below meth c H locs n1 n2 (rn_MQ below z sa D dA K s mc ms) g := by
  refine W.widen hm.1 hm.2 ?_
  intro T hT X
  obtain ⟨t, a1, o, b1, b2, b3, L, b4, b5⟩ := k T hT X
  exact ⟨t, a1, o, b1, b2, hf o t b3, L, ⟨b4.2.1, b4.2.2⟩, b5⟩
theorem rn_ireturn (C : rn_Ok p l e s m args meth c z sa D dA cc own nm nL ret hh) {v : Int32} {ty : FieldType} (hr : ret = some ty) (hn : narrow ty (.int v) = .int v) (d : decode cc pc = .ok (.ireturn, 1)) (hm : n1 ≤ mc ∧ n2 ≤ ms) (hK : K (.inl (some (.int v))) h) : Run p l e R s m args below meth c z sa D dA mc ms K nL pc lv [.int v] h n1 n2 := by
  intro H locs ls hH hS hL
  have hlocks := C.lk
  exact rn_mq hm (Qc := fun _ st o t => rn_Q z sa D dA K st o t) (fun o t q => q) (W.zret C.ex C.by (C.re.trans hr) hn (fun t ht hw => ⟨_, h, hK, rfl, by rw [ht]; exact hH, hS.F ht⟩) hS.2.2 d hlocks)
theorem rn_lreturn (C : rn_Ok p l e s m args meth c z sa D dA cc own nm nL ret hh) {v : Int64} (hr : ret = some .long) (d : decode cc pc = .ok (.lreturn, 1)) (hm : n1 ≤ mc ∧ n2 ≤ ms) (hK : K (.inl (some (.long v))) h) : Run p l e R s m args below meth c z sa D dA mc ms K nL pc lv [.long v] h n1 n2 := by
  intro H locs ls hH hS hL
  have hlocks := C.lk
  exact rn_mq hm (Qc := fun _ st o t => rn_Q z sa D dA K st o t) (fun o t q => q) (W.lret C.ex C.by (C.re.trans hr) (fun t ht hw => ⟨_, h, hK, rfl, by rw [ht]; exact hH, hS.F ht⟩) hS.2.2 d hlocks)
theorem rn_return (C : rn_Ok p l e s m args meth c z sa D dA cc own nm nL ret hh) (hr : ret = none) (d : decode cc pc = .ok (.return_, 1)) (hm : n1 ≤ mc ∧ n2 ≤ ms) (hK : K (.inl none) h) : Run p l e R s m args below meth c z sa D dA mc ms K nL pc lv [] h n1 n2 := by
  intro H locs ls hH hS hL
  have hlocks := C.lk
  exact rn_mq hm (Qc := fun _ st o t => rn_Q z sa D dA K st o t) (fun o t q => q) (W.vret C.ex C.by (C.re.trans hr) (fun t ht hw => ⟨_, h, hK, rfl, by rw [ht]; exact hH, hS.F ht⟩) hS.2.2 d hlocks)
end HEAP
