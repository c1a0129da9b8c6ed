/-! The table of constants, and the law's script: arrays that were there before and that nobody writes. -/
section STATIC
variable {p : Program} {l : Launch} {e : Env} {R : Room} {s : State} {m : MethodId} {args : Array Value} {below : List Frame} {meth : Method} {c : Code} {z : Nat} {sa : Nat → Nat} {D : va_G} {dA : Nat → ClassId} {mc ms : Nat} {K : ah_R → ah_H → Prop}
variable {cc : ByteArray} {own nm : String} {nL : Nat} {ret : Option FieldType} {hh : List (Nat × Nat × Nat × Nat)} {pc : Nat} {lv : List (Option Value)} {st : List Value} {h : ah_H} {n1 n2 : Nat}
theorem rn_Ok.tz (C : rn_Ok p l e s m args meth c z sa D dA cc own nm nL ret hh) : va_Z "ColourCharts" "PART_WEIGHTS" "[I" (.ref (sa 0)) (fun q => z ≤ q) s s.heap ∧ va_T .int (sa 0) 3 rn_w3 (fun q => z ≤ q) s s.heap := ⟨C.ff.2.2.2.2.2.1, C.ff.2.2.2.2.2.2.1⟩
theorem rn_Ok.sx (C : rn_Ok p l e s m args meth c z sa D dA cc own nm nL ret hh) : va_X (sa 1) (sa 2) (fun j => Int32.ofNat (sa (3 + j))) s s.heap ∧ sa 1 < z := C.ff.2.2.2.2.2.2.2
theorem rn_stat (C : rn_Ok p l e s m args meth c z sa D dA cc own nm nL ret hh) {i : Nat} (hl : Cond.fieldLink own i "ColourCharts" "PART_WEIGHTS" "[I" ∈ allW) (d : decode cc pc = .ok (.getstatic i, 3)) (k : Run p l e R s m args below meth c z sa D dA mc ms K nL (pc + 3) lv (.retAddr 0 :: st) h n1 n2) : Run p l e R s m args below meth c z sa D dA mc ms K nL pc lv st h n1 n2 :=
  fun H locs ls hH hS hL => va_gets C.ex C.by C.tz.1 hS C.ow (C.ts _ hl) (fun x hx => hx) d (k H locs ls hH hS hL)
theorem rn_tld (C : rn_Ok p l e s m args meth c z sa D dA cc own nm nL ret hh) {i x : Int32} (d : decode cc pc = .ok (.iaload, 1)) (hin : vp_in i 3) (hv : rn_w3 i.toNatClampNeg = .int x) (k : Run p l e R s m args below meth c z sa D dA mc ms K nL (pc + 1) lv (.int x :: st) h n1 n2) : Run p l e R s m args below meth c z sa D dA mc ms K nL pc lv (.int i :: .retAddr 0 :: st) h n1 n2 :=
  fun H locs ls hH hS hL => va_ti C.ex C.by C.tz.2 hS hin hv d (k H locs ls hH hS hL)
theorem rn_sld (C : rn_Ok p l e s m args meth c z sa D dA cc own nm nL ret hh) {i : Int32} (d : decode cc pc = .ok (.iaload, 1)) (hin : vp_in i (sa 2)) (k : Run p l e R s m args below meth c z sa D dA mc ms K nL (pc + 1) lv (.int (Int32.ofNat (sa (3 + i.toNatClampNeg))) :: st) h n1 n2) : Run p l e R s m args below meth c z sa D dA mc ms K nL pc lv (.int i :: .retAddr 1 :: st) h n1 n2 :=
  fun H locs ls hH hS hL => va_sld C.ex C.by C.sx.1 (Nat.lt_of_lt_of_le C.sx.2 C.zs) (show ¬ z ≤ sa 1 from Nat.not_le.mpr C.sx.2) hS hin d (k H locs ls hH hS hL)
theorem rn_slen (C : rn_Ok p l e s m args meth c z sa D dA cc own nm nL ret hh) (d : decode cc pc = .ok (.arraylength, 1)) (k : Run p l e R s m args below meth c z sa D dA mc ms K nL (pc + 1) lv (.int (Int32.ofNat (sa 2)) :: st) h n1 n2) : Run p l e R s m args below meth c z sa D dA mc ms K nL pc lv (.retAddr 1 :: st) h n1 n2 :=
  fun H locs ls hH hS hL => va_slen C.ex C.by C.sx.1 (Nat.lt_of_lt_of_le C.sx.2 C.zs) (show ¬ z ≤ sa 1 from Nat.not_le.mpr C.sx.2) hS d (k H locs ls hH hS hL)
theorem rn_tload_n (C : rn_Ok p l e s m args meth c z sa D dA cc own nm nL ret hh) {j : Fin 4} {x : Nat} (d : decode cc pc = .ok (.aload_n j, 1)) (hv : lv[(j : Nat)]? = some (some (.retAddr x))) (k : Run p l e R s m args below meth c z sa D dA mc ms K nL (pc + 1) lv (.retAddr x :: st) h n1 n2) : Run p l e R s m args below meth c z sa D dA mc ms K nL pc lv st h n1 n2 :=
  fun H locs ls hH hS hL => lv_aload_n C.ex C.by d rfl (hL.2.2 _ _ hv) (k H locs ls hH hS hL)
end STATIC
theorem ah_ss {h : ah_H} {q : Nat} {e0 e : ah_E} (hq : h[q]? = some e0) : (h.set q e)[q]? = some e := by
  rw [List.getElem?_set_self (List.getElem?_eq_some_iff.mp hq).1]
theorem ah_so {h : ah_H} {q q' : Nat} {e : ah_E} (hn : q ≠ q') : (h.set q e)[q']? = h[q']? := List.getElem?_set_ne hn
theorem ah_self {h : ah_H} {q : Nat} {e : ah_E} (hq : h[q]? = some e) : h.set q e = h := by
  apply List.ext_getElem?
  intro i
  by_cases hi : q = i
  · subst hi; rw [ah_ss hq, hq]
  · rw [ah_so hi]
section SELF
variable {p : Program} {l : Launch} {e : Env} {R : Room} {s : State} {m : MethodId} {args : Array Value} {below : List Frame} {meth : Method} {c : Code} {z : Nat} {sa : Nat → Nat} {D : va_G} {dA : Nat → ClassId} {mc ms : Nat} {K : ah_R → ah_H → Prop}
variable {cc : ByteArray} {own nm : String} {nL : Nat} {ret : Option FieldType} {hh : List (Nat × Nat × Nat × Nat)} {pc : Nat} {lv : List (Option Value)} {st : List Value} {h : ah_H} {n1 n2 : Nat}
/-- one object is at work: its cell is kept in sight as the heap's last store -/
theorem rn_self {q : Nat} {e0 : ah_E} (hq : h[q]? = some e0) (k : Run p l e R s m args below meth c z sa D dA mc ms K nL pc lv st (h.set q e0) n1 n2) : Run p l e R s m args below meth c z sa D dA mc ms K nL pc lv st h n1 n2 := by
  rw [ah_self hq] at k; exact k
theorem rn_getq (C : rn_Ok p l e s m args meth c z sa D dA cc own nm nL ret hh) {i ci k q : Nat} {fs : List Value} {v : Value} {e0 : ah_E} (f : rn_fl own i ci k) (d : decode cc pc = .ok (.getfield i, 3)) (hq : h[q]? = some e0) (hv : fs[k]? = some v)
    (kk : Run p l e R s m args below meth c z sa D dA mc ms K nL (pc + 3) lv (v :: st) (h.set q (.inr (ci, fs))) n1 n2) : Run p l e R s m args below meth c z sa D dA mc ms K nL pc lv (.ref q :: st) (h.set q (.inr (ci, fs))) n1 n2 := rn_get C f d (ah_ss hq) hv kk
theorem rn_putq (C : rn_Ok p l e s m args meth c z sa D dA cc own nm nL ret hh) {i ci k q : Nat} {fs : List Value} {v : Value} {ty : Nat → FieldType} {e0 : ah_E} (f : rn_fl own i ci k) (ft : rn_ft ci ty) (fn : rn_fin ci k false) (d : decode cc pc = .ok (.putfield i, 3)) (hq : h[q]? = some e0) (hlen : k < fs.length) (hn : ∀ z sa, narrow (ty k) (ah_v z sa v) = ah_v z sa v ∧ fits (ty k) (ah_v z sa v) = true)
    (kk : Run p l e R s m args below meth c z sa D dA mc ms K nL (pc + 3) lv st (h.set q (.inr (ci, fs.set k v))) n1 n2) : Run p l e R s m args below meth c z sa D dA mc ms K nL pc lv (v :: .ref q :: st) (h.set q (.inr (ci, fs))) n1 n2 := by
  refine rn_put C f ft fn d (ah_ss hq) hlen hn ?_
  rw [List.set_set]
  exact kk
end SELF
