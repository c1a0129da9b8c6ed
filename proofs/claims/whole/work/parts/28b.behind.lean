/-! Rows for an object behind a stretch of the heap that it doesn't touch (the reference, at place 21). -/
section BEHIND
variable {p : Program} {l : Launch} {e : Env} {R : Room} {s : State} {m : MethodId} {args : Array Value} {below : List Frame} {meth : Method} {c : Code} {z : Nat} {sa : Nat → Nat} {D : va_G} {dA : Nat → ClassId} {mc ms : Nat} {K : ah_R → ah_H → Prop}
variable {cc : ByteArray} {own nm : String} {nL : Nat} {ret : Option FieldType} {hh : List (Nat × Nat × Nat × Nat)} {pc : Nat} {lv : List (Option Value)} {st : List Value} {pre : ah_H} {n1 n2 : Nat}
theorem mH {r : ah_H} {x : ah_E} {q : Nat} (j : Nat) (hp : pre.length = 21) (hj : r[j]? = some x) (hq : q = 21 + j) : (pre ++ r)[q]? = some x := by
  subst hq
  rw [List.getElem?_append_right (by omega), hp, Nat.add_sub_cancel_left]
  exact hj
theorem mS {r : ah_H} {x : ah_E} {q : Nat} (j : Nat) (hp : pre.length = 21) (hq : q = 21 + j) : (pre ++ r).set q x = pre ++ r.set j x := by
  subst hq
  rw [List.set_append, if_neg (by omega), hp, Nat.add_sub_cancel_left]
theorem rn_getM (C : rn_Ok p l e s m args meth c z sa D dA cc own nm nL ret hh) (hp : pre.length = 21) {i k : Nat} {fs : List Value} {r : ah_H} {v : Value} (f : rn_fl own i 9 k) (d : decode cc pc = .ok (.getfield i, 3)) (hv : fs[k]? = some v)
    (kk : Run p l e R s m args below meth c z sa D dA mc ms K nL (pc + 3) lv (v :: st) (pre ++ .inr (9, fs) :: r) n1 n2) : Run p l e R s m args below meth c z sa D dA mc ms K nL pc lv (.ref 21 :: st) (pre ++ .inr (9, fs) :: r) n1 n2 :=
  rn_get C f d (mH 0 hp rfl rfl) hv kk
theorem rn_putM (C : rn_Ok p l e s m args meth c z sa D dA cc own nm nL ret hh) (hp : pre.length = 21) {i k : Nat} {fs fs' : List Value} {r : ah_H} {v : Value} {ty : Nat → FieldType} (f : rn_fl own i 9 k) (ft : rn_ft 9 ty) (fn : rn_fin 9 k false) (d : decode cc pc = .ok (.putfield i, 3)) (hlen : k < fs.length) (hn : ∀ z sa, narrow (ty k) (ah_v z sa v) = ah_v z sa v ∧ fits (ty k) (ah_v z sa v) = true) (hs : fs.set k v = fs')
    (kk : Run p l e R s m args below meth c z sa D dA mc ms K nL (pc + 3) lv st (pre ++ .inr (9, fs') :: r) n1 n2) : Run p l e R s m args below meth c z sa D dA mc ms K nL pc lv (v :: .ref 21 :: st) (pre ++ .inr (9, fs) :: r) n1 n2 := by
  refine rn_put C f ft fn d (mH 0 hp rfl rfl) hlen hn ?_
  rw [mS 0 hp rfl, hs]
  exact kk
theorem rn_iaM (C : rn_Ok p l e s m args meth c z sa D dA cc own nm nL ret hh) (hp : pre.length = 21) {q j n : Nat} {f : Nat → Int32} {i : Int32} {r : ah_H} (d : decode cc pc = .ok (.iaload, 1)) (hj : q = 21 + j) (hq : r[j]? = some (aI n f)) (hin : vp_in i n) (k : Run p l e R s m args below meth c z sa D dA mc ms K nL (pc + 1) lv (.int (f i.toNatClampNeg) :: st) (pre ++ r) n1 n2) : Run p l e R s m args below meth c z sa D dA mc ms K nL pc lv (.int i :: .ref q :: st) (pre ++ r) n1 n2 :=
  rn_iaload C d (mH j hp hq hj) hin k
theorem rn_zaM (C : rn_Ok p l e s m args meth c z sa D dA cc own nm nL ret hh) (hp : pre.length = 21) {q j n : Nat} {f : Nat → Int32} {i : Int32} {r : ah_H} (d : decode cc pc = .ok (.baload, 1)) (hj : q = 21 + j) (hq : r[j]? = some (aZ n f)) (hin : vp_in i n) (k : Run p l e R s m args below meth c z sa D dA mc ms K nL (pc + 1) lv (.int (f i.toNatClampNeg) :: st) (pre ++ r) n1 n2) : Run p l e R s m args below meth c z sa D dA mc ms K nL pc lv (.int i :: .ref q :: st) (pre ++ r) n1 n2 :=
  rn_zaload C d (mH j hp hq hj) hin k
theorem rn_laM (C : rn_Ok p l e s m args meth c z sa D dA cc own nm nL ret hh) (hp : pre.length = 21) {q j n : Nat} {f : Nat → Int64} {i : Int32} {r : ah_H} (d : decode cc pc = .ok (.laload, 1)) (hj : q = 21 + j) (hq : r[j]? = some (aL n f)) (hin : vp_in i n) (k : Run p l e R s m args below meth c z sa D dA mc ms K nL (pc + 1) lv (.long (f i.toNatClampNeg) :: st) (pre ++ r) n1 n2) : Run p l e R s m args below meth c z sa D dA mc ms K nL pc lv (.int i :: .ref q :: st) (pre ++ r) n1 n2 :=
  rn_laload C d (mH j hp hq hj) hin k
theorem rn_isM (C : rn_Ok p l e s m args meth c z sa D dA cc own nm nL ret hh) (hp : pre.length = 21) {q j n : Nat} {f : Nat → Int32} {i x : Int32} {r r' : ah_H} (d : decode cc pc = .ok (.iastore, 1)) (hj : q = 21 + j) (hq : r[j]? = some (aI n f)) (hin : vp_in i n) (hs : r.set j (aI n (upd f i.toNatClampNeg x)) = r') (k : Run p l e R s m args below meth c z sa D dA mc ms K nL (pc + 1) lv st (pre ++ r') n1 n2) : Run p l e R s m args below meth c z sa D dA mc ms K nL pc lv (.int x :: .int i :: .ref q :: st) (pre ++ r) n1 n2 := by
  refine rn_iastore C d (mH j hp hq hj) hin ?_
  rw [mS j hp hj, hs]
  exact k
theorem rn_zsM (C : rn_Ok p l e s m args meth c z sa D dA cc own nm nL ret hh) (hp : pre.length = 21) {q j n : Nat} {f : Nat → Int32} {i x : Int32} {r r' : ah_H} (d : decode cc pc = .ok (.bastore, 1)) (hj : q = 21 + j) (hq : r[j]? = some (aZ n f)) (hin : vp_in i n) (hs : r.set j (aZ n (upd f i.toNatClampNeg (vp_nar .boolean x))) = r') (k : Run p l e R s m args below meth c z sa D dA mc ms K nL (pc + 1) lv st (pre ++ r') n1 n2) : Run p l e R s m args below meth c z sa D dA mc ms K nL pc lv (.int x :: .int i :: .ref q :: st) (pre ++ r) n1 n2 := by
  refine rn_zastore C d (mH j hp hq hj) hin ?_
  rw [mS j hp hj, hs]
  exact k
theorem rn_lsM (C : rn_Ok p l e s m args meth c z sa D dA cc own nm nL ret hh) (hp : pre.length = 21) {q j n : Nat} {f : Nat → Int64} {i : Int32} {x : Int64} {r r' : ah_H} (d : decode cc pc = .ok (.lastore, 1)) (hj : q = 21 + j) (hq : r[j]? = some (aL n f)) (hin : vp_in i n) (hs : r.set j (aL n (vp_updL f i.toNatClampNeg x)) = r') (k : Run p l e R s m args below meth c z sa D dA mc ms K nL (pc + 1) lv st (pre ++ r') n1 n2) : Run p l e R s m args below meth c z sa D dA mc ms K nL pc lv (.long x :: .int i :: .ref q :: st) (pre ++ r) n1 n2 := by
  refine rn_lastore C d (mH j hp hq hj) hin ?_
  rw [mS j hp hj, hs]
  exact k
end BEHIND
