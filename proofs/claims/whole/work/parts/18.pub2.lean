/-! Public methods without loops. Laid by wip/whole/gen_c5.py. -/
theorem rn_ldcw {p : Program} {l : Launch} {e : Env} {R : Room} {s : State} {m : MethodId} {args : Array Value} {below : List Frame} {meth : Method} {c : Code} {z : Nat} {sa : Nat → Nat} {D : va_G} {dA : Nat → ClassId} {mc ms : Nat} {K : ah_R → ah_H → Prop} {cc : ByteArray} {own nm : String} {nL : Nat} {ret : Option FieldType} {hh : List (Nat × Nat × Nat × Nat)} {pc : Nat} {lv : List (Option Value)} {st : List Value} {h : ah_H} {n1 n2 : Nat} (C : rn_Ok p l e s m args meth c z sa D dA cc own nm nL ret hh) {i : Nat} {v : Int32} (hw : Cond.constant own i v ∈ allW) (d : decode cc pc = .ok (.ldc_w i, 3)) (k : Run p l e R s m args below meth c z sa D dA mc ms K nL (pc + 3) lv (.int v :: st) h n1 n2) : Run p l e R s m args below meth c z sa D dA mc ms K nL pc lv st h n1 n2 :=
  fun H locs ls hH hS hL => lv_ldcw C.ex C.by C.ow (C.ts _ hw) d (k H locs ls hH hS hL)
abbrev aZ (n : Nat) (f : Nat → Int32) : ah_E := .inl (2, n, .inl f)
abbrev aC (n : Nat) (f : Nat → Int32) : ah_E := .inl (3, n, .inl f)
abbrev cF (fo le to ri bo : Int32) : ah_E := .inr (2, [.int fo, .int le, .int to, .int ri, .int bo])
abbrev cP (le to br bb : Int32) : ah_E := .inr (4, [.int le, .int to, .int br, .int bb])
abbrev cT (nt : Int32) : ah_E := .inr (5, [.ref 8, .ref 9, .int nt])
abbrev cN (fi : Int32) : ah_E := .inr (6, [.int fi, .ref 11, .ref 12, .ref 13])
abbrev cS (n : Int32) (x y xx xy : Int64) : ah_E := .inr (7, [.int n, .long x, .long y, .long xx, .long xy])
abbrev cR (rk sg : Int32) : ah_E := .inr (8, [.int rk, .int sg, .ref 16, .ref 17, .ref 18, .ref 19])
def G_C_pixel (av : List Value) (h : ah_H) (K : ah_R → ah_H → Prop) : Prop := ∃ (e3 : ah_E) (rest : ah_H) (np : Nat) (w g x y p v : Int32) (pf : Nat → Int32), av = [.ref 0, .int x, .int y, .int p, .int v] ∧ h = cC :: cI w g :: aI np pf :: e3 :: rest ∧ (¬ (0 ≤ x.toInt ∧ x.toInt < w.toInt ∧ 0 ≤ y.toInt ∧ y.toInt < g.toInt ∧ 0 ≤ p.toInt ∧ p.toInt ≤ 2) → K (.inr h.length) (h ++ [xB])) ∧ ((0 ≤ x.toInt ∧ x.toInt < w.toInt ∧ 0 ≤ y.toInt ∧ y.toInt < g.toInt ∧ 0 ≤ p.toInt ∧ p.toInt ≤ 2) → ¬ (0 ≤ v.toInt ∧ v.toInt ≤ 255) → K (.inr h.length) (h ++ [xA])) ∧ ((0 ≤ x.toInt ∧ x.toInt < w.toInt ∧ 0 ≤ y.toInt ∧ y.toInt < g.toInt ∧ 0 ≤ p.toInt ∧ p.toInt ≤ 2) → (0 ≤ v.toInt ∧ v.toInt ≤ 255) → vp_in ((y * w + x) * 3 + p) np ∧ K (.inl (some (.int (pf ((y * w + x) * 3 + p).toNatClampNeg)))) (cC :: cI w g :: aI np (upd pf ((y * w + x) * 3 + p).toNatClampNeg v) :: e3 :: rest))
set_option maxHeartbeats 4000000 in
set_option maxRecDepth 100000 in
theorem c_C_pixel (l : Launch) (hl : l.flags = flags0) : rn_Met l y_C_pixel wc_C_pixel rmC G_C_pixel := by
  refine rn_in mw_C_pixel.1 (by decide +kernel) ?_ ?_
  · intro _ av h K hG
    obtain ⟨e3, rest, np, w, g, x, y, p, v, pf, rfl, rfl, k1, k2, k3⟩ := hG
    exact Nat.le_of_ble_eq_true rfl
  intro p e s m args below meth c z sa D dA av h K hadm C hG
  have htr := Launch.traces_off hl hadm
  obtain ⟨e3, rest, np, w, g, x, y, p, v, pf, rfl, rfl, k1, k2, k3⟩ := hG
  refine rn_aload_n C d_C_pixel_0 rfl ?_
  refine rn_get C f_C_12 d_C_pixel_1 rfl rfl ?_
  refine rn_iload_n C d_C_pixel_4 rfl ?_
  refine rn_iload_n C d_C_pixel_5 rfl ?_
  refine rn_cV C (c_I_hasCell l) mw_I_hasCell k_C_70 d_C_pixel_6 rfl rfl rfl (Nat.le_of_ble_eq_true rfl) (Nat.le_of_ble_eq_true rfl) ⟨by decide, by decide⟩ ⟨by decide, by decide⟩ ?_
  refine ⟨_, _, _, _, _, _, _, rfl, rfl, fun q6 => ?_, fun q6 => ?_⟩
  · skip
    refine rn_if_eq C 19 d_C_pixel_9 (by decide) (fun q => absurd q (by decide)) (fun _ => ?_)
    refine rn_iload_n C d_C_pixel_12 rfl ?_
    refine rn_cS C (c_C_isPart l) mw_C_isPart k_C_74 d_C_pixel_13 (Nat.le_of_ble_eq_true rfl) (Nat.le_of_ble_eq_true rfl) ⟨by decide, by decide⟩ ⟨by decide, by decide⟩ ?_
    refine ⟨_, rfl, fun q13 => ?_, fun q13 => ?_⟩
    · skip
      refine rn_if_ne C 29 d_C_pixel_16 (by decide) (fun _ => ?_) (fun q => absurd q (by decide))
      refine rn_iload C d_C_pixel_29 rfl ?_
      refine rn_cS C (c_C_isPartValue l) mw_C_isPartValue k_C_85 d_C_pixel_31 (Nat.le_of_ble_eq_true rfl) (Nat.le_of_ble_eq_true rfl) ⟨by decide, by decide⟩ ⟨by decide, by decide⟩ ?_
      refine ⟨_, rfl, fun q31 => ?_, fun q31 => ?_⟩
      · skip
        refine rn_if_ne C 47 d_C_pixel_34 (by decide) (fun _ => ?_) (fun q => absurd q (by decide))
        refine rn_aload_n C d_C_pixel_47 rfl ?_
        refine rn_get C f_C_12 d_C_pixel_48 rfl rfl ?_
        refine rn_iload_n C d_C_pixel_51 rfl ?_
        refine rn_iload_n C d_C_pixel_52 rfl ?_
        refine rn_iload_n C d_C_pixel_53 rfl ?_
        refine rn_iload C d_C_pixel_54 rfl ?_
        refine rn_cV C (c_I_exchangePart l) mw_I_exchangePart k_C_93 d_C_pixel_56 rfl rfl rfl (Nat.le_of_ble_eq_true rfl) (Nat.le_of_ble_eq_true rfl) ⟨by decide, by decide⟩ ⟨by decide, by decide⟩ ?_
        obtain ⟨hin, hK⟩ := k3 (by omega) (by omega)
        refine ⟨_, _, _, _, _, _, _, _, _, _, _, rfl, rfl, hin, ?_⟩
        refine rn_ireturn C rfl rfl d_C_pixel_59 ⟨by decide, by decide⟩ ?_
        exact hK
      · skip
        refine rn_if_ne C 47 d_C_pixel_34 (by decide) (fun q => absurd rfl q) (fun _ => ?_)
        refine rn_throw C htr tw_2 (tx := "a part is 0 .. 255") (by decide +kernel) d_C_pixel_37 d_C_pixel_40 d_C_pixel_41 d_C_pixel_43 d_C_pixel_46 (by decide) (Nat.le_of_ble_eq_true rfl) ⟨by decide, by decide⟩ ⟨by decide, by decide⟩ ?_
        first | exact k1 (by omega) | exact k2 (by omega) (by omega) | exact k3 (by omega) (by omega) (by omega)
    · skip
      refine rn_if_ne C 29 d_C_pixel_16 (by decide) (fun q => absurd rfl q) (fun _ => ?_)
      refine rn_throw C htr tw_1 (tx := "no such cell or part") (by decide +kernel) d_C_pixel_19 d_C_pixel_22 d_C_pixel_23 d_C_pixel_25 d_C_pixel_28 (by decide) (Nat.le_of_ble_eq_true rfl) ⟨by decide, by decide⟩ ⟨by decide, by decide⟩ ?_
      first | exact k1 (by omega) | exact k2 (by omega) (by omega) | exact k3 (by omega) (by omega) (by omega)
  · skip
    refine rn_if_eq C 19 d_C_pixel_9 (by decide) (fun _ => ?_) (fun q => absurd rfl q)
    refine rn_throw C htr tw_1 (tx := "no such cell or part") (by decide +kernel) d_C_pixel_19 d_C_pixel_22 d_C_pixel_23 d_C_pixel_25 d_C_pixel_28 (by decide) (Nat.le_of_ble_eq_true rfl) ⟨by decide, by decide⟩ ⟨by decide, by decide⟩ ?_
    first | exact k1 (by omega) | exact k2 (by omega) (by omega) | exact k3 (by omega) (by omega) (by omega)

def G_C_light (av : List Value) (h : ah_H) (K : ah_R → ah_H → Prop) : Prop := ∃ (e2 : ah_E) (rest : ah_H) (nl : Nat) (w g x y v : Int32) (lf : Nat → Int32), av = [.ref 0, .int x, .int y, .int v] ∧ h = cC :: cI w g :: e2 :: aI nl lf :: rest ∧ (¬ (0 ≤ x.toInt ∧ x.toInt < w.toInt ∧ 0 ≤ y.toInt ∧ y.toInt < g.toInt) → K (.inr h.length) (h ++ [xB])) ∧ ((0 ≤ x.toInt ∧ x.toInt < w.toInt ∧ 0 ≤ y.toInt ∧ y.toInt < g.toInt) → ¬ (0 ≤ v.toInt ∧ v.toInt ≤ 255) → K (.inr h.length) (h ++ [xA])) ∧ ((0 ≤ x.toInt ∧ x.toInt < w.toInt ∧ 0 ≤ y.toInt ∧ y.toInt < g.toInt) → (0 ≤ v.toInt ∧ v.toInt ≤ 255) → vp_in (y * w + x) nl ∧ K (.inl (some (.int (lf (y * w + x).toNatClampNeg)))) (cC :: cI w g :: e2 :: aI nl (upd lf (y * w + x).toNatClampNeg v) :: rest))
set_option maxHeartbeats 4000000 in
set_option maxRecDepth 100000 in
theorem c_C_light (l : Launch) (hl : l.flags = flags0) : rn_Met l y_C_light wc_C_light rmC G_C_light := by
  refine rn_in mw_C_light.1 (by decide +kernel) ?_ ?_
  · intro _ av h K hG
    obtain ⟨e2, rest, nl, w, g, x, y, v, lf, rfl, rfl, k1, k2, k3⟩ := hG
    exact Nat.le_of_ble_eq_true rfl
  intro p e s m args below meth c z sa D dA av h K hadm C hG
  have htr := Launch.traces_off hl hadm
  obtain ⟨e2, rest, nl, w, g, x, y, v, lf, rfl, rfl, k1, k2, k3⟩ := hG
  refine rn_aload_n C d_C_light_0 rfl ?_
  refine rn_get C f_C_12 d_C_light_1 rfl rfl ?_
  refine rn_iload_n C d_C_light_4 rfl ?_
  refine rn_iload_n C d_C_light_5 rfl ?_
  refine rn_cV C (c_I_hasCell l) mw_I_hasCell k_C_70 d_C_light_6 rfl rfl rfl (Nat.le_of_ble_eq_true rfl) (Nat.le_of_ble_eq_true rfl) ⟨by decide, by decide⟩ ⟨by decide, by decide⟩ ?_
  refine ⟨_, _, _, _, _, _, _, rfl, rfl, fun q6 => ?_, fun q6 => ?_⟩
  · skip
    refine rn_if_ne C 22 d_C_light_9 (by decide) (fun _ => ?_) (fun q => absurd q (by decide))
    refine rn_iload_n C d_C_light_22 rfl ?_
    refine rn_cS C (c_C_isPartValue l) mw_C_isPartValue k_C_85 d_C_light_23 (Nat.le_of_ble_eq_true rfl) (Nat.le_of_ble_eq_true rfl) ⟨by decide, by decide⟩ ⟨by decide, by decide⟩ ?_
    refine ⟨_, rfl, fun q23 => ?_, fun q23 => ?_⟩
    · skip
      refine rn_if_ne C 39 d_C_light_26 (by decide) (fun _ => ?_) (fun q => absurd q (by decide))
      refine rn_aload_n C d_C_light_39 rfl ?_
      refine rn_get C f_C_12 d_C_light_40 rfl rfl ?_
      refine rn_iload_n C d_C_light_43 rfl ?_
      refine rn_iload_n C d_C_light_44 rfl ?_
      refine rn_iload_n C d_C_light_45 rfl ?_
      refine rn_cV C (c_I_exchangeLight l) mw_I_exchangeLight k_C_101 d_C_light_46 rfl rfl rfl (Nat.le_of_ble_eq_true rfl) (Nat.le_of_ble_eq_true rfl) ⟨by decide, by decide⟩ ⟨by decide, by decide⟩ ?_
      obtain ⟨hin, hK⟩ := k3 (by omega) (by omega)
      refine ⟨_, _, _, _, _, _, _, _, _, _, rfl, rfl, hin, ?_⟩
      refine rn_ireturn C rfl rfl d_C_light_49 ⟨by decide, by decide⟩ ?_
      exact hK
    · skip
      refine rn_if_ne C 39 d_C_light_26 (by decide) (fun q => absurd rfl q) (fun _ => ?_)
      refine rn_throw C htr tw_2 (tx := "a light is 0 .. 255") (by decide +kernel) d_C_light_29 d_C_light_32 d_C_light_33 d_C_light_35 d_C_light_38 (by decide) (Nat.le_of_ble_eq_true rfl) ⟨by decide, by decide⟩ ⟨by decide, by decide⟩ ?_
      first | exact k1 (by omega) | exact k2 (by omega) (by omega) | exact k3 (by omega) (by omega) (by omega)
  · skip
    refine rn_if_ne C 22 d_C_light_9 (by decide) (fun q => absurd rfl q) (fun _ => ?_)
    refine rn_throw C htr tw_1 (tx := "no such cell") (by decide +kernel) d_C_light_12 d_C_light_15 d_C_light_16 d_C_light_18 d_C_light_21 (by decide) (Nat.le_of_ble_eq_true rfl) ⟨by decide, by decide⟩ ⟨by decide, by decide⟩ ?_
    first | exact k1 (by omega) | exact k2 (by omega) (by omega) | exact k3 (by omega) (by omega) (by omega)

def G_C_lit (av : List Value) (h : ah_H) (K : ah_R → ah_H → Prop) : Prop := ∃ (rest : ah_H) (np nl : Nat) (w g x y p : Int32) (pf lf : Nat → Int32), av = [.ref 0, .int x, .int y, .int p] ∧ h = cC :: cI w g :: aI np pf :: aI nl lf :: rest ∧ (¬ (0 ≤ x.toInt ∧ x.toInt < w.toInt ∧ 0 ≤ y.toInt ∧ y.toInt < g.toInt ∧ 0 ≤ p.toInt ∧ p.toInt ≤ 2) → K (.inr h.length) (h ++ [xB])) ∧ ((0 ≤ x.toInt ∧ x.toInt < w.toInt ∧ 0 ≤ y.toInt ∧ y.toInt < g.toInt ∧ 0 ≤ p.toInt ∧ p.toInt ≤ 2) → vp_in (y * w + x) nl ∧ vp_in ((y * w + x) * 3 + p) np ∧ (¬ lf (y * w + x).toNatClampNeg = 0 → ¬ 2 * lf (y * w + x).toNatClampNeg = 0) ∧ K (.inl (some (.int (jLit (lf (y * w + x).toNatClampNeg) (pf ((y * w + x) * 3 + p).toNatClampNeg))))) h)
set_option maxHeartbeats 4000000 in
set_option maxRecDepth 100000 in
theorem c_C_lit (l : Launch) (hl : l.flags = flags0) : rn_Met l y_C_lit wc_C_lit rmC G_C_lit := by
  refine rn_in mw_C_lit.1 (by decide +kernel) ?_ ?_
  · intro _ av h K hG
    obtain ⟨rest, np, nl, w, g, x, y, p, pf, lf, rfl, rfl, k1, k2⟩ := hG
    exact Nat.le_of_ble_eq_true rfl
  intro p e s m args below meth c z sa D dA av h K hadm C hG
  have htr := Launch.traces_off hl hadm
  obtain ⟨rest, np, nl, w, g, x, y, p, pf, lf, rfl, rfl, k1, k2⟩ := hG
  refine rn_aload_n C d_C_lit_0 rfl ?_
  refine rn_get C f_C_12 d_C_lit_1 rfl rfl ?_
  refine rn_iload_n C d_C_lit_4 rfl ?_
  refine rn_iload_n C d_C_lit_5 rfl ?_
  refine rn_cV C (c_I_hasCell l) mw_I_hasCell k_C_70 d_C_lit_6 rfl rfl rfl (Nat.le_of_ble_eq_true rfl) (Nat.le_of_ble_eq_true rfl) ⟨by decide, by decide⟩ ⟨by decide, by decide⟩ ?_
  refine ⟨_, _, _, _, _, _, _, rfl, rfl, fun q6 => ?_, fun q6 => ?_⟩
  · skip
    refine rn_if_eq C 19 d_C_lit_9 (by decide) (fun q => absurd q (by decide)) (fun _ => ?_)
    refine rn_iload_n C d_C_lit_12 rfl ?_
    refine rn_cS C (c_C_isPart l) mw_C_isPart k_C_74 d_C_lit_13 (Nat.le_of_ble_eq_true rfl) (Nat.le_of_ble_eq_true rfl) ⟨by decide, by decide⟩ ⟨by decide, by decide⟩ ?_
    refine ⟨_, rfl, fun q13 => ?_, fun q13 => ?_⟩
    · skip
      refine rn_if_ne C 29 d_C_lit_16 (by decide) (fun _ => ?_) (fun q => absurd q (by decide))
      refine rn_aload_n C d_C_lit_29 rfl ?_
      refine rn_get C f_C_12 d_C_lit_30 rfl rfl ?_
      refine rn_iload_n C d_C_lit_33 rfl ?_
      refine rn_iload_n C d_C_lit_34 rfl ?_
      refine rn_iload_n C d_C_lit_35 rfl ?_
      refine rn_cV C (c_I_litPart l) mw_I_litPart k_C_105 d_C_lit_36 rfl rfl rfl (Nat.le_of_ble_eq_true rfl) (Nat.le_of_ble_eq_true rfl) ⟨by decide, by decide⟩ ⟨by decide, by decide⟩ ?_
      obtain ⟨hi1, hi2, hi3, hK⟩ := k2 (by omega)
      refine ⟨_, _, _, _, _, _, _, _, _, _, _, _, rfl, rfl, rfl, rfl, hi1, hi2, hi3, ?_⟩
      refine rn_ireturn C rfl rfl d_C_lit_39 ⟨by decide, by decide⟩ ?_
      exact hK
    · skip
      refine rn_if_ne C 29 d_C_lit_16 (by decide) (fun q => absurd rfl q) (fun _ => ?_)
      refine rn_throw C htr tw_1 (tx := "no such cell or part") (by decide +kernel) d_C_lit_19 d_C_lit_22 d_C_lit_23 d_C_lit_25 d_C_lit_28 (by decide) (Nat.le_of_ble_eq_true rfl) ⟨by decide, by decide⟩ ⟨by decide, by decide⟩ ?_
      first | exact k1 (by omega) | exact k2 (by omega) (by omega) | exact k3 (by omega) (by omega) (by omega)
  · skip
    refine rn_if_eq C 19 d_C_lit_9 (by decide) (fun _ => ?_) (fun q => absurd rfl q)
    refine rn_throw C htr tw_1 (tx := "no such cell or part") (by decide +kernel) d_C_lit_19 d_C_lit_22 d_C_lit_23 d_C_lit_25 d_C_lit_28 (by decide) (Nat.le_of_ble_eq_true rfl) ⟨by decide, by decide⟩ ⟨by decide, by decide⟩ ?_
    first | exact k1 (by omega) | exact k2 (by omega) (by omega) | exact k3 (by omega) (by omega) (by omega)

def G_C_box (av : List Value) (h : ah_H) (K : ah_R → ah_H → Prop) : Prop := ∃ (e1 e2 e3 : ah_E) (rest : ah_H) (fo le to ri bo x : Int32), av = [.ref 0, .int x] ∧ h = cC :: e1 :: e2 :: e3 :: cF fo le to ri bo :: rest ∧ (¬ (0 ≤ x.toInt ∧ x.toInt ≤ 3) → K (.inr h.length) (h ++ [xB])) ∧ ((0 ≤ x.toInt ∧ x.toInt ≤ 3) → fo = 0 → K (.inr h.length) (h ++ [xS])) ∧ ((0 ≤ x.toInt ∧ x.toInt ≤ 3) → ¬ fo = 0 → x.toInt = 0 → K (.inl (some (.int le))) h) ∧ ((0 ≤ x.toInt ∧ x.toInt ≤ 3) → ¬ fo = 0 → x.toInt = 1 → K (.inl (some (.int to))) h) ∧ ((0 ≤ x.toInt ∧ x.toInt ≤ 3) → ¬ fo = 0 → x.toInt = 2 → K (.inl (some (.int ri))) h) ∧ ((0 ≤ x.toInt ∧ x.toInt ≤ 3) → ¬ fo = 0 → x.toInt = 3 → K (.inl (some (.int bo))) h)
set_option maxHeartbeats 4000000 in
set_option maxRecDepth 100000 in
theorem c_C_box (l : Launch) (hl : l.flags = flags0) : rn_Met l y_C_box wc_C_box rmC G_C_box := by
  refine rn_in mw_C_box.1 (by decide +kernel) ?_ ?_
  · intro _ av h K hG
    obtain ⟨e1, e2, e3, rest, fo, le, to, ri, bo, x, rfl, rfl, k1, k2, k3, k4, k5, k6⟩ := hG
    exact Nat.le_of_ble_eq_true rfl
  intro p e s m args below meth c z sa D dA av h K hadm C hG
  have htr := Launch.traces_off hl hadm
  obtain ⟨e1, e2, e3, rest, fo, le, to, ri, bo, x, rfl, rfl, k1, k2, k3, k4, k5, k6⟩ := hG
  refine rn_iload_n C d_C_box_0 rfl ?_
  refine rn_if_lt C 9 d_C_box_1 (by decide) (fun c1 => ?_) (fun c1 => ?_)
  · skip
    refine rn_throw C htr tw_1 (tx := "no such side") (by decide +kernel) d_C_box_9 d_C_box_12 d_C_box_13 d_C_box_15 d_C_box_18 (by decide) (Nat.le_of_ble_eq_true rfl) ⟨by decide, by decide⟩ ⟨by decide, by decide⟩ ?_
    (try simp only [Int32.lt_iff_toInt_lt, Int32.le_iff_toInt_le, ← Int32.toInt_inj, Int32.reduceToInt] at c1)
    exact k1 (by omega)
  · skip
    refine rn_iload_n C d_C_box_4 rfl ?_
    refine rn_iconst C 3 d_C_box_5 (by decide) ?_
    refine rn_icmp_le C 19 d_C_box_6 (by decide) (fun c6 => ?_) (fun c6 => ?_)
    · skip
      refine rn_aload_n C d_C_box_19 rfl ?_
      refine rn_get C f_C_21 d_C_box_20 rfl rfl ?_
      refine rn_get C f_C_112 d_C_box_23 rfl rfl ?_
      refine rn_if_ne C 39 d_C_box_26 (by decide) (fun c26 => ?_) (fun c26 => ?_)
      · skip
        refine rn_aload_n C d_C_box_39 rfl ?_
        refine rn_get C f_C_21 d_C_box_40 rfl rfl ?_
        refine rn_iload_n C d_C_box_43 rfl ?_
        refine rn_cV C (c_F_side l) mw_F_side k_C_123 d_C_box_44 rfl rfl rfl (Nat.le_of_ble_eq_true rfl) (Nat.le_of_ble_eq_true rfl) ⟨by decide, by decide⟩ ⟨by decide, by decide⟩ ?_
        simp only [Int32.lt_iff_toInt_lt, Int32.le_iff_toInt_le, Int32.reduceToInt] at c1 c6
        refine ⟨_, _, _, _, _, _, _, rfl, rfl, fun q => ?_, fun q => ?_, fun q => ?_, fun q => ?_⟩
        · refine rn_ireturn C rfl rfl d_C_box_47 ⟨by decide, by decide⟩ (k3 (by omega) c26 q)
        · refine rn_ireturn C rfl rfl d_C_box_47 ⟨by decide, by decide⟩ (k4 (by omega) c26 q)
        · refine rn_ireturn C rfl rfl d_C_box_47 ⟨by decide, by decide⟩ (k5 (by omega) c26 q)
        refine rn_ireturn C rfl rfl d_C_box_47 ⟨by decide, by decide⟩ (k6 (by omega) c26 (by omega))
      · skip
        refine rn_throw C htr tw_3 (tx := "no frame is found") (by decide +kernel) d_C_box_29 d_C_box_32 d_C_box_33 d_C_box_35 d_C_box_38 (by decide) (Nat.le_of_ble_eq_true rfl) ⟨by decide, by decide⟩ ⟨by decide, by decide⟩ ?_
        have c26' := c26
        (try simp only [Int32.lt_iff_toInt_lt, Int32.le_iff_toInt_le, ← Int32.toInt_inj, Int32.reduceToInt] at c1 c6)
        exact k2 (by omega) c26'
    · skip
      refine rn_throw C htr tw_1 (tx := "no such side") (by decide +kernel) d_C_box_9 d_C_box_12 d_C_box_13 d_C_box_15 d_C_box_18 (by decide) (Nat.le_of_ble_eq_true rfl) ⟨by decide, by decide⟩ ⟨by decide, by decide⟩ ?_
      (try simp only [Int32.lt_iff_toInt_lt, Int32.le_iff_toInt_le, ← Int32.toInt_inj, Int32.reduceToInt] at c1 c6)
      exact k1 (by omega)

def G_C_grid (av : List Value) (h : ah_H) (K : ah_R → ah_H → Prop) : Prop := ∃ (e1 e2 e3 e4 : ah_E) (rest : ah_H) (c r t x y : Int32), av = [.ref 0, .int x, .int y] ∧ h = cC :: e1 :: e2 :: e3 :: e4 :: cY c r t :: rest ∧ (¬ (1 ≤ x.toInt ∧ x.toInt ≤ 4 ∧ 1 ≤ y.toInt ∧ y.toInt ≤ 4) → K (.inr h.length) (h ++ [xA])) ∧ ((1 ≤ x.toInt ∧ x.toInt ≤ 4 ∧ 1 ≤ y.toInt ∧ y.toInt ≤ 4) → K (.inl none) (cC :: e1 :: e2 :: e3 :: e4 :: cY x y t :: rest))
set_option maxHeartbeats 4000000 in
set_option maxRecDepth 100000 in
theorem c_C_grid (l : Launch) (hl : l.flags = flags0) : rn_Met l y_C_grid wc_C_grid rmC G_C_grid := by
  refine rn_in mw_C_grid.1 (by decide +kernel) ?_ ?_
  · intro _ av h K hG
    obtain ⟨e1, e2, e3, e4, rest, c, r, t, x, y, rfl, rfl, k1, k2⟩ := hG
    exact Nat.le_of_ble_eq_true rfl
  intro p e s m args below meth c z sa D dA av h K hadm C hG
  have htr := Launch.traces_off hl hadm
  obtain ⟨e1, e2, e3, e4, rest, c, r, t, x, y, rfl, rfl, k1, k2⟩ := hG
  refine rn_iload_n C d_C_grid_0 rfl ?_
  refine rn_cS C (c_C_isGridSide l) mw_C_isGridSide k_C_127 d_C_grid_1 (Nat.le_of_ble_eq_true rfl) (Nat.le_of_ble_eq_true rfl) ⟨by decide, by decide⟩ ⟨by decide, by decide⟩ ?_
  refine ⟨_, rfl, fun q1 => ?_, fun q1 => ?_⟩
  · skip
    refine rn_if_eq C 14 d_C_grid_4 (by decide) (fun q => absurd q (by decide)) (fun _ => ?_)
    refine rn_iload_n C d_C_grid_7 rfl ?_
    refine rn_cS C (c_C_isGridSide l) mw_C_isGridSide k_C_127 d_C_grid_8 (Nat.le_of_ble_eq_true rfl) (Nat.le_of_ble_eq_true rfl) ⟨by decide, by decide⟩ ⟨by decide, by decide⟩ ?_
    refine ⟨_, rfl, fun q8 => ?_, fun q8 => ?_⟩
    · skip
      refine rn_if_ne C 24 d_C_grid_11 (by decide) (fun _ => ?_) (fun q => absurd q (by decide))
      refine rn_aload_n C d_C_grid_24 rfl ?_
      refine rn_get C f_C_28 d_C_grid_25 rfl rfl ?_
      refine rn_iload_n C d_C_grid_28 rfl ?_
      refine rn_put C f_C_132 ft_Y fn_Y_0 d_C_grid_29 rfl (Nat.le_of_ble_eq_true rfl) (fun _ _ => ⟨rfl, rfl⟩) ?_
      refine rn_aload_n C d_C_grid_32 rfl ?_
      refine rn_get C f_C_28 d_C_grid_33 rfl rfl ?_
      refine rn_iload_n C d_C_grid_36 rfl ?_
      refine rn_put C f_C_136 ft_Y fn_Y_1 d_C_grid_37 rfl (Nat.le_of_ble_eq_true rfl) (fun _ _ => ⟨rfl, rfl⟩) ?_
      refine rn_return C rfl d_C_grid_40 ⟨by decide, by decide⟩ ?_
      first | exact k1 (by omega) | exact k2 (by omega)
    · skip
      refine rn_if_ne C 24 d_C_grid_11 (by decide) (fun q => absurd rfl q) (fun _ => ?_)
      refine rn_throw C htr tw_2 (tx := "columns and rows are 1 .. 4") (by decide +kernel) d_C_grid_14 d_C_grid_17 d_C_grid_18 d_C_grid_20 d_C_grid_23 (by decide) (Nat.le_of_ble_eq_true rfl) ⟨by decide, by decide⟩ ⟨by decide, by decide⟩ ?_
      first | exact k1 (by omega) | exact k2 (by omega)
  · skip
    refine rn_if_eq C 14 d_C_grid_4 (by decide) (fun _ => ?_) (fun q => absurd rfl q)
    refine rn_throw C htr tw_2 (tx := "columns and rows are 1 .. 4") (by decide +kernel) d_C_grid_14 d_C_grid_17 d_C_grid_18 d_C_grid_20 d_C_grid_23 (by decide) (Nat.le_of_ble_eq_true rfl) ⟨by decide, by decide⟩ ⟨by decide, by decide⟩ ?_
    first | exact k1 (by omega) | exact k2 (by omega)

def G_C_turn (av : List Value) (h : ah_H) (K : ah_R → ah_H → Prop) : Prop := ∃ (e1 e2 e3 e4 : ah_E) (rest : ah_H) (c r t x : Int32), av = [.ref 0, .int x] ∧ h = cC :: e1 :: e2 :: e3 :: e4 :: cY c r t :: rest ∧ (¬ (0 ≤ x.toInt ∧ x.toInt ≤ 3) → K (.inr h.length) (h ++ [xA])) ∧ ((0 ≤ x.toInt ∧ x.toInt ≤ 3) → K (.inl (some (.int t))) (cC :: e1 :: e2 :: e3 :: e4 :: cY c r x :: rest))
set_option maxHeartbeats 4000000 in
set_option maxRecDepth 100000 in
theorem c_C_turn (l : Launch) (hl : l.flags = flags0) : rn_Met l y_C_turn wc_C_turn rmC G_C_turn := by
  refine rn_in mw_C_turn.1 (by decide +kernel) ?_ ?_
  · intro _ av h K hG
    obtain ⟨e1, e2, e3, e4, rest, c, r, t, x, rfl, rfl, k1, k2⟩ := hG
    exact Nat.le_of_ble_eq_true rfl
  intro p e s m args below meth c z sa D dA av h K hadm C hG
  have htr := Launch.traces_off hl hadm
  obtain ⟨e1, e2, e3, e4, rest, c, r, t, x, rfl, rfl, k1, k2⟩ := hG
  refine rn_iload_n C d_C_turn_0 rfl ?_
  refine rn_if_lt C 9 d_C_turn_1 (by decide) (fun c1 => ?_) (fun c1 => ?_)
  · skip
    refine rn_throw C htr tw_2 (tx := "a quarter is 0 .. 3") (by decide +kernel) d_C_turn_9 d_C_turn_12 d_C_turn_13 d_C_turn_15 d_C_turn_18 (by decide) (Nat.le_of_ble_eq_true rfl) ⟨by decide, by decide⟩ ⟨by decide, by decide⟩ ?_
    (try simp only [Int32.lt_iff_toInt_lt, Int32.le_iff_toInt_le, ← Int32.toInt_inj, Int32.reduceToInt] at c1)
    first | exact k1 (by omega) | exact k2 (by omega)
  · skip
    refine rn_iload_n C d_C_turn_4 rfl ?_
    refine rn_iconst C 3 d_C_turn_5 (by decide) ?_
    refine rn_icmp_le C 19 d_C_turn_6 (by decide) (fun c6 => ?_) (fun c6 => ?_)
    · skip
      refine rn_aload_n C d_C_turn_19 rfl ?_
      refine rn_get C f_C_28 d_C_turn_20 rfl rfl ?_
      refine rn_get C f_C_141 d_C_turn_23 rfl rfl ?_
      refine rn_istore_n C d_C_turn_26 (by decide) ?_
      refine rn_aload_n C d_C_turn_27 rfl ?_
      refine rn_get C f_C_28 d_C_turn_28 rfl rfl ?_
      refine rn_iload_n C d_C_turn_31 rfl ?_
      refine rn_put C f_C_141 ft_Y fn_Y_2 d_C_turn_32 rfl (Nat.le_of_ble_eq_true rfl) (fun _ _ => ⟨rfl, rfl⟩) ?_
      refine rn_iload_n C d_C_turn_35 rfl ?_
      refine rn_ireturn C rfl rfl d_C_turn_36 ⟨by decide, by decide⟩ ?_
      (try simp only [Int32.lt_iff_toInt_lt, Int32.le_iff_toInt_le, ← Int32.toInt_inj, Int32.reduceToInt] at c1 c6)
      first | exact k1 (by omega) | exact k2 (by omega)
    · skip
      refine rn_throw C htr tw_2 (tx := "a quarter is 0 .. 3") (by decide +kernel) d_C_turn_9 d_C_turn_12 d_C_turn_13 d_C_turn_15 d_C_turn_18 (by decide) (Nat.le_of_ble_eq_true rfl) ⟨by decide, by decide⟩ ⟨by decide, by decide⟩ ?_
      (try simp only [Int32.lt_iff_toInt_lt, Int32.le_iff_toInt_le, ← Int32.toInt_inj, Int32.reduceToInt] at c1 c6)
      first | exact k1 (by omega) | exact k2 (by omega)

def G_C_target (av : List Value) (h : ah_H) (K : ah_R → ah_H → Prop) : Prop := ∃ (e1 e2 e3 e4 e5 e6 : ah_E) (rest : ah_H) (nn np : Nat) (to tp : Nat → Int32) (nt x r g b : Int32), av = [.ref 0, .int x, .int r, .int g, .int b] ∧ h = cC :: e1 :: e2 :: e3 :: e4 :: e5 :: e6 :: cT nt :: aZ nn to :: aI np tp :: rest ∧ (¬ (0 ≤ x.toInt ∧ x.toInt ≤ 15) → K (.inr h.length) (h ++ [xB])) ∧ ((0 ≤ x.toInt ∧ x.toInt ≤ 15) → r.toInt < 0 → vp_in x nn ∧ (¬ nt = x → K (.inl none) (cC :: e1 :: e2 :: e3 :: e4 :: e5 :: e6 :: cT nt :: aZ nn (upd to x.toNatClampNeg (vp_nar .boolean 0)) :: aI np tp :: rest)) ∧ (nt = x → K (.inl none) (cC :: e1 :: e2 :: e3 :: e4 :: e5 :: e6 :: cT (-1) :: aZ nn (upd to x.toNatClampNeg (vp_nar .boolean 0)) :: aI np tp :: rest))) ∧ ((0 ≤ x.toInt ∧ x.toInt ≤ 15) → ¬ r.toInt < 0 → ¬ (r.toInt ≤ 255 ∧ 0 ≤ g.toInt ∧ g.toInt ≤ 255 ∧ 0 ≤ b.toInt ∧ b.toInt ≤ 255) → K (.inr h.length) (h ++ [xA])) ∧ ((0 ≤ x.toInt ∧ x.toInt ≤ 15) → ¬ r.toInt < 0 → (r.toInt ≤ 255 ∧ 0 ≤ g.toInt ∧ g.toInt ≤ 255 ∧ 0 ≤ b.toInt ∧ b.toInt ≤ 255) → vp_in x nn ∧ vp_in (x * 3) np ∧ vp_in (x * 3 + 1) np ∧ vp_in (x * 3 + 2) np ∧ K (.inl none) (cC :: e1 :: e2 :: e3 :: e4 :: e5 :: e6 :: cT nt :: aZ nn (upd to x.toNatClampNeg (vp_nar .boolean 1)) :: aI np (upd (upd (upd tp (x * 3).toNatClampNeg r) (x * 3 + 1).toNatClampNeg g) (x * 3 + 2).toNatClampNeg b) :: rest))
set_option maxHeartbeats 4000000 in
set_option maxRecDepth 100000 in
theorem c_C_target (l : Launch) (hl : l.flags = flags0) : rn_Met l y_C_target wc_C_target rmC G_C_target := by
  refine rn_in mw_C_target.1 (by decide +kernel) ?_ ?_
  · intro _ av h K hG
    obtain ⟨e1, e2, e3, e4, e5, e6, rest, nn, np, to, tp, nt, x, r, g, b, rfl, rfl, k1, k2, k3, k4⟩ := hG
    exact Nat.le_of_ble_eq_true rfl
  intro p e s m args below meth c z sa D dA av h K hadm C hG
  have htr := Launch.traces_off hl hadm
  obtain ⟨e1, e2, e3, e4, e5, e6, rest, nn, np, to, tp, nt, x, r, g, b, rfl, rfl, k1, k2, k3, k4⟩ := hG
  refine rn_iload_n C d_C_target_0 rfl ?_
  refine rn_cS C (c_C_isTargetPatch l) mw_C_isTargetPatch k_C_174 d_C_target_1 (Nat.le_of_ble_eq_true rfl) (Nat.le_of_ble_eq_true rfl) ⟨by decide, by decide⟩ ⟨by decide, by decide⟩ ?_
  refine ⟨_, rfl, fun q1 => ?_, fun q1 => ?_⟩
  · skip
    refine rn_if_ne C 17 d_C_target_4 (by decide) (fun _ => ?_) (fun q => absurd q (by decide))
    refine rn_iload_n C d_C_target_17 rfl ?_
    refine rn_if_ge C 30 d_C_target_18 (by decide) (fun c18 => ?_) (fun c18 => ?_)
    · skip
      refine rn_iload_n C d_C_target_30 rfl ?_
      refine rn_cS C (c_C_isPartValue l) mw_C_isPartValue k_C_85 d_C_target_31 (Nat.le_of_ble_eq_true rfl) (Nat.le_of_ble_eq_true rfl) ⟨by decide, by decide⟩ ⟨by decide, by decide⟩ ?_
      refine ⟨_, rfl, fun q31 => ?_, fun q31 => ?_⟩
      · skip
        refine rn_if_eq C 52 d_C_target_34 (by decide) (fun q => absurd q (by decide)) (fun _ => ?_)
        refine rn_iload_n C d_C_target_37 rfl ?_
        refine rn_cS C (c_C_isPartValue l) mw_C_isPartValue k_C_85 d_C_target_38 (Nat.le_of_ble_eq_true rfl) (Nat.le_of_ble_eq_true rfl) ⟨by decide, by decide⟩ ⟨by decide, by decide⟩ ?_
        refine ⟨_, rfl, fun q38 => ?_, fun q38 => ?_⟩
        · skip
          refine rn_if_eq C 52 d_C_target_41 (by decide) (fun q => absurd q (by decide)) (fun _ => ?_)
          refine rn_iload C d_C_target_44 rfl ?_
          refine rn_cS C (c_C_isPartValue l) mw_C_isPartValue k_C_85 d_C_target_46 (Nat.le_of_ble_eq_true rfl) (Nat.le_of_ble_eq_true rfl) ⟨by decide, by decide⟩ ⟨by decide, by decide⟩ ?_
          refine ⟨_, rfl, fun q46 => ?_, fun q46 => ?_⟩
          · skip
            refine rn_if_ne C 62 d_C_target_49 (by decide) (fun _ => ?_) (fun q => absurd q (by decide))
            refine rn_aload_n C d_C_target_62 rfl ?_
            refine rn_get C f_C_42 d_C_target_63 rfl rfl ?_
            refine rn_iload_n C d_C_target_66 rfl ?_
            refine rn_iload_n C d_C_target_67 rfl ?_
            refine rn_iload_n C d_C_target_68 rfl ?_
            refine rn_iload C d_C_target_69 rfl ?_
            refine rn_cV C (c_T_keep l) mw_T_keep k_C_185 d_C_target_71 rfl rfl rfl (Nat.le_of_ble_eq_true rfl) (Nat.le_of_ble_eq_true rfl) ⟨by decide, by decide⟩ ⟨by decide, by decide⟩ ?_
            simp only [Int32.le_iff_toInt_le, Int32.reduceToInt] at c18
            obtain ⟨hi1, hi2, hi3, hi4, hK⟩ := k4 (by omega) (by omega) (by omega)
            refine ⟨_, _, _, _, _, _, _, _, _, _, _, _, _, _, _, _, _, rfl, rfl, hi1, hi2, hi3, hi4, ?_⟩
            refine rn_return C rfl d_C_target_74 ⟨by decide, by decide⟩ ?_
            exact hK
          · skip
            refine rn_if_ne C 62 d_C_target_49 (by decide) (fun q => absurd rfl q) (fun _ => ?_)
            refine rn_throw C htr tw_2 (tx := "a target's parts are 0 .. 255") (by decide +kernel) d_C_target_52 d_C_target_55 d_C_target_56 d_C_target_58 d_C_target_61 (by decide) (Nat.le_of_ble_eq_true rfl) ⟨by decide, by decide⟩ ⟨by decide, by decide⟩ ?_
            simp only [Int32.le_iff_toInt_le, Int32.reduceToInt] at c18
            exact k3 (by omega) (by omega) (by omega)
        · skip
          refine rn_if_eq C 52 d_C_target_41 (by decide) (fun _ => ?_) (fun q => absurd rfl q)
          refine rn_throw C htr tw_2 (tx := "a target's parts are 0 .. 255") (by decide +kernel) d_C_target_52 d_C_target_55 d_C_target_56 d_C_target_58 d_C_target_61 (by decide) (Nat.le_of_ble_eq_true rfl) ⟨by decide, by decide⟩ ⟨by decide, by decide⟩ ?_
          simp only [Int32.le_iff_toInt_le, Int32.reduceToInt] at c18
          exact k3 (by omega) (by omega) (by omega)
      · skip
        refine rn_if_eq C 52 d_C_target_34 (by decide) (fun _ => ?_) (fun q => absurd rfl q)
        refine rn_throw C htr tw_2 (tx := "a target's parts are 0 .. 255") (by decide +kernel) d_C_target_52 d_C_target_55 d_C_target_56 d_C_target_58 d_C_target_61 (by decide) (Nat.le_of_ble_eq_true rfl) ⟨by decide, by decide⟩ ⟨by decide, by decide⟩ ?_
        simp only [Int32.le_iff_toInt_le, Int32.reduceToInt] at c18
        exact k3 (by omega) (by omega) (by omega)
    · skip
      refine rn_aload_n C d_C_target_21 rfl ?_
      refine rn_get C f_C_42 d_C_target_22 rfl rfl ?_
      refine rn_iload_n C d_C_target_25 rfl ?_
      refine rn_cV C (c_T_drop l) mw_T_drop k_C_179 d_C_target_26 rfl rfl rfl (Nat.le_of_ble_eq_true rfl) (Nat.le_of_ble_eq_true rfl) ⟨by decide, by decide⟩ ⟨by decide, by decide⟩ ?_
      simp only [Int32.le_iff_toInt_le, Int32.reduceToInt] at c18
      obtain ⟨hin, hK1, hK2⟩ := k2 (by omega) (by omega)
      refine ⟨_, _, _, _, _, _, _, _, _, _, _, _, _, _, rfl, rfl, hin, fun q => ?_, fun q => ?_⟩
      · exact rn_return C rfl d_C_target_29 ⟨by decide, by decide⟩ (hK1 q)
      exact rn_return C rfl d_C_target_29 ⟨by decide, by decide⟩ (hK2 q)
  · skip
    refine rn_if_ne C 17 d_C_target_4 (by decide) (fun q => absurd rfl q) (fun _ => ?_)
    refine rn_throw C htr tw_1 (tx := "no such patch") (by decide +kernel) d_C_target_7 d_C_target_10 d_C_target_11 d_C_target_13 d_C_target_16 (by decide) (Nat.le_of_ble_eq_true rfl) ⟨by decide, by decide⟩ ⟨by decide, by decide⟩ ?_
    exact k1 (by omega)

def G_C_neutral (av : List Value) (h : ah_H) (K : ah_R → ah_H → Prop) : Prop := ∃ (e1 e2 e3 e4 e5 e6 : ah_E) (rest : ah_H) (nn np : Nat) (to tp : Nat → Int32) (nt x : Int32), av = [.ref 0, .int x] ∧ h = cC :: e1 :: e2 :: e3 :: e4 :: e5 :: e6 :: cT nt :: aZ nn to :: aI np tp :: rest ∧ (¬ x.toInt = -1 → ¬ (0 ≤ x.toInt ∧ x.toInt ≤ 15) → K (.inr h.length) (h ++ [xB])) ∧ (¬ x.toInt = -1 → (0 ≤ x.toInt ∧ x.toInt ≤ 15) → vp_in x nn) ∧ (¬ x.toInt = -1 → (0 ≤ x.toInt ∧ x.toInt ≤ 15) → to x.toNatClampNeg = 0 → K (.inr h.length) (h ++ [xS])) ∧ ((x.toInt = -1 ∨ (0 ≤ x.toInt ∧ x.toInt ≤ 15 ∧ ¬ to x.toNatClampNeg = 0)) → K (.inl (some (.int nt))) (cC :: e1 :: e2 :: e3 :: e4 :: e5 :: e6 :: cT x :: aZ nn to :: aI np tp :: rest))
set_option maxHeartbeats 4000000 in
set_option maxRecDepth 100000 in
theorem c_C_neutral (l : Launch) (hl : l.flags = flags0) : rn_Met l y_C_neutral wc_C_neutral rmC G_C_neutral := by
  refine rn_in mw_C_neutral.1 (by decide +kernel) ?_ ?_
  · intro _ av h K hG
    obtain ⟨e1, e2, e3, e4, e5, e6, rest, nn, np, to, tp, nt, x, rfl, rfl, k1, k2, k3, k4⟩ := hG
    exact Nat.le_of_ble_eq_true rfl
  intro p e s m args below meth c z sa D dA av h K hadm C hG
  have htr := Launch.traces_off hl hadm
  obtain ⟨e1, e2, e3, e4, e5, e6, rest, nn, np, to, tp, nt, x, rfl, rfl, k1, k2, k3, k4⟩ := hG
  refine rn_iload_n C d_C_neutral_0 rfl ?_
  refine rn_iconst C (-1) d_C_neutral_1 (by decide) ?_
  refine rn_icmp_eq C 22 d_C_neutral_2 (by decide) (fun c2 => ?_) (fun c2 => ?_)
  · skip
    refine rn_iload_n C d_C_neutral_22 rfl ?_
    refine rn_iconst C (-1) d_C_neutral_23 (by decide) ?_
    refine rn_icmp_eq C 49 d_C_neutral_24 (by decide) (fun c24 => ?_) (fun c24 => ?_)
    · skip
      refine rn_aload_n C d_C_neutral_49 rfl ?_
      refine rn_get C f_C_42 d_C_neutral_50 rfl rfl ?_
      refine rn_get C f_C_195 d_C_neutral_53 rfl rfl ?_
      refine rn_istore_n C d_C_neutral_56 (by decide) ?_
      refine rn_aload_n C d_C_neutral_57 rfl ?_
      refine rn_get C f_C_42 d_C_neutral_58 rfl rfl ?_
      refine rn_iload_n C d_C_neutral_61 rfl ?_
      refine rn_put C f_C_195 ft_T fn_T_2 d_C_neutral_62 rfl (Nat.le_of_ble_eq_true rfl) (fun _ _ => ⟨rfl, rfl⟩) ?_
      refine rn_iload_n C d_C_neutral_65 rfl ?_
      refine rn_ireturn C rfl rfl d_C_neutral_66 ⟨by decide, by decide⟩ ?_
      first | exact k4 (Or.inl (by rw [c24]; decide)) | exact k4 (Or.inr ⟨q6.1, q6.2, c36⟩) | exact absurd c2 c24
    · skip
      refine rn_aload_n C d_C_neutral_27 rfl ?_
      refine rn_get C f_C_42 d_C_neutral_28 rfl rfl ?_
      refine rn_get C f_C_189 d_C_neutral_31 rfl rfl ?_
      refine rn_iload_n C d_C_neutral_34 rfl ?_
      have hx : ¬ x.toInt = -1 := fun e => c24 (Int32.toInt_inj.mp (by rw [e]; decide))
      have hin := k2 hx (by first | exact q6 | exact absurd c2 c24)
      refine rn_zaload C d_C_neutral_35 rfl hin ?_
      refine rn_if_ne C 49 d_C_neutral_36 (by decide) (fun c36 => ?_) (fun c36 => ?_)
      · skip
        refine rn_aload_n C d_C_neutral_49 rfl ?_
        refine rn_get C f_C_42 d_C_neutral_50 rfl rfl ?_
        refine rn_get C f_C_195 d_C_neutral_53 rfl rfl ?_
        refine rn_istore_n C d_C_neutral_56 (by decide) ?_
        refine rn_aload_n C d_C_neutral_57 rfl ?_
        refine rn_get C f_C_42 d_C_neutral_58 rfl rfl ?_
        refine rn_iload_n C d_C_neutral_61 rfl ?_
        refine rn_put C f_C_195 ft_T fn_T_2 d_C_neutral_62 rfl (Nat.le_of_ble_eq_true rfl) (fun _ _ => ⟨rfl, rfl⟩) ?_
        refine rn_iload_n C d_C_neutral_65 rfl ?_
        refine rn_ireturn C rfl rfl d_C_neutral_66 ⟨by decide, by decide⟩ ?_
        first | exact k4 (Or.inl (by rw [c24]; decide)) | exact k4 (Or.inr ⟨q6.1, q6.2, c36⟩) | exact absurd c2 c24
      · skip
        refine rn_throw C htr tw_3 (tx := "the patch has no target") (by decide +kernel) d_C_neutral_39 d_C_neutral_42 d_C_neutral_43 d_C_neutral_45 d_C_neutral_48 (by decide) (Nat.le_of_ble_eq_true rfl) ⟨by decide, by decide⟩ ⟨by decide, by decide⟩ ?_
        exact k3 hx (by first | exact q6 | exact absurd c2 c24) c36
  · skip
    refine rn_iload_n C d_C_neutral_5 rfl ?_
    refine rn_cS C (c_C_isTargetPatch l) mw_C_isTargetPatch k_C_174 d_C_neutral_6 (Nat.le_of_ble_eq_true rfl) (Nat.le_of_ble_eq_true rfl) ⟨by decide, by decide⟩ ⟨by decide, by decide⟩ ?_
    refine ⟨_, rfl, fun q6 => ?_, fun q6 => ?_⟩
    · skip
      refine rn_if_ne C 22 d_C_neutral_9 (by decide) (fun _ => ?_) (fun q => absurd q (by decide))
      refine rn_iload_n C d_C_neutral_22 rfl ?_
      refine rn_iconst C (-1) d_C_neutral_23 (by decide) ?_
      refine rn_icmp_eq C 49 d_C_neutral_24 (by decide) (fun c24 => ?_) (fun c24 => ?_)
      · skip
        refine rn_aload_n C d_C_neutral_49 rfl ?_
        refine rn_get C f_C_42 d_C_neutral_50 rfl rfl ?_
        refine rn_get C f_C_195 d_C_neutral_53 rfl rfl ?_
        refine rn_istore_n C d_C_neutral_56 (by decide) ?_
        refine rn_aload_n C d_C_neutral_57 rfl ?_
        refine rn_get C f_C_42 d_C_neutral_58 rfl rfl ?_
        refine rn_iload_n C d_C_neutral_61 rfl ?_
        refine rn_put C f_C_195 ft_T fn_T_2 d_C_neutral_62 rfl (Nat.le_of_ble_eq_true rfl) (fun _ _ => ⟨rfl, rfl⟩) ?_
        refine rn_iload_n C d_C_neutral_65 rfl ?_
        refine rn_ireturn C rfl rfl d_C_neutral_66 ⟨by decide, by decide⟩ ?_
        first | exact k4 (Or.inl (by rw [c24]; decide)) | exact k4 (Or.inr ⟨q6.1, q6.2, c36⟩) | exact absurd c2 c24
      · skip
        refine rn_aload_n C d_C_neutral_27 rfl ?_
        refine rn_get C f_C_42 d_C_neutral_28 rfl rfl ?_
        refine rn_get C f_C_189 d_C_neutral_31 rfl rfl ?_
        refine rn_iload_n C d_C_neutral_34 rfl ?_
        have hx : ¬ x.toInt = -1 := fun e => c24 (Int32.toInt_inj.mp (by rw [e]; decide))
        have hin := k2 hx (by first | exact q6 | exact absurd c2 c24)
        refine rn_zaload C d_C_neutral_35 rfl hin ?_
        refine rn_if_ne C 49 d_C_neutral_36 (by decide) (fun c36 => ?_) (fun c36 => ?_)
        · skip
          refine rn_aload_n C d_C_neutral_49 rfl ?_
          refine rn_get C f_C_42 d_C_neutral_50 rfl rfl ?_
          refine rn_get C f_C_195 d_C_neutral_53 rfl rfl ?_
          refine rn_istore_n C d_C_neutral_56 (by decide) ?_
          refine rn_aload_n C d_C_neutral_57 rfl ?_
          refine rn_get C f_C_42 d_C_neutral_58 rfl rfl ?_
          refine rn_iload_n C d_C_neutral_61 rfl ?_
          refine rn_put C f_C_195 ft_T fn_T_2 d_C_neutral_62 rfl (Nat.le_of_ble_eq_true rfl) (fun _ _ => ⟨rfl, rfl⟩) ?_
          refine rn_iload_n C d_C_neutral_65 rfl ?_
          refine rn_ireturn C rfl rfl d_C_neutral_66 ⟨by decide, by decide⟩ ?_
          first | exact k4 (Or.inl (by rw [c24]; decide)) | exact k4 (Or.inr ⟨q6.1, q6.2, c36⟩) | exact absurd c2 c24
        · skip
          refine rn_throw C htr tw_3 (tx := "the patch has no target") (by decide +kernel) d_C_neutral_39 d_C_neutral_42 d_C_neutral_43 d_C_neutral_45 d_C_neutral_48 (by decide) (Nat.le_of_ble_eq_true rfl) ⟨by decide, by decide⟩ ⟨by decide, by decide⟩ ?_
          exact k3 hx (by first | exact q6 | exact absurd c2 c24) c36
    · skip
      refine rn_if_ne C 22 d_C_neutral_9 (by decide) (fun q => absurd rfl q) (fun _ => ?_)
      refine rn_throw C htr tw_1 (tx := "no such patch") (by decide +kernel) d_C_neutral_12 d_C_neutral_15 d_C_neutral_16 d_C_neutral_18 d_C_neutral_21 (by decide) (Nat.le_of_ble_eq_true rfl) ⟨by decide, by decide⟩ ⟨by decide, by decide⟩ ?_
      simp only [← Int32.toInt_inj, Int32.reduceToInt] at c2
      exact k1 (by omega) (by omega)

