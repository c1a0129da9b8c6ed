/-! The reference, its shorter methods. Laid by wip/whole/gen_m1.py. -/
abbrev cM (th w g fo le to ri bo co ro qu nt fi sg rk dy ce su : Int32) (sq : Int64) : ah_E := .inr (9, [.int th, .int w, .int g, .ref 22, .ref 23, .int fo, .int le, .int to, .int ri, .int bo, .int co, .int ro, .int qu, .ref 24, .ref 25, .int nt, .int fi, .ref 26, .ref 27, .ref 28, .int sg, .ref 29, .int rk, .ref 30, .ref 31, .ref 32, .int dy, .ref 33, .ref 34, .int ce, .int su, .long sq])
def gT (a b c : Int32) : Int32 := if a = 0 then 1 else if b = 0 then 2 else if c = 0 then 3 else 0
def gR (a b c : Int32) : Int32 := if gT a b c = 0 then 1 else 0
theorem iI_lt0 {a : Int} (h : inI a) : iI a < 0 ↔ a < 0 := iI_lt (b := 0) h ⟨by omega, by omega⟩
theorem iI_ge0 {a : Int} (h : inI a) : 0 ≤ iI a ↔ 0 ≤ a := iI_le (a := 0) ⟨by omega, by omega⟩ h
theorem iI_eq0 {a : Int} (h : inI a) : iI a = 0 ↔ a = 0 := iI_eq (b := 0) h ⟨by omega, by omega⟩
def mpOk (mp ml : Nat → Int32) (pic : Int → Int → Int → Int) (lig : Int → Int → Int) : Prop := (∀ x y p : Int, 0 ≤ x → x < 30 → 0 ≤ y → y < 30 → 0 ≤ p → p < 3 → mp (3 * (30 * y + x) + p).toNat = iI (pic x y p)) ∧ (∀ x y : Int, 0 ≤ x → x < 30 → 0 ≤ y → y < 30 → ml (30 * y + x).toNat = iI (lig x y)) ∧ (∀ x y p, 0 ≤ pic x y p ∧ pic x y p ≤ 255) ∧ (∀ x y, 0 ≤ lig x y ∧ lig x y ≤ 255)
def G2_M_within (av : List Value) (h : ah_H) (K : ah_R → ah_H → Prop) : Prop := ∃ (x a b : Int), av = [.int (iI x), .int (iI a), .int (iI b)] ∧ inI x ∧ inI a ∧ inI b ∧ ((a ≤ x ∧ x ≤ b) → K (.inl (some (.int 1))) h) ∧ (¬ (a ≤ x ∧ x ≤ b) → K (.inl (some (.int 0))) h)
theorem c2_M_within (l : Launch) : rn_Met l y_M_within wc_M_within { frames := 1, cells := 0, slots := 0, locals := 0 } G2_M_within := by
  refine rn_wk (c_M_within l) ?_
  intro _ av h K hG
  obtain ⟨x, a, b, rfl, hx, ha, hb, k1, k2⟩ := hG
  refine ⟨iI x, iI a, iI b, rfl, ?_, ?_⟩ <;> rw [iI_toInt hx, iI_toInt ha, iI_toInt hb]
  · exact k1
  · exact k2
def G_M_thrown (av : List Value) (h : ah_H) (K : ah_R → ah_H → Prop) : Prop := ∃ (pre rest : ah_H) (xth xw xg xfo xle xto xri xbo xco xro xqu xnt xfi xsg xrk xdy xce xsu : Int32) (xsq : Int64) , av = [.ref 21] ∧ h = pre ++ cM xth xw xg xfo xle xto xri xbo xco xro xqu xnt xfi xsg xrk xdy xce xsu xsq :: rest ∧ pre.length = 21 ∧ (K (.inl (some (.int (xth)))) h)
set_option maxHeartbeats 4000000 in
set_option maxRecDepth 100000 in
theorem c_M_thrown (l : Launch) : rn_Met l y_M_thrown wc_M_thrown { frames := 1, cells := 0, slots := 0, locals := 0 } G_M_thrown := by
  refine rn_in mw_M_thrown.1 (by decide +kernel) ?_ ?_
  · intro _ av h K hG
    obtain ⟨pre, rest, xth, xw, xg, xfo, xle, xto, xri, xbo, xco, xro, xqu, xnt, xfi, xsg, xrk, xdy, xce, xsu, xsq, rfl, rfl, hp, k1⟩ := hG
    exact Nat.le_of_ble_eq_true rfl
  intro p e s m args below meth c z sa D dA av h K hadm C hG
  obtain ⟨pre, rest, xth, xw, xg, xfo, xle, xto, xri, xbo, xco, xro, xqu, xnt, xfi, xsg, xrk, xdy, xce, xsu, xsq, rfl, rfl, hp, k1⟩ := hG
  refine rn_aload_n C d_M_thrown_0 rfl ?_
  refine rn_getM C hp f_M_67 d_M_thrown_1 rfl ?_
  refine rn_ireturn C rfl rfl d_M_thrown_4 ⟨by decide, by decide⟩ ?_
  exact k1


def G_M_goes (av : List Value) (h : ah_H) (K : ah_R → ah_H → Prop) : Prop := ∃ (pre rest : ah_H) (xth xw xg xfo xle xto xri xbo xco xro xqu xnt xfi xsg xrk xdy xce xsu : Int32) (xsq : Int64) (a b c : Int32) , av = [.ref 21, .int a, .int b, .int c] ∧ h = pre ++ cM xth xw xg xfo xle xto xri xbo xco xro xqu xnt xfi xsg xrk xdy xce xsu xsq :: rest ∧ pre.length = 21 ∧ (K (.inl (some (.int (gR a b c)))) (pre ++ cM (gT a b c) xw xg xfo xle xto xri xbo xco xro xqu xnt xfi xsg xrk xdy xce xsu xsq :: rest))
set_option maxHeartbeats 4000000 in
set_option maxRecDepth 100000 in
theorem c_M_goes (l : Launch) : rn_Met l y_M_goes wc_M_goes { frames := 1, cells := 0, slots := 0, locals := 0 } G_M_goes := by
  refine rn_in mw_M_goes.1 (by decide +kernel) ?_ ?_
  · intro _ av h K hG
    obtain ⟨pre, rest, xth, xw, xg, xfo, xle, xto, xri, xbo, xco, xro, xqu, xnt, xfi, xsg, xrk, xdy, xce, xsu, xsq, a, b, c_, rfl, rfl, hp, k1⟩ := hG
    exact Nat.le_of_ble_eq_true rfl
  intro p e s m args below meth c z sa D dA av h K hadm C hG
  obtain ⟨pre, rest, xth, xw, xg, xfo, xle, xto, xri, xbo, xco, xro, xqu, xnt, xfi, xsg, xrk, xdy, xce, xsu, xsq, a, b, c_, rfl, rfl, hp, k1⟩ := hG
  by_cases c2 : a = 0
  · skip
    refine rn_aload_n C d_M_goes_0 rfl ?_
    refine rn_iload_n C d_M_goes_1 rfl ?_
    refine rn_if_ne C 9 d_M_goes_2 (by decide) (fun w => absurd c2 w) (fun _ => ?_)
    refine rn_iconst C (iI 1) d_M_goes_5 (by decide) ?_
    refine rn_goto C 26 d_M_goes_6 (by decide) ?_
    refine rn_putM C hp f_M_67 ft_M fn_M_0 d_M_goes_26 (Nat.le_of_ble_eq_true rfl) (fun _ _ => ⟨rfl, rfl⟩) rfl ?_
    refine rn_aload_n C d_M_goes_29 rfl ?_
    refine rn_getM C hp f_M_67 d_M_goes_30 rfl ?_
    refine rn_if_ne C 40 d_M_goes_33 (by decide) (fun _ => ?_) (fun w => absurd w (by decide))
    refine rn_iconst C (iI 0) d_M_goes_40 (by decide) ?_
    refine rn_ireturn C rfl rfl d_M_goes_41 ⟨by decide, by decide⟩ ?_
    simp only [gR, gT, if_pos c2] at k1
    exact k1
  by_cases c10 : b = 0
  · skip
    refine rn_aload_n C d_M_goes_0 rfl ?_
    refine rn_iload_n C d_M_goes_1 rfl ?_
    refine rn_if_ne C 9 d_M_goes_2 (by decide) (fun _ => ?_) (fun w => absurd w c2)
    refine rn_iload_n C d_M_goes_9 rfl ?_
    refine rn_if_ne C 17 d_M_goes_10 (by decide) (fun w => absurd c10 w) (fun _ => ?_)
    refine rn_iconst C (iI 2) d_M_goes_13 (by decide) ?_
    refine rn_goto C 26 d_M_goes_14 (by decide) ?_
    refine rn_putM C hp f_M_67 ft_M fn_M_0 d_M_goes_26 (Nat.le_of_ble_eq_true rfl) (fun _ _ => ⟨rfl, rfl⟩) rfl ?_
    refine rn_aload_n C d_M_goes_29 rfl ?_
    refine rn_getM C hp f_M_67 d_M_goes_30 rfl ?_
    refine rn_if_ne C 40 d_M_goes_33 (by decide) (fun _ => ?_) (fun w => absurd w (by decide))
    refine rn_iconst C (iI 0) d_M_goes_40 (by decide) ?_
    refine rn_ireturn C rfl rfl d_M_goes_41 ⟨by decide, by decide⟩ ?_
    simp only [gR, gT, if_neg c2, if_pos c10] at k1
    exact k1
  by_cases c18 : c_ = 0
  · skip
    refine rn_aload_n C d_M_goes_0 rfl ?_
    refine rn_iload_n C d_M_goes_1 rfl ?_
    refine rn_if_ne C 9 d_M_goes_2 (by decide) (fun _ => ?_) (fun w => absurd w c2)
    refine rn_iload_n C d_M_goes_9 rfl ?_
    refine rn_if_ne C 17 d_M_goes_10 (by decide) (fun _ => ?_) (fun w => absurd w c10)
    refine rn_iload_n C d_M_goes_17 rfl ?_
    refine rn_if_ne C 25 d_M_goes_18 (by decide) (fun w => absurd c18 w) (fun _ => ?_)
    refine rn_iconst C (iI 3) d_M_goes_21 (by decide) ?_
    refine rn_goto C 26 d_M_goes_22 (by decide) ?_
    refine rn_putM C hp f_M_67 ft_M fn_M_0 d_M_goes_26 (Nat.le_of_ble_eq_true rfl) (fun _ _ => ⟨rfl, rfl⟩) rfl ?_
    refine rn_aload_n C d_M_goes_29 rfl ?_
    refine rn_getM C hp f_M_67 d_M_goes_30 rfl ?_
    refine rn_if_ne C 40 d_M_goes_33 (by decide) (fun _ => ?_) (fun w => absurd w (by decide))
    refine rn_iconst C (iI 0) d_M_goes_40 (by decide) ?_
    refine rn_ireturn C rfl rfl d_M_goes_41 ⟨by decide, by decide⟩ ?_
    simp only [gR, gT, if_neg c2, if_neg c10, if_pos c18] at k1
    exact k1
  refine rn_aload_n C d_M_goes_0 rfl ?_
  refine rn_iload_n C d_M_goes_1 rfl ?_
  refine rn_if_ne C 9 d_M_goes_2 (by decide) (fun _ => ?_) (fun w => absurd w c2)
  refine rn_iload_n C d_M_goes_9 rfl ?_
  refine rn_if_ne C 17 d_M_goes_10 (by decide) (fun _ => ?_) (fun w => absurd w c10)
  refine rn_iload_n C d_M_goes_17 rfl ?_
  refine rn_if_ne C 25 d_M_goes_18 (by decide) (fun _ => ?_) (fun w => absurd w c18)
  refine rn_iconst C (iI 0) d_M_goes_25 (by decide) ?_
  refine rn_putM C hp f_M_67 ft_M fn_M_0 d_M_goes_26 (Nat.le_of_ble_eq_true rfl) (fun _ _ => ⟨rfl, rfl⟩) rfl ?_
  refine rn_aload_n C d_M_goes_29 rfl ?_
  refine rn_getM C hp f_M_67 d_M_goes_30 rfl ?_
  refine rn_if_ne C 40 d_M_goes_33 (by decide) (fun w => absurd rfl w) (fun _ => ?_)
  refine rn_iconst C (iI 1) d_M_goes_36 (by decide) ?_
  refine rn_goto C 41 d_M_goes_37 (by decide) ?_
  refine rn_ireturn C rfl rfl d_M_goes_41 ⟨by decide, by decide⟩ ?_
  simp only [gR, gT, if_neg c2, if_neg c10, if_neg c18] at k1
  exact k1

def G_M_isCell (av : List Value) (h : ah_H) (K : ah_R → ah_H → Prop) : Prop := ∃ (pre rest : ah_H) (xth xfo xle xto xri xbo xco xro xqu xnt xfi xsg xrk xdy xce xsu : Int32) (xsq : Int64) (w g x y : Int), av = [.ref 21, .int (iI x), .int (iI y)] ∧ h = pre ++ cM xth (iI w) (iI g) xfo xle xto xri xbo xco xro xqu xnt xfi xsg xrk xdy xce xsu xsq :: rest ∧ pre.length = 21 ∧ (inI x) ∧ (inI y) ∧ (6 ≤ w ∧ w ≤ 30 ∧ 6 ≤ g ∧ g ≤ 30) ∧ ((0 ≤ x ∧ x < w ∧ 0 ≤ y ∧ y < g) → K (.inl (some (.int (1)))) h) ∧ (¬ (0 ≤ x ∧ x < w ∧ 0 ≤ y ∧ y < g) → K (.inl (some (.int (0)))) h)
set_option maxHeartbeats 4000000 in
set_option maxRecDepth 100000 in
theorem c_M_isCell (l : Launch) : rn_Met l y_M_isCell wc_M_isCell { frames := 2, cells := 0, slots := 0, locals := 22 } G_M_isCell := by
  refine rn_in mw_M_isCell.1 (by decide +kernel) ?_ ?_
  · intro _ av h K hG
    obtain ⟨pre, rest, xth, xfo, xle, xto, xri, xbo, xco, xro, xqu, xnt, xfi, xsg, xrk, xdy, xce, xsu, xsq, w, g, x, y, rfl, rfl, hp, hc0, hc1, hc2, k1, k2⟩ := hG
    exact Nat.le_of_ble_eq_true rfl
  intro p e s m args below meth c z sa D dA av h K hadm C hG
  obtain ⟨pre, rest, xth, xfo, xle, xto, xri, xbo, xco, xro, xqu, xnt, xfi, xsg, xrk, xdy, xce, xsu, xsq, w, g, x, y, rfl, rfl, hp, hc0, hc1, hc2, k1, k2⟩ := hG
  have hc0a := hc0.1
  have hc0b := hc0.2
  have hc1a := hc1.1
  have hc1b := hc1.2
  refine rn_iload_n C d_M_isCell_0 rfl ?_
  refine rn_iconst C (iI 0) d_M_isCell_1 (by decide) ?_
  refine rn_aload_n C d_M_isCell_2 rfl ?_
  refine rn_getM C hp f_M_61 d_M_isCell_3 rfl ?_
  refine rn_iconst C (iI 1) d_M_isCell_6 (by decide) ?_
  refine rn_isub C d_M_isCell_7 ?_
  rw [iI_sub]
  refine rn_cS C (c2_M_within l) mw_M_within k_M_70 d_M_isCell_8 (Nat.le_of_ble_eq_true rfl) (Nat.le_of_ble_eq_true rfl) ⟨by decide, by decide⟩ ⟨by decide, by decide⟩ ?_
  refine ⟨_, _, _, rfl, ⟨by omega, by omega⟩, ⟨by omega, by omega⟩, ⟨by omega, by omega⟩, fun q8 => ?_, fun q8 => ?_⟩
  · skip
    refine rn_if_eq C 32 d_M_isCell_11 (by decide) (fun q => absurd q (by decide)) (fun _ => ?_)
    refine rn_iload_n C d_M_isCell_14 rfl ?_
    refine rn_iconst C (iI 0) d_M_isCell_15 (by decide) ?_
    refine rn_aload_n C d_M_isCell_16 rfl ?_
    refine rn_getM C hp f_M_64 d_M_isCell_17 rfl ?_
    refine rn_iconst C (iI 1) d_M_isCell_20 (by decide) ?_
    refine rn_isub C d_M_isCell_21 ?_
    rw [iI_sub]
    refine rn_cS C (c2_M_within l) mw_M_within k_M_70 d_M_isCell_22 (Nat.le_of_ble_eq_true rfl) (Nat.le_of_ble_eq_true rfl) ⟨by decide, by decide⟩ ⟨by decide, by decide⟩ ?_
    refine ⟨_, _, _, rfl, ⟨by omega, by omega⟩, ⟨by omega, by omega⟩, ⟨by omega, by omega⟩, fun q22 => ?_, fun q22 => ?_⟩
    · skip
      refine rn_if_eq C 32 d_M_isCell_25 (by decide) (fun q => absurd q (by decide)) (fun _ => ?_)
      refine rn_iconst C (iI 1) d_M_isCell_28 (by decide) ?_
      refine rn_goto C 33 d_M_isCell_29 (by decide) ?_
      refine rn_ireturn C rfl rfl d_M_isCell_33 ⟨by decide, by decide⟩ ?_
      first | exact k1 (by omega) | exact k2 (by omega)
    · skip
      refine rn_if_eq C 32 d_M_isCell_25 (by decide) (fun _ => ?_) (fun q => absurd rfl q)
      refine rn_iconst C (iI 0) d_M_isCell_32 (by decide) ?_
      refine rn_ireturn C rfl rfl d_M_isCell_33 ⟨by decide, by decide⟩ ?_
      first | exact k1 (by omega) | exact k2 (by omega)
  · skip
    refine rn_if_eq C 32 d_M_isCell_11 (by decide) (fun _ => ?_) (fun q => absurd rfl q)
    refine rn_iconst C (iI 0) d_M_isCell_32 (by decide) ?_
    refine rn_ireturn C rfl rfl d_M_isCell_33 ⟨by decide, by decide⟩ ?_
    first | exact k1 (by omega) | exact k2 (by omega)

def G_M_isPatch (av : List Value) (h : ah_H) (K : ah_R → ah_H → Prop) : Prop := ∃ (pre rest : ah_H) (xth xw xg xfo xle xto xri xbo xnt xfi xsg xrk xdy xce xsu : Int32) (xsq : Int64) (co ro qu x : Int), av = [.ref 21, .int (iI x)] ∧ h = pre ++ cM xth xw xg xfo xle xto xri xbo (iI co) (iI ro) (iI qu) xnt xfi xsg xrk xdy xce xsu xsq :: rest ∧ pre.length = 21 ∧ (inI x) ∧ (lyOk co ro qu) ∧ ((0 ≤ x ∧ x < co * ro) → K (.inl (some (.int (1)))) h) ∧ (¬ (0 ≤ x ∧ x < co * ro) → K (.inl (some (.int (0)))) h)
set_option maxHeartbeats 4000000 in
set_option maxRecDepth 100000 in
theorem c_M_isPatch (l : Launch) : rn_Met l y_M_isPatch wc_M_isPatch { frames := 2, cells := 0, slots := 0, locals := 22 } G_M_isPatch := by
  refine rn_in mw_M_isPatch.1 (by decide +kernel) ?_ ?_
  · intro _ av h K hG
    obtain ⟨pre, rest, xth, xw, xg, xfo, xle, xto, xri, xbo, xnt, xfi, xsg, xrk, xdy, xce, xsu, xsq, co, ro, qu, x, rfl, rfl, hp, hc0, hc1, k1, k2⟩ := hG
    exact Nat.le_of_ble_eq_true rfl
  intro p e s m args below meth c z sa D dA av h K hadm C hG
  obtain ⟨pre, rest, xth, xw, xg, xfo, xle, xto, xri, xbo, xnt, xfi, xsg, xrk, xdy, xce, xsu, xsq, co, ro, qu, x, rfl, rfl, hp, hc0, hc1, k1, k2⟩ := hG
  have hc0a := hc0.1
  have hc0b := hc0.2
  unfold lyOk at hc1
  have mq := mbd (A := 4) (B := 4) (a := co) (b := ro) (by omega) (by omega)
  refine rn_iload_n C d_M_isPatch_0 rfl ?_
  refine rn_iconst C (iI 0) d_M_isPatch_1 (by decide) ?_
  refine rn_aload_n C d_M_isPatch_2 rfl ?_
  refine rn_getM C hp f_M_16 d_M_isPatch_3 rfl ?_
  refine rn_aload_n C d_M_isPatch_6 rfl ?_
  refine rn_getM C hp f_M_20 d_M_isPatch_7 rfl ?_
  refine rn_imul C d_M_isPatch_10 ?_
  refine rn_iconst C (iI 1) d_M_isPatch_11 (by decide) ?_
  refine rn_isub C d_M_isPatch_12 ?_
  rw [iI_mul, iI_sub]
  refine rn_cS C (c2_M_within l) mw_M_within k_M_70 d_M_isPatch_13 (Nat.le_of_ble_eq_true rfl) (Nat.le_of_ble_eq_true rfl) ⟨by decide, by decide⟩ ⟨by decide, by decide⟩ ?_
  refine ⟨_, _, _, rfl, ⟨by omega, by omega⟩, ⟨by omega, by omega⟩, ⟨by omega, by omega⟩, fun q13 => ?_, fun q13 => ?_⟩
  · skip
    refine rn_ireturn C rfl rfl d_M_isPatch_16 ⟨by decide, by decide⟩ ?_
    first | exact k1 (by omega) | exact k2 (by omega)
  · skip
    refine rn_ireturn C rfl rfl d_M_isPatch_16 ⟨by decide, by decide⟩ ?_
    first | exact k1 (by omega) | exact k2 (by omega)

def G_M_pixel (av : List Value) (h : ah_H) (K : ah_R → ah_H → Prop) : Prop := ∃ (pre rest : ah_H) (xth xfo xle xto xri xbo xco xro xqu xnt xfi xsg xrk xdy xce xsu : Int32) (xsq : Int64) (mp : Nat → Int32) (w g x y p v : Int), av = [.ref 21, .int (iI x), .int (iI y), .int (iI p), .int (iI v)] ∧ h = pre ++ cM xth (iI w) (iI g) xfo xle xto xri xbo xco xro xqu xnt xfi xsg xrk xdy xce xsu xsq :: aI 2700 mp :: rest ∧ pre.length = 21 ∧ (inI x) ∧ (inI y) ∧ (inI p) ∧ (inI v) ∧ (6 ≤ w ∧ w ≤ 30 ∧ 6 ≤ g ∧ g ≤ 30) ∧ (¬ (0 ≤ x ∧ x < w ∧ 0 ≤ y ∧ y < g ∧ 0 ≤ p ∧ p ≤ 2) → K (.inl (some (.int (iI 0)))) (pre ++ cM (iI 1) (iI w) (iI g) xfo xle xto xri xbo xco xro xqu xnt xfi xsg xrk xdy xce xsu xsq :: aI 2700 mp :: rest)) ∧ ((0 ≤ x ∧ x < w ∧ 0 ≤ y ∧ y < g ∧ 0 ≤ p ∧ p ≤ 2) → ¬ (0 ≤ v ∧ v ≤ 255) → K (.inl (some (.int (iI 0)))) (pre ++ cM (iI 2) (iI w) (iI g) xfo xle xto xri xbo xco xro xqu xnt xfi xsg xrk xdy xce xsu xsq :: aI 2700 mp :: rest)) ∧ ((0 ≤ x ∧ x < w ∧ 0 ≤ y ∧ y < g ∧ 0 ≤ p ∧ p ≤ 2) → (0 ≤ v ∧ v ≤ 255) → K (.inl (some (.int (mp (3 * (30 * y + x) + p).toNat)))) (pre ++ cM (iI 0) (iI w) (iI g) xfo xle xto xri xbo xco xro xqu xnt xfi xsg xrk xdy xce xsu xsq :: aI 2700 (upd mp (3 * (30 * y + x) + p).toNat (iI v)) :: rest))
set_option maxHeartbeats 4000000 in
set_option maxRecDepth 100000 in
theorem c_M_pixel (l : Launch) : rn_Met l y_M_pixel wc_M_pixel { frames := 3, cells := 0, slots := 0, locals := 44 } G_M_pixel := by
  refine rn_in mw_M_pixel.1 (by decide +kernel) ?_ ?_
  · intro _ av h K hG
    obtain ⟨pre, rest, xth, xfo, xle, xto, xri, xbo, xco, xro, xqu, xnt, xfi, xsg, xrk, xdy, xce, xsu, xsq, mp, w, g, x, y, p_, v, rfl, rfl, hp, hc0, hc1, hc2, hc3, hc4, k1, k2, k3⟩ := hG
    exact Nat.le_of_ble_eq_true rfl
  intro p e s m args below meth c z sa D dA av h K hadm C hG
  obtain ⟨pre, rest, xth, xfo, xle, xto, xri, xbo, xco, xro, xqu, xnt, xfi, xsg, xrk, xdy, xce, xsu, xsq, mp, w, g, x, y, p_, v, rfl, rfl, hp, hc0, hc1, hc2, hc3, hc4, k1, k2, k3⟩ := hG
  have hc0a := hc0.1
  have hc0b := hc0.2
  have hc1a := hc1.1
  have hc1b := hc1.2
  have hc2a := hc2.1
  have hc2b := hc2.2
  have hc3a := hc3.1
  have hc3b := hc3.2
  refine rn_aload_n C d_M_pixel_0 rfl ?_
  refine rn_iload_n C d_M_pixel_1 rfl ?_
  refine rn_iload_n C d_M_pixel_2 rfl ?_
  refine rn_cV C (c_M_isCell l) mw_M_isCell k_M_74 d_M_pixel_3 rfl (mH 0 hp rfl rfl) rfl (Nat.le_of_ble_eq_true rfl) (Nat.le_of_ble_eq_true rfl) ⟨by decide, by decide⟩ ⟨by decide, by decide⟩ ?_
  refine ⟨_, _, _, _, _, _, _, _, _, _, _, _, _, _, _, _, _, _, _, _, _, _, _, rfl, rfl, hp, ⟨by omega, by omega⟩, ⟨by omega, by omega⟩, (by omega), fun q3 => ?_, fun q3 => ?_⟩
  · skip
    refine rn_if_eq C 22 d_M_pixel_6 (by decide) (fun q => absurd q (by decide)) (fun _ => ?_)
    refine rn_iload_n C d_M_pixel_9 rfl ?_
    refine rn_iconst C (iI 0) d_M_pixel_10 (by decide) ?_
    refine rn_iconst C (iI 2) d_M_pixel_11 (by decide) ?_
    refine rn_cS C (c2_M_within l) mw_M_within k_M_70 d_M_pixel_12 (Nat.le_of_ble_eq_true rfl) (Nat.le_of_ble_eq_true rfl) ⟨by decide, by decide⟩ ⟨by decide, by decide⟩ ?_
    refine ⟨_, _, _, rfl, ⟨by omega, by omega⟩, ⟨by omega, by omega⟩, ⟨by omega, by omega⟩, fun q12 => ?_, fun q12 => ?_⟩
    · skip
      refine rn_if_eq C 22 d_M_pixel_15 (by decide) (fun q => absurd q (by decide)) (fun _ => ?_)
      refine rn_iconst C (iI 1) d_M_pixel_18 (by decide) ?_
      refine rn_goto C 23 d_M_pixel_19 (by decide) ?_
      refine rn_istore C d_M_pixel_23 (by decide) ?_
      refine rn_aload_n C d_M_pixel_25 rfl ?_
      refine rn_iload C d_M_pixel_26 rfl ?_
      refine rn_iload C d_M_pixel_28 rfl ?_
      refine rn_iconst C (iI 0) d_M_pixel_30 (by decide) ?_
      refine rn_sipush C (iI 255) d_M_pixel_31 (by decide) ?_
      refine rn_cS C (c2_M_within l) mw_M_within k_M_70 d_M_pixel_34 (Nat.le_of_ble_eq_true rfl) (Nat.le_of_ble_eq_true rfl) ⟨by decide, by decide⟩ ⟨by decide, by decide⟩ ?_
      refine ⟨_, _, _, rfl, ⟨by omega, by omega⟩, ⟨by omega, by omega⟩, ⟨by omega, by omega⟩, fun q34 => ?_, fun q34 => ?_⟩
      · skip
        refine rn_iconst C (iI 1) d_M_pixel_37 (by decide) ?_
        refine rn_cV C (c_M_goes l) mw_M_goes k_M_78 d_M_pixel_38 rfl (mH 0 hp rfl rfl) rfl (Nat.le_of_ble_eq_true rfl) (Nat.le_of_ble_eq_true rfl) ⟨by decide, by decide⟩ ⟨by decide, by decide⟩ ?_
        refine ⟨_, _, _, _, _, _, _, _, _, _, _, _, _, _, _, _, _, _, _, _, _, _, _, _, rfl, rfl, hp, ?_⟩
        refine rn_if_ne C 46 d_M_pixel_41 (by decide) (fun _ => ?_) (fun q => absurd q (by decide))
        refine rn_iconst C (iI 3) d_M_pixel_46 (by decide) ?_
        refine rn_bipush C (iI 30) d_M_pixel_47 (by decide) ?_
        refine rn_iload_n C d_M_pixel_49 rfl ?_
        refine rn_imul C d_M_pixel_50 ?_
        refine rn_iload_n C d_M_pixel_51 rfl ?_
        refine rn_iadd C d_M_pixel_52 ?_
        refine rn_imul C d_M_pixel_53 ?_
        refine rn_iload_n C d_M_pixel_54 rfl ?_
        refine rn_iadd C d_M_pixel_55 ?_
        rw [iI_mul, iI_add, iI_mul, iI_add]
        refine rn_istore C d_M_pixel_56 (by decide) ?_
        refine rn_aload_n C d_M_pixel_58 rfl ?_
        refine rn_getM C hp f_M_7 d_M_pixel_59 rfl ?_
        refine rn_iload C d_M_pixel_62 rfl ?_
        refine rn_iaM C hp (j := 1) d_M_pixel_64 rfl rfl (iI_vin (by omega) (by omega) (by omega)) ?_
        rw [iI_nat (by omega) (by omega)]
        refine rn_istore C d_M_pixel_65 (by decide) ?_
        refine rn_aload_n C d_M_pixel_67 rfl ?_
        refine rn_getM C hp f_M_7 d_M_pixel_68 rfl ?_
        refine rn_iload C d_M_pixel_71 rfl ?_
        refine rn_iload C d_M_pixel_73 rfl ?_
        refine rn_isM C hp (j := 1) d_M_pixel_75 rfl rfl (iI_vin (by omega) (by omega) (by omega)) rfl ?_
        rw [iI_nat (by omega) (by omega)]
        refine rn_iload C d_M_pixel_76 rfl ?_
        refine rn_ireturn C rfl rfl d_M_pixel_78 ⟨by decide, by decide⟩ ?_
        exact k3 (by omega) (by omega)
      · skip
        refine rn_iconst C (iI 1) d_M_pixel_37 (by decide) ?_
        refine rn_cV C (c_M_goes l) mw_M_goes k_M_78 d_M_pixel_38 rfl (mH 0 hp rfl rfl) rfl (Nat.le_of_ble_eq_true rfl) (Nat.le_of_ble_eq_true rfl) ⟨by decide, by decide⟩ ⟨by decide, by decide⟩ ?_
        refine ⟨_, _, _, _, _, _, _, _, _, _, _, _, _, _, _, _, _, _, _, _, _, _, _, _, rfl, rfl, hp, ?_⟩
        refine rn_if_ne C 46 d_M_pixel_41 (by decide) (fun q => absurd rfl q) (fun _ => ?_)
        refine rn_iconst C (iI 0) d_M_pixel_44 (by decide) ?_
        refine rn_ireturn C rfl rfl d_M_pixel_45 ⟨by decide, by decide⟩ ?_
        first | exact k1 (by omega) | exact k2 (by omega) (by omega)
    · skip
      refine rn_if_eq C 22 d_M_pixel_15 (by decide) (fun _ => ?_) (fun q => absurd rfl q)
      refine rn_iconst C (iI 0) d_M_pixel_22 (by decide) ?_
      refine rn_istore C d_M_pixel_23 (by decide) ?_
      refine rn_aload_n C d_M_pixel_25 rfl ?_
      refine rn_iload C d_M_pixel_26 rfl ?_
      refine rn_iload C d_M_pixel_28 rfl ?_
      refine rn_iconst C (iI 0) d_M_pixel_30 (by decide) ?_
      refine rn_sipush C (iI 255) d_M_pixel_31 (by decide) ?_
      refine rn_cS C (c2_M_within l) mw_M_within k_M_70 d_M_pixel_34 (Nat.le_of_ble_eq_true rfl) (Nat.le_of_ble_eq_true rfl) ⟨by decide, by decide⟩ ⟨by decide, by decide⟩ ?_
      refine ⟨_, _, _, rfl, ⟨by omega, by omega⟩, ⟨by omega, by omega⟩, ⟨by omega, by omega⟩, fun q34 => ?_, fun q34 => ?_⟩
      · skip
        refine rn_iconst C (iI 1) d_M_pixel_37 (by decide) ?_
        refine rn_cV C (c_M_goes l) mw_M_goes k_M_78 d_M_pixel_38 rfl (mH 0 hp rfl rfl) rfl (Nat.le_of_ble_eq_true rfl) (Nat.le_of_ble_eq_true rfl) ⟨by decide, by decide⟩ ⟨by decide, by decide⟩ ?_
        refine ⟨_, _, _, _, _, _, _, _, _, _, _, _, _, _, _, _, _, _, _, _, _, _, _, _, rfl, rfl, hp, ?_⟩
        refine rn_if_ne C 46 d_M_pixel_41 (by decide) (fun q => absurd rfl q) (fun _ => ?_)
        refine rn_iconst C (iI 0) d_M_pixel_44 (by decide) ?_
        refine rn_ireturn C rfl rfl d_M_pixel_45 ⟨by decide, by decide⟩ ?_
        first | exact k1 (by omega) | exact k2 (by omega) (by omega)
      · skip
        refine rn_iconst C (iI 1) d_M_pixel_37 (by decide) ?_
        refine rn_cV C (c_M_goes l) mw_M_goes k_M_78 d_M_pixel_38 rfl (mH 0 hp rfl rfl) rfl (Nat.le_of_ble_eq_true rfl) (Nat.le_of_ble_eq_true rfl) ⟨by decide, by decide⟩ ⟨by decide, by decide⟩ ?_
        refine ⟨_, _, _, _, _, _, _, _, _, _, _, _, _, _, _, _, _, _, _, _, _, _, _, _, rfl, rfl, hp, ?_⟩
        refine rn_if_ne C 46 d_M_pixel_41 (by decide) (fun q => absurd rfl q) (fun _ => ?_)
        refine rn_iconst C (iI 0) d_M_pixel_44 (by decide) ?_
        refine rn_ireturn C rfl rfl d_M_pixel_45 ⟨by decide, by decide⟩ ?_
        first | exact k1 (by omega) | exact k2 (by omega) (by omega)
  · skip
    refine rn_if_eq C 22 d_M_pixel_6 (by decide) (fun _ => ?_) (fun q => absurd rfl q)
    refine rn_iconst C (iI 0) d_M_pixel_22 (by decide) ?_
    refine rn_istore C d_M_pixel_23 (by decide) ?_
    refine rn_aload_n C d_M_pixel_25 rfl ?_
    refine rn_iload C d_M_pixel_26 rfl ?_
    refine rn_iload C d_M_pixel_28 rfl ?_
    refine rn_iconst C (iI 0) d_M_pixel_30 (by decide) ?_
    refine rn_sipush C (iI 255) d_M_pixel_31 (by decide) ?_
    refine rn_cS C (c2_M_within l) mw_M_within k_M_70 d_M_pixel_34 (Nat.le_of_ble_eq_true rfl) (Nat.le_of_ble_eq_true rfl) ⟨by decide, by decide⟩ ⟨by decide, by decide⟩ ?_
    refine ⟨_, _, _, rfl, ⟨by omega, by omega⟩, ⟨by omega, by omega⟩, ⟨by omega, by omega⟩, fun q34 => ?_, fun q34 => ?_⟩
    · skip
      refine rn_iconst C (iI 1) d_M_pixel_37 (by decide) ?_
      refine rn_cV C (c_M_goes l) mw_M_goes k_M_78 d_M_pixel_38 rfl (mH 0 hp rfl rfl) rfl (Nat.le_of_ble_eq_true rfl) (Nat.le_of_ble_eq_true rfl) ⟨by decide, by decide⟩ ⟨by decide, by decide⟩ ?_
      refine ⟨_, _, _, _, _, _, _, _, _, _, _, _, _, _, _, _, _, _, _, _, _, _, _, _, rfl, rfl, hp, ?_⟩
      refine rn_if_ne C 46 d_M_pixel_41 (by decide) (fun q => absurd rfl q) (fun _ => ?_)
      refine rn_iconst C (iI 0) d_M_pixel_44 (by decide) ?_
      refine rn_ireturn C rfl rfl d_M_pixel_45 ⟨by decide, by decide⟩ ?_
      first | exact k1 (by omega) | exact k2 (by omega) (by omega)
    · skip
      refine rn_iconst C (iI 1) d_M_pixel_37 (by decide) ?_
      refine rn_cV C (c_M_goes l) mw_M_goes k_M_78 d_M_pixel_38 rfl (mH 0 hp rfl rfl) rfl (Nat.le_of_ble_eq_true rfl) (Nat.le_of_ble_eq_true rfl) ⟨by decide, by decide⟩ ⟨by decide, by decide⟩ ?_
      refine ⟨_, _, _, _, _, _, _, _, _, _, _, _, _, _, _, _, _, _, _, _, _, _, _, _, rfl, rfl, hp, ?_⟩
      refine rn_if_ne C 46 d_M_pixel_41 (by decide) (fun q => absurd rfl q) (fun _ => ?_)
      refine rn_iconst C (iI 0) d_M_pixel_44 (by decide) ?_
      refine rn_ireturn C rfl rfl d_M_pixel_45 ⟨by decide, by decide⟩ ?_
      first | exact k1 (by omega) | exact k2 (by omega) (by omega)

def G_M_light (av : List Value) (h : ah_H) (K : ah_R → ah_H → Prop) : Prop := ∃ (pre rest : ah_H) (xth xfo xle xto xri xbo xco xro xqu xnt xfi xsg xrk xdy xce xsu : Int32) (xsq : Int64) (mp ml : Nat → Int32) (w g x y v : Int), av = [.ref 21, .int (iI x), .int (iI y), .int (iI v)] ∧ h = pre ++ cM xth (iI w) (iI g) xfo xle xto xri xbo xco xro xqu xnt xfi xsg xrk xdy xce xsu xsq :: aI 2700 mp :: aI 900 ml :: rest ∧ pre.length = 21 ∧ (inI x) ∧ (inI y) ∧ (inI v) ∧ (6 ≤ w ∧ w ≤ 30 ∧ 6 ≤ g ∧ g ≤ 30) ∧ (¬ (0 ≤ x ∧ x < w ∧ 0 ≤ y ∧ y < g) → K (.inl (some (.int (iI 0)))) (pre ++ cM (iI 1) (iI w) (iI g) xfo xle xto xri xbo xco xro xqu xnt xfi xsg xrk xdy xce xsu xsq :: aI 2700 mp :: aI 900 ml :: rest)) ∧ ((0 ≤ x ∧ x < w ∧ 0 ≤ y ∧ y < g) → ¬ (0 ≤ v ∧ v ≤ 255) → K (.inl (some (.int (iI 0)))) (pre ++ cM (iI 2) (iI w) (iI g) xfo xle xto xri xbo xco xro xqu xnt xfi xsg xrk xdy xce xsu xsq :: aI 2700 mp :: aI 900 ml :: rest)) ∧ ((0 ≤ x ∧ x < w ∧ 0 ≤ y ∧ y < g) → (0 ≤ v ∧ v ≤ 255) → K (.inl (some (.int (ml (30 * y + x).toNat)))) (pre ++ cM (iI 0) (iI w) (iI g) xfo xle xto xri xbo xco xro xqu xnt xfi xsg xrk xdy xce xsu xsq :: aI 2700 mp :: aI 900 (upd ml (30 * y + x).toNat (iI v)) :: rest))
set_option maxHeartbeats 4000000 in
set_option maxRecDepth 100000 in
theorem c_M_light (l : Launch) : rn_Met l y_M_light wc_M_light { frames := 3, cells := 0, slots := 0, locals := 44 } G_M_light := by
  refine rn_in mw_M_light.1 (by decide +kernel) ?_ ?_
  · intro _ av h K hG
    obtain ⟨pre, rest, xth, xfo, xle, xto, xri, xbo, xco, xro, xqu, xnt, xfi, xsg, xrk, xdy, xce, xsu, xsq, mp, ml, w, g, x, y, v, rfl, rfl, hp, hc0, hc1, hc2, hc3, k1, k2, k3⟩ := hG
    exact Nat.le_of_ble_eq_true rfl
  intro p e s m args below meth c z sa D dA av h K hadm C hG
  obtain ⟨pre, rest, xth, xfo, xle, xto, xri, xbo, xco, xro, xqu, xnt, xfi, xsg, xrk, xdy, xce, xsu, xsq, mp, ml, w, g, x, y, v, rfl, rfl, hp, hc0, hc1, hc2, hc3, k1, k2, k3⟩ := hG
  have hc0a := hc0.1
  have hc0b := hc0.2
  have hc1a := hc1.1
  have hc1b := hc1.2
  have hc2a := hc2.1
  have hc2b := hc2.2
  refine rn_aload_n C d_M_light_0 rfl ?_
  refine rn_aload_n C d_M_light_1 rfl ?_
  refine rn_iload_n C d_M_light_2 rfl ?_
  refine rn_iload_n C d_M_light_3 rfl ?_
  refine rn_cV C (c_M_isCell l) mw_M_isCell k_M_74 d_M_light_4 rfl (mH 0 hp rfl rfl) rfl (Nat.le_of_ble_eq_true rfl) (Nat.le_of_ble_eq_true rfl) ⟨by decide, by decide⟩ ⟨by decide, by decide⟩ ?_
  refine ⟨_, _, _, _, _, _, _, _, _, _, _, _, _, _, _, _, _, _, _, _, _, _, _, rfl, rfl, hp, ⟨by omega, by omega⟩, ⟨by omega, by omega⟩, (by omega), fun q4 => ?_, fun q4 => ?_⟩
  · skip
    refine rn_iload_n C d_M_light_7 rfl ?_
    refine rn_iconst C (iI 0) d_M_light_8 (by decide) ?_
    refine rn_sipush C (iI 255) d_M_light_9 (by decide) ?_
    refine rn_cS C (c2_M_within l) mw_M_within k_M_70 d_M_light_12 (Nat.le_of_ble_eq_true rfl) (Nat.le_of_ble_eq_true rfl) ⟨by decide, by decide⟩ ⟨by decide, by decide⟩ ?_
    refine ⟨_, _, _, rfl, ⟨by omega, by omega⟩, ⟨by omega, by omega⟩, ⟨by omega, by omega⟩, fun q12 => ?_, fun q12 => ?_⟩
    · skip
      refine rn_iconst C (iI 1) d_M_light_15 (by decide) ?_
      refine rn_cV C (c_M_goes l) mw_M_goes k_M_78 d_M_light_16 rfl (mH 0 hp rfl rfl) rfl (Nat.le_of_ble_eq_true rfl) (Nat.le_of_ble_eq_true rfl) ⟨by decide, by decide⟩ ⟨by decide, by decide⟩ ?_
      refine ⟨_, _, _, _, _, _, _, _, _, _, _, _, _, _, _, _, _, _, _, _, _, _, _, _, rfl, rfl, hp, ?_⟩
      refine rn_if_ne C 24 d_M_light_19 (by decide) (fun _ => ?_) (fun q => absurd q (by decide))
      refine rn_aload_n C d_M_light_24 rfl ?_
      refine rn_getM C hp f_M_13 d_M_light_25 rfl ?_
      refine rn_bipush C (iI 30) d_M_light_28 (by decide) ?_
      refine rn_iload_n C d_M_light_30 rfl ?_
      refine rn_imul C d_M_light_31 ?_
      refine rn_iload_n C d_M_light_32 rfl ?_
      refine rn_iadd C d_M_light_33 ?_
      rw [iI_mul, iI_add]
      refine rn_iaM C hp (j := 2) d_M_light_34 rfl rfl (iI_vin (by omega) (by omega) (by omega)) ?_
      rw [iI_nat (by omega) (by omega)]
      refine rn_istore C d_M_light_35 (by decide) ?_
      refine rn_aload_n C d_M_light_37 rfl ?_
      refine rn_getM C hp f_M_13 d_M_light_38 rfl ?_
      refine rn_bipush C (iI 30) d_M_light_41 (by decide) ?_
      refine rn_iload_n C d_M_light_43 rfl ?_
      refine rn_imul C d_M_light_44 ?_
      refine rn_iload_n C d_M_light_45 rfl ?_
      refine rn_iadd C d_M_light_46 ?_
      refine rn_iload_n C d_M_light_47 rfl ?_
      rw [iI_mul, iI_add]
      refine rn_isM C hp (j := 2) d_M_light_48 rfl rfl (iI_vin (by omega) (by omega) (by omega)) rfl ?_
      rw [iI_nat (by omega) (by omega)]
      refine rn_iload C d_M_light_49 rfl ?_
      refine rn_ireturn C rfl rfl d_M_light_51 ⟨by decide, by decide⟩ ?_
      exact k3 (by omega) (by omega)
    · skip
      refine rn_iconst C (iI 1) d_M_light_15 (by decide) ?_
      refine rn_cV C (c_M_goes l) mw_M_goes k_M_78 d_M_light_16 rfl (mH 0 hp rfl rfl) rfl (Nat.le_of_ble_eq_true rfl) (Nat.le_of_ble_eq_true rfl) ⟨by decide, by decide⟩ ⟨by decide, by decide⟩ ?_
      refine ⟨_, _, _, _, _, _, _, _, _, _, _, _, _, _, _, _, _, _, _, _, _, _, _, _, rfl, rfl, hp, ?_⟩
      refine rn_if_ne C 24 d_M_light_19 (by decide) (fun q => absurd rfl q) (fun _ => ?_)
      refine rn_iconst C (iI 0) d_M_light_22 (by decide) ?_
      refine rn_ireturn C rfl rfl d_M_light_23 ⟨by decide, by decide⟩ ?_
      first | exact k1 (by omega) | exact k2 (by omega) (by omega)
  · skip
    refine rn_iload_n C d_M_light_7 rfl ?_
    refine rn_iconst C (iI 0) d_M_light_8 (by decide) ?_
    refine rn_sipush C (iI 255) d_M_light_9 (by decide) ?_
    refine rn_cS C (c2_M_within l) mw_M_within k_M_70 d_M_light_12 (Nat.le_of_ble_eq_true rfl) (Nat.le_of_ble_eq_true rfl) ⟨by decide, by decide⟩ ⟨by decide, by decide⟩ ?_
    refine ⟨_, _, _, rfl, ⟨by omega, by omega⟩, ⟨by omega, by omega⟩, ⟨by omega, by omega⟩, fun q12 => ?_, fun q12 => ?_⟩
    · skip
      refine rn_iconst C (iI 1) d_M_light_15 (by decide) ?_
      refine rn_cV C (c_M_goes l) mw_M_goes k_M_78 d_M_light_16 rfl (mH 0 hp rfl rfl) rfl (Nat.le_of_ble_eq_true rfl) (Nat.le_of_ble_eq_true rfl) ⟨by decide, by decide⟩ ⟨by decide, by decide⟩ ?_
      refine ⟨_, _, _, _, _, _, _, _, _, _, _, _, _, _, _, _, _, _, _, _, _, _, _, _, rfl, rfl, hp, ?_⟩
      refine rn_if_ne C 24 d_M_light_19 (by decide) (fun q => absurd rfl q) (fun _ => ?_)
      refine rn_iconst C (iI 0) d_M_light_22 (by decide) ?_
      refine rn_ireturn C rfl rfl d_M_light_23 ⟨by decide, by decide⟩ ?_
      first | exact k1 (by omega) | exact k2 (by omega) (by omega)
    · skip
      refine rn_iconst C (iI 1) d_M_light_15 (by decide) ?_
      refine rn_cV C (c_M_goes l) mw_M_goes k_M_78 d_M_light_16 rfl (mH 0 hp rfl rfl) rfl (Nat.le_of_ble_eq_true rfl) (Nat.le_of_ble_eq_true rfl) ⟨by decide, by decide⟩ ⟨by decide, by decide⟩ ?_
      refine ⟨_, _, _, _, _, _, _, _, _, _, _, _, _, _, _, _, _, _, _, _, _, _, _, _, rfl, rfl, hp, ?_⟩
      refine rn_if_ne C 24 d_M_light_19 (by decide) (fun q => absurd rfl q) (fun _ => ?_)
      refine rn_iconst C (iI 0) d_M_light_22 (by decide) ?_
      refine rn_ireturn C rfl rfl d_M_light_23 ⟨by decide, by decide⟩ ?_
      first | exact k1 (by omega) | exact k2 (by omega) (by omega)

def G_M_litOf (av : List Value) (h : ah_H) (K : ah_R → ah_H → Prop) : Prop := ∃ (pre rest : ah_H) (xth xw xg xfo xle xto xri xbo xco xro xqu xnt xfi xsg xrk xdy xce xsu : Int32) (xsq : Int64) (mp ml : Nat → Int32) (x y p : Int) (pic : Int → Int → Int → Int) (lig : Int → Int → Int), av = [.ref 21, .int (iI x), .int (iI y), .int (iI p)] ∧ h = pre ++ cM xth xw xg xfo xle xto xri xbo xco xro xqu xnt xfi xsg xrk xdy xce xsu xsq :: aI 2700 mp :: aI 900 ml :: rest ∧ pre.length = 21 ∧ (mpOk mp ml pic lig) ∧ (0 ≤ x ∧ x < 30 ∧ 0 ≤ y ∧ y < 30 ∧ 0 ≤ p ∧ p < 3) ∧ (K (.inl (some (.int (iI (ltI pic lig x y p))))) h)
set_option maxHeartbeats 4000000 in
set_option maxRecDepth 100000 in
theorem c_M_litOf (l : Launch) : rn_Met l y_M_litOf wc_M_litOf { frames := 1, cells := 0, slots := 0, locals := 0 } G_M_litOf := by
  refine rn_in mw_M_litOf.1 (by decide +kernel) ?_ ?_
  · intro _ av h K hG
    obtain ⟨pre, rest, xth, xw, xg, xfo, xle, xto, xri, xbo, xco, xro, xqu, xnt, xfi, xsg, xrk, xdy, xce, xsu, xsq, mp, ml, x, y, p_, pic, lig, rfl, rfl, hp, hc0, hc1, k1⟩ := hG
    exact Nat.le_of_ble_eq_true rfl
  intro p e s m args below meth c z sa D dA av h K hadm C hG
  obtain ⟨pre, rest, xth, xw, xg, xfo, xle, xto, xri, xbo, xco, xro, xqu, xnt, xfi, xsg, xrk, xdy, xce, xsu, xsq, mp, ml, x, y, p_, pic, lig, rfl, rfl, hp, hc0, hc1, k1⟩ := hG
  obtain ⟨mp1, ml1, bp, bl⟩ := hc0
  have bpx := bp x y p_
  have blx := bl x y
  have el := ml1 x y (by omega) (by omega) (by omega) (by omega)
  have ep := mp1 x y p_ (by omega) (by omega) (by omega) (by omega) (by omega) (by omega)
  unfold ltI at k1
  refine rn_aload_n C d_M_litOf_0 rfl ?_
  refine rn_getM C hp f_M_13 d_M_litOf_1 rfl ?_
  refine rn_bipush C (iI 30) d_M_litOf_4 (by decide) ?_
  refine rn_iload_n C d_M_litOf_6 rfl ?_
  refine rn_imul C d_M_litOf_7 ?_
  refine rn_iload_n C d_M_litOf_8 rfl ?_
  refine rn_iadd C d_M_litOf_9 ?_
  rw [iI_mul, iI_add]
  refine rn_iaM C hp (j := 2) d_M_litOf_10 rfl rfl (iI_vin (by omega) (by omega) (by omega)) ?_
  rw [iI_nat (by omega) (by omega), el]
  refine rn_istore C d_M_litOf_11 (by decide) ?_
  refine rn_iload C d_M_litOf_13 rfl ?_
  refine rn_if_ne C 20 d_M_litOf_15 (by decide) (fun c15 => ?_) (fun c15 => ?_)
  · skip
    have l0 : ¬ lig x y = 0 := fun q => c15 ((iI_eq0 ⟨by omega, by omega⟩).mpr q)
    rw [if_neg l0] at k1
    have hd := div_small (a := 400 * pic x y p_ + lig x y) (b := 2 * lig x y) (by omega) (by omega)
    refine rn_sipush C (iI 400) d_M_litOf_20 (by decide) ?_
    refine rn_aload_n C d_M_litOf_23 rfl ?_
    refine rn_getM C hp f_M_7 d_M_litOf_24 rfl ?_
    refine rn_iconst C (iI 3) d_M_litOf_27 (by decide) ?_
    refine rn_bipush C (iI 30) d_M_litOf_28 (by decide) ?_
    refine rn_iload_n C d_M_litOf_30 rfl ?_
    refine rn_imul C d_M_litOf_31 ?_
    refine rn_iload_n C d_M_litOf_32 rfl ?_
    refine rn_iadd C d_M_litOf_33 ?_
    refine rn_imul C d_M_litOf_34 ?_
    refine rn_iload_n C d_M_litOf_35 rfl ?_
    refine rn_iadd C d_M_litOf_36 ?_
    rw [iI_mul, iI_add, iI_mul, iI_add]
    refine rn_iaM C hp (j := 1) d_M_litOf_37 rfl rfl (iI_vin (by omega) (by omega) (by omega)) ?_
    rw [iI_nat (by omega) (by omega), ep]
    refine rn_imul C d_M_litOf_38 ?_
    refine rn_iload C d_M_litOf_39 rfl ?_
    refine rn_iadd C d_M_litOf_41 ?_
    refine rn_iconst C (iI 2) d_M_litOf_42 (by decide) ?_
    refine rn_iload C d_M_litOf_43 rfl ?_
    refine rn_imul C d_M_litOf_45 ?_
    rw [iI_mul (400 : Int), iI_add, iI_mul]
    refine rn_idiv C d_M_litOf_46 (fun q => l0 (by have := (iI_eq0 ⟨by omega, by omega⟩).mp q; omega)) ?_
    rw [iI_div (by omega) (by omega) (by omega) (by omega)]
    refine rn_istore C d_M_litOf_47 (by decide) ?_
    refine rn_iload C d_M_litOf_49 rfl ?_
    refine rn_sipush C (iI 255) d_M_litOf_51 (by decide) ?_
    refine rn_icmp_le C 63 d_M_litOf_54 (by decide) (fun c54 => ?_) (fun c54 => ?_)
    · skip
      refine rn_iload C d_M_litOf_63 rfl ?_
      refine rn_ireturn C rfl rfl d_M_litOf_65 ⟨by decide, by decide⟩ ?_
      first
        | (have cc := (iI_le ⟨by omega, by omega⟩ ⟨by omega, by omega⟩).mp c54; rw [show min 255 ((400 * pic x y p_ + lig x y) / (2 * lig x y)) = (400 * pic x y p_ + lig x y) / (2 * lig x y) by omega] at k1; exact k1)
        | (have cc : ¬ (400 * pic x y p_ + lig x y) / (2 * lig x y) ≤ 255 := fun q => c54 ((iI_le ⟨by omega, by omega⟩ ⟨by omega, by omega⟩).mpr q); rw [show min 255 ((400 * pic x y p_ + lig x y) / (2 * lig x y)) = 255 by omega] at k1; exact k1)
    · skip
      refine rn_sipush C (iI 255) d_M_litOf_57 (by decide) ?_
      refine rn_goto C 65 d_M_litOf_60 (by decide) ?_
      refine rn_ireturn C rfl rfl d_M_litOf_65 ⟨by decide, by decide⟩ ?_
      first
        | (have cc := (iI_le ⟨by omega, by omega⟩ ⟨by omega, by omega⟩).mp c54; rw [show min 255 ((400 * pic x y p_ + lig x y) / (2 * lig x y)) = (400 * pic x y p_ + lig x y) / (2 * lig x y) by omega] at k1; exact k1)
        | (have cc : ¬ (400 * pic x y p_ + lig x y) / (2 * lig x y) ≤ 255 := fun q => c54 ((iI_le ⟨by omega, by omega⟩ ⟨by omega, by omega⟩).mpr q); rw [show min 255 ((400 * pic x y p_ + lig x y) / (2 * lig x y)) = 255 by omega] at k1; exact k1)
  · skip
    refine rn_iconst C (iI 0) d_M_litOf_18 (by decide) ?_
    refine rn_ireturn C rfl rfl d_M_litOf_19 ⟨by decide, by decide⟩ ?_
    rw [if_pos ((iI_eq0 ⟨by omega, by omega⟩).mp c15)] at k1
    exact k1

def G_M_lit (av : List Value) (h : ah_H) (K : ah_R → ah_H → Prop) : Prop := ∃ (pre rest : ah_H) (xth xfo xle xto xri xbo xco xro xqu xnt xfi xsg xrk xdy xce xsu : Int32) (xsq : Int64) (mp ml : Nat → Int32) (w g x y p : Int) (pic : Int → Int → Int → Int) (lig : Int → Int → Int), av = [.ref 21, .int (iI x), .int (iI y), .int (iI p)] ∧ h = pre ++ cM xth (iI w) (iI g) xfo xle xto xri xbo xco xro xqu xnt xfi xsg xrk xdy xce xsu xsq :: aI 2700 mp :: aI 900 ml :: rest ∧ pre.length = 21 ∧ (inI x) ∧ (inI y) ∧ (inI p) ∧ (6 ≤ w ∧ w ≤ 30 ∧ 6 ≤ g ∧ g ≤ 30) ∧ (mpOk mp ml pic lig) ∧ (¬ (0 ≤ x ∧ x < w ∧ 0 ≤ y ∧ y < g ∧ 0 ≤ p ∧ p ≤ 2) → K (.inl (some (.int (iI 0)))) (pre ++ cM (iI 1) (iI w) (iI g) xfo xle xto xri xbo xco xro xqu xnt xfi xsg xrk xdy xce xsu xsq :: aI 2700 mp :: aI 900 ml :: rest)) ∧ ((0 ≤ x ∧ x < w ∧ 0 ≤ y ∧ y < g ∧ 0 ≤ p ∧ p ≤ 2) → K (.inl (some (.int (iI (ltI pic lig x y p))))) (pre ++ cM (iI 0) (iI w) (iI g) xfo xle xto xri xbo xco xro xqu xnt xfi xsg xrk xdy xce xsu xsq :: aI 2700 mp :: aI 900 ml :: rest))
set_option maxHeartbeats 4000000 in
set_option maxRecDepth 100000 in
theorem c_M_lit (l : Launch) : rn_Met l y_M_lit wc_M_lit { frames := 3, cells := 0, slots := 0, locals := 44 } G_M_lit := by
  refine rn_in mw_M_lit.1 (by decide +kernel) ?_ ?_
  · intro _ av h K hG
    obtain ⟨pre, rest, xth, xfo, xle, xto, xri, xbo, xco, xro, xqu, xnt, xfi, xsg, xrk, xdy, xce, xsu, xsq, mp, ml, w, g, x, y, p_, pic, lig, rfl, rfl, hp, hc0, hc1, hc2, hc3, hc4, k1, k2⟩ := hG
    exact Nat.le_of_ble_eq_true rfl
  intro p e s m args below meth c z sa D dA av h K hadm C hG
  obtain ⟨pre, rest, xth, xfo, xle, xto, xri, xbo, xco, xro, xqu, xnt, xfi, xsg, xrk, xdy, xce, xsu, xsq, mp, ml, w, g, x, y, p_, pic, lig, rfl, rfl, hp, hc0, hc1, hc2, hc3, hc4, k1, k2⟩ := hG
  have hc0a := hc0.1
  have hc0b := hc0.2
  have hc1a := hc1.1
  have hc1b := hc1.2
  have hc2a := hc2.1
  have hc2b := hc2.2
  refine rn_aload_n C d_M_lit_0 rfl ?_
  refine rn_aload_n C d_M_lit_1 rfl ?_
  refine rn_iload_n C d_M_lit_2 rfl ?_
  refine rn_iload_n C d_M_lit_3 rfl ?_
  refine rn_cV C (c_M_isCell l) mw_M_isCell k_M_74 d_M_lit_4 rfl (mH 0 hp rfl rfl) rfl (Nat.le_of_ble_eq_true rfl) (Nat.le_of_ble_eq_true rfl) ⟨by decide, by decide⟩ ⟨by decide, by decide⟩ ?_
  refine ⟨_, _, _, _, _, _, _, _, _, _, _, _, _, _, _, _, _, _, _, _, _, _, _, rfl, rfl, hp, ⟨by omega, by omega⟩, ⟨by omega, by omega⟩, (by omega), fun q4 => ?_, fun q4 => ?_⟩
  · skip
    refine rn_if_eq C 23 d_M_lit_7 (by decide) (fun q => absurd q (by decide)) (fun _ => ?_)
    refine rn_iload_n C d_M_lit_10 rfl ?_
    refine rn_iconst C (iI 0) d_M_lit_11 (by decide) ?_
    refine rn_iconst C (iI 2) d_M_lit_12 (by decide) ?_
    refine rn_cS C (c2_M_within l) mw_M_within k_M_70 d_M_lit_13 (Nat.le_of_ble_eq_true rfl) (Nat.le_of_ble_eq_true rfl) ⟨by decide, by decide⟩ ⟨by decide, by decide⟩ ?_
    refine ⟨_, _, _, rfl, ⟨by omega, by omega⟩, ⟨by omega, by omega⟩, ⟨by omega, by omega⟩, fun q13 => ?_, fun q13 => ?_⟩
    · skip
      refine rn_if_eq C 23 d_M_lit_16 (by decide) (fun q => absurd q (by decide)) (fun _ => ?_)
      refine rn_iconst C (iI 1) d_M_lit_19 (by decide) ?_
      refine rn_goto C 24 d_M_lit_20 (by decide) ?_
      refine rn_iconst C (iI 1) d_M_lit_24 (by decide) ?_
      refine rn_iconst C (iI 1) d_M_lit_25 (by decide) ?_
      refine rn_cV C (c_M_goes l) mw_M_goes k_M_78 d_M_lit_26 rfl (mH 0 hp rfl rfl) rfl (Nat.le_of_ble_eq_true rfl) (Nat.le_of_ble_eq_true rfl) ⟨by decide, by decide⟩ ⟨by decide, by decide⟩ ?_
      refine ⟨_, _, _, _, _, _, _, _, _, _, _, _, _, _, _, _, _, _, _, _, _, _, _, _, rfl, rfl, hp, ?_⟩
      refine rn_if_eq C 42 d_M_lit_29 (by decide) (fun q => absurd q (by decide)) (fun _ => ?_)
      refine rn_aload_n C d_M_lit_32 rfl ?_
      refine rn_iload_n C d_M_lit_33 rfl ?_
      refine rn_iload_n C d_M_lit_34 rfl ?_
      refine rn_iload_n C d_M_lit_35 rfl ?_
      refine rn_cV C (c_M_litOf l) mw_M_litOf k_M_82 d_M_lit_36 rfl (mH 0 hp rfl rfl) rfl (Nat.le_of_ble_eq_true rfl) (Nat.le_of_ble_eq_true rfl) ⟨by decide, by decide⟩ ⟨by decide, by decide⟩ ?_
      refine ⟨_, _, _, _, _, _, _, _, _, _, _, _, _, _, _, _, _, _, _, _, _, _, _, _, _, _, _, _, rfl, rfl, hp, hc4, by omega, ?_⟩
      refine rn_goto C 43 d_M_lit_39 (by decide) ?_
      refine rn_ireturn C rfl rfl d_M_lit_43 ⟨by decide, by decide⟩ ?_
      first | exact k1 (by omega) | exact k2 (by omega)
    · skip
      refine rn_if_eq C 23 d_M_lit_16 (by decide) (fun _ => ?_) (fun q => absurd rfl q)
      refine rn_iconst C (iI 0) d_M_lit_23 (by decide) ?_
      refine rn_iconst C (iI 1) d_M_lit_24 (by decide) ?_
      refine rn_iconst C (iI 1) d_M_lit_25 (by decide) ?_
      refine rn_cV C (c_M_goes l) mw_M_goes k_M_78 d_M_lit_26 rfl (mH 0 hp rfl rfl) rfl (Nat.le_of_ble_eq_true rfl) (Nat.le_of_ble_eq_true rfl) ⟨by decide, by decide⟩ ⟨by decide, by decide⟩ ?_
      refine ⟨_, _, _, _, _, _, _, _, _, _, _, _, _, _, _, _, _, _, _, _, _, _, _, _, rfl, rfl, hp, ?_⟩
      refine rn_if_eq C 42 d_M_lit_29 (by decide) (fun _ => ?_) (fun q => absurd rfl q)
      refine rn_iconst C (iI 0) d_M_lit_42 (by decide) ?_
      refine rn_ireturn C rfl rfl d_M_lit_43 ⟨by decide, by decide⟩ ?_
      first | exact k1 (by omega) | exact k2 (by omega)
  · skip
    refine rn_if_eq C 23 d_M_lit_7 (by decide) (fun _ => ?_) (fun q => absurd rfl q)
    refine rn_iconst C (iI 0) d_M_lit_23 (by decide) ?_
    refine rn_iconst C (iI 1) d_M_lit_24 (by decide) ?_
    refine rn_iconst C (iI 1) d_M_lit_25 (by decide) ?_
    refine rn_cV C (c_M_goes l) mw_M_goes k_M_78 d_M_lit_26 rfl (mH 0 hp rfl rfl) rfl (Nat.le_of_ble_eq_true rfl) (Nat.le_of_ble_eq_true rfl) ⟨by decide, by decide⟩ ⟨by decide, by decide⟩ ?_
    refine ⟨_, _, _, _, _, _, _, _, _, _, _, _, _, _, _, _, _, _, _, _, _, _, _, _, rfl, rfl, hp, ?_⟩
    refine rn_if_eq C 42 d_M_lit_29 (by decide) (fun _ => ?_) (fun q => absurd rfl q)
    refine rn_iconst C (iI 0) d_M_lit_42 (by decide) ?_
    refine rn_ireturn C rfl rfl d_M_lit_43 ⟨by decide, by decide⟩ ?_
    first | exact k1 (by omega) | exact k2 (by omega)

def G_M_isDark (av : List Value) (h : ah_H) (K : ah_R → ah_H → Prop) : Prop := ∃ (pre rest : ah_H) (xth xw xg xfo xle xto xri xbo xco xro xqu xnt xfi xsg xrk xdy xce xsu : Int32) (xsq : Int64) (mp ml : Nat → Int32) (x y : Int) (pic : Int → Int → Int → Int) (lig : Int → Int → Int), av = [.ref 21, .int (iI x), .int (iI y)] ∧ h = pre ++ cM xth xw xg xfo xle xto xri xbo xco xro xqu xnt xfi xsg xrk xdy xce xsu xsq :: aI 2700 mp :: aI 900 ml :: rest ∧ pre.length = 21 ∧ (mpOk mp ml pic lig) ∧ (0 ≤ x ∧ x < 30 ∧ 0 ≤ y ∧ y < 30) ∧ (dk pic x y = true → K (.inl (some (.int (1)))) h) ∧ (¬ dk pic x y = true → K (.inl (some (.int (0)))) h)
set_option maxHeartbeats 4000000 in
set_option maxRecDepth 100000 in
theorem c_M_isDark (l : Launch) : rn_Met l y_M_isDark wc_M_isDark { frames := 1, cells := 0, slots := 0, locals := 0 } G_M_isDark := by
  refine rn_in mw_M_isDark.1 (by decide +kernel) ?_ ?_
  · intro _ av h K hG
    obtain ⟨pre, rest, xth, xw, xg, xfo, xle, xto, xri, xbo, xco, xro, xqu, xnt, xfi, xsg, xrk, xdy, xce, xsu, xsq, mp, ml, x, y, pic, lig, rfl, rfl, hp, hc0, hc1, k1, k2⟩ := hG
    exact Nat.le_of_ble_eq_true rfl
  intro p e s m args below meth c z sa D dA av h K hadm C hG
  obtain ⟨pre, rest, xth, xw, xg, xfo, xle, xto, xri, xbo, xco, xro, xqu, xnt, xfi, xsg, xrk, xdy, xce, xsu, xsq, mp, ml, x, y, pic, lig, rfl, rfl, hp, hc0, hc1, k1, k2⟩ := hG
  obtain ⟨mp1, ml1, bp, bl⟩ := hc0
  have b0 := bp x y 0
  have b1 := bp x y 1
  have b2 := bp x y 2
  have g0 := mp1 x y 0 (by omega) (by omega) (by omega) (by omega) (by omega) (by omega)
  have g1 := mp1 x y 1 (by omega) (by omega) (by omega) (by omega) (by omega) (by omega)
  have g2 := mp1 x y 2 (by omega) (by omega) (by omega) (by omega) (by omega) (by omega)
  have f0 : (iI 40 < iI (pic x y 0)) ↔ 40 < pic x y 0 := iI_lt ⟨by omega, by omega⟩ ⟨by omega, by omega⟩
  have f1 : (iI 40 < iI (pic x y 1)) ↔ 40 < pic x y 1 := iI_lt ⟨by omega, by omega⟩ ⟨by omega, by omega⟩
  have f2 : (iI 40 < iI (pic x y 2)) ↔ 40 < pic x y 2 := iI_lt ⟨by omega, by omega⟩ ⟨by omega, by omega⟩
  unfold dk at k1 k2
  rw [decide_eq_true_iff] at k1 k2
  rw [Int.add_zero] at g0
  refine rn_iconst C (iI 3) d_M_isDark_0 (by decide) ?_
  refine rn_bipush C (iI 30) d_M_isDark_1 (by decide) ?_
  refine rn_iload_n C d_M_isDark_3 rfl ?_
  refine rn_imul C d_M_isDark_4 ?_
  refine rn_iload_n C d_M_isDark_5 rfl ?_
  refine rn_iadd C d_M_isDark_6 ?_
  refine rn_imul C d_M_isDark_7 ?_
  rw [iI_mul, iI_add, iI_mul]
  refine rn_istore_n C d_M_isDark_8 (by decide) ?_
  refine rn_aload_n C d_M_isDark_9 rfl ?_
  refine rn_getM C hp f_M_7 d_M_isDark_10 rfl ?_
  refine rn_iload_n C d_M_isDark_13 rfl ?_
  refine rn_iaM C hp (j := 1) d_M_isDark_14 rfl rfl (iI_vin (by omega) (by omega) (by omega)) ?_
  rw [iI_nat (by omega) (by omega), g0]
  refine rn_bipush C (iI 40) d_M_isDark_15 (by decide) ?_
  refine rn_icmp_gt C 50 d_M_isDark_17 (by decide) (fun c17 => ?_) (fun c17 => ?_)
  · skip
    refine rn_iconst C (iI 0) d_M_isDark_50 (by decide) ?_
    refine rn_ireturn C rfl rfl d_M_isDark_51 ⟨by decide, by decide⟩ ?_
    (try rw [f0] at c17); (try rw [f1] at c30); (try rw [f2] at c43); first | exact k1 (by omega) | exact k2 (by omega)
  · skip
    refine rn_aload_n C d_M_isDark_20 rfl ?_
    refine rn_getM C hp f_M_7 d_M_isDark_21 rfl ?_
    refine rn_iload_n C d_M_isDark_24 rfl ?_
    refine rn_iconst C (iI 1) d_M_isDark_25 (by decide) ?_
    refine rn_iadd C d_M_isDark_26 ?_
    rw [iI_add]
    refine rn_iaM C hp (j := 1) d_M_isDark_27 rfl rfl (iI_vin (by omega) (by omega) (by omega)) ?_
    rw [iI_nat (by omega) (by omega), g1]
    refine rn_bipush C (iI 40) d_M_isDark_28 (by decide) ?_
    refine rn_icmp_gt C 50 d_M_isDark_30 (by decide) (fun c30 => ?_) (fun c30 => ?_)
    · skip
      refine rn_iconst C (iI 0) d_M_isDark_50 (by decide) ?_
      refine rn_ireturn C rfl rfl d_M_isDark_51 ⟨by decide, by decide⟩ ?_
      (try rw [f0] at c17); (try rw [f1] at c30); (try rw [f2] at c43); first | exact k1 (by omega) | exact k2 (by omega)
    · skip
      refine rn_aload_n C d_M_isDark_33 rfl ?_
      refine rn_getM C hp f_M_7 d_M_isDark_34 rfl ?_
      refine rn_iload_n C d_M_isDark_37 rfl ?_
      refine rn_iconst C (iI 2) d_M_isDark_38 (by decide) ?_
      refine rn_iadd C d_M_isDark_39 ?_
      rw [iI_add]
      refine rn_iaM C hp (j := 1) d_M_isDark_40 rfl rfl (iI_vin (by omega) (by omega) (by omega)) ?_
      rw [iI_nat (by omega) (by omega), g2]
      refine rn_bipush C (iI 40) d_M_isDark_41 (by decide) ?_
      refine rn_icmp_gt C 50 d_M_isDark_43 (by decide) (fun c43 => ?_) (fun c43 => ?_)
      · skip
        refine rn_iconst C (iI 0) d_M_isDark_50 (by decide) ?_
        refine rn_ireturn C rfl rfl d_M_isDark_51 ⟨by decide, by decide⟩ ?_
        (try rw [f0] at c17); (try rw [f1] at c30); (try rw [f2] at c43); first | exact k1 (by omega) | exact k2 (by omega)
      · skip
        refine rn_iconst C (iI 1) d_M_isDark_46 (by decide) ?_
        refine rn_goto C 51 d_M_isDark_47 (by decide) ?_
        refine rn_ireturn C rfl rfl d_M_isDark_51 ⟨by decide, by decide⟩ ?_
        (try rw [f0] at c17); (try rw [f1] at c30); (try rw [f2] at c43); first | exact k1 (by omega) | exact k2 (by omega)

def G_M_box (av : List Value) (h : ah_H) (K : ah_R → ah_H → Prop) : Prop := ∃ (pre rest : ah_H) (xth xw xg xco xro xqu xnt xfi xsg xrk xdy xce xsu : Int32) (xsq : Int64) (fo le to ri bo x : Int), av = [.ref 21, .int (iI x)] ∧ h = pre ++ cM xth xw xg (iI fo) (iI le) (iI to) (iI ri) (iI bo) xco xro xqu xnt xfi xsg xrk xdy xce xsu xsq :: rest ∧ pre.length = 21 ∧ (inI x) ∧ (fo = 0 ∨ fo = 1) ∧ (¬ (0 ≤ x ∧ x ≤ 3) → K (.inl (some (.int (iI 0)))) (pre ++ cM (iI 1) xw xg (iI fo) (iI le) (iI to) (iI ri) (iI bo) xco xro xqu xnt xfi xsg xrk xdy xce xsu xsq :: rest)) ∧ ((0 ≤ x ∧ x ≤ 3) → fo = 0 → K (.inl (some (.int (iI 0)))) (pre ++ cM (iI 2) xw xg (iI fo) (iI le) (iI to) (iI ri) (iI bo) xco xro xqu xnt xfi xsg xrk xdy xce xsu xsq :: rest)) ∧ ((0 ≤ x ∧ x ≤ 3) → fo = 1 → x = 0 → K (.inl (some (.int (iI le)))) (pre ++ cM (iI 0) xw xg (iI fo) (iI le) (iI to) (iI ri) (iI bo) xco xro xqu xnt xfi xsg xrk xdy xce xsu xsq :: rest)) ∧ ((0 ≤ x ∧ x ≤ 3) → fo = 1 → x = 1 → K (.inl (some (.int (iI to)))) (pre ++ cM (iI 0) xw xg (iI fo) (iI le) (iI to) (iI ri) (iI bo) xco xro xqu xnt xfi xsg xrk xdy xce xsu xsq :: rest)) ∧ ((0 ≤ x ∧ x ≤ 3) → fo = 1 → x = 2 → K (.inl (some (.int (iI ri)))) (pre ++ cM (iI 0) xw xg (iI fo) (iI le) (iI to) (iI ri) (iI bo) xco xro xqu xnt xfi xsg xrk xdy xce xsu xsq :: rest)) ∧ ((0 ≤ x ∧ x ≤ 3) → fo = 1 → x = 3 → K (.inl (some (.int (iI bo)))) (pre ++ cM (iI 0) xw xg (iI fo) (iI le) (iI to) (iI ri) (iI bo) xco xro xqu xnt xfi xsg xrk xdy xce xsu xsq :: rest))
set_option maxHeartbeats 4000000 in
set_option maxRecDepth 100000 in
theorem c_M_box (l : Launch) : rn_Met l y_M_box wc_M_box { frames := 2, cells := 0, slots := 0, locals := 23 } G_M_box := by
  refine rn_in mw_M_box.1 (by decide +kernel) ?_ ?_
  · intro _ av h K hG
    obtain ⟨pre, rest, xth, xw, xg, xco, xro, xqu, xnt, xfi, xsg, xrk, xdy, xce, xsu, xsq, fo, le, to, ri, bo, x, rfl, rfl, hp, hc0, hc1, k1, k2, k3, k4, k5, k6⟩ := hG
    exact Nat.le_of_ble_eq_true rfl
  intro p e s m args below meth c z sa D dA av h K hadm C hG
  obtain ⟨pre, rest, xth, xw, xg, xco, xro, xqu, xnt, xfi, xsg, xrk, xdy, xce, xsu, xsq, fo, le, to, ri, bo, x, rfl, rfl, hp, hc0, hc1, k1, k2, k3, k4, k5, k6⟩ := hG
  have hc0a := hc0.1
  have hc0b := hc0.2
  rcases hc1 with rfl | rfl
  · skip
    refine rn_aload_n C d_M_box_0 rfl ?_
    refine rn_iload_n C d_M_box_1 rfl ?_
    refine rn_iconst C (iI 0) d_M_box_2 (by decide) ?_
    refine rn_iconst C (iI 3) d_M_box_3 (by decide) ?_
    refine rn_cS C (c2_M_within l) mw_M_within k_M_70 d_M_box_4 (Nat.le_of_ble_eq_true rfl) (Nat.le_of_ble_eq_true rfl) ⟨by decide, by decide⟩ ⟨by decide, by decide⟩ ?_
    refine ⟨_, _, _, rfl, ⟨by omega, by omega⟩, ⟨by omega, by omega⟩, ⟨by omega, by omega⟩, fun q4 => ?_, fun q4 => ?_⟩
    · skip
      refine rn_aload_n C d_M_box_7 rfl ?_
      refine rn_getM C hp f_M_101 d_M_box_8 rfl ?_
      refine rn_iconst C (iI 1) d_M_box_11 (by decide) ?_
      refine rn_cV C (c_M_goes l) mw_M_goes k_M_78 d_M_box_12 rfl (mH 0 hp rfl rfl) rfl (Nat.le_of_ble_eq_true rfl) (Nat.le_of_ble_eq_true rfl) ⟨by decide, by decide⟩ ⟨by decide, by decide⟩ ?_
      refine ⟨_, _, _, _, _, _, _, _, _, _, _, _, _, _, _, _, _, _, _, _, _, _, _, _, rfl, rfl, hp, ?_⟩
      refine rn_if_ne C 20 d_M_box_15 (by decide) (fun q => absurd rfl q) (fun _ => ?_)
      refine rn_iconst C (iI 0) d_M_box_18 (by decide) ?_
      refine rn_ireturn C rfl rfl d_M_box_19 ⟨by decide, by decide⟩ ?_
      (try rw [iI_eq0 hc0] at c21); (try rw [iI_eq hc0 ⟨by omega, by omega⟩] at c33); (try rw [iI_eq hc0 ⟨by omega, by omega⟩] at c45); first | exact k1 (by omega) | exact k2 (by omega) rfl | exact k3 (by omega) rfl (by omega) | exact k4 (by omega) rfl (by omega) | exact k5 (by omega) rfl (by omega) | exact k6 (by omega) rfl (by omega)
    · skip
      refine rn_aload_n C d_M_box_7 rfl ?_
      refine rn_getM C hp f_M_101 d_M_box_8 rfl ?_
      refine rn_iconst C (iI 1) d_M_box_11 (by decide) ?_
      refine rn_cV C (c_M_goes l) mw_M_goes k_M_78 d_M_box_12 rfl (mH 0 hp rfl rfl) rfl (Nat.le_of_ble_eq_true rfl) (Nat.le_of_ble_eq_true rfl) ⟨by decide, by decide⟩ ⟨by decide, by decide⟩ ?_
      refine ⟨_, _, _, _, _, _, _, _, _, _, _, _, _, _, _, _, _, _, _, _, _, _, _, _, rfl, rfl, hp, ?_⟩
      refine rn_if_ne C 20 d_M_box_15 (by decide) (fun q => absurd rfl q) (fun _ => ?_)
      refine rn_iconst C (iI 0) d_M_box_18 (by decide) ?_
      refine rn_ireturn C rfl rfl d_M_box_19 ⟨by decide, by decide⟩ ?_
      (try rw [iI_eq0 hc0] at c21); (try rw [iI_eq hc0 ⟨by omega, by omega⟩] at c33); (try rw [iI_eq hc0 ⟨by omega, by omega⟩] at c45); first | exact k1 (by omega) | exact k2 (by omega) rfl | exact k3 (by omega) rfl (by omega) | exact k4 (by omega) rfl (by omega) | exact k5 (by omega) rfl (by omega) | exact k6 (by omega) rfl (by omega)
  · skip
    refine rn_aload_n C d_M_box_0 rfl ?_
    refine rn_iload_n C d_M_box_1 rfl ?_
    refine rn_iconst C (iI 0) d_M_box_2 (by decide) ?_
    refine rn_iconst C (iI 3) d_M_box_3 (by decide) ?_
    refine rn_cS C (c2_M_within l) mw_M_within k_M_70 d_M_box_4 (Nat.le_of_ble_eq_true rfl) (Nat.le_of_ble_eq_true rfl) ⟨by decide, by decide⟩ ⟨by decide, by decide⟩ ?_
    refine ⟨_, _, _, rfl, ⟨by omega, by omega⟩, ⟨by omega, by omega⟩, ⟨by omega, by omega⟩, fun q4 => ?_, fun q4 => ?_⟩
    · skip
      refine rn_aload_n C d_M_box_7 rfl ?_
      refine rn_getM C hp f_M_101 d_M_box_8 rfl ?_
      refine rn_iconst C (iI 1) d_M_box_11 (by decide) ?_
      refine rn_cV C (c_M_goes l) mw_M_goes k_M_78 d_M_box_12 rfl (mH 0 hp rfl rfl) rfl (Nat.le_of_ble_eq_true rfl) (Nat.le_of_ble_eq_true rfl) ⟨by decide, by decide⟩ ⟨by decide, by decide⟩ ?_
      refine ⟨_, _, _, _, _, _, _, _, _, _, _, _, _, _, _, _, _, _, _, _, _, _, _, _, rfl, rfl, hp, ?_⟩
      refine rn_if_ne C 20 d_M_box_15 (by decide) (fun _ => ?_) (fun q => absurd q (by decide))
      refine rn_iload_n C d_M_box_20 rfl ?_
      refine rn_if_ne C 31 d_M_box_21 (by decide) (fun c21 => ?_) (fun c21 => ?_)
      · skip
        refine rn_iload_n C d_M_box_31 rfl ?_
        refine rn_iconst C (iI 1) d_M_box_32 (by decide) ?_
        refine rn_icmp_ne C 43 d_M_box_33 (by decide) (fun c33 => ?_) (fun c33 => ?_)
        · skip
          refine rn_iload_n C d_M_box_43 rfl ?_
          refine rn_iconst C (iI 2) d_M_box_44 (by decide) ?_
          refine rn_icmp_ne C 55 d_M_box_45 (by decide) (fun c45 => ?_) (fun c45 => ?_)
          · skip
            refine rn_aload_n C d_M_box_55 rfl ?_
            refine rn_getM C hp f_M_95 d_M_box_56 rfl ?_
            refine rn_ireturn C rfl rfl d_M_box_59 ⟨by decide, by decide⟩ ?_
            (try rw [iI_eq0 hc0] at c21); (try rw [iI_eq hc0 ⟨by omega, by omega⟩] at c33); (try rw [iI_eq hc0 ⟨by omega, by omega⟩] at c45); first | exact k1 (by omega) | exact k2 (by omega) rfl | exact k3 (by omega) rfl (by omega) | exact k4 (by omega) rfl (by omega) | exact k5 (by omega) rfl (by omega) | exact k6 (by omega) rfl (by omega)
          · skip
            refine rn_aload_n C d_M_box_48 rfl ?_
            refine rn_getM C hp f_M_92 d_M_box_49 rfl ?_
            refine rn_goto C 59 d_M_box_52 (by decide) ?_
            refine rn_ireturn C rfl rfl d_M_box_59 ⟨by decide, by decide⟩ ?_
            (try rw [iI_eq0 hc0] at c21); (try rw [iI_eq hc0 ⟨by omega, by omega⟩] at c33); (try rw [iI_eq hc0 ⟨by omega, by omega⟩] at c45); first | exact k1 (by omega) | exact k2 (by omega) rfl | exact k3 (by omega) rfl (by omega) | exact k4 (by omega) rfl (by omega) | exact k5 (by omega) rfl (by omega) | exact k6 (by omega) rfl (by omega)
        · skip
          refine rn_aload_n C d_M_box_36 rfl ?_
          refine rn_getM C hp f_M_89 d_M_box_37 rfl ?_
          refine rn_goto C 59 d_M_box_40 (by decide) ?_
          refine rn_ireturn C rfl rfl d_M_box_59 ⟨by decide, by decide⟩ ?_
          (try rw [iI_eq0 hc0] at c21); (try rw [iI_eq hc0 ⟨by omega, by omega⟩] at c33); (try rw [iI_eq hc0 ⟨by omega, by omega⟩] at c45); first | exact k1 (by omega) | exact k2 (by omega) rfl | exact k3 (by omega) rfl (by omega) | exact k4 (by omega) rfl (by omega) | exact k5 (by omega) rfl (by omega) | exact k6 (by omega) rfl (by omega)
      · skip
        refine rn_aload_n C d_M_box_24 rfl ?_
        refine rn_getM C hp f_M_86 d_M_box_25 rfl ?_
        refine rn_goto C 59 d_M_box_28 (by decide) ?_
        refine rn_ireturn C rfl rfl d_M_box_59 ⟨by decide, by decide⟩ ?_
        (try rw [iI_eq0 hc0] at c21); (try rw [iI_eq hc0 ⟨by omega, by omega⟩] at c33); (try rw [iI_eq hc0 ⟨by omega, by omega⟩] at c45); first | exact k1 (by omega) | exact k2 (by omega) rfl | exact k3 (by omega) rfl (by omega) | exact k4 (by omega) rfl (by omega) | exact k5 (by omega) rfl (by omega) | exact k6 (by omega) rfl (by omega)
    · skip
      refine rn_aload_n C d_M_box_7 rfl ?_
      refine rn_getM C hp f_M_101 d_M_box_8 rfl ?_
      refine rn_iconst C (iI 1) d_M_box_11 (by decide) ?_
      refine rn_cV C (c_M_goes l) mw_M_goes k_M_78 d_M_box_12 rfl (mH 0 hp rfl rfl) rfl (Nat.le_of_ble_eq_true rfl) (Nat.le_of_ble_eq_true rfl) ⟨by decide, by decide⟩ ⟨by decide, by decide⟩ ?_
      refine ⟨_, _, _, _, _, _, _, _, _, _, _, _, _, _, _, _, _, _, _, _, _, _, _, _, rfl, rfl, hp, ?_⟩
      refine rn_if_ne C 20 d_M_box_15 (by decide) (fun q => absurd rfl q) (fun _ => ?_)
      refine rn_iconst C (iI 0) d_M_box_18 (by decide) ?_
      refine rn_ireturn C rfl rfl d_M_box_19 ⟨by decide, by decide⟩ ?_
      (try rw [iI_eq0 hc0] at c21); (try rw [iI_eq hc0 ⟨by omega, by omega⟩] at c33); (try rw [iI_eq hc0 ⟨by omega, by omega⟩] at c45); first | exact k1 (by omega) | exact k2 (by omega) rfl | exact k3 (by omega) rfl (by omega) | exact k4 (by omega) rfl (by omega) | exact k5 (by omega) rfl (by omega) | exact k6 (by omega) rfl (by omega)

def G_M_grid (av : List Value) (h : ah_H) (K : ah_R → ah_H → Prop) : Prop := ∃ (pre rest : ah_H) (xth xw xg xfo xle xto xri xbo xnt xfi xsg xrk xdy xce xsu : Int32) (xsq : Int64) (co ro qu x y : Int), av = [.ref 21, .int (iI x), .int (iI y)] ∧ h = pre ++ cM xth xw xg xfo xle xto xri xbo (iI co) (iI ro) (iI qu) xnt xfi xsg xrk xdy xce xsu xsq :: rest ∧ pre.length = 21 ∧ (inI x) ∧ (inI y) ∧ (¬ (1 ≤ x ∧ x ≤ 4 ∧ 1 ≤ y ∧ y ≤ 4) → K (.inl none) (pre ++ cM (iI 1) xw xg xfo xle xto xri xbo (iI co) (iI ro) (iI qu) xnt xfi xsg xrk xdy xce xsu xsq :: rest)) ∧ ((1 ≤ x ∧ x ≤ 4 ∧ 1 ≤ y ∧ y ≤ 4) → K (.inl none) (pre ++ cM (iI 0) xw xg xfo xle xto xri xbo (iI x) (iI y) (iI qu) xnt xfi xsg xrk xdy xce xsu xsq :: rest))
set_option maxHeartbeats 4000000 in
set_option maxRecDepth 100000 in
theorem c_M_grid (l : Launch) : rn_Met l y_M_grid wc_M_grid { frames := 2, cells := 0, slots := 0, locals := 23 } G_M_grid := by
  refine rn_in mw_M_grid.1 (by decide +kernel) ?_ ?_
  · intro _ av h K hG
    obtain ⟨pre, rest, xth, xw, xg, xfo, xle, xto, xri, xbo, xnt, xfi, xsg, xrk, xdy, xce, xsu, xsq, co, ro, qu, x, y, rfl, rfl, hp, hc0, hc1, k1, k2⟩ := hG
    exact Nat.le_of_ble_eq_true rfl
  intro p e s m args below meth c z sa D dA av h K hadm C hG
  obtain ⟨pre, rest, xth, xw, xg, xfo, xle, xto, xri, xbo, xnt, xfi, xsg, xrk, xdy, xce, xsu, xsq, co, ro, qu, x, y, rfl, rfl, hp, hc0, hc1, k1, k2⟩ := hG
  have hc0a := hc0.1
  have hc0b := hc0.2
  have hc1a := hc1.1
  have hc1b := hc1.2
  refine rn_aload_n C d_M_grid_0 rfl ?_
  refine rn_iload_n C d_M_grid_1 rfl ?_
  refine rn_iconst C (iI 1) d_M_grid_2 (by decide) ?_
  refine rn_iconst C (iI 4) d_M_grid_3 (by decide) ?_
  refine rn_cS C (c2_M_within l) mw_M_within k_M_70 d_M_grid_4 (Nat.le_of_ble_eq_true rfl) (Nat.le_of_ble_eq_true rfl) ⟨by decide, by decide⟩ ⟨by decide, by decide⟩ ?_
  refine ⟨_, _, _, rfl, ⟨by omega, by omega⟩, ⟨by omega, by omega⟩, ⟨by omega, by omega⟩, fun q4 => ?_, fun q4 => ?_⟩
  · skip
    refine rn_if_eq C 23 d_M_grid_7 (by decide) (fun q => absurd q (by decide)) (fun _ => ?_)
    refine rn_iload_n C d_M_grid_10 rfl ?_
    refine rn_iconst C (iI 1) d_M_grid_11 (by decide) ?_
    refine rn_iconst C (iI 4) d_M_grid_12 (by decide) ?_
    refine rn_cS C (c2_M_within l) mw_M_within k_M_70 d_M_grid_13 (Nat.le_of_ble_eq_true rfl) (Nat.le_of_ble_eq_true rfl) ⟨by decide, by decide⟩ ⟨by decide, by decide⟩ ?_
    refine ⟨_, _, _, rfl, ⟨by omega, by omega⟩, ⟨by omega, by omega⟩, ⟨by omega, by omega⟩, fun q13 => ?_, fun q13 => ?_⟩
    · skip
      refine rn_if_eq C 23 d_M_grid_16 (by decide) (fun q => absurd q (by decide)) (fun _ => ?_)
      refine rn_iconst C (iI 1) d_M_grid_19 (by decide) ?_
      refine rn_goto C 24 d_M_grid_20 (by decide) ?_
      refine rn_iconst C (iI 1) d_M_grid_24 (by decide) ?_
      refine rn_iconst C (iI 1) d_M_grid_25 (by decide) ?_
      refine rn_cV C (c_M_goes l) mw_M_goes k_M_78 d_M_grid_26 rfl (mH 0 hp rfl rfl) rfl (Nat.le_of_ble_eq_true rfl) (Nat.le_of_ble_eq_true rfl) ⟨by decide, by decide⟩ ⟨by decide, by decide⟩ ?_
      refine ⟨_, _, _, _, _, _, _, _, _, _, _, _, _, _, _, _, _, _, _, _, _, _, _, _, rfl, rfl, hp, ?_⟩
      refine rn_if_eq C 42 d_M_grid_29 (by decide) (fun q => absurd q (by decide)) (fun _ => ?_)
      refine rn_aload_n C d_M_grid_32 rfl ?_
      refine rn_iload_n C d_M_grid_33 rfl ?_
      refine rn_putM C hp f_M_16 ft_M fn_M_10 d_M_grid_34 (Nat.le_of_ble_eq_true rfl) (fun _ _ => ⟨rfl, rfl⟩) rfl ?_
      refine rn_aload_n C d_M_grid_37 rfl ?_
      refine rn_iload_n C d_M_grid_38 rfl ?_
      refine rn_putM C hp f_M_20 ft_M fn_M_11 d_M_grid_39 (Nat.le_of_ble_eq_true rfl) (fun _ _ => ⟨rfl, rfl⟩) rfl ?_
      refine rn_return C rfl d_M_grid_42 ⟨by decide, by decide⟩ ?_
      first | exact k1 (by omega) | exact k2 (by omega)
    · skip
      refine rn_if_eq C 23 d_M_grid_16 (by decide) (fun _ => ?_) (fun q => absurd rfl q)
      refine rn_iconst C (iI 0) d_M_grid_23 (by decide) ?_
      refine rn_iconst C (iI 1) d_M_grid_24 (by decide) ?_
      refine rn_iconst C (iI 1) d_M_grid_25 (by decide) ?_
      refine rn_cV C (c_M_goes l) mw_M_goes k_M_78 d_M_grid_26 rfl (mH 0 hp rfl rfl) rfl (Nat.le_of_ble_eq_true rfl) (Nat.le_of_ble_eq_true rfl) ⟨by decide, by decide⟩ ⟨by decide, by decide⟩ ?_
      refine ⟨_, _, _, _, _, _, _, _, _, _, _, _, _, _, _, _, _, _, _, _, _, _, _, _, rfl, rfl, hp, ?_⟩
      refine rn_if_eq C 42 d_M_grid_29 (by decide) (fun _ => ?_) (fun q => absurd rfl q)
      refine rn_return C rfl d_M_grid_42 ⟨by decide, by decide⟩ ?_
      first | exact k1 (by omega) | exact k2 (by omega)
  · skip
    refine rn_if_eq C 23 d_M_grid_7 (by decide) (fun _ => ?_) (fun q => absurd rfl q)
    refine rn_iconst C (iI 0) d_M_grid_23 (by decide) ?_
    refine rn_iconst C (iI 1) d_M_grid_24 (by decide) ?_
    refine rn_iconst C (iI 1) d_M_grid_25 (by decide) ?_
    refine rn_cV C (c_M_goes l) mw_M_goes k_M_78 d_M_grid_26 rfl (mH 0 hp rfl rfl) rfl (Nat.le_of_ble_eq_true rfl) (Nat.le_of_ble_eq_true rfl) ⟨by decide, by decide⟩ ⟨by decide, by decide⟩ ?_
    refine ⟨_, _, _, _, _, _, _, _, _, _, _, _, _, _, _, _, _, _, _, _, _, _, _, _, rfl, rfl, hp, ?_⟩
    refine rn_if_eq C 42 d_M_grid_29 (by decide) (fun _ => ?_) (fun q => absurd rfl q)
    refine rn_return C rfl d_M_grid_42 ⟨by decide, by decide⟩ ?_
    first | exact k1 (by omega) | exact k2 (by omega)

def G_M_turn (av : List Value) (h : ah_H) (K : ah_R → ah_H → Prop) : Prop := ∃ (pre rest : ah_H) (xth xw xg xfo xle xto xri xbo xnt xfi xsg xrk xdy xce xsu : Int32) (xsq : Int64) (co ro qu x : Int), av = [.ref 21, .int (iI x)] ∧ h = pre ++ cM xth xw xg xfo xle xto xri xbo (iI co) (iI ro) (iI qu) xnt xfi xsg xrk xdy xce xsu xsq :: rest ∧ pre.length = 21 ∧ (inI x) ∧ (¬ (0 ≤ x ∧ x ≤ 3) → K (.inl (some (.int (iI 0)))) (pre ++ cM (iI 1) xw xg xfo xle xto xri xbo (iI co) (iI ro) (iI qu) xnt xfi xsg xrk xdy xce xsu xsq :: rest)) ∧ ((0 ≤ x ∧ x ≤ 3) → K (.inl (some (.int (iI qu)))) (pre ++ cM (iI 0) xw xg xfo xle xto xri xbo (iI co) (iI ro) (iI x) xnt xfi xsg xrk xdy xce xsu xsq :: rest))
set_option maxHeartbeats 4000000 in
set_option maxRecDepth 100000 in
theorem c_M_turn (l : Launch) : rn_Met l y_M_turn wc_M_turn { frames := 2, cells := 0, slots := 0, locals := 23 } G_M_turn := by
  refine rn_in mw_M_turn.1 (by decide +kernel) ?_ ?_
  · intro _ av h K hG
    obtain ⟨pre, rest, xth, xw, xg, xfo, xle, xto, xri, xbo, xnt, xfi, xsg, xrk, xdy, xce, xsu, xsq, co, ro, qu, x, rfl, rfl, hp, hc0, k1, k2⟩ := hG
    exact Nat.le_of_ble_eq_true rfl
  intro p e s m args below meth c z sa D dA av h K hadm C hG
  obtain ⟨pre, rest, xth, xw, xg, xfo, xle, xto, xri, xbo, xnt, xfi, xsg, xrk, xdy, xce, xsu, xsq, co, ro, qu, x, rfl, rfl, hp, hc0, k1, k2⟩ := hG
  have hc0a := hc0.1
  have hc0b := hc0.2
  refine rn_aload_n C d_M_turn_0 rfl ?_
  refine rn_iload_n C d_M_turn_1 rfl ?_
  refine rn_iconst C (iI 0) d_M_turn_2 (by decide) ?_
  refine rn_iconst C (iI 3) d_M_turn_3 (by decide) ?_
  refine rn_cS C (c2_M_within l) mw_M_within k_M_70 d_M_turn_4 (Nat.le_of_ble_eq_true rfl) (Nat.le_of_ble_eq_true rfl) ⟨by decide, by decide⟩ ⟨by decide, by decide⟩ ?_
  refine ⟨_, _, _, rfl, ⟨by omega, by omega⟩, ⟨by omega, by omega⟩, ⟨by omega, by omega⟩, fun q4 => ?_, fun q4 => ?_⟩
  · skip
    refine rn_iconst C (iI 1) d_M_turn_7 (by decide) ?_
    refine rn_iconst C (iI 1) d_M_turn_8 (by decide) ?_
    refine rn_cV C (c_M_goes l) mw_M_goes k_M_78 d_M_turn_9 rfl (mH 0 hp rfl rfl) rfl (Nat.le_of_ble_eq_true rfl) (Nat.le_of_ble_eq_true rfl) ⟨by decide, by decide⟩ ⟨by decide, by decide⟩ ?_
    refine ⟨_, _, _, _, _, _, _, _, _, _, _, _, _, _, _, _, _, _, _, _, _, _, _, _, rfl, rfl, hp, ?_⟩
    refine rn_if_ne C 17 d_M_turn_12 (by decide) (fun _ => ?_) (fun q => absurd q (by decide))
    refine rn_aload_n C d_M_turn_17 rfl ?_
    refine rn_getM C hp f_M_105 d_M_turn_18 rfl ?_
    refine rn_istore_n C d_M_turn_21 (by decide) ?_
    refine rn_aload_n C d_M_turn_22 rfl ?_
    refine rn_iload_n C d_M_turn_23 rfl ?_
    refine rn_putM C hp f_M_105 ft_M fn_M_12 d_M_turn_24 (Nat.le_of_ble_eq_true rfl) (fun _ _ => ⟨rfl, rfl⟩) rfl ?_
    refine rn_iload_n C d_M_turn_27 rfl ?_
    refine rn_ireturn C rfl rfl d_M_turn_28 ⟨by decide, by decide⟩ ?_
    first | exact k1 (by omega) | exact k2 (by omega)
  · skip
    refine rn_iconst C (iI 1) d_M_turn_7 (by decide) ?_
    refine rn_iconst C (iI 1) d_M_turn_8 (by decide) ?_
    refine rn_cV C (c_M_goes l) mw_M_goes k_M_78 d_M_turn_9 rfl (mH 0 hp rfl rfl) rfl (Nat.le_of_ble_eq_true rfl) (Nat.le_of_ble_eq_true rfl) ⟨by decide, by decide⟩ ⟨by decide, by decide⟩ ?_
    refine ⟨_, _, _, _, _, _, _, _, _, _, _, _, _, _, _, _, _, _, _, _, _, _, _, _, rfl, rfl, hp, ?_⟩
    refine rn_if_ne C 17 d_M_turn_12 (by decide) (fun q => absurd rfl q) (fun _ => ?_)
    refine rn_iconst C (iI 0) d_M_turn_15 (by decide) ?_
    refine rn_ireturn C rfl rfl d_M_turn_16 ⟨by decide, by decide⟩ ?_
    first | exact k1 (by omega) | exact k2 (by omega)

def G_M_line (av : List Value) (h : ah_H) (K : ah_R → ah_H → Prop) : Prop := ∃ (e22 e23 e24 e25 : ah_E) (pre rest : ah_H) (xth xw xg xfo xle xto xri xbo xco xro xqu xnt xsg xrk xdy xce xsu : Int32) (xsq : Int64) (ma mb md : Nat → Int64) (fi p x : Int), av = [.ref 21, .int (iI p), .int (iI x)] ∧ h = pre ++ cM xth xw xg xfo xle xto xri xbo xco xro xqu xnt (iI fi) xsg xrk xdy xce xsu xsq :: e22 :: e23 :: e24 :: e25 :: aL 3 ma :: aL 3 mb :: aL 3 md :: rest ∧ pre.length = 21 ∧ (inI p) ∧ (inI x) ∧ (fi = 0 ∨ fi = 1) ∧ (¬ (0 ≤ p ∧ p ≤ 2 ∧ 0 ≤ x ∧ x ≤ 2) → K (.inl (some (.long (lI 0)))) (pre ++ cM (iI 1) xw xg xfo xle xto xri xbo xco xro xqu xnt (iI fi) xsg xrk xdy xce xsu xsq :: e22 :: e23 :: e24 :: e25 :: aL 3 ma :: aL 3 mb :: aL 3 md :: rest)) ∧ ((0 ≤ p ∧ p ≤ 2 ∧ 0 ≤ x ∧ x ≤ 2) → fi = 0 → K (.inl (some (.long (lI 0)))) (pre ++ cM (iI 2) xw xg xfo xle xto xri xbo xco xro xqu xnt (iI fi) xsg xrk xdy xce xsu xsq :: e22 :: e23 :: e24 :: e25 :: aL 3 ma :: aL 3 mb :: aL 3 md :: rest)) ∧ ((0 ≤ p ∧ p ≤ 2 ∧ 0 ≤ x ∧ x ≤ 2) → fi = 1 → K (.inl (some (.long ((if x = 0 then ma else if x = 1 then mb else md) p.toNat)))) (pre ++ cM (iI 0) xw xg xfo xle xto xri xbo xco xro xqu xnt (iI fi) xsg xrk xdy xce xsu xsq :: e22 :: e23 :: e24 :: e25 :: aL 3 ma :: aL 3 mb :: aL 3 md :: rest))
set_option maxHeartbeats 4000000 in
set_option maxRecDepth 100000 in
theorem c_M_line (l : Launch) : rn_Met l y_M_line wc_M_line { frames := 2, cells := 0, slots := 0, locals := 23 } G_M_line := by
  refine rn_in mw_M_line.1 (by decide +kernel) ?_ ?_
  · intro _ av h K hG
    obtain ⟨e22, e23, e24, e25, pre, rest, xth, xw, xg, xfo, xle, xto, xri, xbo, xco, xro, xqu, xnt, xsg, xrk, xdy, xce, xsu, xsq, ma, mb, md, fi, p_, x, rfl, rfl, hp, hc0, hc1, hc2, k1, k2, k3⟩ := hG
    exact Nat.le_of_ble_eq_true rfl
  intro p e s m args below meth c z sa D dA av h K hadm C hG
  obtain ⟨e22, e23, e24, e25, pre, rest, xth, xw, xg, xfo, xle, xto, xri, xbo, xco, xro, xqu, xnt, xsg, xrk, xdy, xce, xsu, xsq, ma, mb, md, fi, p_, x, rfl, rfl, hp, hc0, hc1, hc2, k1, k2, k3⟩ := hG
  have hc0a := hc0.1
  have hc0b := hc0.2
  have hc1a := hc1.1
  have hc1b := hc1.2
  rcases hc2 with rfl | rfl
  · skip
    refine rn_aload_n C d_M_line_0 rfl ?_
    refine rn_iload_n C d_M_line_1 rfl ?_
    refine rn_iconst C (iI 0) d_M_line_2 (by decide) ?_
    refine rn_iconst C (iI 2) d_M_line_3 (by decide) ?_
    refine rn_cS C (c2_M_within l) mw_M_within k_M_70 d_M_line_4 (Nat.le_of_ble_eq_true rfl) (Nat.le_of_ble_eq_true rfl) ⟨by decide, by decide⟩ ⟨by decide, by decide⟩ ?_
    refine ⟨_, _, _, rfl, ⟨by omega, by omega⟩, ⟨by omega, by omega⟩, ⟨by omega, by omega⟩, fun q4 => ?_, fun q4 => ?_⟩
    · skip
      refine rn_if_eq C 23 d_M_line_7 (by decide) (fun q => absurd q (by decide)) (fun _ => ?_)
      refine rn_iload_n C d_M_line_10 rfl ?_
      refine rn_iconst C (iI 0) d_M_line_11 (by decide) ?_
      refine rn_iconst C (iI 2) d_M_line_12 (by decide) ?_
      refine rn_cS C (c2_M_within l) mw_M_within k_M_70 d_M_line_13 (Nat.le_of_ble_eq_true rfl) (Nat.le_of_ble_eq_true rfl) ⟨by decide, by decide⟩ ⟨by decide, by decide⟩ ?_
      refine ⟨_, _, _, rfl, ⟨by omega, by omega⟩, ⟨by omega, by omega⟩, ⟨by omega, by omega⟩, fun q13 => ?_, fun q13 => ?_⟩
      · skip
        refine rn_if_eq C 23 d_M_line_16 (by decide) (fun q => absurd q (by decide)) (fun _ => ?_)
        refine rn_iconst C (iI 1) d_M_line_19 (by decide) ?_
        refine rn_goto C 24 d_M_line_20 (by decide) ?_
        refine rn_aload_n C d_M_line_24 rfl ?_
        refine rn_getM C hp f_M_149 d_M_line_25 rfl ?_
        refine rn_iconst C (iI 1) d_M_line_28 (by decide) ?_
        refine rn_cV C (c_M_goes l) mw_M_goes k_M_78 d_M_line_29 rfl (mH 0 hp rfl rfl) rfl (Nat.le_of_ble_eq_true rfl) (Nat.le_of_ble_eq_true rfl) ⟨by decide, by decide⟩ ⟨by decide, by decide⟩ ?_
        refine ⟨_, _, _, _, _, _, _, _, _, _, _, _, _, _, _, _, _, _, _, _, _, _, _, _, rfl, rfl, hp, ?_⟩
        refine rn_if_ne C 37 d_M_line_32 (by decide) (fun q => absurd rfl q) (fun _ => ?_)
        refine rn_lconst C (lI 0) d_M_line_35 (by decide) ?_
        refine rn_lreturn C rfl d_M_line_36 ⟨by decide, by decide⟩ ?_
        first | exact k1 (by omega) | exact k2 (by omega) rfl
      · skip
        refine rn_if_eq C 23 d_M_line_16 (by decide) (fun _ => ?_) (fun q => absurd rfl q)
        refine rn_iconst C (iI 0) d_M_line_23 (by decide) ?_
        refine rn_aload_n C d_M_line_24 rfl ?_
        refine rn_getM C hp f_M_149 d_M_line_25 rfl ?_
        refine rn_iconst C (iI 1) d_M_line_28 (by decide) ?_
        refine rn_cV C (c_M_goes l) mw_M_goes k_M_78 d_M_line_29 rfl (mH 0 hp rfl rfl) rfl (Nat.le_of_ble_eq_true rfl) (Nat.le_of_ble_eq_true rfl) ⟨by decide, by decide⟩ ⟨by decide, by decide⟩ ?_
        refine ⟨_, _, _, _, _, _, _, _, _, _, _, _, _, _, _, _, _, _, _, _, _, _, _, _, rfl, rfl, hp, ?_⟩
        refine rn_if_ne C 37 d_M_line_32 (by decide) (fun q => absurd rfl q) (fun _ => ?_)
        refine rn_lconst C (lI 0) d_M_line_35 (by decide) ?_
        refine rn_lreturn C rfl d_M_line_36 ⟨by decide, by decide⟩ ?_
        first | exact k1 (by omega) | exact k2 (by omega) rfl
    · skip
      refine rn_if_eq C 23 d_M_line_7 (by decide) (fun _ => ?_) (fun q => absurd rfl q)
      refine rn_iconst C (iI 0) d_M_line_23 (by decide) ?_
      refine rn_aload_n C d_M_line_24 rfl ?_
      refine rn_getM C hp f_M_149 d_M_line_25 rfl ?_
      refine rn_iconst C (iI 1) d_M_line_28 (by decide) ?_
      refine rn_cV C (c_M_goes l) mw_M_goes k_M_78 d_M_line_29 rfl (mH 0 hp rfl rfl) rfl (Nat.le_of_ble_eq_true rfl) (Nat.le_of_ble_eq_true rfl) ⟨by decide, by decide⟩ ⟨by decide, by decide⟩ ?_
      refine ⟨_, _, _, _, _, _, _, _, _, _, _, _, _, _, _, _, _, _, _, _, _, _, _, _, rfl, rfl, hp, ?_⟩
      refine rn_if_ne C 37 d_M_line_32 (by decide) (fun q => absurd rfl q) (fun _ => ?_)
      refine rn_lconst C (lI 0) d_M_line_35 (by decide) ?_
      refine rn_lreturn C rfl d_M_line_36 ⟨by decide, by decide⟩ ?_
      first | exact k1 (by omega) | exact k2 (by omega) rfl
  · skip
    refine rn_aload_n C d_M_line_0 rfl ?_
    refine rn_iload_n C d_M_line_1 rfl ?_
    refine rn_iconst C (iI 0) d_M_line_2 (by decide) ?_
    refine rn_iconst C (iI 2) d_M_line_3 (by decide) ?_
    refine rn_cS C (c2_M_within l) mw_M_within k_M_70 d_M_line_4 (Nat.le_of_ble_eq_true rfl) (Nat.le_of_ble_eq_true rfl) ⟨by decide, by decide⟩ ⟨by decide, by decide⟩ ?_
    refine ⟨_, _, _, rfl, ⟨by omega, by omega⟩, ⟨by omega, by omega⟩, ⟨by omega, by omega⟩, fun q4 => ?_, fun q4 => ?_⟩
    · skip
      refine rn_if_eq C 23 d_M_line_7 (by decide) (fun q => absurd q (by decide)) (fun _ => ?_)
      refine rn_iload_n C d_M_line_10 rfl ?_
      refine rn_iconst C (iI 0) d_M_line_11 (by decide) ?_
      refine rn_iconst C (iI 2) d_M_line_12 (by decide) ?_
      refine rn_cS C (c2_M_within l) mw_M_within k_M_70 d_M_line_13 (Nat.le_of_ble_eq_true rfl) (Nat.le_of_ble_eq_true rfl) ⟨by decide, by decide⟩ ⟨by decide, by decide⟩ ?_
      refine ⟨_, _, _, rfl, ⟨by omega, by omega⟩, ⟨by omega, by omega⟩, ⟨by omega, by omega⟩, fun q13 => ?_, fun q13 => ?_⟩
      · skip
        refine rn_if_eq C 23 d_M_line_16 (by decide) (fun q => absurd q (by decide)) (fun _ => ?_)
        refine rn_iconst C (iI 1) d_M_line_19 (by decide) ?_
        refine rn_goto C 24 d_M_line_20 (by decide) ?_
        refine rn_aload_n C d_M_line_24 rfl ?_
        refine rn_getM C hp f_M_149 d_M_line_25 rfl ?_
        refine rn_iconst C (iI 1) d_M_line_28 (by decide) ?_
        refine rn_cV C (c_M_goes l) mw_M_goes k_M_78 d_M_line_29 rfl (mH 0 hp rfl rfl) rfl (Nat.le_of_ble_eq_true rfl) (Nat.le_of_ble_eq_true rfl) ⟨by decide, by decide⟩ ⟨by decide, by decide⟩ ?_
        refine ⟨_, _, _, _, _, _, _, _, _, _, _, _, _, _, _, _, _, _, _, _, _, _, _, _, rfl, rfl, hp, ?_⟩
        refine rn_if_ne C 37 d_M_line_32 (by decide) (fun _ => ?_) (fun q => absurd q (by decide))
        refine rn_iload_n C d_M_line_37 rfl ?_
        refine rn_if_ne C 50 d_M_line_38 (by decide) (fun c38 => ?_) (fun c38 => ?_)
        · skip
          refine rn_iload_n C d_M_line_50 rfl ?_
          refine rn_iconst C (iI 1) d_M_line_51 (by decide) ?_
          refine rn_icmp_ne C 64 d_M_line_52 (by decide) (fun c52 => ?_) (fun c52 => ?_)
          · skip
            refine rn_aload_n C d_M_line_64 rfl ?_
            refine rn_getM C hp f_M_40 d_M_line_65 rfl ?_
            refine rn_iload_n C d_M_line_68 rfl ?_
            refine rn_laM C hp (j := 7) d_M_line_69 rfl rfl (iI_vin (by omega) (by omega) (by omega)) ?_
            refine rn_lreturn C rfl d_M_line_70 ⟨by decide, by decide⟩ ?_
            rw [iI_nat (by omega) (by omega)]
            have hk := k3 (by omega) rfl
            first
              | (rw [iI_eq0 hc1] at c38; rw [if_pos c38] at hk; exact hk)
              | (rw [iI_eq0 hc1] at c38; rw [iI_eq hc1 ⟨by omega, by omega⟩] at c52; rw [if_neg c38, if_pos c52] at hk; exact hk)
              | (rw [iI_eq0 hc1] at c38; rw [iI_eq hc1 ⟨by omega, by omega⟩] at c52; rw [if_neg c38, if_neg c52] at hk; exact hk)
          · skip
            refine rn_aload_n C d_M_line_55 rfl ?_
            refine rn_getM C hp f_M_37 d_M_line_56 rfl ?_
            refine rn_iload_n C d_M_line_59 rfl ?_
            refine rn_laM C hp (j := 6) d_M_line_60 rfl rfl (iI_vin (by omega) (by omega) (by omega)) ?_
            refine rn_goto C 70 d_M_line_61 (by decide) ?_
            refine rn_lreturn C rfl d_M_line_70 ⟨by decide, by decide⟩ ?_
            rw [iI_nat (by omega) (by omega)]
            have hk := k3 (by omega) rfl
            first
              | (rw [iI_eq0 hc1] at c38; rw [if_pos c38] at hk; exact hk)
              | (rw [iI_eq0 hc1] at c38; rw [iI_eq hc1 ⟨by omega, by omega⟩] at c52; rw [if_neg c38, if_pos c52] at hk; exact hk)
              | (rw [iI_eq0 hc1] at c38; rw [iI_eq hc1 ⟨by omega, by omega⟩] at c52; rw [if_neg c38, if_neg c52] at hk; exact hk)
        · skip
          refine rn_aload_n C d_M_line_41 rfl ?_
          refine rn_getM C hp f_M_33 d_M_line_42 rfl ?_
          refine rn_iload_n C d_M_line_45 rfl ?_
          refine rn_laM C hp (j := 5) d_M_line_46 rfl rfl (iI_vin (by omega) (by omega) (by omega)) ?_
          refine rn_goto C 70 d_M_line_47 (by decide) ?_
          refine rn_lreturn C rfl d_M_line_70 ⟨by decide, by decide⟩ ?_
          rw [iI_nat (by omega) (by omega)]
          have hk := k3 (by omega) rfl
          first
            | (rw [iI_eq0 hc1] at c38; rw [if_pos c38] at hk; exact hk)
            | (rw [iI_eq0 hc1] at c38; rw [iI_eq hc1 ⟨by omega, by omega⟩] at c52; rw [if_neg c38, if_pos c52] at hk; exact hk)
            | (rw [iI_eq0 hc1] at c38; rw [iI_eq hc1 ⟨by omega, by omega⟩] at c52; rw [if_neg c38, if_neg c52] at hk; exact hk)
      · skip
        refine rn_if_eq C 23 d_M_line_16 (by decide) (fun _ => ?_) (fun q => absurd rfl q)
        refine rn_iconst C (iI 0) d_M_line_23 (by decide) ?_
        refine rn_aload_n C d_M_line_24 rfl ?_
        refine rn_getM C hp f_M_149 d_M_line_25 rfl ?_
        refine rn_iconst C (iI 1) d_M_line_28 (by decide) ?_
        refine rn_cV C (c_M_goes l) mw_M_goes k_M_78 d_M_line_29 rfl (mH 0 hp rfl rfl) rfl (Nat.le_of_ble_eq_true rfl) (Nat.le_of_ble_eq_true rfl) ⟨by decide, by decide⟩ ⟨by decide, by decide⟩ ?_
        refine ⟨_, _, _, _, _, _, _, _, _, _, _, _, _, _, _, _, _, _, _, _, _, _, _, _, rfl, rfl, hp, ?_⟩
        refine rn_if_ne C 37 d_M_line_32 (by decide) (fun q => absurd rfl q) (fun _ => ?_)
        refine rn_lconst C (lI 0) d_M_line_35 (by decide) ?_
        refine rn_lreturn C rfl d_M_line_36 ⟨by decide, by decide⟩ ?_
        first | exact k1 (by omega) | exact k2 (by omega) rfl
    · skip
      refine rn_if_eq C 23 d_M_line_7 (by decide) (fun _ => ?_) (fun q => absurd rfl q)
      refine rn_iconst C (iI 0) d_M_line_23 (by decide) ?_
      refine rn_aload_n C d_M_line_24 rfl ?_
      refine rn_getM C hp f_M_149 d_M_line_25 rfl ?_
      refine rn_iconst C (iI 1) d_M_line_28 (by decide) ?_
      refine rn_cV C (c_M_goes l) mw_M_goes k_M_78 d_M_line_29 rfl (mH 0 hp rfl rfl) rfl (Nat.le_of_ble_eq_true rfl) (Nat.le_of_ble_eq_true rfl) ⟨by decide, by decide⟩ ⟨by decide, by decide⟩ ?_
      refine ⟨_, _, _, _, _, _, _, _, _, _, _, _, _, _, _, _, _, _, _, _, _, _, _, _, rfl, rfl, hp, ?_⟩
      refine rn_if_ne C 37 d_M_line_32 (by decide) (fun q => absurd rfl q) (fun _ => ?_)
      refine rn_lconst C (lI 0) d_M_line_35 (by decide) ?_
      refine rn_lreturn C rfl d_M_line_36 ⟨by decide, by decide⟩ ?_
      first | exact k1 (by omega) | exact k2 (by omega) rfl

/-- rounding down by a division toward 0 -/
theorem fl_of {a b : Int} (hb : 0 < b) : (if a < a.tdiv b * b then a.tdiv b - 1 else a.tdiv b) = a / b := by
  have h1 := Int.tmod_add_mul_tdiv a b
  have h2 : b * a.tdiv b = a.tdiv b * b := Int.mul_comm _ _
  have e : a.tdiv b = a / b + (if 0 ≤ a ∨ b ∣ a then 0 else b.sign) := Int.tdiv_eq_ediv
  have h3 := Int.emod_add_mul_ediv a b
  have h4 : b * (a / b) = a / b * b := Int.mul_comm _ _
  have h5 := Int.emod_nonneg a (show b ≠ 0 by omega)
  have h6 := Int.emod_lt_of_pos a hb
  by_cases h : 0 ≤ a ∨ b ∣ a
  · rw [if_pos h, Int.add_zero] at e
    rw [e, if_neg (by omega)]
  · rw [if_neg h, Int.sign_eq_one_of_pos hb] at e
    have h7 : (a / b + 1) * b = a / b * b + b := by rw [Int.add_mul]; omega
    rw [e, h7, if_pos (by omega)]
    omega
def G_M_colourOf (av : List Value) (h : ah_H) (K : ah_R → ah_H → Prop) : Prop := ∃ (e22 e23 e24 e25 : ah_E) (pre rest : ah_H) (xth xw xg xfo xle xto xri xbo xco xro xqu xnt xfi xsg xrk xdy xce xsu : Int32) (xsq : Int64) (ma mb md : Nat → Int64) (p v a b d : Int), av = [.ref 21, .int (iI p), .int (iI v)] ∧ h = pre ++ cM xth xw xg xfo xle xto xri xbo xco xro xqu xnt xfi xsg xrk xdy xce xsu xsq :: e22 :: e23 :: e24 :: e25 :: aL 3 ma :: aL 3 mb :: aL 3 md :: rest ∧ pre.length = 21 ∧ (0 ≤ p ∧ p < 3) ∧ (0 ≤ v ∧ v ≤ 255) ∧ (ma p.toNat = lI a) ∧ (mb p.toNat = lI b) ∧ (md p.toNat = lI d) ∧ (bL a) ∧ (bL b) ∧ (bL d) ∧ (0 < d) ∧ (K (.inl (some (.int (iI (colI a b d v))))) h)
set_option maxHeartbeats 4000000 in
set_option maxRecDepth 100000 in
theorem c_M_colourOf (l : Launch) : rn_Met l y_M_colourOf wc_M_colourOf { frames := 1, cells := 0, slots := 0, locals := 0 } G_M_colourOf := by
  refine rn_in mw_M_colourOf.1 (by decide +kernel) ?_ ?_
  · intro _ av h K hG
    obtain ⟨e22, e23, e24, e25, pre, rest, xth, xw, xg, xfo, xle, xto, xri, xbo, xco, xro, xqu, xnt, xfi, xsg, xrk, xdy, xce, xsu, xsq, ma, mb, md, p_, v, a, b, d, rfl, rfl, hp, hc0, hc1, hc2, hc3, hc4, hc5, hc6, hc7, hc8, k1⟩ := hG
    exact Nat.le_of_ble_eq_true rfl
  intro p e s m args below meth c z sa D dA av h K hadm C hG
  obtain ⟨e22, e23, e24, e25, pre, rest, xth, xw, xg, xfo, xle, xto, xri, xbo, xco, xro, xqu, xnt, xfi, xsg, xrk, xdy, xce, xsu, xsq, ma, mb, md, p_, v, a, b, d, rfl, rfl, hp, hc0, hc1, hc2, hc3, hc4, hc5, hc6, hc7, hc8, k1⟩ := hG
  unfold bL at hc5 hc6 hc7
  have mv := mbd (A := 100000000000) (B := 255) (a := a) (b := v) (by omega) (by omega)
  have vp : vp_in (iI p_) 3 := iI_vin (by omega) (by omega) (by omega)
  have en : (iI p_).toNatClampNeg = p_.toNat := iI_nat (by omega) (by omega)
  obtain ⟨A, hA⟩ : ∃ A, 2 * (a * v + b) + d = A := ⟨_, rfl⟩
  unfold colI at k1
  rw [hA] at k1
  have fl := fl_of (a := A) (b := 2 * d) (by omega)
  have fb := fdiv_bd (a := A) (b := 2 * d) (by omega) (M := 100000000000000) (by omega) (by omega)
  have tb : -100000000000000 ≤ A.tdiv (2 * d) ∧ A.tdiv (2 * d) ≤ 100000000000000 := by
    have := Int.natAbs_tdiv_le_natAbs A (2 * d)
    omega
  have tm := Int.tmod_add_mul_tdiv A (2 * d)
  have tm2 : 2 * d * A.tdiv (2 * d) = A.tdiv (2 * d) * (2 * d) := Int.mul_comm _ _
  have tm3 := Int.tmod_lt_of_pos A (show 0 < 2 * d by omega)
  have tm4 : -(2 * d) < A.tmod (2 * d) := by
    have := Int.tmod_lt_of_pos (-A) (show 0 < 2 * d by omega)
    rw [Int.neg_tmod] at this
    omega
  refine rn_ldc2 C v_M_152 d_M_colourOf_0 ?_
  refine rn_aload_n C d_M_colourOf_3 rfl ?_
  refine rn_getM C hp f_M_33 d_M_colourOf_4 rfl ?_
  refine rn_iload_n C d_M_colourOf_7 rfl ?_
  refine rn_laM C hp (j := 5) d_M_colourOf_8 rfl rfl vp ?_
  rw [en, hc2]
  refine rn_iload_n C d_M_colourOf_9 rfl ?_
  refine rn_i2l C d_M_colourOf_10 ?_
  rw [iI_toL ⟨by omega, by omega⟩]
  refine rn_lmul C d_M_colourOf_11 ?_
  refine rn_aload_n C d_M_colourOf_12 rfl ?_
  refine rn_getM C hp f_M_37 d_M_colourOf_13 rfl ?_
  refine rn_iload_n C d_M_colourOf_16 rfl ?_
  refine rn_laM C hp (j := 6) d_M_colourOf_17 rfl rfl vp ?_
  rw [en, hc3]
  refine rn_ladd C d_M_colourOf_18 ?_
  refine rn_lmul C d_M_colourOf_19 ?_
  refine rn_aload_n C d_M_colourOf_20 rfl ?_
  refine rn_getM C hp f_M_40 d_M_colourOf_21 rfl ?_
  refine rn_iload_n C d_M_colourOf_24 rfl ?_
  refine rn_laM C hp (j := 7) d_M_colourOf_25 rfl rfl vp ?_
  rw [en, hc4]
  refine rn_ladd C d_M_colourOf_26 ?_
  rw [show (2 : Int64) = lI 2 from rfl, lI_mul, lI_add, lI_mul, lI_add, hA]
  refine rn_lstore_n C d_M_colourOf_27 (by decide) ?_
  refine rn_ldc2 C v_M_152 d_M_colourOf_28 ?_
  refine rn_aload_n C d_M_colourOf_31 rfl ?_
  refine rn_getM C hp f_M_40 d_M_colourOf_32 rfl ?_
  refine rn_iload_n C d_M_colourOf_35 rfl ?_
  refine rn_laM C hp (j := 7) d_M_colourOf_36 rfl rfl vp ?_
  rw [en, hc4]
  refine rn_lmul C d_M_colourOf_37 ?_
  rw [show (2 : Int64) = lI 2 from rfl, lI_mul]
  refine rn_lstore C d_M_colourOf_38 (by decide) ?_
  refine rn_lload_n C d_M_colourOf_40 rfl ?_
  refine rn_lload C d_M_colourOf_41 rfl ?_
  refine rn_ldiv C d_M_colourOf_43 (fun q => absurd ((lI_eq ⟨by omega, by omega⟩ ⟨by omega, by omega⟩).mp (show lI (2 * d) = lI 0 from q)) (by omega)) ?_
  rw [lI_tdiv ⟨by omega, by omega⟩ ⟨by omega, by omega⟩ ⟨by omega, by omega⟩]
  refine rn_lstore C d_M_colourOf_44 (by decide) ?_
  refine rn_lload C d_M_colourOf_46 rfl ?_
  refine rn_lload C d_M_colourOf_48 rfl ?_
  refine rn_lmul C d_M_colourOf_50 ?_
  rw [lI_mul]
  refine rn_lload_n C d_M_colourOf_51 rfl ?_
  refine rn_lc_le C 63 d_M_colourOf_52 d_M_colourOf_53 (by decide) (fun c52 => ?_) (fun c52 => ?_)
  · skip
    have f2 : ¬ A < A.tdiv (2 * d) * (2 * d) := fun w => absurd ((lI_le ⟨by omega, by omega⟩ ⟨by omega, by omega⟩).mp c52) (by omega)
    rw [if_neg f2] at fl
    refine rn_lload C d_M_colourOf_63 rfl ?_
    refine rn_lstore C d_M_colourOf_65 (by decide) ?_
    refine rn_lload C d_M_colourOf_67 rfl ?_
    refine rn_lconst C (lI 0) d_M_colourOf_69 (by decide) ?_
    refine rn_lc_ge C 78 d_M_colourOf_70 d_M_colourOf_71 (by decide) (fun c70 => ?_) (fun c70 => ?_)
    · skip
      refine rn_lload C d_M_colourOf_78 rfl ?_
      refine rn_ldc2 C v_M_154 d_M_colourOf_80 ?_
      rw [show (255 : Int64) = lI 255 from rfl]
      refine rn_lc_le C 93 d_M_colourOf_83 d_M_colourOf_84 (by decide) (fun c83 => ?_) (fun c83 => ?_)
      · skip
        refine rn_lload C d_M_colourOf_93 rfl ?_
        refine rn_l2i C d_M_colourOf_95 ?_
        refine rn_ireturn C rfl rfl d_M_colourOf_96 ⟨by decide, by decide⟩ ?_
        first
          | (have q1 := (lI_le ⟨by omega, by omega⟩ ⟨by omega, by omega⟩).mp c70; have q2 := (lI_le ⟨by omega, by omega⟩ ⟨by omega, by omega⟩).mp c83; rw [show max 0 (min 255 (A / (2 * d))) = A.tdiv (2 * d) by omega] at k1; rw [lI_toI ⟨by omega, by omega⟩]; exact k1)
          | (have q1 := (lI_le ⟨by omega, by omega⟩ ⟨by omega, by omega⟩).mp c70; have q2 : ¬ A.tdiv (2 * d) ≤ 255 := fun w => c83 ((lI_le ⟨by omega, by omega⟩ ⟨by omega, by omega⟩).mpr w); rw [show max 0 (min 255 (A / (2 * d))) = 255 by omega] at k1; exact k1)
          | (have q1 : ¬ 0 ≤ A.tdiv (2 * d) := fun w => c70 ((lI_le ⟨by omega, by omega⟩ ⟨by omega, by omega⟩).mpr w); rw [show max 0 (min 255 (A / (2 * d))) = 0 by omega] at k1; exact k1)
      · skip
        refine rn_sipush C (iI 255) d_M_colourOf_87 (by decide) ?_
        refine rn_goto C 96 d_M_colourOf_90 (by decide) ?_
        refine rn_ireturn C rfl rfl d_M_colourOf_96 ⟨by decide, by decide⟩ ?_
        first
          | (have q1 := (lI_le ⟨by omega, by omega⟩ ⟨by omega, by omega⟩).mp c70; have q2 := (lI_le ⟨by omega, by omega⟩ ⟨by omega, by omega⟩).mp c83; rw [show max 0 (min 255 (A / (2 * d))) = A.tdiv (2 * d) by omega] at k1; rw [lI_toI ⟨by omega, by omega⟩]; exact k1)
          | (have q1 := (lI_le ⟨by omega, by omega⟩ ⟨by omega, by omega⟩).mp c70; have q2 : ¬ A.tdiv (2 * d) ≤ 255 := fun w => c83 ((lI_le ⟨by omega, by omega⟩ ⟨by omega, by omega⟩).mpr w); rw [show max 0 (min 255 (A / (2 * d))) = 255 by omega] at k1; exact k1)
          | (have q1 : ¬ 0 ≤ A.tdiv (2 * d) := fun w => c70 ((lI_le ⟨by omega, by omega⟩ ⟨by omega, by omega⟩).mpr w); rw [show max 0 (min 255 (A / (2 * d))) = 0 by omega] at k1; exact k1)
    · skip
      refine rn_iconst C (iI 0) d_M_colourOf_74 (by decide) ?_
      refine rn_goto C 96 d_M_colourOf_75 (by decide) ?_
      refine rn_ireturn C rfl rfl d_M_colourOf_96 ⟨by decide, by decide⟩ ?_
      first
        | (have q1 := (lI_le ⟨by omega, by omega⟩ ⟨by omega, by omega⟩).mp c70; have q2 := (lI_le ⟨by omega, by omega⟩ ⟨by omega, by omega⟩).mp c83; rw [show max 0 (min 255 (A / (2 * d))) = A.tdiv (2 * d) by omega] at k1; rw [lI_toI ⟨by omega, by omega⟩]; exact k1)
        | (have q1 := (lI_le ⟨by omega, by omega⟩ ⟨by omega, by omega⟩).mp c70; have q2 : ¬ A.tdiv (2 * d) ≤ 255 := fun w => c83 ((lI_le ⟨by omega, by omega⟩ ⟨by omega, by omega⟩).mpr w); rw [show max 0 (min 255 (A / (2 * d))) = 255 by omega] at k1; exact k1)
        | (have q1 : ¬ 0 ≤ A.tdiv (2 * d) := fun w => c70 ((lI_le ⟨by omega, by omega⟩ ⟨by omega, by omega⟩).mpr w); rw [show max 0 (min 255 (A / (2 * d))) = 0 by omega] at k1; exact k1)
  · skip
    have f2 : ¬ A.tdiv (2 * d) * (2 * d) ≤ A := fun w => c52 ((lI_le (a := A.tdiv (2 * d) * (2 * d)) (b := A) ⟨by omega, by omega⟩ ⟨by omega, by omega⟩).mpr w)
    rw [if_pos (show A < A.tdiv (2 * d) * (2 * d) by omega)] at fl
    refine rn_lload C d_M_colourOf_56 rfl ?_
    refine rn_lconst C (lI 1) d_M_colourOf_58 (by decide) ?_
    refine rn_lsub C d_M_colourOf_59 ?_
    rw [lI_sub]
    refine rn_goto C 65 d_M_colourOf_60 (by decide) ?_
    refine rn_lstore C d_M_colourOf_65 (by decide) ?_
    refine rn_lload C d_M_colourOf_67 rfl ?_
    refine rn_lconst C (lI 0) d_M_colourOf_69 (by decide) ?_
    refine rn_lc_ge C 78 d_M_colourOf_70 d_M_colourOf_71 (by decide) (fun c70 => ?_) (fun c70 => ?_)
    · skip
      refine rn_lload C d_M_colourOf_78 rfl ?_
      refine rn_ldc2 C v_M_154 d_M_colourOf_80 ?_
      rw [show (255 : Int64) = lI 255 from rfl]
      refine rn_lc_le C 93 d_M_colourOf_83 d_M_colourOf_84 (by decide) (fun c83 => ?_) (fun c83 => ?_)
      · skip
        refine rn_lload C d_M_colourOf_93 rfl ?_
        refine rn_l2i C d_M_colourOf_95 ?_
        refine rn_ireturn C rfl rfl d_M_colourOf_96 ⟨by decide, by decide⟩ ?_
        first
          | (have q1 := (lI_le ⟨by omega, by omega⟩ ⟨by omega, by omega⟩).mp c70; have q2 := (lI_le ⟨by omega, by omega⟩ ⟨by omega, by omega⟩).mp c83; rw [show max 0 (min 255 (A / (2 * d))) = (A.tdiv (2 * d) - 1) by omega] at k1; rw [lI_toI ⟨by omega, by omega⟩]; exact k1)
          | (have q1 := (lI_le ⟨by omega, by omega⟩ ⟨by omega, by omega⟩).mp c70; have q2 : ¬ (A.tdiv (2 * d) - 1) ≤ 255 := fun w => c83 ((lI_le ⟨by omega, by omega⟩ ⟨by omega, by omega⟩).mpr w); rw [show max 0 (min 255 (A / (2 * d))) = 255 by omega] at k1; exact k1)
          | (have q1 : ¬ 0 ≤ (A.tdiv (2 * d) - 1) := fun w => c70 ((lI_le ⟨by omega, by omega⟩ ⟨by omega, by omega⟩).mpr w); rw [show max 0 (min 255 (A / (2 * d))) = 0 by omega] at k1; exact k1)
      · skip
        refine rn_sipush C (iI 255) d_M_colourOf_87 (by decide) ?_
        refine rn_goto C 96 d_M_colourOf_90 (by decide) ?_
        refine rn_ireturn C rfl rfl d_M_colourOf_96 ⟨by decide, by decide⟩ ?_
        first
          | (have q1 := (lI_le ⟨by omega, by omega⟩ ⟨by omega, by omega⟩).mp c70; have q2 := (lI_le ⟨by omega, by omega⟩ ⟨by omega, by omega⟩).mp c83; rw [show max 0 (min 255 (A / (2 * d))) = (A.tdiv (2 * d) - 1) by omega] at k1; rw [lI_toI ⟨by omega, by omega⟩]; exact k1)
          | (have q1 := (lI_le ⟨by omega, by omega⟩ ⟨by omega, by omega⟩).mp c70; have q2 : ¬ (A.tdiv (2 * d) - 1) ≤ 255 := fun w => c83 ((lI_le ⟨by omega, by omega⟩ ⟨by omega, by omega⟩).mpr w); rw [show max 0 (min 255 (A / (2 * d))) = 255 by omega] at k1; exact k1)
          | (have q1 : ¬ 0 ≤ (A.tdiv (2 * d) - 1) := fun w => c70 ((lI_le ⟨by omega, by omega⟩ ⟨by omega, by omega⟩).mpr w); rw [show max 0 (min 255 (A / (2 * d))) = 0 by omega] at k1; exact k1)
    · skip
      refine rn_iconst C (iI 0) d_M_colourOf_74 (by decide) ?_
      refine rn_goto C 96 d_M_colourOf_75 (by decide) ?_
      refine rn_ireturn C rfl rfl d_M_colourOf_96 ⟨by decide, by decide⟩ ?_
      first
        | (have q1 := (lI_le ⟨by omega, by omega⟩ ⟨by omega, by omega⟩).mp c70; have q2 := (lI_le ⟨by omega, by omega⟩ ⟨by omega, by omega⟩).mp c83; rw [show max 0 (min 255 (A / (2 * d))) = (A.tdiv (2 * d) - 1) by omega] at k1; rw [lI_toI ⟨by omega, by omega⟩]; exact k1)
        | (have q1 := (lI_le ⟨by omega, by omega⟩ ⟨by omega, by omega⟩).mp c70; have q2 : ¬ (A.tdiv (2 * d) - 1) ≤ 255 := fun w => c83 ((lI_le ⟨by omega, by omega⟩ ⟨by omega, by omega⟩).mpr w); rw [show max 0 (min 255 (A / (2 * d))) = 255 by omega] at k1; exact k1)
        | (have q1 : ¬ 0 ≤ (A.tdiv (2 * d) - 1) := fun w => c70 ((lI_le ⟨by omega, by omega⟩ ⟨by omega, by omega⟩).mpr w); rw [show max 0 (min 255 (A / (2 * d))) = 0 by omega] at k1; exact k1)

def G_M_colour (av : List Value) (h : ah_H) (K : ah_R → ah_H → Prop) : Prop := ∃ (e22 e23 e24 e25 : ah_E) (pre rest : ah_H) (xth xw xg xfo xle xto xri xbo xco xro xqu xnt xsg xrk xdy xce xsu : Int32) (xsq : Int64) (ma mb md : Nat → Int64) (fi p v : Int) (A B D : Int → Int), av = [.ref 21, .int (iI p), .int (iI v)] ∧ h = pre ++ cM xth xw xg xfo xle xto xri xbo xco xro xqu xnt (iI fi) xsg xrk xdy xce xsu xsq :: e22 :: e23 :: e24 :: e25 :: aL 3 ma :: aL 3 mb :: aL 3 md :: rest ∧ pre.length = 21 ∧ (inI p) ∧ (inI v) ∧ (fi = 0 ∨ fi = 1) ∧ (lnOk fi ma mb md A B D) ∧ (¬ (0 ≤ p ∧ p ≤ 2) → K (.inl (some (.int (iI 0)))) (pre ++ cM (iI 1) xw xg xfo xle xto xri xbo xco xro xqu xnt (iI fi) xsg xrk xdy xce xsu xsq :: e22 :: e23 :: e24 :: e25 :: aL 3 ma :: aL 3 mb :: aL 3 md :: rest)) ∧ ((0 ≤ p ∧ p ≤ 2) → ¬ (0 ≤ v ∧ v ≤ 255) → K (.inl (some (.int (iI 0)))) (pre ++ cM (iI 2) xw xg xfo xle xto xri xbo xco xro xqu xnt (iI fi) xsg xrk xdy xce xsu xsq :: e22 :: e23 :: e24 :: e25 :: aL 3 ma :: aL 3 mb :: aL 3 md :: rest)) ∧ ((0 ≤ p ∧ p ≤ 2) → (0 ≤ v ∧ v ≤ 255) → fi = 0 → K (.inl (some (.int (iI 0)))) (pre ++ cM (iI 3) xw xg xfo xle xto xri xbo xco xro xqu xnt (iI fi) xsg xrk xdy xce xsu xsq :: e22 :: e23 :: e24 :: e25 :: aL 3 ma :: aL 3 mb :: aL 3 md :: rest)) ∧ ((0 ≤ p ∧ p ≤ 2) → (0 ≤ v ∧ v ≤ 255) → fi = 1 → K (.inl (some (.int (iI (colI (A p) (B p) (D p) v))))) (pre ++ cM (iI 0) xw xg xfo xle xto xri xbo xco xro xqu xnt (iI fi) xsg xrk xdy xce xsu xsq :: e22 :: e23 :: e24 :: e25 :: aL 3 ma :: aL 3 mb :: aL 3 md :: rest))
set_option maxHeartbeats 4000000 in
set_option maxRecDepth 100000 in
theorem c_M_colour (l : Launch) : rn_Met l y_M_colour wc_M_colour { frames := 2, cells := 0, slots := 0, locals := 28 } G_M_colour := by
  refine rn_in mw_M_colour.1 (by decide +kernel) ?_ ?_
  · intro _ av h K hG
    obtain ⟨e22, e23, e24, e25, pre, rest, xth, xw, xg, xfo, xle, xto, xri, xbo, xco, xro, xqu, xnt, xsg, xrk, xdy, xce, xsu, xsq, ma, mb, md, fi, p_, v, A, B, D_, rfl, rfl, hp, hc0, hc1, hc2, hc3, k1, k2, k3, k4⟩ := hG
    exact Nat.le_of_ble_eq_true rfl
  intro p e s m args below meth c z sa D dA av h K hadm C hG
  obtain ⟨e22, e23, e24, e25, pre, rest, xth, xw, xg, xfo, xle, xto, xri, xbo, xco, xro, xqu, xnt, xsg, xrk, xdy, xce, xsu, xsq, ma, mb, md, fi, p_, v, A, B, D_, rfl, rfl, hp, hc0, hc1, hc2, hc3, k1, k2, k3, k4⟩ := hG
  have hc0a := hc0.1
  have hc0b := hc0.2
  have hc1a := hc1.1
  have hc1b := hc1.2
  rcases hc2 with rfl | rfl
  · skip
    refine rn_aload_n C d_M_colour_0 rfl ?_
    refine rn_iload_n C d_M_colour_1 rfl ?_
    refine rn_iconst C (iI 0) d_M_colour_2 (by decide) ?_
    refine rn_iconst C (iI 2) d_M_colour_3 (by decide) ?_
    refine rn_cS C (c2_M_within l) mw_M_within k_M_70 d_M_colour_4 (Nat.le_of_ble_eq_true rfl) (Nat.le_of_ble_eq_true rfl) ⟨by decide, by decide⟩ ⟨by decide, by decide⟩ ?_
    refine ⟨_, _, _, rfl, ⟨by omega, by omega⟩, ⟨by omega, by omega⟩, ⟨by omega, by omega⟩, fun q4 => ?_, fun q4 => ?_⟩
    · skip
      refine rn_iload_n C d_M_colour_7 rfl ?_
      refine rn_iconst C (iI 0) d_M_colour_8 (by decide) ?_
      refine rn_sipush C (iI 255) d_M_colour_9 (by decide) ?_
      refine rn_cS C (c2_M_within l) mw_M_within k_M_70 d_M_colour_12 (Nat.le_of_ble_eq_true rfl) (Nat.le_of_ble_eq_true rfl) ⟨by decide, by decide⟩ ⟨by decide, by decide⟩ ?_
      refine ⟨_, _, _, rfl, ⟨by omega, by omega⟩, ⟨by omega, by omega⟩, ⟨by omega, by omega⟩, fun q12 => ?_, fun q12 => ?_⟩
      · skip
        refine rn_aload_n C d_M_colour_15 rfl ?_
        refine rn_getM C hp f_M_149 d_M_colour_16 rfl ?_
        refine rn_cV C (c_M_goes l) mw_M_goes k_M_78 d_M_colour_19 rfl (mH 0 hp rfl rfl) rfl (Nat.le_of_ble_eq_true rfl) (Nat.le_of_ble_eq_true rfl) ⟨by decide, by decide⟩ ⟨by decide, by decide⟩ ?_
        refine ⟨_, _, _, _, _, _, _, _, _, _, _, _, _, _, _, _, _, _, _, _, _, _, _, _, rfl, rfl, hp, ?_⟩
        refine rn_if_eq C 34 d_M_colour_22 (by decide) (fun _ => ?_) (fun q => absurd rfl q)
        refine rn_iconst C (iI 0) d_M_colour_34 (by decide) ?_
        refine rn_ireturn C rfl rfl d_M_colour_35 ⟨by decide, by decide⟩ ?_
        first | exact k1 (by omega) | exact k2 (by omega) (by omega) | exact k3 (by omega) (by omega) rfl | exact k4 (by omega) (by omega) rfl
      · skip
        refine rn_aload_n C d_M_colour_15 rfl ?_
        refine rn_getM C hp f_M_149 d_M_colour_16 rfl ?_
        refine rn_cV C (c_M_goes l) mw_M_goes k_M_78 d_M_colour_19 rfl (mH 0 hp rfl rfl) rfl (Nat.le_of_ble_eq_true rfl) (Nat.le_of_ble_eq_true rfl) ⟨by decide, by decide⟩ ⟨by decide, by decide⟩ ?_
        refine ⟨_, _, _, _, _, _, _, _, _, _, _, _, _, _, _, _, _, _, _, _, _, _, _, _, rfl, rfl, hp, ?_⟩
        refine rn_if_eq C 34 d_M_colour_22 (by decide) (fun _ => ?_) (fun q => absurd rfl q)
        refine rn_iconst C (iI 0) d_M_colour_34 (by decide) ?_
        refine rn_ireturn C rfl rfl d_M_colour_35 ⟨by decide, by decide⟩ ?_
        first | exact k1 (by omega) | exact k2 (by omega) (by omega) | exact k3 (by omega) (by omega) rfl | exact k4 (by omega) (by omega) rfl
    · skip
      refine rn_iload_n C d_M_colour_7 rfl ?_
      refine rn_iconst C (iI 0) d_M_colour_8 (by decide) ?_
      refine rn_sipush C (iI 255) d_M_colour_9 (by decide) ?_
      refine rn_cS C (c2_M_within l) mw_M_within k_M_70 d_M_colour_12 (Nat.le_of_ble_eq_true rfl) (Nat.le_of_ble_eq_true rfl) ⟨by decide, by decide⟩ ⟨by decide, by decide⟩ ?_
      refine ⟨_, _, _, rfl, ⟨by omega, by omega⟩, ⟨by omega, by omega⟩, ⟨by omega, by omega⟩, fun q12 => ?_, fun q12 => ?_⟩
      · skip
        refine rn_aload_n C d_M_colour_15 rfl ?_
        refine rn_getM C hp f_M_149 d_M_colour_16 rfl ?_
        refine rn_cV C (c_M_goes l) mw_M_goes k_M_78 d_M_colour_19 rfl (mH 0 hp rfl rfl) rfl (Nat.le_of_ble_eq_true rfl) (Nat.le_of_ble_eq_true rfl) ⟨by decide, by decide⟩ ⟨by decide, by decide⟩ ?_
        refine ⟨_, _, _, _, _, _, _, _, _, _, _, _, _, _, _, _, _, _, _, _, _, _, _, _, rfl, rfl, hp, ?_⟩
        refine rn_if_eq C 34 d_M_colour_22 (by decide) (fun _ => ?_) (fun q => absurd rfl q)
        refine rn_iconst C (iI 0) d_M_colour_34 (by decide) ?_
        refine rn_ireturn C rfl rfl d_M_colour_35 ⟨by decide, by decide⟩ ?_
        first | exact k1 (by omega) | exact k2 (by omega) (by omega) | exact k3 (by omega) (by omega) rfl | exact k4 (by omega) (by omega) rfl
      · skip
        refine rn_aload_n C d_M_colour_15 rfl ?_
        refine rn_getM C hp f_M_149 d_M_colour_16 rfl ?_
        refine rn_cV C (c_M_goes l) mw_M_goes k_M_78 d_M_colour_19 rfl (mH 0 hp rfl rfl) rfl (Nat.le_of_ble_eq_true rfl) (Nat.le_of_ble_eq_true rfl) ⟨by decide, by decide⟩ ⟨by decide, by decide⟩ ?_
        refine ⟨_, _, _, _, _, _, _, _, _, _, _, _, _, _, _, _, _, _, _, _, _, _, _, _, rfl, rfl, hp, ?_⟩
        refine rn_if_eq C 34 d_M_colour_22 (by decide) (fun _ => ?_) (fun q => absurd rfl q)
        refine rn_iconst C (iI 0) d_M_colour_34 (by decide) ?_
        refine rn_ireturn C rfl rfl d_M_colour_35 ⟨by decide, by decide⟩ ?_
        first | exact k1 (by omega) | exact k2 (by omega) (by omega) | exact k3 (by omega) (by omega) rfl | exact k4 (by omega) (by omega) rfl
  · skip
    refine rn_aload_n C d_M_colour_0 rfl ?_
    refine rn_iload_n C d_M_colour_1 rfl ?_
    refine rn_iconst C (iI 0) d_M_colour_2 (by decide) ?_
    refine rn_iconst C (iI 2) d_M_colour_3 (by decide) ?_
    refine rn_cS C (c2_M_within l) mw_M_within k_M_70 d_M_colour_4 (Nat.le_of_ble_eq_true rfl) (Nat.le_of_ble_eq_true rfl) ⟨by decide, by decide⟩ ⟨by decide, by decide⟩ ?_
    refine ⟨_, _, _, rfl, ⟨by omega, by omega⟩, ⟨by omega, by omega⟩, ⟨by omega, by omega⟩, fun q4 => ?_, fun q4 => ?_⟩
    · skip
      refine rn_iload_n C d_M_colour_7 rfl ?_
      refine rn_iconst C (iI 0) d_M_colour_8 (by decide) ?_
      refine rn_sipush C (iI 255) d_M_colour_9 (by decide) ?_
      refine rn_cS C (c2_M_within l) mw_M_within k_M_70 d_M_colour_12 (Nat.le_of_ble_eq_true rfl) (Nat.le_of_ble_eq_true rfl) ⟨by decide, by decide⟩ ⟨by decide, by decide⟩ ?_
      refine ⟨_, _, _, rfl, ⟨by omega, by omega⟩, ⟨by omega, by omega⟩, ⟨by omega, by omega⟩, fun q12 => ?_, fun q12 => ?_⟩
      · skip
        refine rn_aload_n C d_M_colour_15 rfl ?_
        refine rn_getM C hp f_M_149 d_M_colour_16 rfl ?_
        refine rn_cV C (c_M_goes l) mw_M_goes k_M_78 d_M_colour_19 rfl (mH 0 hp rfl rfl) rfl (Nat.le_of_ble_eq_true rfl) (Nat.le_of_ble_eq_true rfl) ⟨by decide, by decide⟩ ⟨by decide, by decide⟩ ?_
        refine ⟨_, _, _, _, _, _, _, _, _, _, _, _, _, _, _, _, _, _, _, _, _, _, _, _, rfl, rfl, hp, ?_⟩
        refine rn_if_eq C 34 d_M_colour_22 (by decide) (fun q => absurd q (by decide)) (fun _ => ?_)
        refine rn_aload_n C d_M_colour_25 rfl ?_
        refine rn_iload_n C d_M_colour_26 rfl ?_
        refine rn_iload_n C d_M_colour_27 rfl ?_
        refine rn_cV C (c_M_colourOf l) mw_M_colourOf k_M_156 d_M_colour_28 rfl (mH 0 hp rfl rfl) rfl (Nat.le_of_ble_eq_true rfl) (Nat.le_of_ble_eq_true rfl) ⟨by decide, by decide⟩ ⟨by decide, by decide⟩ ?_
        obtain ⟨l1, l2, l3, l4, l5, l6, l7⟩ := hc3 rfl p_ (by omega) (by omega)
        refine ⟨_, _, _, _, _, _, _, _, _, _, _, _, _, _, _, _, _, _, _, _, _, _, _, _, _, _, _, _, _, _, _, _, _, rfl, rfl, hp, by omega, by omega, l1, l2, l3, l4, l5, l6, l7, ?_⟩
        refine rn_goto C 35 d_M_colour_31 (by decide) ?_
        refine rn_ireturn C rfl rfl d_M_colour_35 ⟨by decide, by decide⟩ ?_
        first | exact k1 (by omega) | exact k2 (by omega) (by omega) | exact k3 (by omega) (by omega) rfl | exact k4 (by omega) (by omega) rfl
      · skip
        refine rn_aload_n C d_M_colour_15 rfl ?_
        refine rn_getM C hp f_M_149 d_M_colour_16 rfl ?_
        refine rn_cV C (c_M_goes l) mw_M_goes k_M_78 d_M_colour_19 rfl (mH 0 hp rfl rfl) rfl (Nat.le_of_ble_eq_true rfl) (Nat.le_of_ble_eq_true rfl) ⟨by decide, by decide⟩ ⟨by decide, by decide⟩ ?_
        refine ⟨_, _, _, _, _, _, _, _, _, _, _, _, _, _, _, _, _, _, _, _, _, _, _, _, rfl, rfl, hp, ?_⟩
        refine rn_if_eq C 34 d_M_colour_22 (by decide) (fun _ => ?_) (fun q => absurd rfl q)
        refine rn_iconst C (iI 0) d_M_colour_34 (by decide) ?_
        refine rn_ireturn C rfl rfl d_M_colour_35 ⟨by decide, by decide⟩ ?_
        first | exact k1 (by omega) | exact k2 (by omega) (by omega) | exact k3 (by omega) (by omega) rfl | exact k4 (by omega) (by omega) rfl
    · skip
      refine rn_iload_n C d_M_colour_7 rfl ?_
      refine rn_iconst C (iI 0) d_M_colour_8 (by decide) ?_
      refine rn_sipush C (iI 255) d_M_colour_9 (by decide) ?_
      refine rn_cS C (c2_M_within l) mw_M_within k_M_70 d_M_colour_12 (Nat.le_of_ble_eq_true rfl) (Nat.le_of_ble_eq_true rfl) ⟨by decide, by decide⟩ ⟨by decide, by decide⟩ ?_
      refine ⟨_, _, _, rfl, ⟨by omega, by omega⟩, ⟨by omega, by omega⟩, ⟨by omega, by omega⟩, fun q12 => ?_, fun q12 => ?_⟩
      · skip
        refine rn_aload_n C d_M_colour_15 rfl ?_
        refine rn_getM C hp f_M_149 d_M_colour_16 rfl ?_
        refine rn_cV C (c_M_goes l) mw_M_goes k_M_78 d_M_colour_19 rfl (mH 0 hp rfl rfl) rfl (Nat.le_of_ble_eq_true rfl) (Nat.le_of_ble_eq_true rfl) ⟨by decide, by decide⟩ ⟨by decide, by decide⟩ ?_
        refine ⟨_, _, _, _, _, _, _, _, _, _, _, _, _, _, _, _, _, _, _, _, _, _, _, _, rfl, rfl, hp, ?_⟩
        refine rn_if_eq C 34 d_M_colour_22 (by decide) (fun _ => ?_) (fun q => absurd rfl q)
        refine rn_iconst C (iI 0) d_M_colour_34 (by decide) ?_
        refine rn_ireturn C rfl rfl d_M_colour_35 ⟨by decide, by decide⟩ ?_
        first | exact k1 (by omega) | exact k2 (by omega) (by omega) | exact k3 (by omega) (by omega) rfl | exact k4 (by omega) (by omega) rfl
      · skip
        refine rn_aload_n C d_M_colour_15 rfl ?_
        refine rn_getM C hp f_M_149 d_M_colour_16 rfl ?_
        refine rn_cV C (c_M_goes l) mw_M_goes k_M_78 d_M_colour_19 rfl (mH 0 hp rfl rfl) rfl (Nat.le_of_ble_eq_true rfl) (Nat.le_of_ble_eq_true rfl) ⟨by decide, by decide⟩ ⟨by decide, by decide⟩ ?_
        refine ⟨_, _, _, _, _, _, _, _, _, _, _, _, _, _, _, _, _, _, _, _, _, _, _, _, rfl, rfl, hp, ?_⟩
        refine rn_if_eq C 34 d_M_colour_22 (by decide) (fun _ => ?_) (fun q => absurd rfl q)
        refine rn_iconst C (iI 0) d_M_colour_34 (by decide) ?_
        refine rn_ireturn C rfl rfl d_M_colour_35 ⟨by decide, by decide⟩ ?_
        first | exact k1 (by omega) | exact k2 (by omega) (by omega) | exact k3 (by omega) (by omega) rfl | exact k4 (by omega) (by omega) rfl

def G_M_unit (av : List Value) (h : ah_H) (K : ah_R → ah_H → Prop) : Prop := ∃ (e22 e23 e24 e25 e26 e27 e28 : ah_E) (pre rest : ah_H) (xth xw xg xfo xle xto xri xbo xco xro xqu xnt xfi xrk xdy xce xsu : Int32) (xsq : Int64) (mx_ : Nat → Int32) (sg x : Int), av = [.ref 21, .int (iI x)] ∧ h = pre ++ cM xth xw xg xfo xle xto xri xbo xco xro xqu xnt xfi (iI sg) xrk xdy xce xsu xsq :: e22 :: e23 :: e24 :: e25 :: e26 :: e27 :: e28 :: aI 20 mx_ :: rest ∧ pre.length = 21 ∧ (inI x) ∧ (0 ≤ sg ∧ sg ≤ 20) ∧ (¬ (33 ≤ x ∧ x ≤ 126) → K (.inl (some (.int (iI 0)))) (pre ++ cM (iI 1) xw xg xfo xle xto xri xbo xco xro xqu xnt xfi (iI sg) xrk xdy xce xsu xsq :: e22 :: e23 :: e24 :: e25 :: e26 :: e27 :: e28 :: aI 20 mx_ :: rest)) ∧ ((33 ≤ x ∧ x ≤ 126) → sg = 20 → K (.inl (some (.int (iI 0)))) (pre ++ cM (iI 2) xw xg xfo xle xto xri xbo xco xro xqu xnt xfi (iI sg) xrk xdy xce xsu xsq :: e22 :: e23 :: e24 :: e25 :: e26 :: e27 :: e28 :: aI 20 mx_ :: rest)) ∧ ((33 ≤ x ∧ x ≤ 126) → sg < 20 → K (.inl (some (.int (iI (sg + 1))))) (pre ++ cM (iI 0) xw xg xfo xle xto xri xbo xco xro xqu xnt xfi (iI (sg + 1)) xrk xdy xce xsu xsq :: e22 :: e23 :: e24 :: e25 :: e26 :: e27 :: e28 :: aI 20 (upd mx_ sg.toNat (iI x)) :: rest))
set_option maxHeartbeats 4000000 in
set_option maxRecDepth 100000 in
theorem c_M_unit (l : Launch) : rn_Met l y_M_unit wc_M_unit { frames := 2, cells := 0, slots := 0, locals := 23 } G_M_unit := by
  refine rn_in mw_M_unit.1 (by decide +kernel) ?_ ?_
  · intro _ av h K hG
    obtain ⟨e22, e23, e24, e25, e26, e27, e28, pre, rest, xth, xw, xg, xfo, xle, xto, xri, xbo, xco, xro, xqu, xnt, xfi, xrk, xdy, xce, xsu, xsq, mx_, sg, x, rfl, rfl, hp, hc0, hc1, k1, k2, k3⟩ := hG
    exact Nat.le_of_ble_eq_true rfl
  intro p e s m args below meth c z sa D dA av h K hadm C hG
  obtain ⟨e22, e23, e24, e25, e26, e27, e28, pre, rest, xth, xw, xg, xfo, xle, xto, xri, xbo, xco, xro, xqu, xnt, xfi, xrk, xdy, xce, xsu, xsq, mx_, sg, x, rfl, rfl, hp, hc0, hc1, k1, k2, k3⟩ := hG
  have hc0a := hc0.1
  have hc0b := hc0.2
  have hs : (iI 20 ≤ iI sg) ↔ 20 ≤ sg := iI_le ⟨by omega, by omega⟩ ⟨by omega, by omega⟩
  refine rn_aload_n C d_M_unit_0 rfl ?_
  refine rn_iload_n C d_M_unit_1 rfl ?_
  refine rn_bipush C (iI 33) d_M_unit_2 (by decide) ?_
  refine rn_bipush C (iI 126) d_M_unit_4 (by decide) ?_
  refine rn_cS C (c2_M_within l) mw_M_within k_M_70 d_M_unit_6 (Nat.le_of_ble_eq_true rfl) (Nat.le_of_ble_eq_true rfl) ⟨by decide, by decide⟩ ⟨by decide, by decide⟩ ?_
  refine ⟨_, _, _, rfl, ⟨by omega, by omega⟩, ⟨by omega, by omega⟩, ⟨by omega, by omega⟩, fun q6 => ?_, fun q6 => ?_⟩
  · skip
    refine rn_aload_n C d_M_unit_9 rfl ?_
    refine rn_getM C hp f_M_163 d_M_unit_10 rfl ?_
    refine rn_bipush C (iI 20) d_M_unit_13 (by decide) ?_
    refine rn_icmp_ge C 22 d_M_unit_15 (by decide) (fun c15 => ?_) (fun c15 => ?_)
    · skip
      refine rn_iconst C (iI 0) d_M_unit_22 (by decide) ?_
      refine rn_iconst C (iI 1) d_M_unit_23 (by decide) ?_
      refine rn_cV C (c_M_goes l) mw_M_goes k_M_78 d_M_unit_24 rfl (mH 0 hp rfl rfl) rfl (Nat.le_of_ble_eq_true rfl) (Nat.le_of_ble_eq_true rfl) ⟨by decide, by decide⟩ ⟨by decide, by decide⟩ ?_
      refine ⟨_, _, _, _, _, _, _, _, _, _, _, _, _, _, _, _, _, _, _, _, _, _, _, _, rfl, rfl, hp, ?_⟩
      refine rn_if_ne C 32 d_M_unit_27 (by decide) (fun q => absurd rfl q) (fun _ => ?_)
      refine rn_iconst C (iI 0) d_M_unit_30 (by decide) ?_
      refine rn_ireturn C rfl rfl d_M_unit_31 ⟨by decide, by decide⟩ ?_
      rw [hs] at c15
      first | exact k1 (by omega) | exact k2 (by omega) (by omega)
    · skip
      refine rn_iconst C (iI 1) d_M_unit_18 (by decide) ?_
      refine rn_goto C 23 d_M_unit_19 (by decide) ?_
      refine rn_iconst C (iI 1) d_M_unit_23 (by decide) ?_
      refine rn_cV C (c_M_goes l) mw_M_goes k_M_78 d_M_unit_24 rfl (mH 0 hp rfl rfl) rfl (Nat.le_of_ble_eq_true rfl) (Nat.le_of_ble_eq_true rfl) ⟨by decide, by decide⟩ ⟨by decide, by decide⟩ ?_
      refine ⟨_, _, _, _, _, _, _, _, _, _, _, _, _, _, _, _, _, _, _, _, _, _, _, _, rfl, rfl, hp, ?_⟩
      refine rn_if_ne C 32 d_M_unit_27 (by decide) (fun _ => ?_) (fun q => absurd q (by decide))
      rw [hs] at c15
      refine rn_aload_n C d_M_unit_32 rfl ?_
      refine rn_getM C hp f_M_43 d_M_unit_33 rfl ?_
      refine rn_aload_n C d_M_unit_36 rfl ?_
      refine rn_getM C hp f_M_163 d_M_unit_37 rfl ?_
      refine rn_iload_n C d_M_unit_40 rfl ?_
      refine rn_isM C hp (j := 8) d_M_unit_41 rfl rfl (iI_vin (by omega) (by omega) (by omega)) rfl ?_
      rw [iI_nat (by omega) (by omega)]
      refine rn_aload_n C d_M_unit_42 rfl ?_
      refine rn_dup C d_M_unit_43 rfl ?_
      refine rn_getM C hp f_M_163 d_M_unit_44 rfl ?_
      refine rn_iconst C (iI 1) d_M_unit_47 (by decide) ?_
      refine rn_iadd C d_M_unit_48 ?_
      rw [iI_add]
      refine rn_putM C hp f_M_163 ft_M fn_M_20 d_M_unit_49 (Nat.le_of_ble_eq_true rfl) (fun _ _ => ⟨rfl, rfl⟩) rfl ?_
      refine rn_aload_n C d_M_unit_52 rfl ?_
      refine rn_getM C hp f_M_163 d_M_unit_53 rfl ?_
      refine rn_ireturn C rfl rfl d_M_unit_56 ⟨by decide, by decide⟩ ?_
      exact k3 (by omega) (by omega)
  · skip
    refine rn_aload_n C d_M_unit_9 rfl ?_
    refine rn_getM C hp f_M_163 d_M_unit_10 rfl ?_
    refine rn_bipush C (iI 20) d_M_unit_13 (by decide) ?_
    refine rn_icmp_ge C 22 d_M_unit_15 (by decide) (fun c15 => ?_) (fun c15 => ?_)
    · skip
      refine rn_iconst C (iI 0) d_M_unit_22 (by decide) ?_
      refine rn_iconst C (iI 1) d_M_unit_23 (by decide) ?_
      refine rn_cV C (c_M_goes l) mw_M_goes k_M_78 d_M_unit_24 rfl (mH 0 hp rfl rfl) rfl (Nat.le_of_ble_eq_true rfl) (Nat.le_of_ble_eq_true rfl) ⟨by decide, by decide⟩ ⟨by decide, by decide⟩ ?_
      refine ⟨_, _, _, _, _, _, _, _, _, _, _, _, _, _, _, _, _, _, _, _, _, _, _, _, rfl, rfl, hp, ?_⟩
      refine rn_if_ne C 32 d_M_unit_27 (by decide) (fun q => absurd rfl q) (fun _ => ?_)
      refine rn_iconst C (iI 0) d_M_unit_30 (by decide) ?_
      refine rn_ireturn C rfl rfl d_M_unit_31 ⟨by decide, by decide⟩ ?_
      rw [hs] at c15
      first | exact k1 (by omega) | exact k2 (by omega) (by omega)
    · skip
      refine rn_iconst C (iI 1) d_M_unit_18 (by decide) ?_
      refine rn_goto C 23 d_M_unit_19 (by decide) ?_
      refine rn_iconst C (iI 1) d_M_unit_23 (by decide) ?_
      refine rn_cV C (c_M_goes l) mw_M_goes k_M_78 d_M_unit_24 rfl (mH 0 hp rfl rfl) rfl (Nat.le_of_ble_eq_true rfl) (Nat.le_of_ble_eq_true rfl) ⟨by decide, by decide⟩ ⟨by decide, by decide⟩ ?_
      refine ⟨_, _, _, _, _, _, _, _, _, _, _, _, _, _, _, _, _, _, _, _, _, _, _, _, rfl, rfl, hp, ?_⟩
      refine rn_if_ne C 32 d_M_unit_27 (by decide) (fun q => absurd rfl q) (fun _ => ?_)
      refine rn_iconst C (iI 0) d_M_unit_30 (by decide) ?_
      refine rn_ireturn C rfl rfl d_M_unit_31 ⟨by decide, by decide⟩ ?_
      rw [hs] at c15
      first | exact k1 (by omega) | exact k2 (by omega) (by omega)

def G_M_day (av : List Value) (h : ah_H) (K : ah_R → ah_H → Prop) : Prop := ∃ (e22 e23 e24 e25 e26 e27 e28 e29 e30 e31 e32 : ah_E) (pre rest : ah_H) (xth xw xg xfo xle xto xri xbo xco xro xqu xnt xfi xsg xrk xce xsu : Int32) (xsq : Int64) (my mv : Nat → Int32) (dy x y : Int), av = [.ref 21, .int (iI x), .int (iI y)] ∧ h = pre ++ cM xth xw xg xfo xle xto xri xbo xco xro xqu xnt xfi xsg xrk (iI dy) xce xsu xsq :: e22 :: e23 :: e24 :: e25 :: e26 :: e27 :: e28 :: e29 :: e30 :: e31 :: e32 :: aI 40 my :: aI 40 mv :: rest ∧ pre.length = 21 ∧ (inI x) ∧ (inI y) ∧ (0 ≤ dy ∧ dy ≤ 40) ∧ (¬ (0 ≤ x ∧ x ≤ 100000 ∧ 0 ≤ y ∧ y ≤ 1000) → K (.inl (some (.int (iI 0)))) (pre ++ cM (iI 1) xw xg xfo xle xto xri xbo xco xro xqu xnt xfi xsg xrk (iI dy) xce xsu xsq :: e22 :: e23 :: e24 :: e25 :: e26 :: e27 :: e28 :: e29 :: e30 :: e31 :: e32 :: aI 40 my :: aI 40 mv :: rest)) ∧ ((0 ≤ x ∧ x ≤ 100000 ∧ 0 ≤ y ∧ y ≤ 1000) → dy = 40 → K (.inl (some (.int (iI 0)))) (pre ++ cM (iI 2) xw xg xfo xle xto xri xbo xco xro xqu xnt xfi xsg xrk (iI dy) xce xsu xsq :: e22 :: e23 :: e24 :: e25 :: e26 :: e27 :: e28 :: e29 :: e30 :: e31 :: e32 :: aI 40 my :: aI 40 mv :: rest)) ∧ ((0 ≤ x ∧ x ≤ 100000 ∧ 0 ≤ y ∧ y ≤ 1000) → dy < 40 → K (.inl (some (.int (iI (dy + 1))))) (pre ++ cM (iI 0) xw xg xfo xle xto xri xbo xco xro xqu xnt xfi xsg xrk (iI (dy + 1)) xce xsu xsq :: e22 :: e23 :: e24 :: e25 :: e26 :: e27 :: e28 :: e29 :: e30 :: e31 :: e32 :: aI 40 (upd my dy.toNat (iI x)) :: aI 40 (upd mv dy.toNat (iI y)) :: rest))
set_option maxHeartbeats 4000000 in
set_option maxRecDepth 100000 in
theorem c_M_day (l : Launch) : rn_Met l y_M_day wc_M_day { frames := 2, cells := 0, slots := 0, locals := 23 } G_M_day := by
  refine rn_in mw_M_day.1 (by decide +kernel) ?_ ?_
  · intro _ av h K hG
    obtain ⟨e22, e23, e24, e25, e26, e27, e28, e29, e30, e31, e32, pre, rest, xth, xw, xg, xfo, xle, xto, xri, xbo, xco, xro, xqu, xnt, xfi, xsg, xrk, xce, xsu, xsq, my, mv, dy, x, y, rfl, rfl, hp, hc0, hc1, hc2, k1, k2, k3⟩ := hG
    exact Nat.le_of_ble_eq_true rfl
  intro p e s m args below meth c z sa D dA av h K hadm C hG
  obtain ⟨e22, e23, e24, e25, e26, e27, e28, e29, e30, e31, e32, pre, rest, xth, xw, xg, xfo, xle, xto, xri, xbo, xco, xro, xqu, xnt, xfi, xsg, xrk, xce, xsu, xsq, my, mv, dy, x, y, rfl, rfl, hp, hc0, hc1, hc2, k1, k2, k3⟩ := hG
  have hc0a := hc0.1
  have hc0b := hc0.2
  have hc1a := hc1.1
  have hc1b := hc1.2
  have hs : (iI 40 ≤ iI dy) ↔ 40 ≤ dy := iI_le ⟨by omega, by omega⟩ ⟨by omega, by omega⟩
  refine rn_aload_n C d_M_day_0 rfl ?_
  refine rn_iload_n C d_M_day_1 rfl ?_
  refine rn_iconst C (iI 0) d_M_day_2 (by decide) ?_
  refine rn_ldc C v_M_172 d_M_day_3 ?_
  rw [show (100000 : Int32) = iI 100000 from rfl]
  refine rn_cS C (c2_M_within l) mw_M_within k_M_70 d_M_day_5 (Nat.le_of_ble_eq_true rfl) (Nat.le_of_ble_eq_true rfl) ⟨by decide, by decide⟩ ⟨by decide, by decide⟩ ?_
  refine ⟨_, _, _, rfl, ⟨by omega, by omega⟩, ⟨by omega, by omega⟩, ⟨by omega, by omega⟩, fun q5 => ?_, fun q5 => ?_⟩
  · skip
    refine rn_if_eq C 26 d_M_day_8 (by decide) (fun q => absurd q (by decide)) (fun _ => ?_)
    refine rn_iload_n C d_M_day_11 rfl ?_
    refine rn_iconst C (iI 0) d_M_day_12 (by decide) ?_
    refine rn_sipush C (iI 1000) d_M_day_13 (by decide) ?_
    refine rn_cS C (c2_M_within l) mw_M_within k_M_70 d_M_day_16 (Nat.le_of_ble_eq_true rfl) (Nat.le_of_ble_eq_true rfl) ⟨by decide, by decide⟩ ⟨by decide, by decide⟩ ?_
    refine ⟨_, _, _, rfl, ⟨by omega, by omega⟩, ⟨by omega, by omega⟩, ⟨by omega, by omega⟩, fun q16 => ?_, fun q16 => ?_⟩
    · skip
      refine rn_if_eq C 26 d_M_day_19 (by decide) (fun q => absurd q (by decide)) (fun _ => ?_)
      refine rn_iconst C (iI 1) d_M_day_22 (by decide) ?_
      refine rn_goto C 27 d_M_day_23 (by decide) ?_
      refine rn_aload_n C d_M_day_27 rfl ?_
      refine rn_getM C hp f_M_173 d_M_day_28 rfl ?_
      refine rn_bipush C (iI 40) d_M_day_31 (by decide) ?_
      refine rn_icmp_ge C 40 d_M_day_33 (by decide) (fun c33 => ?_) (fun c33 => ?_)
      · skip
        refine rn_iconst C (iI 0) d_M_day_40 (by decide) ?_
        refine rn_iconst C (iI 1) d_M_day_41 (by decide) ?_
        refine rn_cV C (c_M_goes l) mw_M_goes k_M_78 d_M_day_42 rfl (mH 0 hp rfl rfl) rfl (Nat.le_of_ble_eq_true rfl) (Nat.le_of_ble_eq_true rfl) ⟨by decide, by decide⟩ ⟨by decide, by decide⟩ ?_
        refine ⟨_, _, _, _, _, _, _, _, _, _, _, _, _, _, _, _, _, _, _, _, _, _, _, _, rfl, rfl, hp, ?_⟩
        refine rn_if_ne C 50 d_M_day_45 (by decide) (fun q => absurd rfl q) (fun _ => ?_)
        refine rn_iconst C (iI 0) d_M_day_48 (by decide) ?_
        refine rn_ireturn C rfl rfl d_M_day_49 ⟨by decide, by decide⟩ ?_
        rw [hs] at c33
        first | exact k1 (by omega) | exact k2 (by omega) (by omega)
      · skip
        refine rn_iconst C (iI 1) d_M_day_36 (by decide) ?_
        refine rn_goto C 41 d_M_day_37 (by decide) ?_
        refine rn_iconst C (iI 1) d_M_day_41 (by decide) ?_
        refine rn_cV C (c_M_goes l) mw_M_goes k_M_78 d_M_day_42 rfl (mH 0 hp rfl rfl) rfl (Nat.le_of_ble_eq_true rfl) (Nat.le_of_ble_eq_true rfl) ⟨by decide, by decide⟩ ⟨by decide, by decide⟩ ?_
        refine ⟨_, _, _, _, _, _, _, _, _, _, _, _, _, _, _, _, _, _, _, _, _, _, _, _, rfl, rfl, hp, ?_⟩
        refine rn_if_ne C 50 d_M_day_45 (by decide) (fun _ => ?_) (fun q => absurd q (by decide))
        rw [hs] at c33
        refine rn_aload_n C d_M_day_50 rfl ?_
        refine rn_getM C hp f_M_55 d_M_day_51 rfl ?_
        refine rn_aload_n C d_M_day_54 rfl ?_
        refine rn_getM C hp f_M_173 d_M_day_55 rfl ?_
        refine rn_iload_n C d_M_day_58 rfl ?_
        refine rn_isM C hp (j := 12) d_M_day_59 rfl rfl (iI_vin (by omega) (by omega) (by omega)) rfl ?_
        rw [iI_nat (by omega) (by omega)]
        refine rn_aload_n C d_M_day_60 rfl ?_
        refine rn_getM C hp f_M_58 d_M_day_61 rfl ?_
        refine rn_aload_n C d_M_day_64 rfl ?_
        refine rn_getM C hp f_M_173 d_M_day_65 rfl ?_
        refine rn_iload_n C d_M_day_68 rfl ?_
        refine rn_isM C hp (j := 13) d_M_day_69 rfl rfl (iI_vin (by omega) (by omega) (by omega)) rfl ?_
        rw [iI_nat (by omega) (by omega)]
        refine rn_aload_n C d_M_day_70 rfl ?_
        refine rn_dup C d_M_day_71 rfl ?_
        refine rn_getM C hp f_M_173 d_M_day_72 rfl ?_
        refine rn_iconst C (iI 1) d_M_day_75 (by decide) ?_
        refine rn_iadd C d_M_day_76 ?_
        rw [iI_add]
        refine rn_putM C hp f_M_173 ft_M fn_M_26 d_M_day_77 (Nat.le_of_ble_eq_true rfl) (fun _ _ => ⟨rfl, rfl⟩) rfl ?_
        refine rn_aload_n C d_M_day_80 rfl ?_
        refine rn_getM C hp f_M_173 d_M_day_81 rfl ?_
        refine rn_ireturn C rfl rfl d_M_day_84 ⟨by decide, by decide⟩ ?_
        exact k3 (by omega) (by omega)
    · skip
      refine rn_if_eq C 26 d_M_day_19 (by decide) (fun _ => ?_) (fun q => absurd rfl q)
      refine rn_iconst C (iI 0) d_M_day_26 (by decide) ?_
      refine rn_aload_n C d_M_day_27 rfl ?_
      refine rn_getM C hp f_M_173 d_M_day_28 rfl ?_
      refine rn_bipush C (iI 40) d_M_day_31 (by decide) ?_
      refine rn_icmp_ge C 40 d_M_day_33 (by decide) (fun c33 => ?_) (fun c33 => ?_)
      · skip
        refine rn_iconst C (iI 0) d_M_day_40 (by decide) ?_
        refine rn_iconst C (iI 1) d_M_day_41 (by decide) ?_
        refine rn_cV C (c_M_goes l) mw_M_goes k_M_78 d_M_day_42 rfl (mH 0 hp rfl rfl) rfl (Nat.le_of_ble_eq_true rfl) (Nat.le_of_ble_eq_true rfl) ⟨by decide, by decide⟩ ⟨by decide, by decide⟩ ?_
        refine ⟨_, _, _, _, _, _, _, _, _, _, _, _, _, _, _, _, _, _, _, _, _, _, _, _, rfl, rfl, hp, ?_⟩
        refine rn_if_ne C 50 d_M_day_45 (by decide) (fun q => absurd rfl q) (fun _ => ?_)
        refine rn_iconst C (iI 0) d_M_day_48 (by decide) ?_
        refine rn_ireturn C rfl rfl d_M_day_49 ⟨by decide, by decide⟩ ?_
        rw [hs] at c33
        first | exact k1 (by omega) | exact k2 (by omega) (by omega)
      · skip
        refine rn_iconst C (iI 1) d_M_day_36 (by decide) ?_
        refine rn_goto C 41 d_M_day_37 (by decide) ?_
        refine rn_iconst C (iI 1) d_M_day_41 (by decide) ?_
        refine rn_cV C (c_M_goes l) mw_M_goes k_M_78 d_M_day_42 rfl (mH 0 hp rfl rfl) rfl (Nat.le_of_ble_eq_true rfl) (Nat.le_of_ble_eq_true rfl) ⟨by decide, by decide⟩ ⟨by decide, by decide⟩ ?_
        refine ⟨_, _, _, _, _, _, _, _, _, _, _, _, _, _, _, _, _, _, _, _, _, _, _, _, rfl, rfl, hp, ?_⟩
        refine rn_if_ne C 50 d_M_day_45 (by decide) (fun q => absurd rfl q) (fun _ => ?_)
        refine rn_iconst C (iI 0) d_M_day_48 (by decide) ?_
        refine rn_ireturn C rfl rfl d_M_day_49 ⟨by decide, by decide⟩ ?_
        rw [hs] at c33
        first | exact k1 (by omega) | exact k2 (by omega) (by omega)
  · skip
    refine rn_if_eq C 26 d_M_day_8 (by decide) (fun _ => ?_) (fun q => absurd rfl q)
    refine rn_iconst C (iI 0) d_M_day_26 (by decide) ?_
    refine rn_aload_n C d_M_day_27 rfl ?_
    refine rn_getM C hp f_M_173 d_M_day_28 rfl ?_
    refine rn_bipush C (iI 40) d_M_day_31 (by decide) ?_
    refine rn_icmp_ge C 40 d_M_day_33 (by decide) (fun c33 => ?_) (fun c33 => ?_)
    · skip
      refine rn_iconst C (iI 0) d_M_day_40 (by decide) ?_
      refine rn_iconst C (iI 1) d_M_day_41 (by decide) ?_
      refine rn_cV C (c_M_goes l) mw_M_goes k_M_78 d_M_day_42 rfl (mH 0 hp rfl rfl) rfl (Nat.le_of_ble_eq_true rfl) (Nat.le_of_ble_eq_true rfl) ⟨by decide, by decide⟩ ⟨by decide, by decide⟩ ?_
      refine ⟨_, _, _, _, _, _, _, _, _, _, _, _, _, _, _, _, _, _, _, _, _, _, _, _, rfl, rfl, hp, ?_⟩
      refine rn_if_ne C 50 d_M_day_45 (by decide) (fun q => absurd rfl q) (fun _ => ?_)
      refine rn_iconst C (iI 0) d_M_day_48 (by decide) ?_
      refine rn_ireturn C rfl rfl d_M_day_49 ⟨by decide, by decide⟩ ?_
      rw [hs] at c33
      first | exact k1 (by omega) | exact k2 (by omega) (by omega)
    · skip
      refine rn_iconst C (iI 1) d_M_day_36 (by decide) ?_
      refine rn_goto C 41 d_M_day_37 (by decide) ?_
      refine rn_iconst C (iI 1) d_M_day_41 (by decide) ?_
      refine rn_cV C (c_M_goes l) mw_M_goes k_M_78 d_M_day_42 rfl (mH 0 hp rfl rfl) rfl (Nat.le_of_ble_eq_true rfl) (Nat.le_of_ble_eq_true rfl) ⟨by decide, by decide⟩ ⟨by decide, by decide⟩ ?_
      refine ⟨_, _, _, _, _, _, _, _, _, _, _, _, _, _, _, _, _, _, _, _, _, _, _, _, rfl, rfl, hp, ?_⟩
      refine rn_if_ne C 50 d_M_day_45 (by decide) (fun q => absurd rfl q) (fun _ => ?_)
      refine rn_iconst C (iI 0) d_M_day_48 (by decide) ?_
      refine rn_ireturn C rfl rfl d_M_day_49 ⟨by decide, by decide⟩ ?_
      rw [hs] at c33
      first | exact k1 (by omega) | exact k2 (by omega) (by omega)

