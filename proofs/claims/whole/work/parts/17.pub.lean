/-! First public methods, their callers in the law, the reference. Laid by wip/whole/gen_c4.py. -/
abbrev cC : ah_E := .inr (0, [.ref 1, .ref 4, .ref 5, .ref 6, .ref 7, .ref 10, .ref 14, .ref 15, .ref 20])
abbrev cI (w g : Int32) : ah_E := .inr (1, [.int w, .int g, .ref 2, .ref 3])
abbrev aI (n : Nat) (f : Nat → Int32) : ah_E := .inl (0, n, .inl f)
abbrev aL (n : Nat) (f : Nat → Int64) : ah_E := .inl (1, n, .inr (.inl f))
abbrev cY (c r t : Int32) : ah_E := .inr (3, [.int c, .int r, .int t])
abbrev xB : ah_E := .inr (10, [])
abbrev xA : ah_E := .inr (11, [])
abbrev xS : ah_E := .inr (12, [])
abbrev rmC : Room := { frames := 8, cells := 1, slots := 6, locals := 310 }
abbrev rmL : Room := { frames := 9, cells := 1, slots := 6, locals := 340 }
abbrev rmM : Room := { frames := 9, cells := 0, slots := 0, locals := 320 }
theorem vin01 : vp_in 0 1 := by unfold vp_in; decide
/-- a contract under a weaker end -/
theorem rn_mono {l : Launch} {y : MethodName} {wc : Cond} {rm : Room} {G : (Nat → Nat) → List Value → ah_H → (ah_R → ah_H → Prop) → Prop} (h : rn_MetS l y wc rm G) : rn_MetS l y wc rm (fun sa av h K => ∃ K0 : ah_R → ah_H → Prop, (∀ r h', K0 r h' → K r h') ∧ G sa av h K0) := by
  intro z sa D dA av hp K p e ha hc hk s m args below hf happ hP hK
  obtain ⟨h1, h2, h3, h4, K0, h5, h6⟩ := hP
  obtain ⟨n, o, g1, g2, g3, ⟨r, h', g4, g5⟩, g6⟩ := h z sa D dA av hp K0 p e ha hc hk s m args below hf happ ⟨h1, h2, h3, h4, h6⟩ hK
  exact ⟨n, o, g1, g2, g3, ⟨r, h', h5 r h' g4, g5⟩, g6⟩
theorem rn_wk {l : Launch} {y : MethodName} {wc : Cond} {rm : Room} {G G' : (Nat → Nat) → List Value → ah_H → (ah_R → ah_H → Prop) → Prop} (h : rn_MetS l y wc rm G) (hG : ∀ sa av hp K, G' sa av hp K → G sa av hp K) : rn_MetS l y wc rm G' := by
  intro z sa D dA av hp K p e ha hc hk s m args below hf happ hP hK
  obtain ⟨h1, h2, h3, h4, h5⟩ := hP
  exact h z sa D dA av hp K p e ha hc hk s m args below hf happ ⟨h1, h2, h3, h4, hG _ _ _ _ h5⟩ hK
/-- what the law's callers make of an end: the answer into the row at 35, or the exception's number -/
def lw_ex (xs : List Nat) (K : ah_R → ah_H → Prop) (k : Nat) (h' : ah_H) : Prop := ∃ (j ci : Nat), xs[j]? = some ci ∧ h'[k]? = some (.inr (ci, [])) ∧ K (.inl (some (.int (nI (j + 1))))) h'
def lw_afI (xs : List Nat) (K : ah_R → ah_H → Prop) : ah_R → ah_H → Prop := fun r h' => match r with
  | .inl v => ∃ (w : Int32) (out : Nat → Int64), v = some (.int w) ∧ h'[35]? = some (aL 1 out) ∧ K (.inl (some (.int 0))) (h'.set 35 (aL 1 (vp_updL out 0 w.toInt64)))
  | .inr k => lw_ex xs K k h'
def lw_afJ (xs : List Nat) (K : ah_R → ah_H → Prop) : ah_R → ah_H → Prop := fun r h' => match r with
  | .inl v => ∃ (w : Int64) (out : Nat → Int64), v = some (.long w) ∧ h'[35]? = some (aL 1 out) ∧ K (.inl (some (.int 0))) (h'.set 35 (aL 1 (vp_updL out 0 w)))
  | .inr k => lw_ex xs K k h'
def lw_afV (xs : List Nat) (K : ah_R → ah_H → Prop) : ah_R → ah_H → Prop := fun r h' => match r with
  | .inl v => v = none ∧ K (.inl (some (.int 0))) h'
  | .inr k => lw_ex xs K k h'
def G_L_pixel (GC : (Nat → Nat) → List Value → ah_H → (ah_R → ah_H → Prop) → Prop) (sa : Nat → Nat) (av : List Value) (h : ah_H) (K : ah_R → ah_H → Prop) : Prop := ∃ (a0 a1 a2 a3 : Int32) (fs : List Value), av = [.ref 0, .int a0, .int a1, .int a2, .int a3, .ref 35] ∧ h[0]? = some (.inr (0, fs)) ∧ GC sa [.ref 0, .int a0, .int a1, .int a2, .int a3] h (lw_afI [10, 11] K)
set_option maxHeartbeats 4000000 in
set_option maxRecDepth 100000 in
theorem c_L_pixel (l : Launch) {GC : (Nat → Nat) → List Value → ah_H → (ah_R → ah_H → Prop) → Prop} (hM : rn_MetS l y_C_pixel wc_C_pixel rmC GC) : rn_MetS l y_L_pixel wc_L_pixel rmL (G_L_pixel GC) := by
  refine rn_in mw_L_pixel.1 (by decide +kernel) ?_ ?_
  · intro _ av h K hG
    obtain ⟨a0, a1, a2, a3, fs, rfl, h0, hG⟩ := hG
    exact Nat.le_of_ble_eq_true rfl
  intro p e s m args below meth c z sa D dA av h K hadm C hG
  obtain ⟨a0, a1, a2, a3, fs, rfl, h0, hG⟩ := hG
  refine rn_aload C d_L_pixel_0 rfl ?_
  refine rn_iconst C 0 d_L_pixel_2 (by decide) ?_
  refine rn_aload_n C d_L_pixel_3 rfl ?_
  refine rn_iload_n C d_L_pixel_4 rfl ?_
  refine rn_iload_n C d_L_pixel_5 rfl ?_
  refine rn_iload_n C d_L_pixel_6 rfl ?_
  refine rn_iload C d_L_pixel_7 rfl ?_
  refine rn_cVT C (rn_mono hM) mw_C_pixel k_L_7 d_L_pixel_9 rfl h0 rfl (Nat.le_of_ble_eq_true rfl) (Nat.le_of_ble_eq_true rfl) ⟨by decide, by decide⟩ ⟨by decide, by decide⟩ ⟨_, fun r h' hr => ?_, hG⟩
  rcases r with v | k
  · obtain ⟨w, out, rfl, ho, hK⟩ := hr
    refine rn_i2l C d_L_pixel_12 ?_
    refine rn_lastore C d_L_pixel_13 ho vin01 ?_
    refine rn_goto C 25 d_L_pixel_14 (by decide) ?_
    refine rn_iconst C 0 d_L_pixel_25 (by decide) ?_
    refine rn_ireturn C rfl rfl d_L_pixel_26 ⟨by decide, by decide⟩ ?_
    exact hK
  · obtain ⟨j, ci, hj, hk, hK⟩ := hr
    match j, hj with
    | 0, hj =>
      cases hj
      refine ⟨10, "java/lang/IndexOutOfBoundsException", _, 17, hk, rfl, ⟨by decide, "java/lang/IndexOutOfBoundsException", ww 300 (by decide +kernel) (by decide +kernel), Or.inl ⟨by decide +kernel, rfl⟩⟩, ?_⟩
      refine rn_astore C d_L_pixel_17 (by decide) ?_
      refine rn_iconst C 1 d_L_pixel_19 (by decide) ?_
      refine rn_ireturn C rfl rfl d_L_pixel_20 ⟨by decide, by decide⟩ ?_
      exact hK
    | 1, hj =>
      cases hj
      refine ⟨11, "java/lang/IllegalArgumentException", _, 21, hk, rfl, ⟨by decide, "java/lang/IndexOutOfBoundsException", ww 300 (by decide +kernel) (by decide +kernel), Or.inr ⟨by decide +kernel, ⟨by decide, "java/lang/IllegalArgumentException", ww 301 (by decide +kernel) (by decide +kernel), Or.inl ⟨by decide +kernel, rfl⟩⟩⟩⟩, ?_⟩
      refine rn_astore C d_L_pixel_21 (by decide) ?_
      refine rn_iconst C 2 d_L_pixel_23 (by decide) ?_
      refine rn_ireturn C rfl rfl d_L_pixel_24 ⟨by decide, by decide⟩ ?_
      exact hK
    | j + 2, hj => exact absurd hj (by simp)
def G_L_light (GC : (Nat → Nat) → List Value → ah_H → (ah_R → ah_H → Prop) → Prop) (sa : Nat → Nat) (av : List Value) (h : ah_H) (K : ah_R → ah_H → Prop) : Prop := ∃ (a0 a1 a2 : Int32) (fs : List Value), av = [.ref 0, .int a0, .int a1, .int a2, .ref 35] ∧ h[0]? = some (.inr (0, fs)) ∧ GC sa [.ref 0, .int a0, .int a1, .int a2] h (lw_afI [10, 11] K)
set_option maxHeartbeats 4000000 in
set_option maxRecDepth 100000 in
theorem c_L_light (l : Launch) {GC : (Nat → Nat) → List Value → ah_H → (ah_R → ah_H → Prop) → Prop} (hM : rn_MetS l y_C_light wc_C_light rmC GC) : rn_MetS l y_L_light wc_L_light rmL (G_L_light GC) := by
  refine rn_in mw_L_light.1 (by decide +kernel) ?_ ?_
  · intro _ av h K hG
    obtain ⟨a0, a1, a2, fs, rfl, h0, hG⟩ := hG
    exact Nat.le_of_ble_eq_true rfl
  intro p e s m args below meth c z sa D dA av h K hadm C hG
  obtain ⟨a0, a1, a2, fs, rfl, h0, hG⟩ := hG
  refine rn_aload C d_L_light_0 rfl ?_
  refine rn_iconst C 0 d_L_light_2 (by decide) ?_
  refine rn_aload_n C d_L_light_3 rfl ?_
  refine rn_iload_n C d_L_light_4 rfl ?_
  refine rn_iload_n C d_L_light_5 rfl ?_
  refine rn_iload_n C d_L_light_6 rfl ?_
  refine rn_cVT C (rn_mono hM) mw_C_light k_L_17 d_L_light_7 rfl h0 rfl (Nat.le_of_ble_eq_true rfl) (Nat.le_of_ble_eq_true rfl) ⟨by decide, by decide⟩ ⟨by decide, by decide⟩ ⟨_, fun r h' hr => ?_, hG⟩
  rcases r with v | k
  · obtain ⟨w, out, rfl, ho, hK⟩ := hr
    refine rn_i2l C d_L_light_10 ?_
    refine rn_lastore C d_L_light_11 ho vin01 ?_
    refine rn_goto C 23 d_L_light_12 (by decide) ?_
    refine rn_iconst C 0 d_L_light_23 (by decide) ?_
    refine rn_ireturn C rfl rfl d_L_light_24 ⟨by decide, by decide⟩ ?_
    exact hK
  · obtain ⟨j, ci, hj, hk, hK⟩ := hr
    match j, hj with
    | 0, hj =>
      cases hj
      refine ⟨10, "java/lang/IndexOutOfBoundsException", _, 15, hk, rfl, ⟨by decide, "java/lang/IndexOutOfBoundsException", ww 300 (by decide +kernel) (by decide +kernel), Or.inl ⟨by decide +kernel, rfl⟩⟩, ?_⟩
      refine rn_astore C d_L_light_15 (by decide) ?_
      refine rn_iconst C 1 d_L_light_17 (by decide) ?_
      refine rn_ireturn C rfl rfl d_L_light_18 ⟨by decide, by decide⟩ ?_
      exact hK
    | 1, hj =>
      cases hj
      refine ⟨11, "java/lang/IllegalArgumentException", _, 19, hk, rfl, ⟨by decide, "java/lang/IndexOutOfBoundsException", ww 300 (by decide +kernel) (by decide +kernel), Or.inr ⟨by decide +kernel, ⟨by decide, "java/lang/IllegalArgumentException", ww 301 (by decide +kernel) (by decide +kernel), Or.inl ⟨by decide +kernel, rfl⟩⟩⟩⟩, ?_⟩
      refine rn_astore C d_L_light_19 (by decide) ?_
      refine rn_iconst C 2 d_L_light_21 (by decide) ?_
      refine rn_ireturn C rfl rfl d_L_light_22 ⟨by decide, by decide⟩ ?_
      exact hK
    | j + 2, hj => exact absurd hj (by simp)
def G_L_lit (GC : (Nat → Nat) → List Value → ah_H → (ah_R → ah_H → Prop) → Prop) (sa : Nat → Nat) (av : List Value) (h : ah_H) (K : ah_R → ah_H → Prop) : Prop := ∃ (a0 a1 a2 : Int32) (fs : List Value), av = [.ref 0, .int a0, .int a1, .int a2, .ref 35] ∧ h[0]? = some (.inr (0, fs)) ∧ GC sa [.ref 0, .int a0, .int a1, .int a2] h (lw_afI [10] K)
set_option maxHeartbeats 4000000 in
set_option maxRecDepth 100000 in
theorem c_L_lit (l : Launch) {GC : (Nat → Nat) → List Value → ah_H → (ah_R → ah_H → Prop) → Prop} (hM : rn_MetS l y_C_lit wc_C_lit rmC GC) : rn_MetS l y_L_lit wc_L_lit rmL (G_L_lit GC) := by
  refine rn_in mw_L_lit.1 (by decide +kernel) ?_ ?_
  · intro _ av h K hG
    obtain ⟨a0, a1, a2, fs, rfl, h0, hG⟩ := hG
    exact Nat.le_of_ble_eq_true rfl
  intro p e s m args below meth c z sa D dA av h K hadm C hG
  obtain ⟨a0, a1, a2, fs, rfl, h0, hG⟩ := hG
  refine rn_aload C d_L_lit_0 rfl ?_
  refine rn_iconst C 0 d_L_lit_2 (by decide) ?_
  refine rn_aload_n C d_L_lit_3 rfl ?_
  refine rn_iload_n C d_L_lit_4 rfl ?_
  refine rn_iload_n C d_L_lit_5 rfl ?_
  refine rn_iload_n C d_L_lit_6 rfl ?_
  refine rn_cVT C (rn_mono hM) mw_C_lit k_L_21 d_L_lit_7 rfl h0 rfl (Nat.le_of_ble_eq_true rfl) (Nat.le_of_ble_eq_true rfl) ⟨by decide, by decide⟩ ⟨by decide, by decide⟩ ⟨_, fun r h' hr => ?_, hG⟩
  rcases r with v | k
  · obtain ⟨w, out, rfl, ho, hK⟩ := hr
    refine rn_i2l C d_L_lit_10 ?_
    refine rn_lastore C d_L_lit_11 ho vin01 ?_
    refine rn_goto C 19 d_L_lit_12 (by decide) ?_
    refine rn_iconst C 0 d_L_lit_19 (by decide) ?_
    refine rn_ireturn C rfl rfl d_L_lit_20 ⟨by decide, by decide⟩ ?_
    exact hK
  · obtain ⟨j, ci, hj, hk, hK⟩ := hr
    match j, hj with
    | 0, hj =>
      cases hj
      refine ⟨10, "java/lang/IndexOutOfBoundsException", _, 15, hk, rfl, ⟨by decide, "java/lang/IndexOutOfBoundsException", ww 300 (by decide +kernel) (by decide +kernel), Or.inl ⟨by decide +kernel, rfl⟩⟩, ?_⟩
      refine rn_astore C d_L_lit_15 (by decide) ?_
      refine rn_iconst C 1 d_L_lit_17 (by decide) ?_
      refine rn_ireturn C rfl rfl d_L_lit_18 ⟨by decide, by decide⟩ ?_
      exact hK
    | j + 1, hj => exact absurd hj (by simp)
def G_L_box (GC : (Nat → Nat) → List Value → ah_H → (ah_R → ah_H → Prop) → Prop) (sa : Nat → Nat) (av : List Value) (h : ah_H) (K : ah_R → ah_H → Prop) : Prop := ∃ (a0 : Int32) (fs : List Value), av = [.ref 0, .int a0, .ref 35] ∧ h[0]? = some (.inr (0, fs)) ∧ GC sa [.ref 0, .int a0] h (lw_afI [10, 12] K)
set_option maxHeartbeats 4000000 in
set_option maxRecDepth 100000 in
theorem c_L_box (l : Launch) {GC : (Nat → Nat) → List Value → ah_H → (ah_R → ah_H → Prop) → Prop} (hM : rn_MetS l y_C_box wc_C_box rmC GC) : rn_MetS l y_L_box wc_L_box rmL (G_L_box GC) := by
  refine rn_in mw_L_box.1 (by decide +kernel) ?_ ?_
  · intro _ av h K hG
    obtain ⟨a0, fs, rfl, h0, hG⟩ := hG
    exact Nat.le_of_ble_eq_true rfl
  intro p e s m args below meth c z sa D dA av h K hadm C hG
  obtain ⟨a0, fs, rfl, h0, hG⟩ := hG
  refine rn_aload_n C d_L_box_0 rfl ?_
  refine rn_iconst C 0 d_L_box_1 (by decide) ?_
  refine rn_aload_n C d_L_box_2 rfl ?_
  refine rn_iload_n C d_L_box_3 rfl ?_
  refine rn_cVT C (rn_mono hM) mw_C_box k_L_24 d_L_box_4 rfl h0 rfl (Nat.le_of_ble_eq_true rfl) (Nat.le_of_ble_eq_true rfl) ⟨by decide, by decide⟩ ⟨by decide, by decide⟩ ⟨_, fun r h' hr => ?_, hG⟩
  rcases r with v | k
  · obtain ⟨w, out, rfl, ho, hK⟩ := hr
    refine rn_i2l C d_L_box_7 ?_
    refine rn_lastore C d_L_box_8 ho vin01 ?_
    refine rn_goto C 18 d_L_box_9 (by decide) ?_
    refine rn_iconst C 0 d_L_box_18 (by decide) ?_
    refine rn_ireturn C rfl rfl d_L_box_19 ⟨by decide, by decide⟩ ?_
    exact hK
  · obtain ⟨j, ci, hj, hk, hK⟩ := hr
    match j, hj with
    | 0, hj =>
      cases hj
      refine ⟨10, "java/lang/IndexOutOfBoundsException", _, 12, hk, rfl, ⟨by decide, "java/lang/IndexOutOfBoundsException", ww 300 (by decide +kernel) (by decide +kernel), Or.inl ⟨by decide +kernel, rfl⟩⟩, ?_⟩
      refine rn_astore_n C d_L_box_12 (by decide) ?_
      refine rn_iconst C 1 d_L_box_13 (by decide) ?_
      refine rn_ireturn C rfl rfl d_L_box_14 ⟨by decide, by decide⟩ ?_
      exact hK
    | 1, hj =>
      cases hj
      refine ⟨12, "java/lang/IllegalStateException", _, 15, hk, rfl, ⟨by decide, "java/lang/IndexOutOfBoundsException", ww 300 (by decide +kernel) (by decide +kernel), Or.inr ⟨by decide +kernel, ⟨by decide, "java/lang/IllegalStateException", ww 431 (by decide +kernel) (by decide +kernel), Or.inl ⟨by decide +kernel, rfl⟩⟩⟩⟩, ?_⟩
      refine rn_astore_n C d_L_box_15 (by decide) ?_
      refine rn_iconst C 2 d_L_box_16 (by decide) ?_
      refine rn_ireturn C rfl rfl d_L_box_17 ⟨by decide, by decide⟩ ?_
      exact hK
    | j + 2, hj => exact absurd hj (by simp)
def G_L_grid (GC : (Nat → Nat) → List Value → ah_H → (ah_R → ah_H → Prop) → Prop) (sa : Nat → Nat) (av : List Value) (h : ah_H) (K : ah_R → ah_H → Prop) : Prop := ∃ (a0 a1 : Int32) (fs : List Value), av = [.ref 0, .int a0, .int a1] ∧ h[0]? = some (.inr (0, fs)) ∧ GC sa [.ref 0, .int a0, .int a1] h (lw_afV [11] K)
set_option maxHeartbeats 4000000 in
set_option maxRecDepth 100000 in
theorem c_L_grid (l : Launch) {GC : (Nat → Nat) → List Value → ah_H → (ah_R → ah_H → Prop) → Prop} (hM : rn_MetS l y_C_grid wc_C_grid rmC GC) : rn_MetS l y_L_grid wc_L_grid rmL (G_L_grid GC) := by
  refine rn_in mw_L_grid.1 (by decide +kernel) ?_ ?_
  · intro _ av h K hG
    obtain ⟨a0, a1, fs, rfl, h0, hG⟩ := hG
    exact Nat.le_of_ble_eq_true rfl
  intro p e s m args below meth c z sa D dA av h K hadm C hG
  obtain ⟨a0, a1, fs, rfl, h0, hG⟩ := hG
  refine rn_aload_n C d_L_grid_0 rfl ?_
  refine rn_iload_n C d_L_grid_1 rfl ?_
  refine rn_iload_n C d_L_grid_2 rfl ?_
  refine rn_cVT C (rn_mono hM) mw_C_grid k_L_30 d_L_grid_3 rfl h0 rfl (Nat.le_of_ble_eq_true rfl) (Nat.le_of_ble_eq_true rfl) ⟨by decide, by decide⟩ ⟨by decide, by decide⟩ ⟨_, fun r h' hr => ?_, hG⟩
  rcases r with v | k
  · obtain ⟨rfl, hK⟩ := hr
    refine rn_goto C 12 d_L_grid_6 (by decide) ?_
    refine rn_iconst C 0 d_L_grid_12 (by decide) ?_
    refine rn_ireturn C rfl rfl d_L_grid_13 ⟨by decide, by decide⟩ ?_
    exact hK
  · obtain ⟨j, ci, hj, hk, hK⟩ := hr
    match j, hj with
    | 0, hj =>
      cases hj
      refine ⟨11, "java/lang/IllegalArgumentException", _, 9, hk, rfl, ⟨by decide, "java/lang/IllegalArgumentException", ww 301 (by decide +kernel) (by decide +kernel), Or.inl ⟨by decide +kernel, rfl⟩⟩, ?_⟩
      refine rn_astore_n C d_L_grid_9 (by decide) ?_
      refine rn_iconst C 1 d_L_grid_10 (by decide) ?_
      refine rn_ireturn C rfl rfl d_L_grid_11 ⟨by decide, by decide⟩ ?_
      exact hK
    | j + 1, hj => exact absurd hj (by simp)
def G_L_turn (GC : (Nat → Nat) → List Value → ah_H → (ah_R → ah_H → Prop) → Prop) (sa : Nat → Nat) (av : List Value) (h : ah_H) (K : ah_R → ah_H → Prop) : Prop := ∃ (a0 : Int32) (fs : List Value), av = [.ref 0, .int a0, .ref 35] ∧ h[0]? = some (.inr (0, fs)) ∧ GC sa [.ref 0, .int a0] h (lw_afI [11] K)
set_option maxHeartbeats 4000000 in
set_option maxRecDepth 100000 in
theorem c_L_turn (l : Launch) {GC : (Nat → Nat) → List Value → ah_H → (ah_R → ah_H → Prop) → Prop} (hM : rn_MetS l y_C_turn wc_C_turn rmC GC) : rn_MetS l y_L_turn wc_L_turn rmL (G_L_turn GC) := by
  refine rn_in mw_L_turn.1 (by decide +kernel) ?_ ?_
  · intro _ av h K hG
    obtain ⟨a0, fs, rfl, h0, hG⟩ := hG
    exact Nat.le_of_ble_eq_true rfl
  intro p e s m args below meth c z sa D dA av h K hadm C hG
  obtain ⟨a0, fs, rfl, h0, hG⟩ := hG
  refine rn_aload_n C d_L_turn_0 rfl ?_
  refine rn_iconst C 0 d_L_turn_1 (by decide) ?_
  refine rn_aload_n C d_L_turn_2 rfl ?_
  refine rn_iload_n C d_L_turn_3 rfl ?_
  refine rn_cVT C (rn_mono hM) mw_C_turn k_L_34 d_L_turn_4 rfl h0 rfl (Nat.le_of_ble_eq_true rfl) (Nat.le_of_ble_eq_true rfl) ⟨by decide, by decide⟩ ⟨by decide, by decide⟩ ⟨_, fun r h' hr => ?_, hG⟩
  rcases r with v | k
  · obtain ⟨w, out, rfl, ho, hK⟩ := hr
    refine rn_i2l C d_L_turn_7 ?_
    refine rn_lastore C d_L_turn_8 ho vin01 ?_
    refine rn_goto C 15 d_L_turn_9 (by decide) ?_
    refine rn_iconst C 0 d_L_turn_15 (by decide) ?_
    refine rn_ireturn C rfl rfl d_L_turn_16 ⟨by decide, by decide⟩ ?_
    exact hK
  · obtain ⟨j, ci, hj, hk, hK⟩ := hr
    match j, hj with
    | 0, hj =>
      cases hj
      refine ⟨11, "java/lang/IllegalArgumentException", _, 12, hk, rfl, ⟨by decide, "java/lang/IllegalArgumentException", ww 301 (by decide +kernel) (by decide +kernel), Or.inl ⟨by decide +kernel, rfl⟩⟩, ?_⟩
      refine rn_astore_n C d_L_turn_12 (by decide) ?_
      refine rn_iconst C 1 d_L_turn_13 (by decide) ?_
      refine rn_ireturn C rfl rfl d_L_turn_14 ⟨by decide, by decide⟩ ?_
      exact hK
    | j + 1, hj => exact absurd hj (by simp)
def G_L_read (GC : (Nat → Nat) → List Value → ah_H → (ah_R → ah_H → Prop) → Prop) (sa : Nat → Nat) (av : List Value) (h : ah_H) (K : ah_R → ah_H → Prop) : Prop := ∃ (a0 a1 : Int32) (fs : List Value), av = [.ref 0, .int a0, .int a1, .ref 35] ∧ h[0]? = some (.inr (0, fs)) ∧ GC sa [.ref 0, .int a0, .int a1] h (lw_afI [10, 12] K)
set_option maxHeartbeats 4000000 in
set_option maxRecDepth 100000 in
theorem c_L_read (l : Launch) {GC : (Nat → Nat) → List Value → ah_H → (ah_R → ah_H → Prop) → Prop} (hM : rn_MetS l y_C_read wc_C_read rmC GC) : rn_MetS l y_L_read wc_L_read rmL (G_L_read GC) := by
  refine rn_in mw_L_read.1 (by decide +kernel) ?_ ?_
  · intro _ av h K hG
    obtain ⟨a0, a1, fs, rfl, h0, hG⟩ := hG
    exact Nat.le_of_ble_eq_true rfl
  intro p e s m args below meth c z sa D dA av h K hadm C hG
  obtain ⟨a0, a1, fs, rfl, h0, hG⟩ := hG
  refine rn_aload_n C d_L_read_0 rfl ?_
  refine rn_iconst C 0 d_L_read_1 (by decide) ?_
  refine rn_aload_n C d_L_read_2 rfl ?_
  refine rn_iload_n C d_L_read_3 rfl ?_
  refine rn_iload_n C d_L_read_4 rfl ?_
  refine rn_cVT C (rn_mono hM) mw_C_read k_L_37 d_L_read_5 rfl h0 rfl (Nat.le_of_ble_eq_true rfl) (Nat.le_of_ble_eq_true rfl) ⟨by decide, by decide⟩ ⟨by decide, by decide⟩ ⟨_, fun r h' hr => ?_, hG⟩
  rcases r with v | k
  · obtain ⟨w, out, rfl, ho, hK⟩ := hr
    refine rn_i2l C d_L_read_8 ?_
    refine rn_lastore C d_L_read_9 ho vin01 ?_
    refine rn_goto C 21 d_L_read_10 (by decide) ?_
    refine rn_iconst C 0 d_L_read_21 (by decide) ?_
    refine rn_ireturn C rfl rfl d_L_read_22 ⟨by decide, by decide⟩ ?_
    exact hK
  · obtain ⟨j, ci, hj, hk, hK⟩ := hr
    match j, hj with
    | 0, hj =>
      cases hj
      refine ⟨10, "java/lang/IndexOutOfBoundsException", _, 13, hk, rfl, ⟨by decide, "java/lang/IndexOutOfBoundsException", ww 300 (by decide +kernel) (by decide +kernel), Or.inl ⟨by decide +kernel, rfl⟩⟩, ?_⟩
      refine rn_astore C d_L_read_13 (by decide) ?_
      refine rn_iconst C 1 d_L_read_15 (by decide) ?_
      refine rn_ireturn C rfl rfl d_L_read_16 ⟨by decide, by decide⟩ ?_
      exact hK
    | 1, hj =>
      cases hj
      refine ⟨12, "java/lang/IllegalStateException", _, 17, hk, rfl, ⟨by decide, "java/lang/IndexOutOfBoundsException", ww 300 (by decide +kernel) (by decide +kernel), Or.inr ⟨by decide +kernel, ⟨by decide, "java/lang/IllegalStateException", ww 431 (by decide +kernel) (by decide +kernel), Or.inl ⟨by decide +kernel, rfl⟩⟩⟩⟩, ?_⟩
      refine rn_astore C d_L_read_17 (by decide) ?_
      refine rn_iconst C 2 d_L_read_19 (by decide) ?_
      refine rn_ireturn C rfl rfl d_L_read_20 ⟨by decide, by decide⟩ ?_
      exact hK
    | j + 2, hj => exact absurd hj (by simp)
def G_L_noise (GC : (Nat → Nat) → List Value → ah_H → (ah_R → ah_H → Prop) → Prop) (sa : Nat → Nat) (av : List Value) (h : ah_H) (K : ah_R → ah_H → Prop) : Prop := ∃ (a0 a1 : Int32) (fs : List Value), av = [.ref 0, .int a0, .int a1, .ref 35] ∧ h[0]? = some (.inr (0, fs)) ∧ GC sa [.ref 0, .int a0, .int a1] h (lw_afJ [10, 12] K)
set_option maxHeartbeats 4000000 in
set_option maxRecDepth 100000 in
theorem c_L_noise (l : Launch) {GC : (Nat → Nat) → List Value → ah_H → (ah_R → ah_H → Prop) → Prop} (hM : rn_MetS l y_C_noise wc_C_noise rmC GC) : rn_MetS l y_L_noise wc_L_noise rmL (G_L_noise GC) := by
  refine rn_in mw_L_noise.1 (by decide +kernel) ?_ ?_
  · intro _ av h K hG
    obtain ⟨a0, a1, fs, rfl, h0, hG⟩ := hG
    exact Nat.le_of_ble_eq_true rfl
  intro p e s m args below meth c z sa D dA av h K hadm C hG
  obtain ⟨a0, a1, fs, rfl, h0, hG⟩ := hG
  refine rn_aload_n C d_L_noise_0 rfl ?_
  refine rn_iconst C 0 d_L_noise_1 (by decide) ?_
  refine rn_aload_n C d_L_noise_2 rfl ?_
  refine rn_iload_n C d_L_noise_3 rfl ?_
  refine rn_iload_n C d_L_noise_4 rfl ?_
  refine rn_cVT C (rn_mono hM) mw_C_noise k_L_41 d_L_noise_5 rfl h0 rfl (Nat.le_of_ble_eq_true rfl) (Nat.le_of_ble_eq_true rfl) ⟨by decide, by decide⟩ ⟨by decide, by decide⟩ ⟨_, fun r h' hr => ?_, hG⟩
  rcases r with v | k
  · obtain ⟨w, out, rfl, ho, hK⟩ := hr
    refine rn_lastore C d_L_noise_8 ho vin01 ?_
    refine rn_goto C 20 d_L_noise_9 (by decide) ?_
    refine rn_iconst C 0 d_L_noise_20 (by decide) ?_
    refine rn_ireturn C rfl rfl d_L_noise_21 ⟨by decide, by decide⟩ ?_
    exact hK
  · obtain ⟨j, ci, hj, hk, hK⟩ := hr
    match j, hj with
    | 0, hj =>
      cases hj
      refine ⟨10, "java/lang/IndexOutOfBoundsException", _, 12, hk, rfl, ⟨by decide, "java/lang/IndexOutOfBoundsException", ww 300 (by decide +kernel) (by decide +kernel), Or.inl ⟨by decide +kernel, rfl⟩⟩, ?_⟩
      refine rn_astore C d_L_noise_12 (by decide) ?_
      refine rn_iconst C 1 d_L_noise_14 (by decide) ?_
      refine rn_ireturn C rfl rfl d_L_noise_15 ⟨by decide, by decide⟩ ?_
      exact hK
    | 1, hj =>
      cases hj
      refine ⟨12, "java/lang/IllegalStateException", _, 16, hk, rfl, ⟨by decide, "java/lang/IndexOutOfBoundsException", ww 300 (by decide +kernel) (by decide +kernel), Or.inr ⟨by decide +kernel, ⟨by decide, "java/lang/IllegalStateException", ww 431 (by decide +kernel) (by decide +kernel), Or.inl ⟨by decide +kernel, rfl⟩⟩⟩⟩, ?_⟩
      refine rn_astore C d_L_noise_16 (by decide) ?_
      refine rn_iconst C 2 d_L_noise_18 (by decide) ?_
      refine rn_ireturn C rfl rfl d_L_noise_19 ⟨by decide, by decide⟩ ?_
      exact hK
    | j + 2, hj => exact absurd hj (by simp)
def G_L_target (GC : (Nat → Nat) → List Value → ah_H → (ah_R → ah_H → Prop) → Prop) (sa : Nat → Nat) (av : List Value) (h : ah_H) (K : ah_R → ah_H → Prop) : Prop := ∃ (a0 a1 a2 a3 : Int32) (fs : List Value), av = [.ref 0, .int a0, .int a1, .int a2, .int a3] ∧ h[0]? = some (.inr (0, fs)) ∧ GC sa [.ref 0, .int a0, .int a1, .int a2, .int a3] h (lw_afV [10, 11] K)
set_option maxHeartbeats 4000000 in
set_option maxRecDepth 100000 in
theorem c_L_target (l : Launch) {GC : (Nat → Nat) → List Value → ah_H → (ah_R → ah_H → Prop) → Prop} (hM : rn_MetS l y_C_target wc_C_target rmC GC) : rn_MetS l y_L_target wc_L_target rmL (G_L_target GC) := by
  refine rn_in mw_L_target.1 (by decide +kernel) ?_ ?_
  · intro _ av h K hG
    obtain ⟨a0, a1, a2, a3, fs, rfl, h0, hG⟩ := hG
    exact Nat.le_of_ble_eq_true rfl
  intro p e s m args below meth c z sa D dA av h K hadm C hG
  obtain ⟨a0, a1, a2, a3, fs, rfl, h0, hG⟩ := hG
  refine rn_aload_n C d_L_target_0 rfl ?_
  refine rn_iload_n C d_L_target_1 rfl ?_
  refine rn_iload_n C d_L_target_2 rfl ?_
  refine rn_iload_n C d_L_target_3 rfl ?_
  refine rn_iload C d_L_target_4 rfl ?_
  refine rn_cVT C (rn_mono hM) mw_C_target k_L_45 d_L_target_6 rfl h0 rfl (Nat.le_of_ble_eq_true rfl) (Nat.le_of_ble_eq_true rfl) ⟨by decide, by decide⟩ ⟨by decide, by decide⟩ ⟨_, fun r h' hr => ?_, hG⟩
  rcases r with v | k
  · obtain ⟨rfl, hK⟩ := hr
    refine rn_goto C 20 d_L_target_9 (by decide) ?_
    refine rn_iconst C 0 d_L_target_20 (by decide) ?_
    refine rn_ireturn C rfl rfl d_L_target_21 ⟨by decide, by decide⟩ ?_
    exact hK
  · obtain ⟨j, ci, hj, hk, hK⟩ := hr
    match j, hj with
    | 0, hj =>
      cases hj
      refine ⟨10, "java/lang/IndexOutOfBoundsException", _, 12, hk, rfl, ⟨by decide, "java/lang/IndexOutOfBoundsException", ww 300 (by decide +kernel) (by decide +kernel), Or.inl ⟨by decide +kernel, rfl⟩⟩, ?_⟩
      refine rn_astore C d_L_target_12 (by decide) ?_
      refine rn_iconst C 1 d_L_target_14 (by decide) ?_
      refine rn_ireturn C rfl rfl d_L_target_15 ⟨by decide, by decide⟩ ?_
      exact hK
    | 1, hj =>
      cases hj
      refine ⟨11, "java/lang/IllegalArgumentException", _, 16, hk, rfl, ⟨by decide, "java/lang/IndexOutOfBoundsException", ww 300 (by decide +kernel) (by decide +kernel), Or.inr ⟨by decide +kernel, ⟨by decide, "java/lang/IllegalArgumentException", ww 301 (by decide +kernel) (by decide +kernel), Or.inl ⟨by decide +kernel, rfl⟩⟩⟩⟩, ?_⟩
      refine rn_astore C d_L_target_16 (by decide) ?_
      refine rn_iconst C 2 d_L_target_18 (by decide) ?_
      refine rn_ireturn C rfl rfl d_L_target_19 ⟨by decide, by decide⟩ ?_
      exact hK
    | j + 2, hj => exact absurd hj (by simp)
def G_L_neutral (GC : (Nat → Nat) → List Value → ah_H → (ah_R → ah_H → Prop) → Prop) (sa : Nat → Nat) (av : List Value) (h : ah_H) (K : ah_R → ah_H → Prop) : Prop := ∃ (a0 : Int32) (fs : List Value), av = [.ref 0, .int a0, .ref 35] ∧ h[0]? = some (.inr (0, fs)) ∧ GC sa [.ref 0, .int a0] h (lw_afI [10, 12] K)
set_option maxHeartbeats 4000000 in
set_option maxRecDepth 100000 in
theorem c_L_neutral (l : Launch) {GC : (Nat → Nat) → List Value → ah_H → (ah_R → ah_H → Prop) → Prop} (hM : rn_MetS l y_C_neutral wc_C_neutral rmC GC) : rn_MetS l y_L_neutral wc_L_neutral rmL (G_L_neutral GC) := by
  refine rn_in mw_L_neutral.1 (by decide +kernel) ?_ ?_
  · intro _ av h K hG
    obtain ⟨a0, fs, rfl, h0, hG⟩ := hG
    exact Nat.le_of_ble_eq_true rfl
  intro p e s m args below meth c z sa D dA av h K hadm C hG
  obtain ⟨a0, fs, rfl, h0, hG⟩ := hG
  refine rn_aload_n C d_L_neutral_0 rfl ?_
  refine rn_iconst C 0 d_L_neutral_1 (by decide) ?_
  refine rn_aload_n C d_L_neutral_2 rfl ?_
  refine rn_iload_n C d_L_neutral_3 rfl ?_
  refine rn_cVT C (rn_mono hM) mw_C_neutral k_L_49 d_L_neutral_4 rfl h0 rfl (Nat.le_of_ble_eq_true rfl) (Nat.le_of_ble_eq_true rfl) ⟨by decide, by decide⟩ ⟨by decide, by decide⟩ ⟨_, fun r h' hr => ?_, hG⟩
  rcases r with v | k
  · obtain ⟨w, out, rfl, ho, hK⟩ := hr
    refine rn_i2l C d_L_neutral_7 ?_
    refine rn_lastore C d_L_neutral_8 ho vin01 ?_
    refine rn_goto C 18 d_L_neutral_9 (by decide) ?_
    refine rn_iconst C 0 d_L_neutral_18 (by decide) ?_
    refine rn_ireturn C rfl rfl d_L_neutral_19 ⟨by decide, by decide⟩ ?_
    exact hK
  · obtain ⟨j, ci, hj, hk, hK⟩ := hr
    match j, hj with
    | 0, hj =>
      cases hj
      refine ⟨10, "java/lang/IndexOutOfBoundsException", _, 12, hk, rfl, ⟨by decide, "java/lang/IndexOutOfBoundsException", ww 300 (by decide +kernel) (by decide +kernel), Or.inl ⟨by decide +kernel, rfl⟩⟩, ?_⟩
      refine rn_astore_n C d_L_neutral_12 (by decide) ?_
      refine rn_iconst C 1 d_L_neutral_13 (by decide) ?_
      refine rn_ireturn C rfl rfl d_L_neutral_14 ⟨by decide, by decide⟩ ?_
      exact hK
    | 1, hj =>
      cases hj
      refine ⟨12, "java/lang/IllegalStateException", _, 15, hk, rfl, ⟨by decide, "java/lang/IndexOutOfBoundsException", ww 300 (by decide +kernel) (by decide +kernel), Or.inr ⟨by decide +kernel, ⟨by decide, "java/lang/IllegalStateException", ww 431 (by decide +kernel) (by decide +kernel), Or.inl ⟨by decide +kernel, rfl⟩⟩⟩⟩, ?_⟩
      refine rn_astore_n C d_L_neutral_15 (by decide) ?_
      refine rn_iconst C 2 d_L_neutral_16 (by decide) ?_
      refine rn_ireturn C rfl rfl d_L_neutral_17 ⟨by decide, by decide⟩ ?_
      exact hK
    | j + 2, hj => exact absurd hj (by simp)
def G_L_fit (GC : (Nat → Nat) → List Value → ah_H → (ah_R → ah_H → Prop) → Prop) (sa : Nat → Nat) (av : List Value) (h : ah_H) (K : ah_R → ah_H → Prop) : Prop := ∃ (fs : List Value), av = [.ref 0, .ref 35] ∧ h[0]? = some (.inr (0, fs)) ∧ GC sa [.ref 0] h (lw_afI [12] K)
set_option maxHeartbeats 4000000 in
set_option maxRecDepth 100000 in
theorem c_L_fit (l : Launch) {GC : (Nat → Nat) → List Value → ah_H → (ah_R → ah_H → Prop) → Prop} (hM : rn_MetS l y_C_fit wc_C_fit rmC GC) : rn_MetS l y_L_fit wc_L_fit rmL (G_L_fit GC) := by
  refine rn_in mw_L_fit.1 (by decide +kernel) ?_ ?_
  · intro _ av h K hG
    obtain ⟨fs, rfl, h0, hG⟩ := hG
    exact Nat.le_of_ble_eq_true rfl
  intro p e s m args below meth c z sa D dA av h K hadm C hG
  obtain ⟨fs, rfl, h0, hG⟩ := hG
  refine rn_aload_n C d_L_fit_0 rfl ?_
  refine rn_iconst C 0 d_L_fit_1 (by decide) ?_
  refine rn_aload_n C d_L_fit_2 rfl ?_
  refine rn_cVT C (rn_mono hM) mw_C_fit k_L_52 d_L_fit_3 rfl h0 rfl (Nat.le_of_ble_eq_true rfl) (Nat.le_of_ble_eq_true rfl) ⟨by decide, by decide⟩ ⟨by decide, by decide⟩ ⟨_, fun r h' hr => ?_, hG⟩
  rcases r with v | k
  · obtain ⟨w, out, rfl, ho, hK⟩ := hr
    refine rn_i2l C d_L_fit_6 ?_
    refine rn_lastore C d_L_fit_7 ho vin01 ?_
    refine rn_goto C 14 d_L_fit_8 (by decide) ?_
    refine rn_iconst C 0 d_L_fit_14 (by decide) ?_
    refine rn_ireturn C rfl rfl d_L_fit_15 ⟨by decide, by decide⟩ ?_
    exact hK
  · obtain ⟨j, ci, hj, hk, hK⟩ := hr
    match j, hj with
    | 0, hj =>
      cases hj
      refine ⟨12, "java/lang/IllegalStateException", _, 11, hk, rfl, ⟨by decide, "java/lang/IllegalStateException", ww 431 (by decide +kernel) (by decide +kernel), Or.inl ⟨by decide +kernel, rfl⟩⟩, ?_⟩
      refine rn_astore_n C d_L_fit_11 (by decide) ?_
      refine rn_iconst C 1 d_L_fit_12 (by decide) ?_
      refine rn_ireturn C rfl rfl d_L_fit_13 ⟨by decide, by decide⟩ ?_
      exact hK
    | j + 1, hj => exact absurd hj (by simp)
def G_L_line (GC : (Nat → Nat) → List Value → ah_H → (ah_R → ah_H → Prop) → Prop) (sa : Nat → Nat) (av : List Value) (h : ah_H) (K : ah_R → ah_H → Prop) : Prop := ∃ (a0 a1 : Int32) (fs : List Value), av = [.ref 0, .int a0, .int a1, .ref 35] ∧ h[0]? = some (.inr (0, fs)) ∧ GC sa [.ref 0, .int a0, .int a1] h (lw_afJ [10, 12] K)
set_option maxHeartbeats 4000000 in
set_option maxRecDepth 100000 in
theorem c_L_line (l : Launch) {GC : (Nat → Nat) → List Value → ah_H → (ah_R → ah_H → Prop) → Prop} (hM : rn_MetS l y_C_line wc_C_line rmC GC) : rn_MetS l y_L_line wc_L_line rmL (G_L_line GC) := by
  refine rn_in mw_L_line.1 (by decide +kernel) ?_ ?_
  · intro _ av h K hG
    obtain ⟨a0, a1, fs, rfl, h0, hG⟩ := hG
    exact Nat.le_of_ble_eq_true rfl
  intro p e s m args below meth c z sa D dA av h K hadm C hG
  obtain ⟨a0, a1, fs, rfl, h0, hG⟩ := hG
  refine rn_aload_n C d_L_line_0 rfl ?_
  refine rn_iconst C 0 d_L_line_1 (by decide) ?_
  refine rn_aload_n C d_L_line_2 rfl ?_
  refine rn_iload_n C d_L_line_3 rfl ?_
  refine rn_iload_n C d_L_line_4 rfl ?_
  refine rn_cVT C (rn_mono hM) mw_C_line k_L_56 d_L_line_5 rfl h0 rfl (Nat.le_of_ble_eq_true rfl) (Nat.le_of_ble_eq_true rfl) ⟨by decide, by decide⟩ ⟨by decide, by decide⟩ ⟨_, fun r h' hr => ?_, hG⟩
  rcases r with v | k
  · obtain ⟨w, out, rfl, ho, hK⟩ := hr
    refine rn_lastore C d_L_line_8 ho vin01 ?_
    refine rn_goto C 20 d_L_line_9 (by decide) ?_
    refine rn_iconst C 0 d_L_line_20 (by decide) ?_
    refine rn_ireturn C rfl rfl d_L_line_21 ⟨by decide, by decide⟩ ?_
    exact hK
  · obtain ⟨j, ci, hj, hk, hK⟩ := hr
    match j, hj with
    | 0, hj =>
      cases hj
      refine ⟨10, "java/lang/IndexOutOfBoundsException", _, 12, hk, rfl, ⟨by decide, "java/lang/IndexOutOfBoundsException", ww 300 (by decide +kernel) (by decide +kernel), Or.inl ⟨by decide +kernel, rfl⟩⟩, ?_⟩
      refine rn_astore C d_L_line_12 (by decide) ?_
      refine rn_iconst C 1 d_L_line_14 (by decide) ?_
      refine rn_ireturn C rfl rfl d_L_line_15 ⟨by decide, by decide⟩ ?_
      exact hK
    | 1, hj =>
      cases hj
      refine ⟨12, "java/lang/IllegalStateException", _, 16, hk, rfl, ⟨by decide, "java/lang/IndexOutOfBoundsException", ww 300 (by decide +kernel) (by decide +kernel), Or.inr ⟨by decide +kernel, ⟨by decide, "java/lang/IllegalStateException", ww 431 (by decide +kernel) (by decide +kernel), Or.inl ⟨by decide +kernel, rfl⟩⟩⟩⟩, ?_⟩
      refine rn_astore C d_L_line_16 (by decide) ?_
      refine rn_iconst C 2 d_L_line_18 (by decide) ?_
      refine rn_ireturn C rfl rfl d_L_line_19 ⟨by decide, by decide⟩ ?_
      exact hK
    | j + 2, hj => exact absurd hj (by simp)
def G_L_colour (GC : (Nat → Nat) → List Value → ah_H → (ah_R → ah_H → Prop) → Prop) (sa : Nat → Nat) (av : List Value) (h : ah_H) (K : ah_R → ah_H → Prop) : Prop := ∃ (a0 a1 : Int32) (fs : List Value), av = [.ref 0, .int a0, .int a1, .ref 35] ∧ h[0]? = some (.inr (0, fs)) ∧ GC sa [.ref 0, .int a0, .int a1] h (lw_afI [10, 11, 12] K)
set_option maxHeartbeats 4000000 in
set_option maxRecDepth 100000 in
theorem c_L_colour (l : Launch) {GC : (Nat → Nat) → List Value → ah_H → (ah_R → ah_H → Prop) → Prop} (hM : rn_MetS l y_C_colour wc_C_colour rmC GC) : rn_MetS l y_L_colour wc_L_colour rmL (G_L_colour GC) := by
  refine rn_in mw_L_colour.1 (by decide +kernel) ?_ ?_
  · intro _ av h K hG
    obtain ⟨a0, a1, fs, rfl, h0, hG⟩ := hG
    exact Nat.le_of_ble_eq_true rfl
  intro p e s m args below meth c z sa D dA av h K hadm C hG
  obtain ⟨a0, a1, fs, rfl, h0, hG⟩ := hG
  refine rn_aload_n C d_L_colour_0 rfl ?_
  refine rn_iconst C 0 d_L_colour_1 (by decide) ?_
  refine rn_aload_n C d_L_colour_2 rfl ?_
  refine rn_iload_n C d_L_colour_3 rfl ?_
  refine rn_iload_n C d_L_colour_4 rfl ?_
  refine rn_cVT C (rn_mono hM) mw_C_colour k_L_59 d_L_colour_5 rfl h0 rfl (Nat.le_of_ble_eq_true rfl) (Nat.le_of_ble_eq_true rfl) ⟨by decide, by decide⟩ ⟨by decide, by decide⟩ ⟨_, fun r h' hr => ?_, hG⟩
  rcases r with v | k
  · obtain ⟨w, out, rfl, ho, hK⟩ := hr
    refine rn_i2l C d_L_colour_8 ?_
    refine rn_lastore C d_L_colour_9 ho vin01 ?_
    refine rn_goto C 25 d_L_colour_10 (by decide) ?_
    refine rn_iconst C 0 d_L_colour_25 (by decide) ?_
    refine rn_ireturn C rfl rfl d_L_colour_26 ⟨by decide, by decide⟩ ?_
    exact hK
  · obtain ⟨j, ci, hj, hk, hK⟩ := hr
    match j, hj with
    | 0, hj =>
      cases hj
      refine ⟨10, "java/lang/IndexOutOfBoundsException", _, 13, hk, rfl, ⟨by decide, "java/lang/IndexOutOfBoundsException", ww 300 (by decide +kernel) (by decide +kernel), Or.inl ⟨by decide +kernel, rfl⟩⟩, ?_⟩
      refine rn_astore C d_L_colour_13 (by decide) ?_
      refine rn_iconst C 1 d_L_colour_15 (by decide) ?_
      refine rn_ireturn C rfl rfl d_L_colour_16 ⟨by decide, by decide⟩ ?_
      exact hK
    | 1, hj =>
      cases hj
      refine ⟨11, "java/lang/IllegalArgumentException", _, 17, hk, rfl, ⟨by decide, "java/lang/IndexOutOfBoundsException", ww 300 (by decide +kernel) (by decide +kernel), Or.inr ⟨by decide +kernel, ⟨by decide, "java/lang/IllegalArgumentException", ww 301 (by decide +kernel) (by decide +kernel), Or.inl ⟨by decide +kernel, rfl⟩⟩⟩⟩, ?_⟩
      refine rn_astore C d_L_colour_17 (by decide) ?_
      refine rn_iconst C 2 d_L_colour_19 (by decide) ?_
      refine rn_ireturn C rfl rfl d_L_colour_20 ⟨by decide, by decide⟩ ?_
      exact hK
    | 2, hj =>
      cases hj
      refine ⟨12, "java/lang/IllegalStateException", _, 21, hk, rfl, ⟨by decide, "java/lang/IndexOutOfBoundsException", ww 300 (by decide +kernel) (by decide +kernel), Or.inr ⟨by decide +kernel, ⟨by decide, "java/lang/IllegalArgumentException", ww 301 (by decide +kernel) (by decide +kernel), Or.inr ⟨by decide +kernel, ⟨by decide, "java/lang/IllegalStateException", ww 431 (by decide +kernel) (by decide +kernel), Or.inl ⟨by decide +kernel, rfl⟩⟩⟩⟩⟩⟩, ?_⟩
      refine rn_astore C d_L_colour_21 (by decide) ?_
      refine rn_iconst C 3 d_L_colour_23 (by decide) ?_
      refine rn_ireturn C rfl rfl d_L_colour_24 ⟨by decide, by decide⟩ ?_
      exact hK
    | j + 3, hj => exact absurd hj (by simp)
def G_L_difference (GC : (Nat → Nat) → List Value → ah_H → (ah_R → ah_H → Prop) → Prop) (sa : Nat → Nat) (av : List Value) (h : ah_H) (K : ah_R → ah_H → Prop) : Prop := ∃ (a0 : Int32) (fs : List Value), av = [.ref 0, .int a0, .ref 35] ∧ h[0]? = some (.inr (0, fs)) ∧ GC sa [.ref 0, .int a0] h (lw_afI [10, 12] K)
set_option maxHeartbeats 4000000 in
set_option maxRecDepth 100000 in
theorem c_L_difference (l : Launch) {GC : (Nat → Nat) → List Value → ah_H → (ah_R → ah_H → Prop) → Prop} (hM : rn_MetS l y_C_difference wc_C_difference rmC GC) : rn_MetS l y_L_difference wc_L_difference rmL (G_L_difference GC) := by
  refine rn_in mw_L_difference.1 (by decide +kernel) ?_ ?_
  · intro _ av h K hG
    obtain ⟨a0, fs, rfl, h0, hG⟩ := hG
    exact Nat.le_of_ble_eq_true rfl
  intro p e s m args below meth c z sa D dA av h K hadm C hG
  obtain ⟨a0, fs, rfl, h0, hG⟩ := hG
  refine rn_aload_n C d_L_difference_0 rfl ?_
  refine rn_iconst C 0 d_L_difference_1 (by decide) ?_
  refine rn_aload_n C d_L_difference_2 rfl ?_
  refine rn_iload_n C d_L_difference_3 rfl ?_
  refine rn_cVT C (rn_mono hM) mw_C_difference k_L_62 d_L_difference_4 rfl h0 rfl (Nat.le_of_ble_eq_true rfl) (Nat.le_of_ble_eq_true rfl) ⟨by decide, by decide⟩ ⟨by decide, by decide⟩ ⟨_, fun r h' hr => ?_, hG⟩
  rcases r with v | k
  · obtain ⟨w, out, rfl, ho, hK⟩ := hr
    refine rn_i2l C d_L_difference_7 ?_
    refine rn_lastore C d_L_difference_8 ho vin01 ?_
    refine rn_goto C 18 d_L_difference_9 (by decide) ?_
    refine rn_iconst C 0 d_L_difference_18 (by decide) ?_
    refine rn_ireturn C rfl rfl d_L_difference_19 ⟨by decide, by decide⟩ ?_
    exact hK
  · obtain ⟨j, ci, hj, hk, hK⟩ := hr
    match j, hj with
    | 0, hj =>
      cases hj
      refine ⟨10, "java/lang/IndexOutOfBoundsException", _, 12, hk, rfl, ⟨by decide, "java/lang/IndexOutOfBoundsException", ww 300 (by decide +kernel) (by decide +kernel), Or.inl ⟨by decide +kernel, rfl⟩⟩, ?_⟩
      refine rn_astore_n C d_L_difference_12 (by decide) ?_
      refine rn_iconst C 1 d_L_difference_13 (by decide) ?_
      refine rn_ireturn C rfl rfl d_L_difference_14 ⟨by decide, by decide⟩ ?_
      exact hK
    | 1, hj =>
      cases hj
      refine ⟨12, "java/lang/IllegalStateException", _, 15, hk, rfl, ⟨by decide, "java/lang/IndexOutOfBoundsException", ww 300 (by decide +kernel) (by decide +kernel), Or.inr ⟨by decide +kernel, ⟨by decide, "java/lang/IllegalStateException", ww 431 (by decide +kernel) (by decide +kernel), Or.inl ⟨by decide +kernel, rfl⟩⟩⟩⟩, ?_⟩
      refine rn_astore_n C d_L_difference_15 (by decide) ?_
      refine rn_iconst C 2 d_L_difference_16 (by decide) ?_
      refine rn_ireturn C rfl rfl d_L_difference_17 ⟨by decide, by decide⟩ ?_
      exact hK
    | j + 2, hj => exact absurd hj (by simp)
def G_L_unit (GC : (Nat → Nat) → List Value → ah_H → (ah_R → ah_H → Prop) → Prop) (sa : Nat → Nat) (av : List Value) (h : ah_H) (K : ah_R → ah_H → Prop) : Prop := ∃ (a0 : Int32) (fs : List Value), av = [.ref 0, .int a0, .ref 35] ∧ h[0]? = some (.inr (0, fs)) ∧ GC sa [.ref 0, .int a0] h (lw_afI [11, 12] K)
set_option maxHeartbeats 4000000 in
set_option maxRecDepth 100000 in
theorem c_L_unit (l : Launch) {GC : (Nat → Nat) → List Value → ah_H → (ah_R → ah_H → Prop) → Prop} (hM : rn_MetS l y_C_unit wc_C_unit rmC GC) : rn_MetS l y_L_unit wc_L_unit rmL (G_L_unit GC) := by
  refine rn_in mw_L_unit.1 (by decide +kernel) ?_ ?_
  · intro _ av h K hG
    obtain ⟨a0, fs, rfl, h0, hG⟩ := hG
    exact Nat.le_of_ble_eq_true rfl
  intro p e s m args below meth c z sa D dA av h K hadm C hG
  obtain ⟨a0, fs, rfl, h0, hG⟩ := hG
  refine rn_aload_n C d_L_unit_0 rfl ?_
  refine rn_iconst C 0 d_L_unit_1 (by decide) ?_
  refine rn_aload_n C d_L_unit_2 rfl ?_
  refine rn_iload_n C d_L_unit_3 rfl ?_
  refine rn_cVT C (rn_mono hM) mw_C_unit k_L_65 d_L_unit_4 rfl h0 rfl (Nat.le_of_ble_eq_true rfl) (Nat.le_of_ble_eq_true rfl) ⟨by decide, by decide⟩ ⟨by decide, by decide⟩ ⟨_, fun r h' hr => ?_, hG⟩
  rcases r with v | k
  · obtain ⟨w, out, rfl, ho, hK⟩ := hr
    refine rn_i2l C d_L_unit_7 ?_
    refine rn_lastore C d_L_unit_8 ho vin01 ?_
    refine rn_goto C 18 d_L_unit_9 (by decide) ?_
    refine rn_iconst C 0 d_L_unit_18 (by decide) ?_
    refine rn_ireturn C rfl rfl d_L_unit_19 ⟨by decide, by decide⟩ ?_
    exact hK
  · obtain ⟨j, ci, hj, hk, hK⟩ := hr
    match j, hj with
    | 0, hj =>
      cases hj
      refine ⟨11, "java/lang/IllegalArgumentException", _, 12, hk, rfl, ⟨by decide, "java/lang/IllegalArgumentException", ww 301 (by decide +kernel) (by decide +kernel), Or.inl ⟨by decide +kernel, rfl⟩⟩, ?_⟩
      refine rn_astore_n C d_L_unit_12 (by decide) ?_
      refine rn_iconst C 1 d_L_unit_13 (by decide) ?_
      refine rn_ireturn C rfl rfl d_L_unit_14 ⟨by decide, by decide⟩ ?_
      exact hK
    | 1, hj =>
      cases hj
      refine ⟨12, "java/lang/IllegalStateException", _, 15, hk, rfl, ⟨by decide, "java/lang/IllegalArgumentException", ww 301 (by decide +kernel) (by decide +kernel), Or.inr ⟨by decide +kernel, ⟨by decide, "java/lang/IllegalStateException", ww 431 (by decide +kernel) (by decide +kernel), Or.inl ⟨by decide +kernel, rfl⟩⟩⟩⟩, ?_⟩
      refine rn_astore_n C d_L_unit_15 (by decide) ?_
      refine rn_iconst C 2 d_L_unit_16 (by decide) ?_
      refine rn_ireturn C rfl rfl d_L_unit_17 ⟨by decide, by decide⟩ ?_
      exact hK
    | j + 2, hj => exact absurd hj (by simp)
def G_L_rule (GC : (Nat → Nat) → List Value → ah_H → (ah_R → ah_H → Prop) → Prop) (sa : Nat → Nat) (av : List Value) (h : ah_H) (K : ah_R → ah_H → Prop) : Prop := ∃ (fs : List Value), av = [.ref 0, .ref 35] ∧ h[0]? = some (.inr (0, fs)) ∧ GC sa [.ref 0] h (lw_afI [12] K)
set_option maxHeartbeats 4000000 in
set_option maxRecDepth 100000 in
theorem c_L_rule (l : Launch) {GC : (Nat → Nat) → List Value → ah_H → (ah_R → ah_H → Prop) → Prop} (hM : rn_MetS l y_C_rule wc_C_rule rmC GC) : rn_MetS l y_L_rule wc_L_rule rmL (G_L_rule GC) := by
  refine rn_in mw_L_rule.1 (by decide +kernel) ?_ ?_
  · intro _ av h K hG
    obtain ⟨fs, rfl, h0, hG⟩ := hG
    exact Nat.le_of_ble_eq_true rfl
  intro p e s m args below meth c z sa D dA av h K hadm C hG
  obtain ⟨fs, rfl, h0, hG⟩ := hG
  refine rn_aload_n C d_L_rule_0 rfl ?_
  refine rn_iconst C 0 d_L_rule_1 (by decide) ?_
  refine rn_aload_n C d_L_rule_2 rfl ?_
  refine rn_cVT C (rn_mono hM) mw_C_rule k_L_68 d_L_rule_3 rfl h0 rfl (Nat.le_of_ble_eq_true rfl) (Nat.le_of_ble_eq_true rfl) ⟨by decide, by decide⟩ ⟨by decide, by decide⟩ ⟨_, fun r h' hr => ?_, hG⟩
  rcases r with v | k
  · obtain ⟨w, out, rfl, ho, hK⟩ := hr
    refine rn_i2l C d_L_rule_6 ?_
    refine rn_lastore C d_L_rule_7 ho vin01 ?_
    refine rn_goto C 14 d_L_rule_8 (by decide) ?_
    refine rn_iconst C 0 d_L_rule_14 (by decide) ?_
    refine rn_ireturn C rfl rfl d_L_rule_15 ⟨by decide, by decide⟩ ?_
    exact hK
  · obtain ⟨j, ci, hj, hk, hK⟩ := hr
    match j, hj with
    | 0, hj =>
      cases hj
      refine ⟨12, "java/lang/IllegalStateException", _, 11, hk, rfl, ⟨by decide, "java/lang/IllegalStateException", ww 431 (by decide +kernel) (by decide +kernel), Or.inl ⟨by decide +kernel, rfl⟩⟩, ?_⟩
      refine rn_astore_n C d_L_rule_11 (by decide) ?_
      refine rn_iconst C 1 d_L_rule_12 (by decide) ?_
      refine rn_ireturn C rfl rfl d_L_rule_13 ⟨by decide, by decide⟩ ?_
      exact hK
    | j + 1, hj => exact absurd hj (by simp)
def G_L_reject (GC : (Nat → Nat) → List Value → ah_H → (ah_R → ah_H → Prop) → Prop) (sa : Nat → Nat) (av : List Value) (h : ah_H) (K : ah_R → ah_H → Prop) : Prop := ∃ (fs : List Value), av = [.ref 0, .ref 35] ∧ h[0]? = some (.inr (0, fs)) ∧ GC sa [.ref 0] h (lw_afI [12] K)
set_option maxHeartbeats 4000000 in
set_option maxRecDepth 100000 in
theorem c_L_reject (l : Launch) {GC : (Nat → Nat) → List Value → ah_H → (ah_R → ah_H → Prop) → Prop} (hM : rn_MetS l y_C_reject wc_C_reject rmC GC) : rn_MetS l y_L_reject wc_L_reject rmL (G_L_reject GC) := by
  refine rn_in mw_L_reject.1 (by decide +kernel) ?_ ?_
  · intro _ av h K hG
    obtain ⟨fs, rfl, h0, hG⟩ := hG
    exact Nat.le_of_ble_eq_true rfl
  intro p e s m args below meth c z sa D dA av h K hadm C hG
  obtain ⟨fs, rfl, h0, hG⟩ := hG
  refine rn_aload_n C d_L_reject_0 rfl ?_
  refine rn_iconst C 0 d_L_reject_1 (by decide) ?_
  refine rn_aload_n C d_L_reject_2 rfl ?_
  refine rn_cVT C (rn_mono hM) mw_C_reject k_L_71 d_L_reject_3 rfl h0 rfl (Nat.le_of_ble_eq_true rfl) (Nat.le_of_ble_eq_true rfl) ⟨by decide, by decide⟩ ⟨by decide, by decide⟩ ⟨_, fun r h' hr => ?_, hG⟩
  rcases r with v | k
  · obtain ⟨w, out, rfl, ho, hK⟩ := hr
    refine rn_i2l C d_L_reject_6 ?_
    refine rn_lastore C d_L_reject_7 ho vin01 ?_
    refine rn_goto C 14 d_L_reject_8 (by decide) ?_
    refine rn_iconst C 0 d_L_reject_14 (by decide) ?_
    refine rn_ireturn C rfl rfl d_L_reject_15 ⟨by decide, by decide⟩ ?_
    exact hK
  · obtain ⟨j, ci, hj, hk, hK⟩ := hr
    match j, hj with
    | 0, hj =>
      cases hj
      refine ⟨12, "java/lang/IllegalStateException", _, 11, hk, rfl, ⟨by decide, "java/lang/IllegalStateException", ww 431 (by decide +kernel) (by decide +kernel), Or.inl ⟨by decide +kernel, rfl⟩⟩, ?_⟩
      refine rn_astore_n C d_L_reject_11 (by decide) ?_
      refine rn_iconst C 1 d_L_reject_12 (by decide) ?_
      refine rn_ireturn C rfl rfl d_L_reject_13 ⟨by decide, by decide⟩ ?_
      exact hK
    | j + 1, hj => exact absurd hj (by simp)
def G_L_day (GC : (Nat → Nat) → List Value → ah_H → (ah_R → ah_H → Prop) → Prop) (sa : Nat → Nat) (av : List Value) (h : ah_H) (K : ah_R → ah_H → Prop) : Prop := ∃ (a0 a1 : Int32) (fs : List Value), av = [.ref 0, .int a0, .int a1, .ref 35] ∧ h[0]? = some (.inr (0, fs)) ∧ GC sa [.ref 0, .int a0, .int a1] h (lw_afI [11, 12] K)
set_option maxHeartbeats 4000000 in
set_option maxRecDepth 100000 in
theorem c_L_day (l : Launch) {GC : (Nat → Nat) → List Value → ah_H → (ah_R → ah_H → Prop) → Prop} (hM : rn_MetS l y_C_day wc_C_day rmC GC) : rn_MetS l y_L_day wc_L_day rmL (G_L_day GC) := by
  refine rn_in mw_L_day.1 (by decide +kernel) ?_ ?_
  · intro _ av h K hG
    obtain ⟨a0, a1, fs, rfl, h0, hG⟩ := hG
    exact Nat.le_of_ble_eq_true rfl
  intro p e s m args below meth c z sa D dA av h K hadm C hG
  obtain ⟨a0, a1, fs, rfl, h0, hG⟩ := hG
  refine rn_aload_n C d_L_day_0 rfl ?_
  refine rn_iconst C 0 d_L_day_1 (by decide) ?_
  refine rn_aload_n C d_L_day_2 rfl ?_
  refine rn_iload_n C d_L_day_3 rfl ?_
  refine rn_iload_n C d_L_day_4 rfl ?_
  refine rn_cVT C (rn_mono hM) mw_C_day k_L_74 d_L_day_5 rfl h0 rfl (Nat.le_of_ble_eq_true rfl) (Nat.le_of_ble_eq_true rfl) ⟨by decide, by decide⟩ ⟨by decide, by decide⟩ ⟨_, fun r h' hr => ?_, hG⟩
  rcases r with v | k
  · obtain ⟨w, out, rfl, ho, hK⟩ := hr
    refine rn_i2l C d_L_day_8 ?_
    refine rn_lastore C d_L_day_9 ho vin01 ?_
    refine rn_goto C 21 d_L_day_10 (by decide) ?_
    refine rn_iconst C 0 d_L_day_21 (by decide) ?_
    refine rn_ireturn C rfl rfl d_L_day_22 ⟨by decide, by decide⟩ ?_
    exact hK
  · obtain ⟨j, ci, hj, hk, hK⟩ := hr
    match j, hj with
    | 0, hj =>
      cases hj
      refine ⟨11, "java/lang/IllegalArgumentException", _, 13, hk, rfl, ⟨by decide, "java/lang/IllegalArgumentException", ww 301 (by decide +kernel) (by decide +kernel), Or.inl ⟨by decide +kernel, rfl⟩⟩, ?_⟩
      refine rn_astore C d_L_day_13 (by decide) ?_
      refine rn_iconst C 1 d_L_day_15 (by decide) ?_
      refine rn_ireturn C rfl rfl d_L_day_16 ⟨by decide, by decide⟩ ?_
      exact hK
    | 1, hj =>
      cases hj
      refine ⟨12, "java/lang/IllegalStateException", _, 17, hk, rfl, ⟨by decide, "java/lang/IllegalArgumentException", ww 301 (by decide +kernel) (by decide +kernel), Or.inr ⟨by decide +kernel, ⟨by decide, "java/lang/IllegalStateException", ww 431 (by decide +kernel) (by decide +kernel), Or.inl ⟨by decide +kernel, rfl⟩⟩⟩⟩, ?_⟩
      refine rn_astore C d_L_day_17 (by decide) ?_
      refine rn_iconst C 2 d_L_day_19 (by decide) ?_
      refine rn_ireturn C rfl rfl d_L_day_20 ⟨by decide, by decide⟩ ?_
      exact hK
    | j + 2, hj => exact absurd hj (by simp)
def G_L_drift (GC : (Nat → Nat) → List Value → ah_H → (ah_R → ah_H → Prop) → Prop) (sa : Nat → Nat) (av : List Value) (h : ah_H) (K : ah_R → ah_H → Prop) : Prop := ∃ (a0 : Int32) (fs : List Value), av = [.ref 0, .int a0, .ref 35] ∧ h[0]? = some (.inr (0, fs)) ∧ GC sa [.ref 0, .int a0] h (lw_afJ [10] K)
set_option maxHeartbeats 4000000 in
set_option maxRecDepth 100000 in
theorem c_L_drift (l : Launch) {GC : (Nat → Nat) → List Value → ah_H → (ah_R → ah_H → Prop) → Prop} (hM : rn_MetS l y_C_drift wc_C_drift rmC GC) : rn_MetS l y_L_drift wc_L_drift rmL (G_L_drift GC) := by
  refine rn_in mw_L_drift.1 (by decide +kernel) ?_ ?_
  · intro _ av h K hG
    obtain ⟨a0, fs, rfl, h0, hG⟩ := hG
    exact Nat.le_of_ble_eq_true rfl
  intro p e s m args below meth c z sa D dA av h K hadm C hG
  obtain ⟨a0, fs, rfl, h0, hG⟩ := hG
  refine rn_aload_n C d_L_drift_0 rfl ?_
  refine rn_iconst C 0 d_L_drift_1 (by decide) ?_
  refine rn_aload_n C d_L_drift_2 rfl ?_
  refine rn_iload_n C d_L_drift_3 rfl ?_
  refine rn_cVT C (rn_mono hM) mw_C_drift k_L_77 d_L_drift_4 rfl h0 rfl (Nat.le_of_ble_eq_true rfl) (Nat.le_of_ble_eq_true rfl) ⟨by decide, by decide⟩ ⟨by decide, by decide⟩ ⟨_, fun r h' hr => ?_, hG⟩
  rcases r with v | k
  · obtain ⟨w, out, rfl, ho, hK⟩ := hr
    refine rn_lastore C d_L_drift_7 ho vin01 ?_
    refine rn_goto C 14 d_L_drift_8 (by decide) ?_
    refine rn_iconst C 0 d_L_drift_14 (by decide) ?_
    refine rn_ireturn C rfl rfl d_L_drift_15 ⟨by decide, by decide⟩ ?_
    exact hK
  · obtain ⟨j, ci, hj, hk, hK⟩ := hr
    match j, hj with
    | 0, hj =>
      cases hj
      refine ⟨10, "java/lang/IndexOutOfBoundsException", _, 11, hk, rfl, ⟨by decide, "java/lang/IndexOutOfBoundsException", ww 300 (by decide +kernel) (by decide +kernel), Or.inl ⟨by decide +kernel, rfl⟩⟩, ?_⟩
      refine rn_astore_n C d_L_drift_11 (by decide) ?_
      refine rn_iconst C 1 d_L_drift_12 (by decide) ?_
      refine rn_ireturn C rfl rfl d_L_drift_13 ⟨by decide, by decide⟩ ?_
      exact hK
    | j + 1, hj => exact absurd hj (by simp)
def G_L_count (GC : (Nat → Nat) → List Value → ah_H → (ah_R → ah_H → Prop) → Prop) (sa : Nat → Nat) (av : List Value) (h : ah_H) (K : ah_R → ah_H → Prop) : Prop := ∃ (a0 : Int32) (fs : List Value), av = [.ref 0, .int a0, .ref 35] ∧ h[0]? = some (.inr (0, fs)) ∧ GC sa [.ref 0, .int a0] h (lw_afI [10] K)
set_option maxHeartbeats 4000000 in
set_option maxRecDepth 100000 in
theorem c_L_count (l : Launch) {GC : (Nat → Nat) → List Value → ah_H → (ah_R → ah_H → Prop) → Prop} (hM : rn_MetS l y_C_count wc_C_count rmC GC) : rn_MetS l y_L_count wc_L_count rmL (G_L_count GC) := by
  refine rn_in mw_L_count.1 (by decide +kernel) ?_ ?_
  · intro _ av h K hG
    obtain ⟨a0, fs, rfl, h0, hG⟩ := hG
    exact Nat.le_of_ble_eq_true rfl
  intro p e s m args below meth c z sa D dA av h K hadm C hG
  obtain ⟨a0, fs, rfl, h0, hG⟩ := hG
  refine rn_aload_n C d_L_count_0 rfl ?_
  refine rn_iconst C 0 d_L_count_1 (by decide) ?_
  refine rn_aload_n C d_L_count_2 rfl ?_
  refine rn_iload_n C d_L_count_3 rfl ?_
  refine rn_cVT C (rn_mono hM) mw_C_count k_L_81 d_L_count_4 rfl h0 rfl (Nat.le_of_ble_eq_true rfl) (Nat.le_of_ble_eq_true rfl) ⟨by decide, by decide⟩ ⟨by decide, by decide⟩ ⟨_, fun r h' hr => ?_, hG⟩
  rcases r with v | k
  · obtain ⟨w, out, rfl, ho, hK⟩ := hr
    refine rn_i2l C d_L_count_7 ?_
    refine rn_lastore C d_L_count_8 ho vin01 ?_
    refine rn_goto C 15 d_L_count_9 (by decide) ?_
    refine rn_iconst C 0 d_L_count_15 (by decide) ?_
    refine rn_ireturn C rfl rfl d_L_count_16 ⟨by decide, by decide⟩ ?_
    exact hK
  · obtain ⟨j, ci, hj, hk, hK⟩ := hr
    match j, hj with
    | 0, hj =>
      cases hj
      refine ⟨10, "java/lang/IndexOutOfBoundsException", _, 12, hk, rfl, ⟨by decide, "java/lang/IndexOutOfBoundsException", ww 300 (by decide +kernel) (by decide +kernel), Or.inl ⟨by decide +kernel, rfl⟩⟩, ?_⟩
      refine rn_astore_n C d_L_count_12 (by decide) ?_
      refine rn_iconst C 1 d_L_count_13 (by decide) ?_
      refine rn_ireturn C rfl rfl d_L_count_14 ⟨by decide, by decide⟩ ?_
      exact hK
    | j + 1, hj => exact absurd hj (by simp)
