/-! Contracts: the JDK's own, small questions of the class. Laid by wip/whole/gen_c1.py. -/
def jMin (x y : Int32) : Int32 := if y < x then y else x
def jMax (x y : Int32) : Int32 := if x < y then y else x
def lMin (x y : Int64) : Int64 := if y < x then y else x
def lMax (x y : Int64) : Int64 := if x < y then y else x
def lAbs (x : Int64) : Int64 := if 0 ≤ x then x else -x
def lFloor (x y : Int64) : Int64 := if 0 ≤ x ^^^ y then x / y else if x / y * y = x then x / y else x / y - 1
def G_J_mini (av : List Value) (h : ah_H) (K : ah_R → ah_H → Prop) : Prop := ∃ x y : Int32, av = [.int x, .int y] ∧ K (.inl (some (.int (jMin x y)))) h
def G_J_maxi (av : List Value) (h : ah_H) (K : ah_R → ah_H → Prop) : Prop := ∃ x y : Int32, av = [.int x, .int y] ∧ K (.inl (some (.int (jMax x y)))) h
def G_J_minl (av : List Value) (h : ah_H) (K : ah_R → ah_H → Prop) : Prop := ∃ x y : Int64, av = [.long x, .long y] ∧ K (.inl (some (.long (lMin x y)))) h
def G_J_maxl (av : List Value) (h : ah_H) (K : ah_R → ah_H → Prop) : Prop := ∃ x y : Int64, av = [.long x, .long y] ∧ K (.inl (some (.long (lMax x y)))) h
def G_J_absl (av : List Value) (h : ah_H) (K : ah_R → ah_H → Prop) : Prop := ∃ x : Int64, av = [.long x] ∧ K (.inl (some (.long (lAbs x)))) h
def G_J_floorDivl (av : List Value) (h : ah_H) (K : ah_R → ah_H → Prop) : Prop := ∃ x y : Int64, av = [.long x, .long y] ∧ ¬ y = 0 ∧ K (.inl (some (.long (lFloor x y)))) h
set_option maxHeartbeats 4000000 in
set_option maxRecDepth 100000 in
theorem c_J_mini (l : Launch) : rn_Met l y_J_mini wc_J_mini { frames := 1, cells := 0, slots := 0, locals := 0 } G_J_mini := by
  refine rn_in mw_J_mini.1 (by decide +kernel) ?_ ?_
  · intro _ av h K hG
    obtain ⟨x, y, rfl, hK⟩ := hG
    exact Nat.le_of_ble_eq_true rfl
  intro p e s m args below meth c z sa D dA av h K hadm C hG
  obtain ⟨x, y, rfl, hK⟩ := hG
  refine rn_iload_n C d_J_mini_0 rfl ?_
  refine rn_iload_n C d_J_mini_1 rfl ?_
  refine rn_icmp_gt C 9 d_J_mini_2 (by decide) (fun c2 => ?_) (fun c2 => ?_)
  · skip
    refine rn_iload_n C d_J_mini_9 rfl ?_
    refine rn_ireturn C rfl rfl d_J_mini_10 ⟨by decide, by decide⟩ ?_
    first | (rw [jMin, if_pos c2] at hK; exact hK) | (rw [jMin, if_neg c2] at hK; exact hK)
  · skip
    refine rn_iload_n C d_J_mini_5 rfl ?_
    refine rn_goto C 10 d_J_mini_6 (by decide) ?_
    refine rn_ireturn C rfl rfl d_J_mini_10 ⟨by decide, by decide⟩ ?_
    first | (rw [jMin, if_pos c2] at hK; exact hK) | (rw [jMin, if_neg c2] at hK; exact hK)

set_option maxHeartbeats 4000000 in
set_option maxRecDepth 100000 in
theorem c_J_maxi (l : Launch) : rn_Met l y_J_maxi wc_J_maxi { frames := 1, cells := 0, slots := 0, locals := 0 } G_J_maxi := by
  refine rn_in mw_J_maxi.1 (by decide +kernel) ?_ ?_
  · intro _ av h K hG
    obtain ⟨x, y, rfl, hK⟩ := hG
    exact Nat.le_of_ble_eq_true rfl
  intro p e s m args below meth c z sa D dA av h K hadm C hG
  obtain ⟨x, y, rfl, hK⟩ := hG
  refine rn_iload_n C d_J_maxi_0 rfl ?_
  refine rn_iload_n C d_J_maxi_1 rfl ?_
  refine rn_icmp_lt C 9 d_J_maxi_2 (by decide) (fun c2 => ?_) (fun c2 => ?_)
  · skip
    refine rn_iload_n C d_J_maxi_9 rfl ?_
    refine rn_ireturn C rfl rfl d_J_maxi_10 ⟨by decide, by decide⟩ ?_
    first | (rw [jMax, if_pos c2] at hK; exact hK) | (rw [jMax, if_neg c2] at hK; exact hK)
  · skip
    refine rn_iload_n C d_J_maxi_5 rfl ?_
    refine rn_goto C 10 d_J_maxi_6 (by decide) ?_
    refine rn_ireturn C rfl rfl d_J_maxi_10 ⟨by decide, by decide⟩ ?_
    first | (rw [jMax, if_pos c2] at hK; exact hK) | (rw [jMax, if_neg c2] at hK; exact hK)

set_option maxHeartbeats 4000000 in
set_option maxRecDepth 100000 in
theorem c_J_minl (l : Launch) : rn_Met l y_J_minl wc_J_minl { frames := 1, cells := 0, slots := 0, locals := 0 } G_J_minl := by
  refine rn_in mw_J_minl.1 (by decide +kernel) ?_ ?_
  · intro _ av h K hG
    obtain ⟨x, y, rfl, hK⟩ := hG
    exact Nat.le_of_ble_eq_true rfl
  intro p e s m args below meth c z sa D dA av h K hadm C hG
  obtain ⟨x, y, rfl, hK⟩ := hG
  refine rn_lload_n C d_J_minl_0 rfl ?_
  refine rn_lload_n C d_J_minl_1 rfl ?_
  refine rn_lc_gt C 10 d_J_minl_2 d_J_minl_3 (by decide) (fun c2 => ?_) (fun c2 => ?_)
  · skip
    refine rn_lload_n C d_J_minl_10 rfl ?_
    refine rn_lreturn C rfl d_J_minl_11 ⟨by decide, by decide⟩ ?_
    first | (rw [lMin, if_pos c2] at hK; exact hK) | (rw [lMin, if_neg c2] at hK; exact hK)
  · skip
    refine rn_lload_n C d_J_minl_6 rfl ?_
    refine rn_goto C 11 d_J_minl_7 (by decide) ?_
    refine rn_lreturn C rfl d_J_minl_11 ⟨by decide, by decide⟩ ?_
    first | (rw [lMin, if_pos c2] at hK; exact hK) | (rw [lMin, if_neg c2] at hK; exact hK)

set_option maxHeartbeats 4000000 in
set_option maxRecDepth 100000 in
theorem c_J_maxl (l : Launch) : rn_Met l y_J_maxl wc_J_maxl { frames := 1, cells := 0, slots := 0, locals := 0 } G_J_maxl := by
  refine rn_in mw_J_maxl.1 (by decide +kernel) ?_ ?_
  · intro _ av h K hG
    obtain ⟨x, y, rfl, hK⟩ := hG
    exact Nat.le_of_ble_eq_true rfl
  intro p e s m args below meth c z sa D dA av h K hadm C hG
  obtain ⟨x, y, rfl, hK⟩ := hG
  refine rn_lload_n C d_J_maxl_0 rfl ?_
  refine rn_lload_n C d_J_maxl_1 rfl ?_
  refine rn_lc_lt C 10 d_J_maxl_2 d_J_maxl_3 (by decide) (fun c2 => ?_) (fun c2 => ?_)
  · skip
    refine rn_lload_n C d_J_maxl_10 rfl ?_
    refine rn_lreturn C rfl d_J_maxl_11 ⟨by decide, by decide⟩ ?_
    first | (rw [lMax, if_pos c2] at hK; exact hK) | (rw [lMax, if_neg c2] at hK; exact hK)
  · skip
    refine rn_lload_n C d_J_maxl_6 rfl ?_
    refine rn_goto C 11 d_J_maxl_7 (by decide) ?_
    refine rn_lreturn C rfl d_J_maxl_11 ⟨by decide, by decide⟩ ?_
    first | (rw [lMax, if_pos c2] at hK; exact hK) | (rw [lMax, if_neg c2] at hK; exact hK)

set_option maxHeartbeats 4000000 in
set_option maxRecDepth 100000 in
theorem c_J_absl (l : Launch) : rn_Met l y_J_absl wc_J_absl { frames := 1, cells := 0, slots := 0, locals := 0 } G_J_absl := by
  refine rn_in mw_J_absl.1 (by decide +kernel) ?_ ?_
  · intro _ av h K hG
    obtain ⟨x, rfl, hK⟩ := hG
    exact Nat.le_of_ble_eq_true rfl
  intro p e s m args below meth c z sa D dA av h K hadm C hG
  obtain ⟨x, rfl, hK⟩ := hG
  refine rn_lload_n C d_J_absl_0 rfl ?_
  refine rn_lconst C 0 d_J_absl_1 (by decide) ?_
  refine rn_lc_ge C 11 d_J_absl_2 d_J_absl_3 (by decide) (fun c2 => ?_) (fun c2 => ?_)
  · skip
    refine rn_lload_n C d_J_absl_11 rfl ?_
    refine rn_lreturn C rfl d_J_absl_12 ⟨by decide, by decide⟩ ?_
    first | (rw [lAbs, if_pos c2] at hK; exact hK) | (rw [lAbs, if_neg c2] at hK; exact hK)
  · skip
    refine rn_lload_n C d_J_absl_6 rfl ?_
    refine rn_lneg C d_J_absl_7 ?_
    refine rn_goto C 12 d_J_absl_8 (by decide) ?_
    refine rn_lreturn C rfl d_J_absl_12 ⟨by decide, by decide⟩ ?_
    first | (rw [lAbs, if_pos c2] at hK; exact hK) | (rw [lAbs, if_neg c2] at hK; exact hK)

set_option maxHeartbeats 4000000 in
set_option maxRecDepth 100000 in
theorem c_J_floorDivl (l : Launch) : rn_Met l y_J_floorDivl wc_J_floorDivl { frames := 1, cells := 0, slots := 0, locals := 0 } G_J_floorDivl := by
  refine rn_in mw_J_floorDivl.1 (by decide +kernel) ?_ ?_
  · intro _ av h K hG
    obtain ⟨x, y, rfl, hy, hK⟩ := hG
    exact Nat.le_of_ble_eq_true rfl
  intro p e s m args below meth c z sa D dA av h K hadm C hG
  obtain ⟨x, y, rfl, hy, hK⟩ := hG
  refine rn_lload_n C d_J_floorDivl_0 rfl ?_
  refine rn_lload_n C d_J_floorDivl_1 rfl ?_
  refine rn_ldiv C d_J_floorDivl_2 hy ?_
  refine rn_lstore C d_J_floorDivl_3 (by decide) ?_
  refine rn_lload_n C d_J_floorDivl_5 rfl ?_
  refine rn_lload_n C d_J_floorDivl_6 rfl ?_
  refine rn_lxor C d_J_floorDivl_7 ?_
  refine rn_lconst C 0 d_J_floorDivl_8 (by decide) ?_
  refine rn_lc_ge C 27 d_J_floorDivl_9 d_J_floorDivl_10 (by decide) (fun c9 => ?_) (fun c9 => ?_)
  · skip
    refine rn_lload C d_J_floorDivl_27 rfl ?_
    refine rn_lreturn C rfl d_J_floorDivl_29 ⟨by decide, by decide⟩ ?_
    first | (rw [lFloor, if_pos c9] at hK; exact hK) | (rw [lFloor, if_neg c9, if_pos c18] at hK; exact hK)
  · skip
    refine rn_lload C d_J_floorDivl_13 rfl ?_
    refine rn_lload_n C d_J_floorDivl_15 rfl ?_
    refine rn_lmul C d_J_floorDivl_16 ?_
    refine rn_lload_n C d_J_floorDivl_17 rfl ?_
    refine rn_lc_eq C 27 d_J_floorDivl_18 d_J_floorDivl_19 (by decide) (fun c18 => ?_) (fun c18 => ?_)
    · skip
      refine rn_lload C d_J_floorDivl_27 rfl ?_
      refine rn_lreturn C rfl d_J_floorDivl_29 ⟨by decide, by decide⟩ ?_
      first | (rw [lFloor, if_pos c9] at hK; exact hK) | (rw [lFloor, if_neg c9, if_pos c18] at hK; exact hK)
    · skip
      refine rn_lload C d_J_floorDivl_22 rfl ?_
      refine rn_lconst C 1 d_J_floorDivl_24 (by decide) ?_
      refine rn_lsub C d_J_floorDivl_25 ?_
      refine rn_lreturn C rfl d_J_floorDivl_26 ⟨by decide, by decide⟩ ?_
      rw [lFloor, if_neg c9, if_neg c18] at hK; exact hK

def G_C_isPart (av : List Value) (h : ah_H) (K : ah_R → ah_H → Prop) : Prop := ∃ x : Int32, av = [.int x] ∧ (0 ≤ x.toInt ∧ x.toInt ≤ 2 → K (.inl (some (.int 1))) h) ∧ (¬ (0 ≤ x.toInt ∧ x.toInt ≤ 2) → K (.inl (some (.int 0))) h)
set_option maxHeartbeats 4000000 in
set_option maxRecDepth 100000 in
theorem c_C_isPart (l : Launch) : rn_Met l y_C_isPart wc_C_isPart { frames := 1, cells := 0, slots := 0, locals := 0 } G_C_isPart := by
  refine rn_in mw_C_isPart.1 (by decide +kernel) ?_ ?_
  · intro _ av h K hG
    obtain ⟨x, rfl, hK1, hK2⟩ := hG
    exact Nat.le_of_ble_eq_true rfl
  intro p e s m args below meth c z sa D dA av h K hadm C hG
  obtain ⟨x, rfl, hK1, hK2⟩ := hG
  refine rn_iload_n C d_C_isPart_0 rfl ?_
  refine rn_if_lt C 13 d_C_isPart_1 (by decide) (fun c1 => ?_) (fun c1 => ?_)
  · skip
    refine rn_iconst C 0 d_C_isPart_13 (by decide) ?_
    refine rn_ireturn C rfl rfl d_C_isPart_14 ⟨by decide, by decide⟩ ?_
    (try simp only [Int32.lt_iff_toInt_lt, Int32.le_iff_toInt_le, ← Int32.toInt_inj, Int32.reduceToInt] at c1)
    first | exact hK1 (by omega) | exact hK2 (by omega)
  · skip
    refine rn_iload_n C d_C_isPart_4 rfl ?_
    refine rn_iconst C 3 d_C_isPart_5 (by decide) ?_
    refine rn_icmp_ge C 13 d_C_isPart_6 (by decide) (fun c6 => ?_) (fun c6 => ?_)
    · skip
      refine rn_iconst C 0 d_C_isPart_13 (by decide) ?_
      refine rn_ireturn C rfl rfl d_C_isPart_14 ⟨by decide, by decide⟩ ?_
      (try simp only [Int32.lt_iff_toInt_lt, Int32.le_iff_toInt_le, ← Int32.toInt_inj, Int32.reduceToInt] at c1 c6)
      first | exact hK1 (by omega) | exact hK2 (by omega)
    · skip
      refine rn_iconst C 1 d_C_isPart_9 (by decide) ?_
      refine rn_goto C 14 d_C_isPart_10 (by decide) ?_
      refine rn_ireturn C rfl rfl d_C_isPart_14 ⟨by decide, by decide⟩ ?_
      (try simp only [Int32.lt_iff_toInt_lt, Int32.le_iff_toInt_le, ← Int32.toInt_inj, Int32.reduceToInt] at c1 c6)
      first | exact hK1 (by omega) | exact hK2 (by omega)

def G_C_isPartValue (av : List Value) (h : ah_H) (K : ah_R → ah_H → Prop) : Prop := ∃ x : Int32, av = [.int x] ∧ (0 ≤ x.toInt ∧ x.toInt ≤ 255 → K (.inl (some (.int 1))) h) ∧ (¬ (0 ≤ x.toInt ∧ x.toInt ≤ 255) → K (.inl (some (.int 0))) h)
set_option maxHeartbeats 4000000 in
set_option maxRecDepth 100000 in
theorem c_C_isPartValue (l : Launch) : rn_Met l y_C_isPartValue wc_C_isPartValue { frames := 1, cells := 0, slots := 0, locals := 0 } G_C_isPartValue := by
  refine rn_in mw_C_isPartValue.1 (by decide +kernel) ?_ ?_
  · intro _ av h K hG
    obtain ⟨x, rfl, hK1, hK2⟩ := hG
    exact Nat.le_of_ble_eq_true rfl
  intro p e s m args below meth c z sa D dA av h K hadm C hG
  obtain ⟨x, rfl, hK1, hK2⟩ := hG
  refine rn_iload_n C d_C_isPartValue_0 rfl ?_
  refine rn_if_lt C 15 d_C_isPartValue_1 (by decide) (fun c1 => ?_) (fun c1 => ?_)
  · skip
    refine rn_iconst C 0 d_C_isPartValue_15 (by decide) ?_
    refine rn_ireturn C rfl rfl d_C_isPartValue_16 ⟨by decide, by decide⟩ ?_
    (try simp only [Int32.lt_iff_toInt_lt, Int32.le_iff_toInt_le, ← Int32.toInt_inj, Int32.reduceToInt] at c1)
    first | exact hK1 (by omega) | exact hK2 (by omega)
  · skip
    refine rn_iload_n C d_C_isPartValue_4 rfl ?_
    refine rn_sipush C 255 d_C_isPartValue_5 (by decide) ?_
    refine rn_icmp_gt C 15 d_C_isPartValue_8 (by decide) (fun c8 => ?_) (fun c8 => ?_)
    · skip
      refine rn_iconst C 0 d_C_isPartValue_15 (by decide) ?_
      refine rn_ireturn C rfl rfl d_C_isPartValue_16 ⟨by decide, by decide⟩ ?_
      (try simp only [Int32.lt_iff_toInt_lt, Int32.le_iff_toInt_le, ← Int32.toInt_inj, Int32.reduceToInt] at c1 c8)
      first | exact hK1 (by omega) | exact hK2 (by omega)
    · skip
      refine rn_iconst C 1 d_C_isPartValue_11 (by decide) ?_
      refine rn_goto C 16 d_C_isPartValue_12 (by decide) ?_
      refine rn_ireturn C rfl rfl d_C_isPartValue_16 ⟨by decide, by decide⟩ ?_
      (try simp only [Int32.lt_iff_toInt_lt, Int32.le_iff_toInt_le, ← Int32.toInt_inj, Int32.reduceToInt] at c1 c8)
      first | exact hK1 (by omega) | exact hK2 (by omega)

def G_C_isGridSide (av : List Value) (h : ah_H) (K : ah_R → ah_H → Prop) : Prop := ∃ x : Int32, av = [.int x] ∧ (1 ≤ x.toInt ∧ x.toInt ≤ 4 → K (.inl (some (.int 1))) h) ∧ (¬ (1 ≤ x.toInt ∧ x.toInt ≤ 4) → K (.inl (some (.int 0))) h)
set_option maxHeartbeats 4000000 in
set_option maxRecDepth 100000 in
theorem c_C_isGridSide (l : Launch) : rn_Met l y_C_isGridSide wc_C_isGridSide { frames := 1, cells := 0, slots := 0, locals := 0 } G_C_isGridSide := by
  refine rn_in mw_C_isGridSide.1 (by decide +kernel) ?_ ?_
  · intro _ av h K hG
    obtain ⟨x, rfl, hK1, hK2⟩ := hG
    exact Nat.le_of_ble_eq_true rfl
  intro p e s m args below meth c z sa D dA av h K hadm C hG
  obtain ⟨x, rfl, hK1, hK2⟩ := hG
  refine rn_iload_n C d_C_isGridSide_0 rfl ?_
  refine rn_iconst C 1 d_C_isGridSide_1 (by decide) ?_
  refine rn_icmp_lt C 14 d_C_isGridSide_2 (by decide) (fun c2 => ?_) (fun c2 => ?_)
  · skip
    refine rn_iconst C 0 d_C_isGridSide_14 (by decide) ?_
    refine rn_ireturn C rfl rfl d_C_isGridSide_15 ⟨by decide, by decide⟩ ?_
    (try simp only [Int32.lt_iff_toInt_lt, Int32.le_iff_toInt_le, ← Int32.toInt_inj, Int32.reduceToInt] at c2)
    first | exact hK1 (by omega) | exact hK2 (by omega)
  · skip
    refine rn_iload_n C d_C_isGridSide_5 rfl ?_
    refine rn_iconst C 4 d_C_isGridSide_6 (by decide) ?_
    refine rn_icmp_gt C 14 d_C_isGridSide_7 (by decide) (fun c7 => ?_) (fun c7 => ?_)
    · skip
      refine rn_iconst C 0 d_C_isGridSide_14 (by decide) ?_
      refine rn_ireturn C rfl rfl d_C_isGridSide_15 ⟨by decide, by decide⟩ ?_
      (try simp only [Int32.lt_iff_toInt_lt, Int32.le_iff_toInt_le, ← Int32.toInt_inj, Int32.reduceToInt] at c2 c7)
      first | exact hK1 (by omega) | exact hK2 (by omega)
    · skip
      refine rn_iconst C 1 d_C_isGridSide_10 (by decide) ?_
      refine rn_goto C 15 d_C_isGridSide_11 (by decide) ?_
      refine rn_ireturn C rfl rfl d_C_isGridSide_15 ⟨by decide, by decide⟩ ?_
      (try simp only [Int32.lt_iff_toInt_lt, Int32.le_iff_toInt_le, ← Int32.toInt_inj, Int32.reduceToInt] at c2 c7)
      first | exact hK1 (by omega) | exact hK2 (by omega)

def G_C_isTargetPatch (av : List Value) (h : ah_H) (K : ah_R → ah_H → Prop) : Prop := ∃ x : Int32, av = [.int x] ∧ (0 ≤ x.toInt ∧ x.toInt ≤ 15 → K (.inl (some (.int 1))) h) ∧ (¬ (0 ≤ x.toInt ∧ x.toInt ≤ 15) → K (.inl (some (.int 0))) h)
set_option maxHeartbeats 4000000 in
set_option maxRecDepth 100000 in
theorem c_C_isTargetPatch (l : Launch) : rn_Met l y_C_isTargetPatch wc_C_isTargetPatch { frames := 1, cells := 0, slots := 0, locals := 0 } G_C_isTargetPatch := by
  refine rn_in mw_C_isTargetPatch.1 (by decide +kernel) ?_ ?_
  · intro _ av h K hG
    obtain ⟨x, rfl, hK1, hK2⟩ := hG
    exact Nat.le_of_ble_eq_true rfl
  intro p e s m args below meth c z sa D dA av h K hadm C hG
  obtain ⟨x, rfl, hK1, hK2⟩ := hG
  refine rn_iload_n C d_C_isTargetPatch_0 rfl ?_
  refine rn_if_lt C 14 d_C_isTargetPatch_1 (by decide) (fun c1 => ?_) (fun c1 => ?_)
  · skip
    refine rn_iconst C 0 d_C_isTargetPatch_14 (by decide) ?_
    refine rn_ireturn C rfl rfl d_C_isTargetPatch_15 ⟨by decide, by decide⟩ ?_
    (try simp only [Int32.lt_iff_toInt_lt, Int32.le_iff_toInt_le, ← Int32.toInt_inj, Int32.reduceToInt] at c1)
    first | exact hK1 (by omega) | exact hK2 (by omega)
  · skip
    refine rn_iload_n C d_C_isTargetPatch_4 rfl ?_
    refine rn_bipush C 16 d_C_isTargetPatch_5 (by decide) ?_
    refine rn_icmp_ge C 14 d_C_isTargetPatch_7 (by decide) (fun c7 => ?_) (fun c7 => ?_)
    · skip
      refine rn_iconst C 0 d_C_isTargetPatch_14 (by decide) ?_
      refine rn_ireturn C rfl rfl d_C_isTargetPatch_15 ⟨by decide, by decide⟩ ?_
      (try simp only [Int32.lt_iff_toInt_lt, Int32.le_iff_toInt_le, ← Int32.toInt_inj, Int32.reduceToInt] at c1 c7)
      first | exact hK1 (by omega) | exact hK2 (by omega)
    · skip
      refine rn_iconst C 1 d_C_isTargetPatch_10 (by decide) ?_
      refine rn_goto C 15 d_C_isTargetPatch_11 (by decide) ?_
      refine rn_ireturn C rfl rfl d_C_isTargetPatch_15 ⟨by decide, by decide⟩ ?_
      (try simp only [Int32.lt_iff_toInt_lt, Int32.le_iff_toInt_le, ← Int32.toInt_inj, Int32.reduceToInt] at c1 c7)
      first | exact hK1 (by omega) | exact hK2 (by omega)

def G_C_isHalfOfFraction (av : List Value) (h : ah_H) (K : ah_R → ah_H → Prop) : Prop := ∃ x : Int32, av = [.int x] ∧ (x.toInt = 0 ∨ x.toInt = 1 → K (.inl (some (.int 1))) h) ∧ (¬ (x.toInt = 0 ∨ x.toInt = 1) → K (.inl (some (.int 0))) h)
set_option maxHeartbeats 4000000 in
set_option maxRecDepth 100000 in
theorem c_C_isHalfOfFraction (l : Launch) : rn_Met l y_C_isHalfOfFraction wc_C_isHalfOfFraction { frames := 1, cells := 0, slots := 0, locals := 0 } G_C_isHalfOfFraction := by
  refine rn_in mw_C_isHalfOfFraction.1 (by decide +kernel) ?_ ?_
  · intro _ av h K hG
    obtain ⟨x, rfl, hK1, hK2⟩ := hG
    exact Nat.le_of_ble_eq_true rfl
  intro p e s m args below meth c z sa D dA av h K hadm C hG
  obtain ⟨x, rfl, hK1, hK2⟩ := hG
  refine rn_iload_n C d_C_isHalfOfFraction_0 rfl ?_
  refine rn_if_eq C 9 d_C_isHalfOfFraction_1 (by decide) (fun c1 => ?_) (fun c1 => ?_)
  · skip
    refine rn_iconst C 1 d_C_isHalfOfFraction_9 (by decide) ?_
    refine rn_goto C 14 d_C_isHalfOfFraction_10 (by decide) ?_
    refine rn_ireturn C rfl rfl d_C_isHalfOfFraction_14 ⟨by decide, by decide⟩ ?_
    (try simp only [Int32.lt_iff_toInt_lt, Int32.le_iff_toInt_le, ← Int32.toInt_inj, Int32.reduceToInt] at c1)
    first | exact hK1 (by omega) | exact hK2 (by omega)
  · skip
    refine rn_iload_n C d_C_isHalfOfFraction_4 rfl ?_
    refine rn_iconst C 1 d_C_isHalfOfFraction_5 (by decide) ?_
    refine rn_icmp_ne C 13 d_C_isHalfOfFraction_6 (by decide) (fun c6 => ?_) (fun c6 => ?_)
    · skip
      refine rn_iconst C 0 d_C_isHalfOfFraction_13 (by decide) ?_
      refine rn_ireturn C rfl rfl d_C_isHalfOfFraction_14 ⟨by decide, by decide⟩ ?_
      (try simp only [Int32.lt_iff_toInt_lt, Int32.le_iff_toInt_le, ← Int32.toInt_inj, Int32.reduceToInt] at c1 c6)
      first | exact hK1 (by omega) | exact hK2 (by omega)
    · skip
      refine rn_iconst C 1 d_C_isHalfOfFraction_9 (by decide) ?_
      refine rn_goto C 14 d_C_isHalfOfFraction_10 (by decide) ?_
      refine rn_ireturn C rfl rfl d_C_isHalfOfFraction_14 ⟨by decide, by decide⟩ ?_
      (try simp only [Int32.lt_iff_toInt_lt, Int32.le_iff_toInt_le, ← Int32.toInt_inj, Int32.reduceToInt] at c1 c6)
      first | exact hK1 (by omega) | exact hK2 (by omega)

def G_M_within (av : List Value) (h : ah_H) (K : ah_R → ah_H → Prop) : Prop := ∃ x a b : Int32, av = [.int x, .int a, .int b] ∧ ((a.toInt ≤ x.toInt ∧ x.toInt ≤ b.toInt) → K (.inl (some (.int 1))) h) ∧ (¬ (a.toInt ≤ x.toInt ∧ x.toInt ≤ b.toInt) → K (.inl (some (.int 0))) h)
set_option maxHeartbeats 4000000 in
set_option maxRecDepth 100000 in
theorem c_M_within (l : Launch) : rn_Met l y_M_within wc_M_within { frames := 1, cells := 0, slots := 0, locals := 0 } G_M_within := by
  refine rn_in mw_M_within.1 (by decide +kernel) ?_ ?_
  · intro _ av h K hG
    obtain ⟨x, a, b, rfl, hK1, hK2⟩ := hG
    exact Nat.le_of_ble_eq_true rfl
  intro p e s m args below meth c z sa D dA av h K hadm C hG
  obtain ⟨x, a, b, rfl, hK1, hK2⟩ := hG
  refine rn_iload_n C d_M_within_0 rfl ?_
  refine rn_iload_n C d_M_within_1 rfl ?_
  refine rn_icmp_lt C 14 d_M_within_2 (by decide) (fun c2 => ?_) (fun c2 => ?_)
  · skip
    refine rn_iconst C 0 d_M_within_14 (by decide) ?_
    refine rn_ireturn C rfl rfl d_M_within_15 ⟨by decide, by decide⟩ ?_
    (try simp only [Int32.lt_iff_toInt_lt, Int32.le_iff_toInt_le, ← Int32.toInt_inj, Int32.reduceToInt] at c2)
    first | exact hK1 (by omega) | exact hK2 (by omega)
  · skip
    refine rn_iload_n C d_M_within_5 rfl ?_
    refine rn_iload_n C d_M_within_6 rfl ?_
    refine rn_icmp_gt C 14 d_M_within_7 (by decide) (fun c7 => ?_) (fun c7 => ?_)
    · skip
      refine rn_iconst C 0 d_M_within_14 (by decide) ?_
      refine rn_ireturn C rfl rfl d_M_within_15 ⟨by decide, by decide⟩ ?_
      (try simp only [Int32.lt_iff_toInt_lt, Int32.le_iff_toInt_le, ← Int32.toInt_inj, Int32.reduceToInt] at c2 c7)
      first | exact hK1 (by omega) | exact hK2 (by omega)
    · skip
      refine rn_iconst C 1 d_M_within_10 (by decide) ?_
      refine rn_goto C 15 d_M_within_11 (by decide) ?_
      refine rn_ireturn C rfl rfl d_M_within_15 ⟨by decide, by decide⟩ ?_
      (try simp only [Int32.lt_iff_toInt_lt, Int32.le_iff_toInt_le, ← Int32.toInt_inj, Int32.reduceToInt] at c2 c7)
      first | exact hK1 (by omega) | exact hK2 (by omega)

def G_I_hasCell (av : List Value) (h : ah_H) (K : ah_R → ah_H → Prop) : Prop := ∃ (q : Nat) (w g x y : Int32) (r1 r2 : Value), av = [.ref q, .int x, .int y] ∧ h[q]? = some (.inr (1, [.int w, .int g, r1, r2])) ∧ ((0 ≤ x.toInt ∧ x.toInt < w.toInt ∧ 0 ≤ y.toInt ∧ y.toInt < g.toInt) → K (.inl (some (.int 1))) h) ∧ (¬ (0 ≤ x.toInt ∧ x.toInt < w.toInt ∧ 0 ≤ y.toInt ∧ y.toInt < g.toInt) → K (.inl (some (.int 0))) h)
set_option maxHeartbeats 4000000 in
set_option maxRecDepth 100000 in
theorem c_I_hasCell (l : Launch) : rn_Met l y_I_hasCell wc_I_hasCell { frames := 1, cells := 0, slots := 0, locals := 0 } G_I_hasCell := by
  refine rn_in mw_I_hasCell.1 (by decide +kernel) ?_ ?_
  · intro _ av h K hG
    obtain ⟨q, w, g, x, y, r1, r2, rfl, h1, hK1, hK2⟩ := hG
    exact Nat.le_of_ble_eq_true rfl
  intro p e s m args below meth c z sa D dA av h K hadm C hG
  obtain ⟨q, w, g, x, y, r1, r2, rfl, h1, hK1, hK2⟩ := hG
  refine rn_iload_n C d_I_hasCell_0 rfl ?_
  refine rn_if_lt C 28 d_I_hasCell_1 (by decide) (fun c1 => ?_) (fun c1 => ?_)
  · skip
    refine rn_iconst C 0 d_I_hasCell_28 (by decide) ?_
    refine rn_ireturn C rfl rfl d_I_hasCell_29 ⟨by decide, by decide⟩ ?_
    (try simp only [Int32.lt_iff_toInt_lt, Int32.le_iff_toInt_le, ← Int32.toInt_inj, Int32.reduceToInt] at c1)
    first | exact hK1 (by omega) | exact hK2 (by omega)
  · skip
    refine rn_iload_n C d_I_hasCell_4 rfl ?_
    refine rn_aload_n C d_I_hasCell_5 rfl ?_
    refine rn_get C f_I_20 d_I_hasCell_6 (by assumption) (by rfl) ?_
    refine rn_icmp_ge C 28 d_I_hasCell_9 (by decide) (fun c9 => ?_) (fun c9 => ?_)
    · skip
      refine rn_iconst C 0 d_I_hasCell_28 (by decide) ?_
      refine rn_ireturn C rfl rfl d_I_hasCell_29 ⟨by decide, by decide⟩ ?_
      (try simp only [Int32.lt_iff_toInt_lt, Int32.le_iff_toInt_le, ← Int32.toInt_inj, Int32.reduceToInt] at c1 c9)
      first | exact hK1 (by omega) | exact hK2 (by omega)
    · skip
      refine rn_iload_n C d_I_hasCell_12 rfl ?_
      refine rn_if_lt C 28 d_I_hasCell_13 (by decide) (fun c13 => ?_) (fun c13 => ?_)
      · skip
        refine rn_iconst C 0 d_I_hasCell_28 (by decide) ?_
        refine rn_ireturn C rfl rfl d_I_hasCell_29 ⟨by decide, by decide⟩ ?_
        (try simp only [Int32.lt_iff_toInt_lt, Int32.le_iff_toInt_le, ← Int32.toInt_inj, Int32.reduceToInt] at c1 c9 c13)
        first | exact hK1 (by omega) | exact hK2 (by omega)
      · skip
        refine rn_iload_n C d_I_hasCell_16 rfl ?_
        refine rn_aload_n C d_I_hasCell_17 rfl ?_
        refine rn_get C f_I_24 d_I_hasCell_18 (by assumption) (by rfl) ?_
        refine rn_icmp_ge C 28 d_I_hasCell_21 (by decide) (fun c21 => ?_) (fun c21 => ?_)
        · skip
          refine rn_iconst C 0 d_I_hasCell_28 (by decide) ?_
          refine rn_ireturn C rfl rfl d_I_hasCell_29 ⟨by decide, by decide⟩ ?_
          (try simp only [Int32.lt_iff_toInt_lt, Int32.le_iff_toInt_le, ← Int32.toInt_inj, Int32.reduceToInt] at c1 c9 c13 c21)
          first | exact hK1 (by omega) | exact hK2 (by omega)
        · skip
          refine rn_iconst C 1 d_I_hasCell_24 (by decide) ?_
          refine rn_goto C 29 d_I_hasCell_25 (by decide) ?_
          refine rn_ireturn C rfl rfl d_I_hasCell_29 ⟨by decide, by decide⟩ ?_
          (try simp only [Int32.lt_iff_toInt_lt, Int32.le_iff_toInt_le, ← Int32.toInt_inj, Int32.reduceToInt] at c1 c9 c13 c21)
          first | exact hK1 (by omega) | exact hK2 (by omega)

def jLit (l v : Int32) : Int32 := if l = 0 then 0 else jMin 255 ((2 * (v * 200) + l) / (2 * l))
def G_I_litPart (av : List Value) (h : ah_H) (K : ah_R → ah_H → Prop) : Prop := ∃ (q qp ql np nl : Nat) (w g x y part : Int32) (pf lf : Nat → Int32), av = [.ref q, .int x, .int y, .int part] ∧ h[q]? = some (.inr (1, [.int w, .int g, .ref qp, .ref ql])) ∧ h[qp]? = some (.inl (0, np, .inl pf)) ∧ h[ql]? = some (.inl (0, nl, .inl lf)) ∧ vp_in (y * w + x) nl ∧ vp_in ((y * w + x) * 3 + part) np ∧ (¬ lf (y * w + x).toNatClampNeg = 0 → ¬ 2 * lf (y * w + x).toNatClampNeg = 0) ∧ K (.inl (some (.int (jLit (lf (y * w + x).toNatClampNeg) (pf ((y * w + x) * 3 + part).toNatClampNeg))))) h
set_option maxHeartbeats 4000000 in
set_option maxRecDepth 100000 in
theorem c_I_litPart (l : Launch) : rn_Met l y_I_litPart wc_I_litPart { frames := 2, cells := 0, slots := 0, locals := 21 } G_I_litPart := by
  refine rn_in mw_I_litPart.1 (by decide +kernel) ?_ ?_
  · intro _ av h K hG
    obtain ⟨q, qp, ql, np, nl, w, g, x, y, part, pf, lf, rfl, h1, h2, h3, h4, h5, h6, hK⟩ := hG
    exact Nat.le_of_ble_eq_true rfl
  intro p e s m args below meth c z sa D dA av h K hadm C hG
  obtain ⟨q, qp, ql, np, nl, w, g, x, y, part, pf, lf, rfl, h1, h2, h3, h4, h5, h6, hK⟩ := hG
  refine rn_iload_n C d_I_litPart_0 rfl ?_
  refine rn_aload_n C d_I_litPart_1 rfl ?_
  refine rn_get C f_I_20 d_I_litPart_2 (by assumption) (by rfl) ?_
  refine rn_imul C d_I_litPart_5 ?_
  refine rn_iload_n C d_I_litPart_6 rfl ?_
  refine rn_iadd C d_I_litPart_7 ?_
  refine rn_istore C d_I_litPart_8 (by decide) ?_
  refine rn_aload_n C d_I_litPart_10 rfl ?_
  refine rn_get C f_I_31 d_I_litPart_11 (by assumption) (by rfl) ?_
  refine rn_iload C d_I_litPart_14 rfl ?_
  refine rn_iaload C d_I_litPart_16 (by assumption) (by assumption) ?_
  refine rn_istore C d_I_litPart_17 (by decide) ?_
  refine rn_iload C d_I_litPart_19 rfl ?_
  refine rn_if_ne C 26 d_I_litPart_21 (by decide) (fun c21 => ?_) (fun c21 => ?_)
  · skip
    refine rn_aload_n C d_I_litPart_26 rfl ?_
    refine rn_get C f_I_27 d_I_litPart_27 (by assumption) (by rfl) ?_
    refine rn_iload C d_I_litPart_30 rfl ?_
    refine rn_iconst C 3 d_I_litPart_32 (by decide) ?_
    refine rn_imul C d_I_litPart_33 ?_
    refine rn_iload_n C d_I_litPart_34 rfl ?_
    refine rn_iadd C d_I_litPart_35 ?_
    refine rn_iaload C d_I_litPart_36 (by assumption) (by assumption) ?_
    refine rn_sipush C 200 d_I_litPart_37 (by decide) ?_
    refine rn_imul C d_I_litPart_40 ?_
    refine rn_istore C d_I_litPart_41 (by decide) ?_
    refine rn_sipush C 255 d_I_litPart_43 (by decide) ?_
    refine rn_iconst C 2 d_I_litPart_46 (by decide) ?_
    refine rn_iload C d_I_litPart_47 rfl ?_
    refine rn_imul C d_I_litPart_49 ?_
    refine rn_iload C d_I_litPart_50 rfl ?_
    refine rn_iadd C d_I_litPart_52 ?_
    refine rn_iconst C 2 d_I_litPart_53 (by decide) ?_
    refine rn_iload C d_I_litPart_54 rfl ?_
    refine rn_imul C d_I_litPart_56 ?_
    refine rn_idiv C d_I_litPart_57 (h6 c21) ?_
    refine rn_cS C (c_J_mini l) mw_J_mini k_I_11 d_I_litPart_58 (Nat.le_of_ble_eq_true rfl) (Nat.le_of_ble_eq_true rfl) ⟨by decide, by decide⟩ ⟨by decide, by decide⟩ ?_
    refine ⟨_, _, rfl, ?_⟩
    refine rn_ireturn C rfl rfl d_I_litPart_61 ⟨by decide, by decide⟩ ?_
    rw [jLit, if_neg c21] at hK; exact hK
  · skip
    refine rn_iconst C 0 d_I_litPart_24 (by decide) ?_
    refine rn_ireturn C rfl rfl d_I_litPart_25 ⟨by decide, by decide⟩ ?_
    rw [jLit, if_pos c21] at hK; exact hK

