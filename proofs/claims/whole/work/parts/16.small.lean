/-! Contracts of small methods: layout, targets, sums, rules, frame, picture, patch. Laid by wip/whole/gen_c2.py. -/
def G_Y_patches (av : List Value) (h : ah_H) (K : ah_R → ah_H → Prop) : Prop := ∃ (q : Nat) (c r t : Int32), av = [.ref q] ∧ h[q]? = some (.inr (3, [.int c, .int r, .int t])) ∧ K (.inl (some (.int (c * r)))) h
set_option maxHeartbeats 4000000 in
set_option maxRecDepth 100000 in
theorem c_Y_patches (l : Launch) : rn_Met l y_Y_patches wc_Y_patches { frames := 1, cells := 0, slots := 0, locals := 0 } G_Y_patches := by
  refine rn_in mw_Y_patches.1 (by decide +kernel) ?_ ?_
  · intro _ av h K hG
    obtain ⟨q, c, r, t, rfl, h1, hK⟩ := hG
    exact Nat.le_of_ble_eq_true rfl
  intro p e s m args below meth c z sa D dA av h K hadm C hG
  obtain ⟨q, c, r, t, rfl, h1, hK⟩ := hG
  refine rn_aload_n C d_Y_patches_0 rfl ?_
  refine rn_get C f_Y_7 d_Y_patches_1 (by assumption) (by rfl) ?_
  refine rn_aload_n C d_Y_patches_4 rfl ?_
  refine rn_get C f_Y_13 d_Y_patches_5 (by assumption) (by rfl) ?_
  refine rn_imul C d_Y_patches_8 ?_
  refine rn_ireturn C rfl rfl d_Y_patches_9 ⟨by decide, by decide⟩ ?_
  exact hK

def G_Y_hasPatch (av : List Value) (h : ah_H) (K : ah_R → ah_H → Prop) : Prop := ∃ (q : Nat) (c r t p : Int32), av = [.ref q, .int p] ∧ h[q]? = some (.inr (3, [.int c, .int r, .int t])) ∧ ((0 ≤ p.toInt ∧ p.toInt < (c * r).toInt) → K (.inl (some (.int 1))) h) ∧ (¬ (0 ≤ p.toInt ∧ p.toInt < (c * r).toInt) → K (.inl (some (.int 0))) h)
set_option maxHeartbeats 4000000 in
set_option maxRecDepth 100000 in
theorem c_Y_hasPatch (l : Launch) : rn_Met l y_Y_hasPatch wc_Y_hasPatch { frames := 2, cells := 0, slots := 0, locals := 20 } G_Y_hasPatch := by
  refine rn_in mw_Y_hasPatch.1 (by decide +kernel) ?_ ?_
  · intro _ av h K hG
    obtain ⟨q, c, r, t, x, rfl, h1, hK1, hK2⟩ := hG
    exact Nat.le_of_ble_eq_true rfl
  intro p e s m args below meth c z sa D dA av h K hadm C hG
  obtain ⟨q, c, r, t, x, rfl, h1, hK1, hK2⟩ := hG
  refine rn_iload_n C d_Y_hasPatch_0 rfl ?_
  refine rn_if_lt C 16 d_Y_hasPatch_1 (by decide) (fun c1 => ?_) (fun c1 => ?_)
  · skip
    refine rn_iconst C 0 d_Y_hasPatch_16 (by decide) ?_
    refine rn_ireturn C rfl rfl d_Y_hasPatch_17 ⟨by decide, by decide⟩ ?_
    (try simp only [Int32.lt_iff_toInt_lt, Int32.le_iff_toInt_le, ← Int32.toInt_inj, Int32.reduceToInt] at c1)
    first | exact hK1 (by omega) | exact hK2 (by omega)
  · skip
    refine rn_iload_n C d_Y_hasPatch_4 rfl ?_
    refine rn_aload_n C d_Y_hasPatch_5 rfl ?_
    refine rn_cV C (c_Y_patches l) mw_Y_patches k_Y_19 d_Y_hasPatch_6 rfl (by assumption) rfl (Nat.le_of_ble_eq_true rfl) (Nat.le_of_ble_eq_true rfl) ⟨by decide, by decide⟩ ⟨by decide, by decide⟩ ?_
    refine ⟨_, _, _, _, rfl, h1, ?_⟩
    refine rn_icmp_ge C 16 d_Y_hasPatch_9 (by decide) (fun c9 => ?_) (fun c9 => ?_)
    · skip
      refine rn_iconst C 0 d_Y_hasPatch_16 (by decide) ?_
      refine rn_ireturn C rfl rfl d_Y_hasPatch_17 ⟨by decide, by decide⟩ ?_
      (try simp only [Int32.lt_iff_toInt_lt, Int32.le_iff_toInt_le, ← Int32.toInt_inj, Int32.reduceToInt] at c1 c9)
      first | exact hK1 (by omega) | exact hK2 (by omega)
    · skip
      refine rn_iconst C 1 d_Y_hasPatch_12 (by decide) ?_
      refine rn_goto C 17 d_Y_hasPatch_13 (by decide) ?_
      refine rn_ireturn C rfl rfl d_Y_hasPatch_17 ⟨by decide, by decide⟩ ?_
      (try simp only [Int32.lt_iff_toInt_lt, Int32.le_iff_toInt_le, ← Int32.toInt_inj, Int32.reduceToInt] at c1 c9)
      first | exact hK1 (by omega) | exact hK2 (by omega)

def G_Y_columnOf (av : List Value) (h : ah_H) (K : ah_R → ah_H → Prop) : Prop := ∃ (q : Nat) (c r t p : Int32), av = [.ref q, .int p] ∧ h[q]? = some (.inr (3, [.int c, .int r, .int t])) ∧ ¬ c ≤ 0 ∧ ¬ r ≤ 0 ∧ (t.toInt = 1 → K (.inl (some (.int (c - 1 - p / r)))) h) ∧ (t.toInt = 2 → K (.inl (some (.int (c - 1 - (p - p / c * c))))) h) ∧ (t.toInt = 3 → K (.inl (some (.int (p / r)))) h) ∧ ((t.toInt < 1 ∨ 3 < t.toInt) → K (.inl (some (.int (p - p / c * c)))) h)
set_option maxHeartbeats 4000000 in
set_option maxRecDepth 100000 in
theorem c_Y_columnOf (l : Launch) : rn_Met l y_Y_columnOf wc_Y_columnOf { frames := 1, cells := 0, slots := 0, locals := 0 } G_Y_columnOf := by
  refine rn_in mw_Y_columnOf.1 (by decide +kernel) ?_ ?_
  · intro _ av h K hG
    obtain ⟨q, c, r, t, x, rfl, h1, hc, hr, k1, k2, k3, k4⟩ := hG
    exact Nat.le_of_ble_eq_true rfl
  intro p e s m args below meth c z sa D dA av h K hadm C hG
  obtain ⟨q, c, r, t, x, rfl, h1, hc, hr, k1, k2, k3, k4⟩ := hG
  refine rn_aload_n C d_Y_columnOf_0 rfl ?_
  refine rn_get C f_Y_7 d_Y_columnOf_1 (by assumption) (by rfl) ?_
  refine rn_if_le C 14 d_Y_columnOf_4 (by decide) (fun q_4 => absurd q_4 (hc)) (fun _ => ?_)
  refine rn_aload_n C d_Y_columnOf_7 rfl ?_
  refine rn_get C f_Y_13 d_Y_columnOf_8 (by assumption) (by rfl) ?_
  refine rn_if_gt C 16 d_Y_columnOf_11 (by decide) (fun _ => ?_) (fun q_11 => absurd (Int32.not_le.mp hr) q_11)
  refine rn_aload_n C d_Y_columnOf_16 rfl ?_
  refine rn_get C f_Y_16 d_Y_columnOf_17 (by assumption) (by rfl) ?_
  by_cases t20 : (t).toInt < 1 ∨ 3 < (t).toInt
  · refine rn_tableOut C 83 d_Y_columnOf_20 t20 (by decide) ?_
    refine rn_iload_n C d_Y_columnOf_83 rfl ?_
    refine rn_aload_n C d_Y_columnOf_84 rfl ?_
    refine rn_get C f_Y_7 d_Y_columnOf_85 (by assumption) (by rfl) ?_
    refine rn_irem C d_Y_columnOf_88 (by first | exact fun e => hr (by rw [e]; decide) | exact fun e => hc (by rw [e]; decide)) ?_
    refine rn_ireturn C rfl rfl d_Y_columnOf_89 ⟨by decide, by decide⟩ ?_
    first | exact k1 t20 | exact k2 t20 | exact k3 t20 | exact k4 t20
  · rcases (by omega : (t).toInt = 1 ∨ (t).toInt = 2 ∨ (t).toInt = 3) with s20 | s20 | s20
    · refine rn_tableIn C 48 d_Y_columnOf_20 (by omega) (by omega) (by rw [s20]; rfl) (by decide) ?_
      refine rn_aload_n C d_Y_columnOf_48 rfl ?_
      refine rn_get C f_Y_7 d_Y_columnOf_49 (by assumption) (by rfl) ?_
      refine rn_iconst C 1 d_Y_columnOf_52 (by decide) ?_
      refine rn_isub C d_Y_columnOf_53 ?_
      refine rn_iload_n C d_Y_columnOf_54 rfl ?_
      refine rn_aload_n C d_Y_columnOf_55 rfl ?_
      refine rn_get C f_Y_13 d_Y_columnOf_56 (by assumption) (by rfl) ?_
      refine rn_idiv C d_Y_columnOf_59 (by first | exact fun e => hr (by rw [e]; decide) | exact fun e => hc (by rw [e]; decide)) ?_
      refine rn_isub C d_Y_columnOf_60 ?_
      refine rn_ireturn C rfl rfl d_Y_columnOf_61 ⟨by decide, by decide⟩ ?_
      first | exact k1 s20 | exact k2 s20 | exact k3 s20 | exact k4 s20
    · refine rn_tableIn C 62 d_Y_columnOf_20 (by omega) (by omega) (by rw [s20]; rfl) (by decide) ?_
      refine rn_aload_n C d_Y_columnOf_62 rfl ?_
      refine rn_get C f_Y_7 d_Y_columnOf_63 (by assumption) (by rfl) ?_
      refine rn_iconst C 1 d_Y_columnOf_66 (by decide) ?_
      refine rn_isub C d_Y_columnOf_67 ?_
      refine rn_iload_n C d_Y_columnOf_68 rfl ?_
      refine rn_aload_n C d_Y_columnOf_69 rfl ?_
      refine rn_get C f_Y_7 d_Y_columnOf_70 (by assumption) (by rfl) ?_
      refine rn_irem C d_Y_columnOf_73 (by first | exact fun e => hr (by rw [e]; decide) | exact fun e => hc (by rw [e]; decide)) ?_
      refine rn_isub C d_Y_columnOf_74 ?_
      refine rn_ireturn C rfl rfl d_Y_columnOf_75 ⟨by decide, by decide⟩ ?_
      first | exact k1 s20 | exact k2 s20 | exact k3 s20 | exact k4 s20
    · refine rn_tableIn C 76 d_Y_columnOf_20 (by omega) (by omega) (by rw [s20]; rfl) (by decide) ?_
      refine rn_iload_n C d_Y_columnOf_76 rfl ?_
      refine rn_aload_n C d_Y_columnOf_77 rfl ?_
      refine rn_get C f_Y_13 d_Y_columnOf_78 (by assumption) (by rfl) ?_
      refine rn_idiv C d_Y_columnOf_81 (by first | exact fun e => hr (by rw [e]; decide) | exact fun e => hc (by rw [e]; decide)) ?_
      refine rn_ireturn C rfl rfl d_Y_columnOf_82 ⟨by decide, by decide⟩ ?_
      first | exact k1 s20 | exact k2 s20 | exact k3 s20 | exact k4 s20

def G_Y_rowOf (av : List Value) (h : ah_H) (K : ah_R → ah_H → Prop) : Prop := ∃ (q : Nat) (c r t p : Int32), av = [.ref q, .int p] ∧ h[q]? = some (.inr (3, [.int c, .int r, .int t])) ∧ ¬ c ≤ 0 ∧ ¬ r ≤ 0 ∧ (t.toInt = 1 → K (.inl (some (.int (p - p / r * r)))) h) ∧ (t.toInt = 2 → K (.inl (some (.int (r - 1 - p / c)))) h) ∧ (t.toInt = 3 → K (.inl (some (.int (r - 1 - (p - p / r * r))))) h) ∧ ((t.toInt < 1 ∨ 3 < t.toInt) → K (.inl (some (.int (p / c)))) h)
set_option maxHeartbeats 4000000 in
set_option maxRecDepth 100000 in
theorem c_Y_rowOf (l : Launch) : rn_Met l y_Y_rowOf wc_Y_rowOf { frames := 1, cells := 0, slots := 0, locals := 0 } G_Y_rowOf := by
  refine rn_in mw_Y_rowOf.1 (by decide +kernel) ?_ ?_
  · intro _ av h K hG
    obtain ⟨q, c, r, t, x, rfl, h1, hc, hr, k1, k2, k3, k4⟩ := hG
    exact Nat.le_of_ble_eq_true rfl
  intro p e s m args below meth c z sa D dA av h K hadm C hG
  obtain ⟨q, c, r, t, x, rfl, h1, hc, hr, k1, k2, k3, k4⟩ := hG
  refine rn_aload_n C d_Y_rowOf_0 rfl ?_
  refine rn_get C f_Y_7 d_Y_rowOf_1 (by assumption) (by rfl) ?_
  refine rn_if_le C 14 d_Y_rowOf_4 (by decide) (fun q_4 => absurd q_4 (hc)) (fun _ => ?_)
  refine rn_aload_n C d_Y_rowOf_7 rfl ?_
  refine rn_get C f_Y_13 d_Y_rowOf_8 (by assumption) (by rfl) ?_
  refine rn_if_gt C 16 d_Y_rowOf_11 (by decide) (fun _ => ?_) (fun q_11 => absurd (Int32.not_le.mp hr) q_11)
  refine rn_aload_n C d_Y_rowOf_16 rfl ?_
  refine rn_get C f_Y_16 d_Y_rowOf_17 (by assumption) (by rfl) ?_
  by_cases t20 : (t).toInt < 1 ∨ 3 < (t).toInt
  · refine rn_tableOut C 83 d_Y_rowOf_20 t20 (by decide) ?_
    refine rn_iload_n C d_Y_rowOf_83 rfl ?_
    refine rn_aload_n C d_Y_rowOf_84 rfl ?_
    refine rn_get C f_Y_7 d_Y_rowOf_85 (by assumption) (by rfl) ?_
    refine rn_idiv C d_Y_rowOf_88 (by first | exact fun e => hr (by rw [e]; decide) | exact fun e => hc (by rw [e]; decide)) ?_
    refine rn_ireturn C rfl rfl d_Y_rowOf_89 ⟨by decide, by decide⟩ ?_
    first | exact k1 t20 | exact k2 t20 | exact k3 t20 | exact k4 t20
  · rcases (by omega : (t).toInt = 1 ∨ (t).toInt = 2 ∨ (t).toInt = 3) with s20 | s20 | s20
    · refine rn_tableIn C 48 d_Y_rowOf_20 (by omega) (by omega) (by rw [s20]; rfl) (by decide) ?_
      refine rn_iload_n C d_Y_rowOf_48 rfl ?_
      refine rn_aload_n C d_Y_rowOf_49 rfl ?_
      refine rn_get C f_Y_13 d_Y_rowOf_50 (by assumption) (by rfl) ?_
      refine rn_irem C d_Y_rowOf_53 (by first | exact fun e => hr (by rw [e]; decide) | exact fun e => hc (by rw [e]; decide)) ?_
      refine rn_ireturn C rfl rfl d_Y_rowOf_54 ⟨by decide, by decide⟩ ?_
      first | exact k1 s20 | exact k2 s20 | exact k3 s20 | exact k4 s20
    · refine rn_tableIn C 55 d_Y_rowOf_20 (by omega) (by omega) (by rw [s20]; rfl) (by decide) ?_
      refine rn_aload_n C d_Y_rowOf_55 rfl ?_
      refine rn_get C f_Y_13 d_Y_rowOf_56 (by assumption) (by rfl) ?_
      refine rn_iconst C 1 d_Y_rowOf_59 (by decide) ?_
      refine rn_isub C d_Y_rowOf_60 ?_
      refine rn_iload_n C d_Y_rowOf_61 rfl ?_
      refine rn_aload_n C d_Y_rowOf_62 rfl ?_
      refine rn_get C f_Y_7 d_Y_rowOf_63 (by assumption) (by rfl) ?_
      refine rn_idiv C d_Y_rowOf_66 (by first | exact fun e => hr (by rw [e]; decide) | exact fun e => hc (by rw [e]; decide)) ?_
      refine rn_isub C d_Y_rowOf_67 ?_
      refine rn_ireturn C rfl rfl d_Y_rowOf_68 ⟨by decide, by decide⟩ ?_
      first | exact k1 s20 | exact k2 s20 | exact k3 s20 | exact k4 s20
    · refine rn_tableIn C 69 d_Y_rowOf_20 (by omega) (by omega) (by rw [s20]; rfl) (by decide) ?_
      refine rn_aload_n C d_Y_rowOf_69 rfl ?_
      refine rn_get C f_Y_13 d_Y_rowOf_70 (by assumption) (by rfl) ?_
      refine rn_iconst C 1 d_Y_rowOf_73 (by decide) ?_
      refine rn_isub C d_Y_rowOf_74 ?_
      refine rn_iload_n C d_Y_rowOf_75 rfl ?_
      refine rn_aload_n C d_Y_rowOf_76 rfl ?_
      refine rn_get C f_Y_13 d_Y_rowOf_77 (by assumption) (by rfl) ?_
      refine rn_irem C d_Y_rowOf_80 (by first | exact fun e => hr (by rw [e]; decide) | exact fun e => hc (by rw [e]; decide)) ?_
      refine rn_isub C d_Y_rowOf_81 ?_
      refine rn_ireturn C rfl rfl d_Y_rowOf_82 ⟨by decide, by decide⟩ ?_
      first | exact k1 s20 | exact k2 s20 | exact k3 s20 | exact k4 s20

def G_T_partOf (av : List Value) (h : ah_H) (K : ah_R → ah_H → Prop) : Prop := ∃ (q q8 q9 np : Nat) (nt x y : Int32) (tp : Nat → Int32), av = [.ref q, .int x, .int y] ∧ h[q]? = some (.inr (5, [.ref q8, .ref q9, .int nt])) ∧ h[q9]? = some (.inl (0, np, .inl tp)) ∧ vp_in (x * 3 + y) np ∧ K (.inl (some (.int (tp (x * 3 + y).toNatClampNeg)))) h
set_option maxHeartbeats 4000000 in
set_option maxRecDepth 100000 in
theorem c_T_partOf (l : Launch) : rn_Met l y_T_partOf wc_T_partOf { frames := 1, cells := 0, slots := 0, locals := 0 } G_T_partOf := by
  refine rn_in mw_T_partOf.1 (by decide +kernel) ?_ ?_
  · intro _ av h K hG
    obtain ⟨q, q8, q9, np, nt, x, y, tp, rfl, h1, h2, h3, hK⟩ := hG
    exact Nat.le_of_ble_eq_true rfl
  intro p e s m args below meth c z sa D dA av h K hadm C hG
  obtain ⟨q, q8, q9, np, nt, x, y, tp, rfl, h1, h2, h3, hK⟩ := hG
  refine rn_aload_n C d_T_partOf_0 rfl ?_
  refine rn_get C f_T_15 d_T_partOf_1 (by assumption) (by rfl) ?_
  refine rn_iload_n C d_T_partOf_4 rfl ?_
  refine rn_iconst C 3 d_T_partOf_5 (by decide) ?_
  refine rn_imul C d_T_partOf_6 ?_
  refine rn_iload_n C d_T_partOf_7 rfl ?_
  refine rn_iadd C d_T_partOf_8 ?_
  refine rn_iaload C d_T_partOf_9 (by assumption) (by assumption) ?_
  refine rn_ireturn C rfl rfl d_T_partOf_10 ⟨by decide, by decide⟩ ?_
  exact hK

def G_T_keep (av : List Value) (h : ah_H) (K : ah_R → ah_H → Prop) : Prop := ∃ (e0 e1 e2 e3 e4 e5 e6 : ah_E) (rest : ah_H) (nn np : Nat) (to tp : Nat → Int32) (nt x r g b : Int32), av = [.ref 7, .int x, .int r, .int g, .int b] ∧ h = e0 :: e1 :: e2 :: e3 :: e4 :: e5 :: e6 :: .inr (5, [.ref 8, .ref 9, .int nt]) :: .inl (2, nn, .inl to) :: .inl (0, np, .inl tp) :: rest ∧ vp_in x nn ∧ vp_in (x * 3) np ∧ vp_in (x * 3 + 1) np ∧ vp_in (x * 3 + 2) np ∧ K (.inl none) (e0 :: e1 :: e2 :: e3 :: e4 :: e5 :: e6 :: .inr (5, [.ref 8, .ref 9, .int nt]) :: .inl (2, nn, .inl (upd to x.toNatClampNeg (vp_nar .boolean 1))) :: .inl (0, np, .inl (upd (upd (upd tp (x * 3).toNatClampNeg r) (x * 3 + 1).toNatClampNeg g) (x * 3 + 2).toNatClampNeg b)) :: rest)
set_option maxHeartbeats 4000000 in
set_option maxRecDepth 100000 in
theorem c_T_keep (l : Launch) : rn_Met l y_T_keep wc_T_keep { frames := 1, cells := 0, slots := 0, locals := 0 } G_T_keep := by
  refine rn_in mw_T_keep.1 (by decide +kernel) ?_ ?_
  · intro _ av h K hG
    obtain ⟨e0, e1, e2, e3, e4, e5, e6, rest, nn, np, to, tp, nt, x, r, g, b, rfl, rfl, h1, h2, h3, h4, hK⟩ := hG
    exact Nat.le_of_ble_eq_true rfl
  intro p e s m args below meth c z sa D dA av h K hadm C hG
  obtain ⟨e0, e1, e2, e3, e4, e5, e6, rest, nn, np, to, tp, nt, x, r, g, b, rfl, rfl, h1, h2, h3, h4, hK⟩ := hG
  refine rn_aload_n C d_T_keep_0 rfl ?_
  refine rn_get C f_T_9 d_T_keep_1 rfl rfl ?_
  refine rn_iload_n C d_T_keep_4 rfl ?_
  refine rn_iconst C 1 d_T_keep_5 (by decide) ?_
  refine rn_zastore C d_T_keep_6 rfl (by assumption) ?_
  refine rn_aload_n C d_T_keep_7 rfl ?_
  refine rn_get C f_T_15 d_T_keep_8 rfl rfl ?_
  refine rn_iload_n C d_T_keep_11 rfl ?_
  refine rn_iconst C 3 d_T_keep_12 (by decide) ?_
  refine rn_imul C d_T_keep_13 ?_
  refine rn_iload_n C d_T_keep_14 rfl ?_
  refine rn_iastore C d_T_keep_15 rfl (by assumption) ?_
  refine rn_aload_n C d_T_keep_16 rfl ?_
  refine rn_get C f_T_15 d_T_keep_17 rfl rfl ?_
  refine rn_iload_n C d_T_keep_20 rfl ?_
  refine rn_iconst C 3 d_T_keep_21 (by decide) ?_
  refine rn_imul C d_T_keep_22 ?_
  refine rn_iconst C 1 d_T_keep_23 (by decide) ?_
  refine rn_iadd C d_T_keep_24 ?_
  refine rn_iload_n C d_T_keep_25 rfl ?_
  refine rn_iastore C d_T_keep_26 rfl (by assumption) ?_
  refine rn_aload_n C d_T_keep_27 rfl ?_
  refine rn_get C f_T_15 d_T_keep_28 rfl rfl ?_
  refine rn_iload_n C d_T_keep_31 rfl ?_
  refine rn_iconst C 3 d_T_keep_32 (by decide) ?_
  refine rn_imul C d_T_keep_33 ?_
  refine rn_iconst C 2 d_T_keep_34 (by decide) ?_
  refine rn_iadd C d_T_keep_35 ?_
  refine rn_iload C d_T_keep_36 rfl ?_
  refine rn_iastore C d_T_keep_38 rfl (by assumption) ?_
  refine rn_return C rfl d_T_keep_39 ⟨by decide, by decide⟩ ?_
  exact hK

def G_T_drop (av : List Value) (h : ah_H) (K : ah_R → ah_H → Prop) : Prop := ∃ (e0 e1 e2 e3 e4 e5 e6 : ah_E) (rest : ah_H) (nn np : Nat) (to tp : Nat → Int32) (nt x : Int32), av = [.ref 7, .int x] ∧ h = e0 :: e1 :: e2 :: e3 :: e4 :: e5 :: e6 :: .inr (5, [.ref 8, .ref 9, .int nt]) :: .inl (2, nn, .inl to) :: .inl (0, np, .inl tp) :: rest ∧ vp_in x nn ∧ (¬ nt = x → K (.inl none) (e0 :: e1 :: e2 :: e3 :: e4 :: e5 :: e6 :: .inr (5, [.ref 8, .ref 9, .int nt]) :: .inl (2, nn, .inl (upd to x.toNatClampNeg (vp_nar .boolean 0))) :: .inl (0, np, .inl tp) :: rest)) ∧ (nt = x → K (.inl none) (e0 :: e1 :: e2 :: e3 :: e4 :: e5 :: e6 :: .inr (5, [.ref 8, .ref 9, .int (-1)]) :: .inl (2, nn, .inl (upd to x.toNatClampNeg (vp_nar .boolean 0))) :: .inl (0, np, .inl tp) :: rest))
set_option maxHeartbeats 4000000 in
set_option maxRecDepth 100000 in
theorem c_T_drop (l : Launch) : rn_Met l y_T_drop wc_T_drop { frames := 1, cells := 0, slots := 0, locals := 0 } G_T_drop := by
  refine rn_in mw_T_drop.1 (by decide +kernel) ?_ ?_
  · intro _ av h K hG
    obtain ⟨e0, e1, e2, e3, e4, e5, e6, rest, nn, np, to, tp, nt, x, rfl, rfl, h1, k1, k2⟩ := hG
    exact Nat.le_of_ble_eq_true rfl
  intro p e s m args below meth c z sa D dA av h K hadm C hG
  obtain ⟨e0, e1, e2, e3, e4, e5, e6, rest, nn, np, to, tp, nt, x, rfl, rfl, h1, k1, k2⟩ := hG
  refine rn_aload_n C d_T_drop_0 rfl ?_
  refine rn_get C f_T_9 d_T_drop_1 rfl rfl ?_
  refine rn_iload_n C d_T_drop_4 rfl ?_
  refine rn_iconst C 0 d_T_drop_5 (by decide) ?_
  refine rn_zastore C d_T_drop_6 rfl (by assumption) ?_
  refine rn_aload_n C d_T_drop_7 rfl ?_
  refine rn_get C f_T_19 d_T_drop_8 rfl rfl ?_
  refine rn_iload_n C d_T_drop_11 rfl ?_
  refine rn_icmp_ne C 20 d_T_drop_12 (by decide) (fun c12 => ?_) (fun c12 => ?_)
  · skip
    refine rn_return C rfl d_T_drop_20 ⟨by decide, by decide⟩ ?_
    first | exact k1 c12 | exact k2 c12
  · skip
    refine rn_aload_n C d_T_drop_15 rfl ?_
    refine rn_iconst C (-1) d_T_drop_16 (by decide) ?_
    refine rn_put C f_T_19 ft_T fn_T_2 d_T_drop_17 rfl (Nat.le_of_ble_eq_true rfl) (fun _ _ => ⟨rfl, rfl⟩) ?_
    refine rn_return C rfl d_T_drop_20 ⟨by decide, by decide⟩ ?_
    first | exact k1 c12 | exact k2 c12

def G_S_clear (av : List Value) (h : ah_H) (K : ah_R → ah_H → Prop) : Prop := ∃ (q : Nat) (n : Int32) (x y xx xy : Int64), av = [.ref q] ∧ h[q]? = some (.inr (7, [.int n, .long x, .long y, .long xx, .long xy])) ∧ K (.inl none) (h.set q (.inr (7, [.int 0, .long 0, .long 0, .long 0, .long 0])))
set_option maxHeartbeats 4000000 in
set_option maxRecDepth 100000 in
theorem c_S_clear (l : Launch) : rn_Met l y_S_clear wc_S_clear { frames := 1, cells := 0, slots := 0, locals := 0 } G_S_clear := by
  refine rn_in mw_S_clear.1 (by decide +kernel) ?_ ?_
  · intro _ av h K hG
    obtain ⟨q, n, x, y, xx, xy, rfl, h1, hK⟩ := hG
    exact Nat.le_of_ble_eq_true rfl
  intro p e s m args below meth c z sa D dA av h K hadm C hG
  obtain ⟨q, n, x, y, xx, xy, rfl, h1, hK⟩ := hG
  refine rn_self h1 ?_
  refine rn_aload_n C d_S_clear_0 rfl ?_
  refine rn_iconst C 0 d_S_clear_1 (by decide) ?_
  refine rn_putq C f_S_7 ft_S fn_S_0 d_S_clear_2 h1 (Nat.le_of_ble_eq_true rfl) (fun _ _ => ⟨rfl, rfl⟩) ?_
  refine rn_aload_n C d_S_clear_5 rfl ?_
  refine rn_lconst C 0 d_S_clear_6 (by decide) ?_
  refine rn_putq C f_S_13 ft_S fn_S_1 d_S_clear_7 h1 (Nat.le_of_ble_eq_true rfl) (fun _ _ => ⟨rfl, rfl⟩) ?_
  refine rn_aload_n C d_S_clear_10 rfl ?_
  refine rn_lconst C 0 d_S_clear_11 (by decide) ?_
  refine rn_putq C f_S_17 ft_S fn_S_2 d_S_clear_12 h1 (Nat.le_of_ble_eq_true rfl) (fun _ _ => ⟨rfl, rfl⟩) ?_
  refine rn_aload_n C d_S_clear_15 rfl ?_
  refine rn_lconst C 0 d_S_clear_16 (by decide) ?_
  refine rn_putq C f_S_20 ft_S fn_S_3 d_S_clear_17 h1 (Nat.le_of_ble_eq_true rfl) (fun _ _ => ⟨rfl, rfl⟩) ?_
  refine rn_aload_n C d_S_clear_20 rfl ?_
  refine rn_lconst C 0 d_S_clear_21 (by decide) ?_
  refine rn_putq C f_S_23 ft_S fn_S_4 d_S_clear_22 h1 (Nat.le_of_ble_eq_true rfl) (fun _ _ => ⟨rfl, rfl⟩) ?_
  refine rn_return C rfl d_S_clear_25 ⟨by decide, by decide⟩ ?_
  exact hK

def G_S_add (av : List Value) (h : ah_H) (K : ah_R → ah_H → Prop) : Prop := ∃ (q : Nat) (n : Int32) (x y xx xy a b : Int64), av = [.ref q, .long a, .long b] ∧ h[q]? = some (.inr (7, [.int n, .long x, .long y, .long xx, .long xy])) ∧ K (.inl none) (h.set q (.inr (7, [.int (n + 1), .long (x + a), .long (y + b), .long (xx + a * a), .long (xy + a * b)])))
set_option maxHeartbeats 4000000 in
set_option maxRecDepth 100000 in
theorem c_S_add (l : Launch) : rn_Met l y_S_add wc_S_add { frames := 1, cells := 0, slots := 0, locals := 0 } G_S_add := by
  refine rn_in mw_S_add.1 (by decide +kernel) ?_ ?_
  · intro _ av h K hG
    obtain ⟨q, n, x, y, xx, xy, a, b, rfl, h1, hK⟩ := hG
    exact Nat.le_of_ble_eq_true rfl
  intro p e s m args below meth c z sa D dA av h K hadm C hG
  obtain ⟨q, n, x, y, xx, xy, a, b, rfl, h1, hK⟩ := hG
  refine rn_self h1 ?_
  refine rn_aload_n C d_S_add_0 rfl ?_
  refine rn_dup C d_S_add_1 rfl ?_
  refine rn_getq C f_S_7 d_S_add_2 h1 rfl ?_
  refine rn_iconst C 1 d_S_add_5 (by decide) ?_
  refine rn_iadd C d_S_add_6 ?_
  refine rn_putq C f_S_7 ft_S fn_S_0 d_S_add_7 h1 (Nat.le_of_ble_eq_true rfl) (fun _ _ => ⟨rfl, rfl⟩) ?_
  refine rn_aload_n C d_S_add_10 rfl ?_
  refine rn_dup C d_S_add_11 rfl ?_
  refine rn_getq C f_S_13 d_S_add_12 h1 rfl ?_
  refine rn_lload_n C d_S_add_15 rfl ?_
  refine rn_ladd C d_S_add_16 ?_
  refine rn_putq C f_S_13 ft_S fn_S_1 d_S_add_17 h1 (Nat.le_of_ble_eq_true rfl) (fun _ _ => ⟨rfl, rfl⟩) ?_
  refine rn_aload_n C d_S_add_20 rfl ?_
  refine rn_dup C d_S_add_21 rfl ?_
  refine rn_getq C f_S_17 d_S_add_22 h1 rfl ?_
  refine rn_lload_n C d_S_add_25 rfl ?_
  refine rn_ladd C d_S_add_26 ?_
  refine rn_putq C f_S_17 ft_S fn_S_2 d_S_add_27 h1 (Nat.le_of_ble_eq_true rfl) (fun _ _ => ⟨rfl, rfl⟩) ?_
  refine rn_aload_n C d_S_add_30 rfl ?_
  refine rn_dup C d_S_add_31 rfl ?_
  refine rn_getq C f_S_20 d_S_add_32 h1 rfl ?_
  refine rn_lload_n C d_S_add_35 rfl ?_
  refine rn_lload_n C d_S_add_36 rfl ?_
  refine rn_lmul C d_S_add_37 ?_
  refine rn_ladd C d_S_add_38 ?_
  refine rn_putq C f_S_20 ft_S fn_S_3 d_S_add_39 h1 (Nat.le_of_ble_eq_true rfl) (fun _ _ => ⟨rfl, rfl⟩) ?_
  refine rn_aload_n C d_S_add_42 rfl ?_
  refine rn_dup C d_S_add_43 rfl ?_
  refine rn_getq C f_S_23 d_S_add_44 h1 rfl ?_
  refine rn_lload_n C d_S_add_47 rfl ?_
  refine rn_lload_n C d_S_add_48 rfl ?_
  refine rn_lmul C d_S_add_49 ?_
  refine rn_ladd C d_S_add_50 ?_
  refine rn_putq C f_S_23 ft_S fn_S_4 d_S_add_51 h1 (Nat.le_of_ble_eq_true rfl) (fun _ _ => ⟨rfl, rfl⟩) ?_
  refine rn_return C rfl d_S_add_54 ⟨by decide, by decide⟩ ?_
  exact hK

def G_S_freeAbove (av : List Value) (h : ah_H) (K : ah_R → ah_H → Prop) : Prop := ∃ (q : Nat) (n : Int32) (x y xx xy : Int64), av = [.ref q] ∧ h[q]? = some (.inr (7, [.int n, .long x, .long y, .long xx, .long xy])) ∧ K (.inl (some (.long (n.toInt64 * xy - x * y)))) h
set_option maxHeartbeats 4000000 in
set_option maxRecDepth 100000 in
theorem c_S_freeAbove (l : Launch) : rn_Met l y_S_freeAbove wc_S_freeAbove { frames := 1, cells := 0, slots := 0, locals := 0 } G_S_freeAbove := by
  refine rn_in mw_S_freeAbove.1 (by decide +kernel) ?_ ?_
  · intro _ av h K hG
    obtain ⟨q, n, x, y, xx, xy, rfl, h1, hK⟩ := hG
    exact Nat.le_of_ble_eq_true rfl
  intro p e s m args below meth c z sa D dA av h K hadm C hG
  obtain ⟨q, n, x, y, xx, xy, rfl, h1, hK⟩ := hG
  refine rn_aload_n C d_S_freeAbove_0 rfl ?_
  refine rn_get C f_S_7 d_S_freeAbove_1 (by assumption) (by rfl) ?_
  refine rn_i2l C d_S_freeAbove_4 ?_
  refine rn_aload_n C d_S_freeAbove_5 rfl ?_
  refine rn_get C f_S_23 d_S_freeAbove_6 (by assumption) (by rfl) ?_
  refine rn_lmul C d_S_freeAbove_9 ?_
  refine rn_aload_n C d_S_freeAbove_10 rfl ?_
  refine rn_get C f_S_13 d_S_freeAbove_11 (by assumption) (by rfl) ?_
  refine rn_aload_n C d_S_freeAbove_14 rfl ?_
  refine rn_get C f_S_17 d_S_freeAbove_15 (by assumption) (by rfl) ?_
  refine rn_lmul C d_S_freeAbove_18 ?_
  refine rn_lsub C d_S_freeAbove_19 ?_
  refine rn_lreturn C rfl d_S_freeAbove_20 ⟨by decide, by decide⟩ ?_
  exact hK

def G_S_freeBelow (av : List Value) (h : ah_H) (K : ah_R → ah_H → Prop) : Prop := ∃ (q : Nat) (n : Int32) (x y xx xy : Int64), av = [.ref q] ∧ h[q]? = some (.inr (7, [.int n, .long x, .long y, .long xx, .long xy])) ∧ K (.inl (some (.long (n.toInt64 * xx - x * x)))) h
set_option maxHeartbeats 4000000 in
set_option maxRecDepth 100000 in
theorem c_S_freeBelow (l : Launch) : rn_Met l y_S_freeBelow wc_S_freeBelow { frames := 1, cells := 0, slots := 0, locals := 0 } G_S_freeBelow := by
  refine rn_in mw_S_freeBelow.1 (by decide +kernel) ?_ ?_
  · intro _ av h K hG
    obtain ⟨q, n, x, y, xx, xy, rfl, h1, hK⟩ := hG
    exact Nat.le_of_ble_eq_true rfl
  intro p e s m args below meth c z sa D dA av h K hadm C hG
  obtain ⟨q, n, x, y, xx, xy, rfl, h1, hK⟩ := hG
  refine rn_aload_n C d_S_freeBelow_0 rfl ?_
  refine rn_get C f_S_7 d_S_freeBelow_1 (by assumption) (by rfl) ?_
  refine rn_i2l C d_S_freeBelow_4 ?_
  refine rn_aload_n C d_S_freeBelow_5 rfl ?_
  refine rn_get C f_S_20 d_S_freeBelow_6 (by assumption) (by rfl) ?_
  refine rn_lmul C d_S_freeBelow_9 ?_
  refine rn_aload_n C d_S_freeBelow_10 rfl ?_
  refine rn_get C f_S_13 d_S_freeBelow_11 (by assumption) (by rfl) ?_
  refine rn_aload_n C d_S_freeBelow_14 rfl ?_
  refine rn_get C f_S_13 d_S_freeBelow_15 (by assumption) (by rfl) ?_
  refine rn_lmul C d_S_freeBelow_18 ?_
  refine rn_lsub C d_S_freeBelow_19 ?_
  refine rn_lreturn C rfl d_S_freeBelow_20 ⟨by decide, by decide⟩ ?_
  exact hK

def G_R_textIsFull (av : List Value) (h : ah_H) (K : ah_R → ah_H → Prop) : Prop := ∃ (q : Nat) (rk sg : Int32) (r1 r2 r3 r4 : Value), av = [.ref q] ∧ h[q]? = some (.inr (8, [.int rk, .int sg, r1, r2, r3, r4])) ∧ (20 ≤ sg.toInt → K (.inl (some (.int 1))) h) ∧ (¬ 20 ≤ sg.toInt → K (.inl (some (.int 0))) h)
set_option maxHeartbeats 4000000 in
set_option maxRecDepth 100000 in
theorem c_R_textIsFull (l : Launch) : rn_Met l y_R_textIsFull wc_R_textIsFull { frames := 1, cells := 0, slots := 0, locals := 0 } G_R_textIsFull := by
  refine rn_in mw_R_textIsFull.1 (by decide +kernel) ?_ ?_
  · intro _ av h K hG
    obtain ⟨q, rk, sg, r1, r2, r3, r4, rfl, h1, hK1, hK2⟩ := hG
    exact Nat.le_of_ble_eq_true rfl
  intro p e s m args below meth c z sa D dA av h K hadm C hG
  obtain ⟨q, rk, sg, r1, r2, r3, r4, rfl, h1, hK1, hK2⟩ := hG
  refine rn_aload_n C d_R_textIsFull_0 rfl ?_
  refine rn_get C f_R_25 d_R_textIsFull_1 (by assumption) (by rfl) ?_
  refine rn_bipush C 20 d_R_textIsFull_4 (by decide) ?_
  refine rn_icmp_lt C 13 d_R_textIsFull_6 (by decide) (fun c6 => ?_) (fun c6 => ?_)
  · skip
    refine rn_iconst C 0 d_R_textIsFull_13 (by decide) ?_
    refine rn_ireturn C rfl rfl d_R_textIsFull_14 ⟨by decide, by decide⟩ ?_
    (try simp only [Int32.lt_iff_toInt_lt, Int32.le_iff_toInt_le, ← Int32.toInt_inj, Int32.reduceToInt] at c6)
    first | exact hK1 (by omega) | exact hK2 (by omega)
  · skip
    refine rn_iconst C 1 d_R_textIsFull_9 (by decide) ?_
    refine rn_goto C 14 d_R_textIsFull_10 (by decide) ?_
    refine rn_ireturn C rfl rfl d_R_textIsFull_14 ⟨by decide, by decide⟩ ?_
    (try simp only [Int32.lt_iff_toInt_lt, Int32.le_iff_toInt_le, ← Int32.toInt_inj, Int32.reduceToInt] at c6)
    first | exact hK1 (by omega) | exact hK2 (by omega)

def G_R_areFull (av : List Value) (h : ah_H) (K : ah_R → ah_H → Prop) : Prop := ∃ (q : Nat) (rk sg : Int32) (r1 r2 r3 r4 : Value), av = [.ref q] ∧ h[q]? = some (.inr (8, [.int rk, .int sg, r1, r2, r3, r4])) ∧ (8 ≤ rk.toInt → K (.inl (some (.int 1))) h) ∧ (¬ 8 ≤ rk.toInt → K (.inl (some (.int 0))) h)
set_option maxHeartbeats 4000000 in
set_option maxRecDepth 100000 in
theorem c_R_areFull (l : Launch) : rn_Met l y_R_areFull wc_R_areFull { frames := 1, cells := 0, slots := 0, locals := 0 } G_R_areFull := by
  refine rn_in mw_R_areFull.1 (by decide +kernel) ?_ ?_
  · intro _ av h K hG
    obtain ⟨q, rk, sg, r1, r2, r3, r4, rfl, h1, hK1, hK2⟩ := hG
    exact Nat.le_of_ble_eq_true rfl
  intro p e s m args below meth c z sa D dA av h K hadm C hG
  obtain ⟨q, rk, sg, r1, r2, r3, r4, rfl, h1, hK1, hK2⟩ := hG
  refine rn_aload_n C d_R_areFull_0 rfl ?_
  refine rn_get C f_R_29 d_R_areFull_1 (by assumption) (by rfl) ?_
  refine rn_bipush C 8 d_R_areFull_4 (by decide) ?_
  refine rn_icmp_lt C 13 d_R_areFull_6 (by decide) (fun c6 => ?_) (fun c6 => ?_)
  · skip
    refine rn_iconst C 0 d_R_areFull_13 (by decide) ?_
    refine rn_ireturn C rfl rfl d_R_areFull_14 ⟨by decide, by decide⟩ ?_
    (try simp only [Int32.lt_iff_toInt_lt, Int32.le_iff_toInt_le, ← Int32.toInt_inj, Int32.reduceToInt] at c6)
    first | exact hK1 (by omega) | exact hK2 (by omega)
  · skip
    refine rn_iconst C 1 d_R_areFull_9 (by decide) ?_
    refine rn_goto C 14 d_R_areFull_10 (by decide) ?_
    refine rn_ireturn C rfl rfl d_R_areFull_14 ⟨by decide, by decide⟩ ?_
    (try simp only [Int32.lt_iff_toInt_lt, Int32.le_iff_toInt_le, ← Int32.toInt_inj, Int32.reduceToInt] at c6)
    first | exact hK1 (by omega) | exact hK2 (by omega)

def G_R_append (av : List Value) (h : ah_H) (K : ah_R → ah_H → Prop) : Prop := ∃ (e0 e1 e2 e3 e4 e5 e6 e7 e8 e9 e10 e11 e12 e13 e14 : ah_E) (rest : ah_H) (nn : Nat) (tx : Nat → Int32) (rk sg x : Int32), av = [.ref 15, .int x] ∧ h = e0 :: e1 :: e2 :: e3 :: e4 :: e5 :: e6 :: e7 :: e8 :: e9 :: e10 :: e11 :: e12 :: e13 :: e14 :: .inr (8, [.int rk, .int sg, .ref 16, .ref 17, .ref 18, .ref 19]) :: .inl (3, nn, .inl tx) :: rest ∧ vp_in sg nn ∧ K (.inl (some (.int (sg + 1)))) (e0 :: e1 :: e2 :: e3 :: e4 :: e5 :: e6 :: e7 :: e8 :: e9 :: e10 :: e11 :: e12 :: e13 :: e14 :: .inr (8, [.int rk, .int (sg + 1), .ref 16, .ref 17, .ref 18, .ref 19]) :: .inl (3, nn, .inl (upd tx sg.toNatClampNeg (vp_nar .char x))) :: rest)
set_option maxHeartbeats 4000000 in
set_option maxRecDepth 100000 in
theorem c_R_append (l : Launch) : rn_Met l y_R_append wc_R_append { frames := 1, cells := 0, slots := 0, locals := 0 } G_R_append := by
  refine rn_in mw_R_append.1 (by decide +kernel) ?_ ?_
  · intro _ av h K hG
    obtain ⟨e0, e1, e2, e3, e4, e5, e6, e7, e8, e9, e10, e11, e12, e13, e14, rest, nn, tx, rk, sg, x, rfl, rfl, h1, hK⟩ := hG
    exact Nat.le_of_ble_eq_true rfl
  intro p e s m args below meth c z sa D dA av h K hadm C hG
  obtain ⟨e0, e1, e2, e3, e4, e5, e6, e7, e8, e9, e10, e11, e12, e13, e14, rest, nn, tx, rk, sg, x, rfl, rfl, h1, hK⟩ := hG
  refine rn_aload_n C d_R_append_0 rfl ?_
  refine rn_get C f_R_11 d_R_append_1 rfl rfl ?_
  refine rn_aload_n C d_R_append_4 rfl ?_
  refine rn_get C f_R_25 d_R_append_5 rfl rfl ?_
  refine rn_iload_n C d_R_append_8 rfl ?_
  refine rn_castore C d_R_append_9 rfl (by assumption) ?_
  refine rn_aload_n C d_R_append_10 rfl ?_
  refine rn_dup C d_R_append_11 rfl ?_
  refine rn_get C f_R_25 d_R_append_12 rfl rfl ?_
  refine rn_iconst C 1 d_R_append_15 (by decide) ?_
  refine rn_iadd C d_R_append_16 ?_
  refine rn_put C f_R_25 ft_R fn_R_1 d_R_append_17 rfl (Nat.le_of_ble_eq_true rfl) (fun _ _ => ⟨rfl, rfl⟩) ?_
  refine rn_aload_n C d_R_append_20 rfl ?_
  refine rn_get C f_R_25 d_R_append_21 rfl rfl ?_
  refine rn_ireturn C rfl rfl d_R_append_24 ⟨by decide, by decide⟩ ?_
  exact hK

def G_F_side (av : List Value) (h : ah_H) (K : ah_R → ah_H → Prop) : Prop := ∃ (q : Nat) (fo le to ri bo x : Int32), av = [.ref q, .int x] ∧ h[q]? = some (.inr (2, [.int fo, .int le, .int to, .int ri, .int bo])) ∧ (x.toInt = 0 → K (.inl (some (.int le))) h) ∧ (x.toInt = 1 → K (.inl (some (.int to))) h) ∧ (x.toInt = 2 → K (.inl (some (.int ri))) h) ∧ ((x.toInt < 0 ∨ 2 < x.toInt) → K (.inl (some (.int bo))) h)
set_option maxHeartbeats 4000000 in
set_option maxRecDepth 100000 in
theorem c_F_side (l : Launch) : rn_Met l y_F_side wc_F_side { frames := 1, cells := 0, slots := 0, locals := 0 } G_F_side := by
  refine rn_in mw_F_side.1 (by decide +kernel) ?_ ?_
  · intro _ av h K hG
    obtain ⟨q, fo, le, to, ri, bo, x, rfl, h1, k1, k2, k3, k4⟩ := hG
    exact Nat.le_of_ble_eq_true rfl
  intro p e s m args below meth c z sa D dA av h K hadm C hG
  obtain ⟨q, fo, le, to, ri, bo, x, rfl, h1, k1, k2, k3, k4⟩ := hG
  refine rn_iload_n C d_F_side_0 rfl ?_
  by_cases t1 : (x).toInt < 0 ∨ 2 < (x).toInt
  · refine rn_tableOut C 43 d_F_side_1 t1 (by decide) ?_
    refine rn_aload_n C d_F_side_43 rfl ?_
    refine rn_get C f_F_29 d_F_side_44 (by assumption) (by rfl) ?_
    refine rn_ireturn C rfl rfl d_F_side_47 ⟨by decide, by decide⟩ ?_
    first | exact k1 t1 | exact k2 t1 | exact k3 t1 | exact k4 t1
  · rcases (by omega : (x).toInt = 0 ∨ (x).toInt = 1 ∨ (x).toInt = 2) with s1 | s1 | s1
    · refine rn_tableIn C 28 d_F_side_1 (by omega) (by omega) (by rw [s1]; rfl) (by decide) ?_
      refine rn_aload_n C d_F_side_28 rfl ?_
      refine rn_get C f_F_15 d_F_side_29 (by assumption) (by rfl) ?_
      refine rn_ireturn C rfl rfl d_F_side_32 ⟨by decide, by decide⟩ ?_
      first | exact k1 s1 | exact k2 s1 | exact k3 s1 | exact k4 s1
    · refine rn_tableIn C 33 d_F_side_1 (by omega) (by omega) (by rw [s1]; rfl) (by decide) ?_
      refine rn_aload_n C d_F_side_33 rfl ?_
      refine rn_get C f_F_23 d_F_side_34 (by assumption) (by rfl) ?_
      refine rn_ireturn C rfl rfl d_F_side_37 ⟨by decide, by decide⟩ ?_
      first | exact k1 s1 | exact k2 s1 | exact k3 s1 | exact k4 s1
    · refine rn_tableIn C 38 d_F_side_1 (by omega) (by omega) (by rw [s1]; rfl) (by decide) ?_
      refine rn_aload_n C d_F_side_38 rfl ?_
      refine rn_get C f_F_26 d_F_side_39 (by assumption) (by rfl) ?_
      refine rn_ireturn C rfl rfl d_F_side_42 ⟨by decide, by decide⟩ ?_
      first | exact k1 s1 | exact k2 s1 | exact k3 s1 | exact k4 s1

def G_F_widenTo (av : List Value) (h : ah_H) (K : ah_R → ah_H → Prop) : Prop := ∃ (q : Nat) (fo le to ri bo x y : Int32), av = [.ref q, .int x, .int y] ∧ h[q]? = some (.inr (2, [.int fo, .int le, .int to, .int ri, .int bo])) ∧ K (.inl none) (h.set q (.inr (2, [.int fo, .int (jMin le x), .int (jMin to y), .int (jMax ri x), .int (jMax bo y)])))
set_option maxHeartbeats 4000000 in
set_option maxRecDepth 100000 in
theorem c_F_widenTo (l : Launch) : rn_Met l y_F_widenTo wc_F_widenTo { frames := 2, cells := 0, slots := 0, locals := 21 } G_F_widenTo := by
  refine rn_in mw_F_widenTo.1 (by decide +kernel) ?_ ?_
  · intro _ av h K hG
    obtain ⟨q, fo, le, to, ri, bo, x, y, rfl, h1, hK⟩ := hG
    exact Nat.le_of_ble_eq_true rfl
  intro p e s m args below meth c z sa D dA av h K hadm C hG
  obtain ⟨q, fo, le, to, ri, bo, x, y, rfl, h1, hK⟩ := hG
  refine rn_self h1 ?_
  refine rn_aload_n C d_F_widenTo_0 rfl ?_
  refine rn_aload_n C d_F_widenTo_1 rfl ?_
  refine rn_getq C f_F_15 d_F_widenTo_2 h1 rfl ?_
  refine rn_iload_n C d_F_widenTo_5 rfl ?_
  refine rn_cS C (c_J_mini l) mw_J_mini k_F_48 d_F_widenTo_6 (Nat.le_of_ble_eq_true rfl) (Nat.le_of_ble_eq_true rfl) ⟨by decide, by decide⟩ ⟨by decide, by decide⟩ ?_
  refine ⟨_, _, rfl, ?_⟩
  refine rn_putq C f_F_15 ft_F fn_F_1 d_F_widenTo_9 h1 (Nat.le_of_ble_eq_true rfl) (fun _ _ => ⟨rfl, rfl⟩) ?_
  refine rn_aload_n C d_F_widenTo_12 rfl ?_
  refine rn_aload_n C d_F_widenTo_13 rfl ?_
  refine rn_getq C f_F_23 d_F_widenTo_14 h1 rfl ?_
  refine rn_iload_n C d_F_widenTo_17 rfl ?_
  refine rn_cS C (c_J_mini l) mw_J_mini k_F_48 d_F_widenTo_18 (Nat.le_of_ble_eq_true rfl) (Nat.le_of_ble_eq_true rfl) ⟨by decide, by decide⟩ ⟨by decide, by decide⟩ ?_
  refine ⟨_, _, rfl, ?_⟩
  refine rn_putq C f_F_23 ft_F fn_F_2 d_F_widenTo_21 h1 (Nat.le_of_ble_eq_true rfl) (fun _ _ => ⟨rfl, rfl⟩) ?_
  refine rn_aload_n C d_F_widenTo_24 rfl ?_
  refine rn_aload_n C d_F_widenTo_25 rfl ?_
  refine rn_getq C f_F_26 d_F_widenTo_26 h1 rfl ?_
  refine rn_iload_n C d_F_widenTo_29 rfl ?_
  refine rn_cS C (c_J_maxi l) mw_J_maxi k_F_54 d_F_widenTo_30 (Nat.le_of_ble_eq_true rfl) (Nat.le_of_ble_eq_true rfl) ⟨by decide, by decide⟩ ⟨by decide, by decide⟩ ?_
  refine ⟨_, _, rfl, ?_⟩
  refine rn_putq C f_F_26 ft_F fn_F_3 d_F_widenTo_33 h1 (Nat.le_of_ble_eq_true rfl) (fun _ _ => ⟨rfl, rfl⟩) ?_
  refine rn_aload_n C d_F_widenTo_36 rfl ?_
  refine rn_aload_n C d_F_widenTo_37 rfl ?_
  refine rn_getq C f_F_29 d_F_widenTo_38 h1 rfl ?_
  refine rn_iload_n C d_F_widenTo_41 rfl ?_
  refine rn_cS C (c_J_maxi l) mw_J_maxi k_F_54 d_F_widenTo_42 (Nat.le_of_ble_eq_true rfl) (Nat.le_of_ble_eq_true rfl) ⟨by decide, by decide⟩ ⟨by decide, by decide⟩ ?_
  refine ⟨_, _, rfl, ?_⟩
  refine rn_putq C f_F_29 ft_F fn_F_4 d_F_widenTo_45 h1 (Nat.le_of_ble_eq_true rfl) (fun _ _ => ⟨rfl, rfl⟩) ?_
  refine rn_return C rfl d_F_widenTo_48 ⟨by decide, by decide⟩ ?_
  exact hK

def G_I_exchangePart (av : List Value) (h : ah_H) (K : ah_R → ah_H → Prop) : Prop := ∃ (e0 e3 : ah_E) (rest : ah_H) (np : Nat) (w g x y part v : Int32) (pf : Nat → Int32), av = [.ref 1, .int x, .int y, .int part, .int v] ∧ h = e0 :: .inr (1, [.int w, .int g, .ref 2, .ref 3]) :: .inl (0, np, .inl pf) :: e3 :: rest ∧ vp_in ((y * w + x) * 3 + part) np ∧ K (.inl (some (.int (pf ((y * w + x) * 3 + part).toNatClampNeg)))) (e0 :: .inr (1, [.int w, .int g, .ref 2, .ref 3]) :: .inl (0, np, .inl (upd pf ((y * w + x) * 3 + part).toNatClampNeg v)) :: e3 :: rest)
set_option maxHeartbeats 4000000 in
set_option maxRecDepth 100000 in
theorem c_I_exchangePart (l : Launch) : rn_Met l y_I_exchangePart wc_I_exchangePart { frames := 1, cells := 0, slots := 0, locals := 0 } G_I_exchangePart := by
  refine rn_in mw_I_exchangePart.1 (by decide +kernel) ?_ ?_
  · intro _ av h K hG
    obtain ⟨e0, e3, rest, np, w, g, x, y, part, v, pf, rfl, rfl, h1, hK⟩ := hG
    exact Nat.le_of_ble_eq_true rfl
  intro p e s m args below meth c z sa D dA av h K hadm C hG
  obtain ⟨e0, e3, rest, np, w, g, x, y, part, v, pf, rfl, rfl, h1, hK⟩ := hG
  refine rn_iload_n C d_I_exchangePart_0 rfl ?_
  refine rn_aload_n C d_I_exchangePart_1 rfl ?_
  refine rn_get C f_I_20 d_I_exchangePart_2 rfl rfl ?_
  refine rn_imul C d_I_exchangePart_5 ?_
  refine rn_iload_n C d_I_exchangePart_6 rfl ?_
  refine rn_iadd C d_I_exchangePart_7 ?_
  refine rn_iconst C 3 d_I_exchangePart_8 (by decide) ?_
  refine rn_imul C d_I_exchangePart_9 ?_
  refine rn_iload_n C d_I_exchangePart_10 rfl ?_
  refine rn_iadd C d_I_exchangePart_11 ?_
  refine rn_istore C d_I_exchangePart_12 (by decide) ?_
  refine rn_aload_n C d_I_exchangePart_14 rfl ?_
  refine rn_get C f_I_27 d_I_exchangePart_15 rfl rfl ?_
  refine rn_iload C d_I_exchangePart_18 rfl ?_
  refine rn_iaload C d_I_exchangePart_20 rfl (by assumption) ?_
  refine rn_istore C d_I_exchangePart_21 (by decide) ?_
  refine rn_aload_n C d_I_exchangePart_23 rfl ?_
  refine rn_get C f_I_27 d_I_exchangePart_24 rfl rfl ?_
  refine rn_iload C d_I_exchangePart_27 rfl ?_
  refine rn_iload C d_I_exchangePart_29 rfl ?_
  refine rn_iastore C d_I_exchangePart_31 rfl (by assumption) ?_
  refine rn_iload C d_I_exchangePart_32 rfl ?_
  refine rn_ireturn C rfl rfl d_I_exchangePart_34 ⟨by decide, by decide⟩ ?_
  exact hK

def G_I_exchangeLight (av : List Value) (h : ah_H) (K : ah_R → ah_H → Prop) : Prop := ∃ (e0 e2 : ah_E) (rest : ah_H) (nl : Nat) (w g x y v : Int32) (lf : Nat → Int32), av = [.ref 1, .int x, .int y, .int v] ∧ h = e0 :: .inr (1, [.int w, .int g, .ref 2, .ref 3]) :: e2 :: .inl (0, nl, .inl lf) :: rest ∧ vp_in (y * w + x) nl ∧ K (.inl (some (.int (lf (y * w + x).toNatClampNeg)))) (e0 :: .inr (1, [.int w, .int g, .ref 2, .ref 3]) :: e2 :: .inl (0, nl, .inl (upd lf (y * w + x).toNatClampNeg v)) :: rest)
set_option maxHeartbeats 4000000 in
set_option maxRecDepth 100000 in
theorem c_I_exchangeLight (l : Launch) : rn_Met l y_I_exchangeLight wc_I_exchangeLight { frames := 1, cells := 0, slots := 0, locals := 0 } G_I_exchangeLight := by
  refine rn_in mw_I_exchangeLight.1 (by decide +kernel) ?_ ?_
  · intro _ av h K hG
    obtain ⟨e0, e2, rest, nl, w, g, x, y, v, lf, rfl, rfl, h1, hK⟩ := hG
    exact Nat.le_of_ble_eq_true rfl
  intro p e s m args below meth c z sa D dA av h K hadm C hG
  obtain ⟨e0, e2, rest, nl, w, g, x, y, v, lf, rfl, rfl, h1, hK⟩ := hG
  refine rn_iload_n C d_I_exchangeLight_0 rfl ?_
  refine rn_aload_n C d_I_exchangeLight_1 rfl ?_
  refine rn_get C f_I_20 d_I_exchangeLight_2 rfl rfl ?_
  refine rn_imul C d_I_exchangeLight_5 ?_
  refine rn_iload_n C d_I_exchangeLight_6 rfl ?_
  refine rn_iadd C d_I_exchangeLight_7 ?_
  refine rn_istore C d_I_exchangeLight_8 (by decide) ?_
  refine rn_aload_n C d_I_exchangeLight_10 rfl ?_
  refine rn_get C f_I_31 d_I_exchangeLight_11 rfl rfl ?_
  refine rn_iload C d_I_exchangeLight_14 rfl ?_
  refine rn_iaload C d_I_exchangeLight_16 rfl (by assumption) ?_
  refine rn_istore C d_I_exchangeLight_17 (by decide) ?_
  refine rn_aload_n C d_I_exchangeLight_19 rfl ?_
  refine rn_get C f_I_31 d_I_exchangeLight_20 rfl rfl ?_
  refine rn_iload C d_I_exchangeLight_23 rfl ?_
  refine rn_iload_n C d_I_exchangeLight_25 rfl ?_
  refine rn_iastore C d_I_exchangeLight_26 rfl (by assumption) ?_
  refine rn_iload C d_I_exchangeLight_27 rfl ?_
  refine rn_ireturn C rfl rfl d_I_exchangeLight_29 ⟨by decide, by decide⟩ ?_
  exact hK

def G_P_firstOf (av : List Value) (h : ah_H) (K : ah_R → ah_H → Prop) : Prop := ∃ (a b c : Int32), av = [.int a, .int b, .int c] ∧ 0 < b ∧ K (.inl (some (.int ((a * c + b - 1) / b)))) h
set_option maxHeartbeats 4000000 in
set_option maxRecDepth 100000 in
theorem c_P_firstOf (l : Launch) : rn_Met l y_P_firstOf wc_P_firstOf { frames := 1, cells := 0, slots := 0, locals := 0 } G_P_firstOf := by
  refine rn_in mw_P_firstOf.1 (by decide +kernel) ?_ ?_
  · intro _ av h K hG
    obtain ⟨a, b, c, rfl, hb, hK⟩ := hG
    exact Nat.le_of_ble_eq_true rfl
  intro p e s m args below meth c z sa D dA av h K hadm C hG
  obtain ⟨a, b, c, rfl, hb, hK⟩ := hG
  refine rn_iload_n C d_P_firstOf_0 rfl ?_
  refine rn_if_gt C 6 d_P_firstOf_1 (by decide) (fun _ => ?_) (fun q_1 => absurd (hb) q_1)
  refine rn_iload_n C d_P_firstOf_6 rfl ?_
  refine rn_iload_n C d_P_firstOf_7 rfl ?_
  refine rn_imul C d_P_firstOf_8 ?_
  refine rn_iload_n C d_P_firstOf_9 rfl ?_
  refine rn_iadd C d_P_firstOf_10 ?_
  refine rn_iconst C 1 d_P_firstOf_11 (by decide) ?_
  refine rn_isub C d_P_firstOf_12 ?_
  refine rn_iload_n C d_P_firstOf_13 rfl ?_
  refine rn_idiv C d_P_firstOf_14 (fun e => absurd hb (by rw [e]; decide)) ?_
  refine rn_ireturn C rfl rfl d_P_firstOf_15 ⟨by decide, by decide⟩ ?_
  exact hK

def G_P_cells (av : List Value) (h : ah_H) (K : ah_R → ah_H → Prop) : Prop := ∃ (q : Nat) (le to br bb : Int32), av = [.ref q] ∧ h[q]? = some (.inr (4, [.int le, .int to, .int br, .int bb])) ∧ K (.inl (some (.int ((br - le) * (bb - to))))) h
set_option maxHeartbeats 4000000 in
set_option maxRecDepth 100000 in
theorem c_P_cells (l : Launch) : rn_Met l y_P_cells wc_P_cells { frames := 1, cells := 0, slots := 0, locals := 0 } G_P_cells := by
  refine rn_in mw_P_cells.1 (by decide +kernel) ?_ ?_
  · intro _ av h K hG
    obtain ⟨q, le, to, br, bb, rfl, h1, hK⟩ := hG
    exact Nat.le_of_ble_eq_true rfl
  intro p e s m args below meth c z sa D dA av h K hadm C hG
  obtain ⟨q, le, to, br, bb, rfl, h1, hK⟩ := hG
  refine rn_aload_n C d_P_cells_0 rfl ?_
  refine rn_get C f_P_43 d_P_cells_1 (by assumption) (by rfl) ?_
  refine rn_aload_n C d_P_cells_4 rfl ?_
  refine rn_get C f_P_42 d_P_cells_5 (by assumption) (by rfl) ?_
  refine rn_isub C d_P_cells_8 ?_
  refine rn_aload_n C d_P_cells_9 rfl ?_
  refine rn_get C f_P_50 d_P_cells_10 (by assumption) (by rfl) ?_
  refine rn_aload_n C d_P_cells_13 rfl ?_
  refine rn_get C f_P_49 d_P_cells_14 (by assumption) (by rfl) ?_
  refine rn_isub C d_P_cells_17 ?_
  refine rn_imul C d_P_cells_18 ?_
  refine rn_ireturn C rfl rfl d_P_cells_19 ⟨by decide, by decide⟩ ?_
  exact hK

def G_P_cellsSquared (av : List Value) (h : ah_H) (K : ah_R → ah_H → Prop) : Prop := ∃ (q : Nat) (le to br bb : Int32), av = [.ref q] ∧ h[q]? = some (.inr (4, [.int le, .int to, .int br, .int bb])) ∧ K (.inl (some (.long (((br - le) * (bb - to)).toInt64 * ((br - le) * (bb - to)).toInt64)))) h
set_option maxHeartbeats 4000000 in
set_option maxRecDepth 100000 in
theorem c_P_cellsSquared (l : Launch) : rn_Met l y_P_cellsSquared wc_P_cellsSquared { frames := 2, cells := 0, slots := 0, locals := 20 } G_P_cellsSquared := by
  refine rn_in mw_P_cellsSquared.1 (by decide +kernel) ?_ ?_
  · intro _ av h K hG
    obtain ⟨q, le, to, br, bb, rfl, h1, hK⟩ := hG
    exact Nat.le_of_ble_eq_true rfl
  intro p e s m args below meth c z sa D dA av h K hadm C hG
  obtain ⟨q, le, to, br, bb, rfl, h1, hK⟩ := hG
  refine rn_aload_n C d_P_cellsSquared_0 rfl ?_
  refine rn_cV C (c_P_cells l) mw_P_cells k_P_53 d_P_cellsSquared_1 rfl (by assumption) rfl (Nat.le_of_ble_eq_true rfl) (Nat.le_of_ble_eq_true rfl) ⟨by decide, by decide⟩ ⟨by decide, by decide⟩ ?_
  refine ⟨_, _, _, _, _, rfl, h1, ?_⟩
  refine rn_i2l C d_P_cellsSquared_4 ?_
  refine rn_aload_n C d_P_cellsSquared_5 rfl ?_
  refine rn_cV C (c_P_cells l) mw_P_cells k_P_53 d_P_cellsSquared_6 rfl (by assumption) rfl (Nat.le_of_ble_eq_true rfl) (Nat.le_of_ble_eq_true rfl) ⟨by decide, by decide⟩ ⟨by decide, by decide⟩ ?_
  refine ⟨_, _, _, _, _, rfl, h1, ?_⟩
  refine rn_i2l C d_P_cellsSquared_9 ?_
  refine rn_lmul C d_P_cellsSquared_10 ?_
  refine rn_lreturn C rfl d_P_cellsSquared_11 ⟨by decide, by decide⟩ ?_
  exact hK

def G_N_number (av : List Value) (h : ah_H) (K : ah_R → ah_H → Prop) : Prop := ∃ (q qa qb qd na nb nd : Nat) (fi p x : Int32) (fa fb fd : Nat → Int64), av = [.ref q, .int p, .int x] ∧ h[q]? = some (.inr (6, [.int fi, .ref qa, .ref qb, .ref qd])) ∧ h[qa]? = some (.inl (1, na, .inr (.inl fa))) ∧ h[qb]? = some (.inl (1, nb, .inr (.inl fb))) ∧ h[qd]? = some (.inl (1, nd, .inr (.inl fd))) ∧ vp_in p na ∧ vp_in p nb ∧ vp_in p nd ∧ (x.toInt = 0 → K (.inl (some (.long (fa p.toNatClampNeg)))) h) ∧ (x.toInt = 1 → K (.inl (some (.long (fb p.toNatClampNeg)))) h) ∧ (¬ x.toInt = 0 ∧ ¬ x.toInt = 1 → K (.inl (some (.long (fd p.toNatClampNeg)))) h)
set_option maxHeartbeats 4000000 in
set_option maxRecDepth 100000 in
theorem c_N_number (l : Launch) : rn_Met l y_N_number wc_N_number { frames := 1, cells := 0, slots := 0, locals := 0 } G_N_number := by
  refine rn_in mw_N_number.1 (by decide +kernel) ?_ ?_
  · intro _ av h K hG
    obtain ⟨q, qa, qb, qd, na, nb, nd, fi, y, x, fa, fb, fd, rfl, h1, h2, h3, h4, h5, h6, h7, k1, k2, k3⟩ := hG
    exact Nat.le_of_ble_eq_true rfl
  intro p e s m args below meth c z sa D dA av h K hadm C hG
  obtain ⟨q, qa, qb, qd, na, nb, nd, fi, y, x, fa, fb, fd, rfl, h1, h2, h3, h4, h5, h6, h7, k1, k2, k3⟩ := hG
  refine rn_iload_n C d_N_number_0 rfl ?_
  by_cases s1_0 : (x).toInt = 0
  · refine rn_lookup C (off := 27) 28 d_N_number_1 (by decide) (by rw [s1_0]; decide) (by decide) ?_
    refine rn_aload_n C d_N_number_28 rfl ?_
    refine rn_get C f_N_9 d_N_number_29 (by assumption) (by rfl) ?_
    refine rn_iload_n C d_N_number_32 rfl ?_
    refine rn_laload C d_N_number_33 (by assumption) (by assumption) ?_
    refine rn_lreturn C rfl d_N_number_34 ⟨by decide, by decide⟩ ?_
    exact k1 s1_0
  by_cases s1_1 : (x).toInt = 1
  · refine rn_lookup C (off := 34) 35 d_N_number_1 (by decide) (by rw [s1_1]; decide) (by decide) ?_
    refine rn_aload_n C d_N_number_35 rfl ?_
    refine rn_get C f_N_15 d_N_number_36 (by assumption) (by rfl) ?_
    refine rn_iload_n C d_N_number_39 rfl ?_
    refine rn_laload C d_N_number_40 (by assumption) (by assumption) ?_
    refine rn_lreturn C rfl d_N_number_41 ⟨by decide, by decide⟩ ?_
    exact k2 s1_1
  refine rn_lookup C (off := 41) 42 d_N_number_1 (by decide) (by simp [Op.lookupswitch.offset, s1_0, s1_1, Ne.symm s1_0, Ne.symm s1_1]) (by decide) ?_
  refine rn_aload_n C d_N_number_42 rfl ?_
  refine rn_get C f_N_18 d_N_number_43 (by assumption) (by rfl) ?_
  refine rn_iload_n C d_N_number_46 rfl ?_
  refine rn_laload C d_N_number_47 (by assumption) (by assumption) ?_
  refine rn_lreturn C rfl d_N_number_48 ⟨by decide, by decide⟩ ?_
  exact k3 ⟨s1_0, s1_1⟩

