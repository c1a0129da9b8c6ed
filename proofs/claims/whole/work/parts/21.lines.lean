/-! Lines, days, counts: the rest of the short public methods. Laid by wip/whole/gen_c7.py. -/
theorem mbd {a b A B : Int} (ha : -A ≤ a ∧ a ≤ A) (hb : -B ≤ b ∧ b ≤ B) : -(A * B) ≤ a * b ∧ a * b ≤ A * B := by
  have h1 : a.natAbs ≤ A.natAbs := by omega
  have h2 : b.natAbs ≤ B.natAbs := by omega
  have h3 : (a * b).natAbs ≤ (A * B).natAbs := by rw [Int.natAbs_mul, Int.natAbs_mul]; exact Nat.mul_le_mul h1 h2
  have h4 : 0 ≤ A * B := Int.mul_nonneg (by omega) (by omega)
  omega
def colI (a b d v : Int) : Int := max 0 (min 255 ((2 * (a * v + b) + d) / (2 * d)))
theorem colI_in (a b d v : Int) : 0 ≤ colI a b d v ∧ colI a b d v ≤ 255 := by unfold colI; omega
/-- a number of a line -/
def bL (x : Int) : Prop := -100000000000 ≤ x ∧ x ≤ 100000000000
theorem fdiv_bd {a b : Int} (hb : 0 < b) {M : Int} (h : -M ≤ a ∧ a ≤ M) (hM : 0 ≤ M) : -M ≤ a / b ∧ a / b ≤ M := by
  constructor
  · rw [Int.le_ediv_iff_mul_le hb]
    have : M * 1 ≤ M * b := Int.mul_le_mul_of_nonneg_left (by omega) hM
    rw [Int.neg_mul]; omega
  · by_cases h0 : 0 ≤ a
    · have := Int.ediv_le_self b h0; omega
    · have : a / b < 0 := Int.ediv_neg_of_neg_of_pos (by omega) hb
      omega
def G_N_partFrom (av : List Value) (h : ah_H) (K : ah_R → ah_H → Prop) : Prop := ∃ (q qa qb qd : Nat) (fi : Value) (fa fb fd : Nat → Int64) (p v a b d : Int), av = [.ref q, .int (iI p), .int (iI v)] ∧ h[q]? = some (.inr (6, [fi, .ref qa, .ref qb, .ref qd])) ∧ h[qa]? = some (aL 3 fa) ∧ h[qb]? = some (aL 3 fb) ∧ h[qd]? = some (aL 3 fd) ∧ 0 ≤ p ∧ p < 3 ∧ 0 ≤ v ∧ v ≤ 255 ∧ fa p.toNat = lI a ∧ fb p.toNat = lI b ∧ fd p.toNat = lI d ∧ bL a ∧ bL b ∧ bL d ∧ 0 < d ∧ K (.inl (some (.int (iI (colI a b d v))))) h
set_option maxHeartbeats 4000000 in
set_option maxRecDepth 100000 in
theorem c_N_partFrom (l : Launch) : rn_Met l y_N_partFrom wc_N_partFrom { frames := 3, cells := 0, slots := 0, locals := 48 } G_N_partFrom := by
  refine rn_in mw_N_partFrom.1 (by decide +kernel) ?_ ?_
  · intro _ av h K hG
    obtain ⟨q, qa, qb, qd, fi, fa, fb, fd, p0, v, a, b, d, rfl, h1, h2, h3, h4, hp0, hp1, hv0, hv1, ea, eb, ed, ba, bb, bd, d0, hK⟩ := hG
    exact Nat.le_of_ble_eq_true rfl
  intro p e s m args below meth c z sa D dA av h K hadm C hG
  obtain ⟨q, qa, qb, qd, fi, fa, fb, fd, p0, v, a, b, d, rfl, h1, h2, h3, h4, hp0, hp1, hv0, hv1, ea, eb, ed, ba, bb, bd, d0, hK⟩ := hG
  have vp : vp_in (iI p0) 3 := iI_vin hp0 (by omega) (by omega)
  have en : (iI p0).toNatClampNeg = p0.toNat := iI_nat hp0 (by omega)
  have mv := mbd (A := 100000000000) (B := 255) ba (show -255 ≤ v ∧ v ≤ 255 by omega)
  unfold bL at ba bb bd
  have fd2 := fdiv_bd (a := 2 * (a * v + b) + d) (b := 2 * d) (by omega) (M := 1000000000000000000) (by omega) (by omega)
  refine rn_aload_n C d_N_partFrom_0 rfl ?_
  refine rn_get C f_N_9 d_N_partFrom_1 (by assumption) (by rfl) ?_
  refine rn_iload_n C d_N_partFrom_4 rfl ?_
  refine rn_laload C d_N_partFrom_5 (by assumption) (by assumption) ?_
  rw [en, ea]
  refine rn_iload_n C d_N_partFrom_6 rfl ?_
  refine rn_i2l C d_N_partFrom_7 ?_
  rw [iI_toL ⟨by omega, by omega⟩]
  refine rn_lmul C d_N_partFrom_8 ?_
  refine rn_aload_n C d_N_partFrom_9 rfl ?_
  refine rn_get C f_N_15 d_N_partFrom_10 (by assumption) (by rfl) ?_
  refine rn_iload_n C d_N_partFrom_13 rfl ?_
  refine rn_laload C d_N_partFrom_14 (by assumption) (by assumption) ?_
  rw [en, eb]
  refine rn_ladd C d_N_partFrom_15 ?_
  refine rn_aload_n C d_N_partFrom_16 rfl ?_
  refine rn_get C f_N_18 d_N_partFrom_17 (by assumption) (by rfl) ?_
  refine rn_iload_n C d_N_partFrom_20 rfl ?_
  refine rn_laload C d_N_partFrom_21 (by assumption) (by assumption) ?_
  rw [en, ed, lI_mul, lI_add]
  refine rn_cS C (c_C_nearest l) mw_C_nearest k_N_55 d_N_partFrom_22 (Nat.le_of_ble_eq_true rfl) (Nat.le_of_ble_eq_true rfl) ⟨by decide, by decide⟩ ⟨by decide, by decide⟩ ?_
  refine ⟨_, _, rfl, by omega, by omega, ?_⟩
  refine rn_lstore_n C d_N_partFrom_25 (by decide) ?_
  refine rn_lconst C (lI 0) d_N_partFrom_26 (by decide) ?_
  refine rn_ldc2 C v_N_58 d_N_partFrom_27 ?_
  refine rn_lload_n C d_N_partFrom_30 rfl ?_
  refine rn_cS C (c_J_minl l) mw_J_minl k_N_60 d_N_partFrom_31 (Nat.le_of_ble_eq_true rfl) (Nat.le_of_ble_eq_true rfl) ⟨by decide, by decide⟩ ⟨by decide, by decide⟩ ?_
  refine ⟨lI 255, _, rfl, ?_⟩
  rw [lMin_I ⟨by omega, by omega⟩ ⟨by omega, by omega⟩]
  refine rn_cS C (c_J_maxl l) mw_J_maxl k_N_65 d_N_partFrom_34 (Nat.le_of_ble_eq_true rfl) (Nat.le_of_ble_eq_true rfl) ⟨by decide, by decide⟩ ⟨by decide, by decide⟩ ?_
  refine ⟨_, _, rfl, ?_⟩
  rw [lMax_I ⟨by omega, by omega⟩ ⟨by omega, by omega⟩]
  refine rn_l2i C d_N_partFrom_37 ?_
  rw [lI_toI ⟨by omega, by omega⟩]
  refine rn_ireturn C rfl rfl d_N_partFrom_38 ⟨by decide, by decide⟩ ?_
  exact hK

def gcd3 (a b d : Int) : Int := (Int.gcd (Int.gcd a b : Int) d : Int)
theorem gcd3_pos {a b d : Int} (h : 0 < d) : 0 < gcd3 a b d := by
  have : Int.gcd (Int.gcd a b : Int) d ≠ 0 := by
    intro q
    have := Int.gcd_eq_zero_iff.mp q
    omega
  unfold gcd3
  omega
theorem gcd3_le {a b d : Int} (h : 0 < d) : gcd3 a b d ≤ d := by
  have h2 : Int.gcd (Int.gcd a b : Int) d ∣ d.natAbs := Nat.gcd_dvd_right _ _
  have := Nat.le_of_dvd (by omega) h2
  unfold gcd3
  omega
theorem gcd3_red {a b d : Int} (h : 0 < d) : 0 < d.tdiv (gcd3 a b d) := by
  have h1 := gcd3_pos (a := a) (b := b) h
  have h2 := gcd3_le (a := a) (b := b) h
  rw [Int.tdiv_eq_ediv_of_nonneg (by omega)]
  have := Int.le_ediv_of_mul_le h1 (show 1 * gcd3 a b d ≤ d by omega)
  omega
theorem bL_red {x g : Int} (h : bL x) : bL (x.tdiv g) := by
  have := Int.natAbs_tdiv_le_natAbs x g
  unfold bL at *
  omega
theorem bL_abs {x : Int} (h : bL x) : (x.natAbs : Int) < 9223372036854775808 := by unfold bL at h; omega
theorem vp_updL_same (f : Nat → Int64) (i : Nat) (x : Int64) : vp_updL f i x i = x := by simp [vp_updL]
theorem vp_updL_other (f : Nat → Int64) {i j : Nat} (x : Int64) (h : j ≠ i) : vp_updL f i x j = f j := by simp [vp_updL, h]
def G_N_keep (av : List Value) (h : ah_H) (K : ah_R → ah_H → Prop) : Prop := ∃ (e0 e1 e2 e3 e4 e5 e6 e7 e8 e9 : ah_E) (rest : ah_H) (fi : Value) (fa fb fd : Nat → Int64) (p a b d : Int), av = [.ref 10, .int (iI p), .long (lI a), .long (lI b), .long (lI d)] ∧ h = e0 :: e1 :: e2 :: e3 :: e4 :: e5 :: e6 :: e7 :: e8 :: e9 :: (.inr (6, [fi, .ref 11, .ref 12, .ref 13])) :: aL 3 fa :: aL 3 fb :: aL 3 fd :: rest ∧ 0 ≤ p ∧ p < 3 ∧ bL a ∧ bL b ∧ bL d ∧ 0 < d ∧ K (.inl none) (e0 :: e1 :: e2 :: e3 :: e4 :: e5 :: e6 :: e7 :: e8 :: e9 :: (.inr (6, [fi, .ref 11, .ref 12, .ref 13])) :: aL 3 (vp_updL fa p.toNat (lI (Int.tdiv (a) (gcd3 a b d)))) :: aL 3 (vp_updL fb p.toNat (lI (Int.tdiv (b) (gcd3 a b d)))) :: aL 3 (vp_updL fd p.toNat (lI (Int.tdiv (d) (gcd3 a b d)))) :: rest)
set_option maxHeartbeats 4000000 in
set_option maxRecDepth 100000 in
theorem c_N_keep (l : Launch) : rn_Met l y_N_keep wc_N_keep { frames := 3, cells := 0, slots := 0, locals := 51 } G_N_keep := by
  refine rn_in mw_N_keep.1 (by decide +kernel) ?_ ?_
  · intro _ av h K hG
    obtain ⟨e0, e1, e2, e3, e4, e5, e6, e7, e8, e9, rest, fi, fa, fb, fd, p0, a, b, d, rfl, rfl, hp0, hp1, ba, bb, bd, d0, hK⟩ := hG
    exact Nat.le_of_ble_eq_true rfl
  intro p e s m args below meth c z sa D dA av h K hadm C hG
  obtain ⟨e0, e1, e2, e3, e4, e5, e6, e7, e8, e9, rest, fi, fa, fb, fd, p0, a, b, d, rfl, rfl, hp0, hp1, ba, bb, bd, d0, hK⟩ := hG
  have vp : vp_in (iI p0) 3 := iI_vin hp0 (by omega) (by omega)
  have en : (iI p0).toNatClampNeg = p0.toNat := iI_nat hp0 (by omega)
  have ga := bL_abs ba
  have gb := bL_abs bb
  have gd := bL_abs bd
  have gg := gcd_small ga gb
  have g3 := gcd3_pos (a := a) (b := b) d0
  have g4 := gcd3_le (a := a) (b := b) d0
  have hl : gcd3 a b d < 9223372036854775808 := by omega
  have nz : ¬ lI (gcd3 a b d) = 0 := fun q => absurd ((lI_eq ⟨by omega, by omega⟩ ⟨by omega, by omega⟩).mp (show lI (gcd3 a b d) = lI 0 from q)) (by omega)
  rw [show p0.toNat = (iI p0).toNatClampNeg from en.symm, ← lI_tdiv (inL_abs ga) ⟨by omega, hl⟩ (inL_td ga), ← lI_tdiv (inL_abs gb) ⟨by omega, hl⟩ (inL_td gb), ← lI_tdiv (inL_abs gd) ⟨by omega, hl⟩ (inL_td gd)] at hK
  refine rn_lload_n C d_N_keep_0 rfl ?_
  refine rn_lload C d_N_keep_1 rfl ?_
  refine rn_cS C (c_C_commonDivisor l) mw_C_commonDivisor k_N_51 d_N_keep_3 (Nat.le_of_ble_eq_true rfl) (Nat.le_of_ble_eq_true rfl) ⟨by decide, by decide⟩ ⟨by decide, by decide⟩ ?_
  refine ⟨_, _, rfl, ga, gb, ?_⟩
  refine rn_lload C d_N_keep_6 rfl ?_
  refine rn_cS C (c_C_commonDivisor l) mw_C_commonDivisor k_N_51 d_N_keep_8 (Nat.le_of_ble_eq_true rfl) (Nat.le_of_ble_eq_true rfl) ⟨by decide, by decide⟩ ⟨by decide, by decide⟩ ?_
  refine ⟨_, _, rfl, by simpa using gg, gd, ?_⟩
  show Run p l e _ s m args below meth c z sa D dA _ _ K _ _ _ [.long (lI (gcd3 a b d))] _ _ _
  refine rn_lstore C d_N_keep_11 (by decide) ?_
  refine rn_lload C d_N_keep_13 rfl ?_
  refine rn_lconst C (lI 0) d_N_keep_15 (by decide) ?_
  refine rn_lc_gt C 21 d_N_keep_16 d_N_keep_17 (by decide) (fun _ => ?_) (fun q_16 => absurd ((lI_lt ⟨by omega, by omega⟩ ⟨by omega, hl⟩).mpr g3) q_16)
  refine rn_aload_n C d_N_keep_21 rfl ?_
  refine rn_get C f_N_9 d_N_keep_22 rfl rfl ?_
  refine rn_iload_n C d_N_keep_25 rfl ?_
  refine rn_lload_n C d_N_keep_26 rfl ?_
  refine rn_lload C d_N_keep_27 rfl ?_
  refine rn_ldiv C d_N_keep_29 nz ?_
  refine rn_lastore C d_N_keep_30 rfl vp ?_
  refine rn_aload_n C d_N_keep_31 rfl ?_
  refine rn_get C f_N_15 d_N_keep_32 rfl rfl ?_
  refine rn_iload_n C d_N_keep_35 rfl ?_
  refine rn_lload C d_N_keep_36 rfl ?_
  refine rn_lload C d_N_keep_38 rfl ?_
  refine rn_ldiv C d_N_keep_40 nz ?_
  refine rn_lastore C d_N_keep_41 rfl vp ?_
  refine rn_aload_n C d_N_keep_42 rfl ?_
  refine rn_get C f_N_18 d_N_keep_43 rfl rfl ?_
  refine rn_iload_n C d_N_keep_46 rfl ?_
  refine rn_lload C d_N_keep_47 rfl ?_
  refine rn_lload C d_N_keep_49 rfl ?_
  refine rn_ldiv C d_N_keep_51 nz ?_
  refine rn_lastore C d_N_keep_52 rfl vp ?_
  refine rn_return C rfl d_N_keep_53 ⟨by decide, by decide⟩ ?_
  exact hK

def G_N_fitFreely (av : List Value) (h : ah_H) (K : ah_R → ah_H → Prop) : Prop := ∃ (e0 e1 e2 e3 e4 e5 e6 e7 e8 e9 : ah_E) (rest : ah_H) (fi : Value) (fa fb fd : Nat → Int64) (p n x y xx xy : Int), av = [.ref 10, .int (iI p), .ref 14] ∧ h = e0 :: e1 :: e2 :: e3 :: e4 :: e5 :: e6 :: e7 :: e8 :: e9 :: (.inr (6, [fi, .ref 11, .ref 12, .ref 13])) :: aL 3 fa :: aL 3 fb :: aL 3 fd :: cS (iI n) (lI x) (lI y) (lI xx) (lI xy) :: rest ∧ 0 ≤ p ∧ p < 3 ∧ 0 < n ∧ n ≤ 16 ∧ bL y ∧ bL (n * xy - x * y) ∧ bL (y * xx - x * xy) ∧ bL (n * xx - x * x) ∧ 0 ≤ n * xx - x * x ∧ (n * xx - x * x = 0 → K (.inl none) (e0 :: e1 :: e2 :: e3 :: e4 :: e5 :: e6 :: e7 :: e8 :: e9 :: (.inr (6, [fi, .ref 11, .ref 12, .ref 13])) :: aL 3 (vp_updL fa p.toNat (lI (Int.tdiv (0) (gcd3 0 y n)))) :: aL 3 (vp_updL fb p.toNat (lI (Int.tdiv (y) (gcd3 0 y n)))) :: aL 3 (vp_updL fd p.toNat (lI (Int.tdiv (n) (gcd3 0 y n)))) :: cS (iI n) (lI x) (lI y) (lI xx) (lI xy) :: rest)) ∧ (¬ n * xx - x * x = 0 → K (.inl none) (e0 :: e1 :: e2 :: e3 :: e4 :: e5 :: e6 :: e7 :: e8 :: e9 :: (.inr (6, [fi, .ref 11, .ref 12, .ref 13])) :: aL 3 (vp_updL fa p.toNat (lI (Int.tdiv (n * xy - x * y) (gcd3 (n * xy - x * y) (y * xx - x * xy) (n * xx - x * x))))) :: aL 3 (vp_updL fb p.toNat (lI (Int.tdiv (y * xx - x * xy) (gcd3 (n * xy - x * y) (y * xx - x * xy) (n * xx - x * x))))) :: aL 3 (vp_updL fd p.toNat (lI (Int.tdiv (n * xx - x * x) (gcd3 (n * xy - x * y) (y * xx - x * xy) (n * xx - x * x))))) :: cS (iI n) (lI x) (lI y) (lI xx) (lI xy) :: rest))
set_option maxHeartbeats 4000000 in
set_option maxRecDepth 100000 in
theorem c_N_fitFreely (l : Launch) : rn_Met l y_N_fitFreely wc_N_fitFreely { frames := 4, cells := 0, slots := 0, locals := 80 } G_N_fitFreely := by
  refine rn_in mw_N_fitFreely.1 (by decide +kernel) ?_ ?_
  · intro _ av h K hG
    obtain ⟨e0, e1, e2, e3, e4, e5, e6, e7, e8, e9, rest, fi, fa, fb, fd, p0, n, x, y, xx, xy, rfl, rfl, hp0, hp1, n0, n1, b1, b2, b3, b4, b5, k1, k2⟩ := hG
    exact Nat.le_of_ble_eq_true rfl
  intro p e s m args below meth c z sa D dA av h K hadm C hG
  obtain ⟨e0, e1, e2, e3, e4, e5, e6, e7, e8, e9, rest, fi, fa, fb, fd, p0, n, x, y, xx, xy, rfl, rfl, hp0, hp1, n0, n1, b1, b2, b3, b4, b5, k1, k2⟩ := hG
  have b4' := b4
  unfold bL at b4'
  refine rn_aload_n C d_N_fitFreely_0 rfl ?_
  refine rn_cV C (c_S_freeBelow l) mw_S_freeBelow k_N_21 d_N_fitFreely_1 rfl rfl rfl (Nat.le_of_ble_eq_true rfl) (Nat.le_of_ble_eq_true rfl) ⟨by decide, by decide⟩ ⟨by decide, by decide⟩ ?_
  refine ⟨_, _, _, _, _, _, rfl, rfl, ?_⟩
  rw [iI_toL ⟨by omega, by omega⟩, lI_mul, lI_mul, lI_sub]
  refine rn_lstore_n C d_N_fitFreely_4 (by decide) ?_
  refine rn_lload_n C d_N_fitFreely_5 rfl ?_
  refine rn_lconst C (lI 0) d_N_fitFreely_6 (by decide) ?_
  refine rn_lc_ne C 29 d_N_fitFreely_7 d_N_fitFreely_8 (by decide) (fun c7 => ?_) (fun c7 => ?_)
  · skip
    have z0 : ¬ n * xx - x * x = 0 := fun q => c7 (by rw [q])
    refine rn_aload_n C d_N_fitFreely_29 rfl ?_
    refine rn_iload_n C d_N_fitFreely_30 rfl ?_
    refine rn_aload_n C d_N_fitFreely_31 rfl ?_
    refine rn_cV C (c_S_freeAbove l) mw_S_freeAbove k_N_39 d_N_fitFreely_32 rfl rfl rfl (Nat.le_of_ble_eq_true rfl) (Nat.le_of_ble_eq_true rfl) ⟨by decide, by decide⟩ ⟨by decide, by decide⟩ ?_
    refine ⟨_, _, _, _, _, _, rfl, rfl, ?_⟩
    rw [iI_toL ⟨by omega, by omega⟩, lI_mul, lI_mul, lI_sub]
    refine rn_aload_n C d_N_fitFreely_35 rfl ?_
    refine rn_get C f_N_27 d_N_fitFreely_36 rfl rfl ?_
    refine rn_aload_n C d_N_fitFreely_39 rfl ?_
    refine rn_get C f_N_42 d_N_fitFreely_40 rfl rfl ?_
    refine rn_lmul C d_N_fitFreely_43 ?_
    refine rn_aload_n C d_N_fitFreely_44 rfl ?_
    refine rn_get C f_N_45 d_N_fitFreely_45 rfl rfl ?_
    refine rn_aload_n C d_N_fitFreely_48 rfl ?_
    refine rn_get C f_N_48 d_N_fitFreely_49 rfl rfl ?_
    refine rn_lmul C d_N_fitFreely_52 ?_
    refine rn_lsub C d_N_fitFreely_53 ?_
    refine rn_lload_n C d_N_fitFreely_54 rfl ?_
    rw [lI_mul, lI_mul, lI_sub]
    refine rn_cV C (c_N_keep l) mw_N_keep k_N_35 d_N_fitFreely_55 rfl rfl rfl (Nat.le_of_ble_eq_true rfl) (Nat.le_of_ble_eq_true rfl) ⟨by decide, by decide⟩ ⟨by decide, by decide⟩ ?_
    refine ⟨_, _, _, _, _, _, _, _, _, _, _, _, _, _, _, _, _, _, _, rfl, rfl, hp0, hp1, b2, b3, b4, (by omega), ?_⟩
    refine rn_return C rfl d_N_fitFreely_58 ⟨by decide, by decide⟩ ?_
    first | exact k1 z0 | exact k2 z0
  · skip
    have z0 := (lI_eq ⟨by omega, by omega⟩ ⟨by omega, by omega⟩).mp (show lI (n * xx - x * x) = lI 0 from c7)
    refine rn_aload_n C d_N_fitFreely_11 rfl ?_
    refine rn_iload_n C d_N_fitFreely_12 rfl ?_
    refine rn_lconst C (lI 0) d_N_fitFreely_13 (by decide) ?_
    refine rn_aload_n C d_N_fitFreely_14 rfl ?_
    refine rn_get C f_N_27 d_N_fitFreely_15 rfl rfl ?_
    refine rn_aload_n C d_N_fitFreely_18 rfl ?_
    refine rn_get C f_N_31 d_N_fitFreely_19 rfl rfl ?_
    refine rn_i2l C d_N_fitFreely_22 ?_
    rw [iI_toL ⟨by omega, by omega⟩]
    refine rn_cV C (c_N_keep l) mw_N_keep k_N_35 d_N_fitFreely_23 rfl rfl rfl (Nat.le_of_ble_eq_true rfl) (Nat.le_of_ble_eq_true rfl) ⟨by decide, by decide⟩ ⟨by decide, by decide⟩ ?_
    refine ⟨_, _, _, _, _, _, _, _, _, _, _, _, _, _, _, _, _, _, _, rfl, rfl, hp0, hp1, (by unfold bL; omega), b1, (by unfold bL; omega), n0, ?_⟩
    refine rn_goto C 58 d_N_fitFreely_26 (by decide) ?_
    refine rn_return C rfl d_N_fitFreely_58 ⟨by decide, by decide⟩ ?_
    first | exact k1 z0 | exact k2 z0

def G_N_hold (av : List Value) (h : ah_H) (K : ah_R → ah_H → Prop) : Prop := ∃ (e0 e1 e2 e3 e4 e5 e6 e7 e8 e9 : ah_E) (rest : ah_H) (fi : Value) (fa fb fd : Nat → Int64) (p n x y xx xy u v : Int), av = [.ref 10, .int (iI p), .ref 14, .long (lI u), .long (lI v)] ∧ h = e0 :: e1 :: e2 :: e3 :: e4 :: e5 :: e6 :: e7 :: e8 :: e9 :: (.inr (6, [fi, .ref 11, .ref 12, .ref 13])) :: aL 3 fa :: aL 3 fb :: aL 3 fd :: cS (iI n) (lI x) (lI y) (lI xx) (lI xy) :: rest ∧ 0 ≤ p ∧ p < 3 ∧ bL v ∧ bL xy ∧ bL xx ∧ 0 ≤ xx ∧ bL (xx * v - xy * u) ∧ (xx = 0 → K (.inl none) (e0 :: e1 :: e2 :: e3 :: e4 :: e5 :: e6 :: e7 :: e8 :: e9 :: (.inr (6, [fi, .ref 11, .ref 12, .ref 13])) :: aL 3 (vp_updL fa p.toNat (lI (Int.tdiv (0) (gcd3 0 v 1)))) :: aL 3 (vp_updL fb p.toNat (lI (Int.tdiv (v) (gcd3 0 v 1)))) :: aL 3 (vp_updL fd p.toNat (lI (Int.tdiv (1) (gcd3 0 v 1)))) :: cS (iI n) (lI x) (lI y) (lI xx) (lI xy) :: rest)) ∧ (¬ xx = 0 → K (.inl none) (e0 :: e1 :: e2 :: e3 :: e4 :: e5 :: e6 :: e7 :: e8 :: e9 :: (.inr (6, [fi, .ref 11, .ref 12, .ref 13])) :: aL 3 (vp_updL fa p.toNat (lI (Int.tdiv (xy) (gcd3 xy (xx * v - xy * u) xx)))) :: aL 3 (vp_updL fb p.toNat (lI (Int.tdiv (xx * v - xy * u) (gcd3 xy (xx * v - xy * u) xx)))) :: aL 3 (vp_updL fd p.toNat (lI (Int.tdiv (xx) (gcd3 xy (xx * v - xy * u) xx)))) :: cS (iI n) (lI x) (lI y) (lI xx) (lI xy) :: rest))
set_option maxHeartbeats 4000000 in
set_option maxRecDepth 100000 in
theorem c_N_hold (l : Launch) : rn_Met l y_N_hold wc_N_hold { frames := 4, cells := 0, slots := 0, locals := 80 } G_N_hold := by
  refine rn_in mw_N_hold.1 (by decide +kernel) ?_ ?_
  · intro _ av h K hG
    obtain ⟨e0, e1, e2, e3, e4, e5, e6, e7, e8, e9, rest, fi, fa, fb, fd, p0, n, x, y, xx, xy, u, v, rfl, rfl, hp0, hp1, b1, b2, b3, b4, b5, k1, k2⟩ := hG
    exact Nat.le_of_ble_eq_true rfl
  intro p e s m args below meth c z sa D dA av h K hadm C hG
  obtain ⟨e0, e1, e2, e3, e4, e5, e6, e7, e8, e9, rest, fi, fa, fb, fd, p0, n, x, y, xx, xy, u, v, rfl, rfl, hp0, hp1, b1, b2, b3, b4, b5, k1, k2⟩ := hG
  have b3' := b3
  unfold bL at b3'
  refine rn_aload_n C d_N_hold_0 rfl ?_
  refine rn_get C f_N_42 d_N_hold_1 rfl rfl ?_
  refine rn_lconst C (lI 0) d_N_hold_4 (by decide) ?_
  refine rn_lc_ne C 21 d_N_hold_5 d_N_hold_6 (by decide) (fun c5 => ?_) (fun c5 => ?_)
  · skip
    have z0 : ¬ xx = 0 := fun q => c5 (by rw [q])
    refine rn_aload_n C d_N_hold_21 rfl ?_
    refine rn_iload_n C d_N_hold_22 rfl ?_
    refine rn_aload_n C d_N_hold_23 rfl ?_
    refine rn_get C f_N_48 d_N_hold_24 rfl rfl ?_
    refine rn_aload_n C d_N_hold_27 rfl ?_
    refine rn_get C f_N_42 d_N_hold_28 rfl rfl ?_
    refine rn_lload C d_N_hold_31 rfl ?_
    refine rn_lmul C d_N_hold_33 ?_
    refine rn_aload_n C d_N_hold_34 rfl ?_
    refine rn_get C f_N_48 d_N_hold_35 rfl rfl ?_
    refine rn_lload_n C d_N_hold_38 rfl ?_
    refine rn_lmul C d_N_hold_39 ?_
    refine rn_lsub C d_N_hold_40 ?_
    refine rn_aload_n C d_N_hold_41 rfl ?_
    refine rn_get C f_N_42 d_N_hold_42 rfl rfl ?_
    rw [lI_mul, lI_mul, lI_sub]
    refine rn_cV C (c_N_keep l) mw_N_keep k_N_35 d_N_hold_45 rfl rfl rfl (Nat.le_of_ble_eq_true rfl) (Nat.le_of_ble_eq_true rfl) ⟨by decide, by decide⟩ ⟨by decide, by decide⟩ ?_
    refine ⟨_, _, _, _, _, _, _, _, _, _, _, _, _, _, _, _, _, _, _, rfl, rfl, hp0, hp1, b2, b5, b3, (by omega), ?_⟩
    refine rn_return C rfl d_N_hold_48 ⟨by decide, by decide⟩ ?_
    first | exact k1 z0 | exact k2 z0
  · skip
    have z0 := (lI_eq ⟨by omega, by omega⟩ ⟨by omega, by omega⟩).mp (show lI xx = lI 0 from c5)
    refine rn_aload_n C d_N_hold_9 rfl ?_
    refine rn_iload_n C d_N_hold_10 rfl ?_
    refine rn_lconst C (lI 0) d_N_hold_11 (by decide) ?_
    refine rn_lload C d_N_hold_12 rfl ?_
    refine rn_lconst C (lI 1) d_N_hold_14 (by decide) ?_
    refine rn_cV C (c_N_keep l) mw_N_keep k_N_35 d_N_hold_15 rfl rfl rfl (Nat.le_of_ble_eq_true rfl) (Nat.le_of_ble_eq_true rfl) ⟨by decide, by decide⟩ ⟨by decide, by decide⟩ ?_
    refine ⟨_, _, _, _, _, _, _, _, _, _, _, _, _, _, _, _, _, _, _, rfl, rfl, hp0, hp1, (by unfold bL; omega), b1, (by unfold bL; omega), (by omega), ?_⟩
    refine rn_goto C 48 d_N_hold_18 (by decide) ?_
    refine rn_return C rfl d_N_hold_48 ⟨by decide, by decide⟩ ?_
    first | exact k1 z0 | exact k2 z0

def zOk (n : Int) (to : Nat → Int32) (has : Int → Bool) : Prop := ∀ p, 0 ≤ p → p < n → to p.toNat = if has p then iI 1 else iI 0
def bI (b : Bool) : Int := if b then 1 else 0
theorem bI_in (b : Bool) : 0 ≤ bI b ∧ bI b ≤ 1 := by cases b <;> simp [bI]
theorem sm_has_le (has : Int → Bool) (k : Nat) (i : Int) : 0 ≤ sm (fun p => bI (has p)) i k ∧ sm (fun p => bI (has p)) i k ≤ k := by
  have := sm_le (f := fun p => bI (has p)) (b := 1) k i (fun j _ _ => bI_in _)
  omega
def G_T_countBelow (av : List Value) (h : ah_H) (K : ah_R → ah_H → Prop) : Prop := ∃ (q qt : Nat) (v1 v2 : Value) (to : Nat → Int32) (has : Int → Bool) (n : Nat), av = [.ref q, .int (iI n)] ∧ h[q]? = some (.inr (5, [.ref qt, v1, v2])) ∧ h[qt]? = some (aZ 16 to) ∧ zOk 16 to has ∧ n ≤ 16 ∧ K (.inl (some (.int (iI (sm (fun p => bI (has p)) 0 n))))) h
set_option maxHeartbeats 4000000 in
set_option maxRecDepth 100000 in
theorem c_T_countBelow (l : Launch) : rn_Met l y_T_countBelow wc_T_countBelow { frames := 1, cells := 0, slots := 0, locals := 0 } G_T_countBelow := by
  refine rn_in mw_T_countBelow.1 (by decide +kernel) ?_ ?_
  · intro _ av h K hG
    obtain ⟨q, qt, v1, v2, to, has, n, rfl, h1, h2, hz, hn, hK⟩ := hG
    exact Nat.le_of_ble_eq_true rfl
  intro p e s m args below meth c z sa D dA av h K hadm C hG
  obtain ⟨q, qt, v1, v2, to, has, n, rfl, h1, h2, hz, hn, hK⟩ := hG
  have loop : ∀ (k : Nat) (i a : Int), i + k = n → 0 ≤ i → 0 ≤ a → a ≤ i → a + sm (fun p => bI (has p)) i k = sm (fun p => bI (has p)) 0 n → Run p l e { frames := 1, cells := 0, slots := 0, locals := 0 } s m args below meth c z sa D dA 0 0 K 4 4 [some (.ref q), some (.int (iI n)), some (.int (iI (a))), some (.int (iI (i)))] [] h 0 0 := by
    intro k
    induction k with
    | zero =>
      intro i a hi h0 ha ha2 hs
      rw [sm, Int.add_zero] at hs
      rw [← hs] at hK
      refine rn_iload_n C d_T_countBelow_4 rfl ?_
      refine rn_iload_n C d_T_countBelow_5 rfl ?_
      refine rn_icmp_ge C 33 d_T_countBelow_6 (by decide) (fun _ => ?_) (fun q_6 => absurd ((iI_le ⟨by omega, by omega⟩ ⟨by omega, by omega⟩).mpr (by omega)) q_6)
      refine rn_iload_n C d_T_countBelow_33 rfl ?_
      refine rn_ireturn C rfl rfl d_T_countBelow_34 ⟨by decide, by decide⟩ ?_
      exact hK
    | succ k ih =>
      intro i a hi h0 ha ha2 hs
      rw [sm] at hs
      have hzi := hz i h0 (by omega)
      refine rn_iload_n C d_T_countBelow_4 rfl ?_
      refine rn_iload_n C d_T_countBelow_5 rfl ?_
      refine rn_icmp_ge C 33 d_T_countBelow_6 (by decide) (fun q_6 => absurd q_6 (fun q => absurd ((iI_le ⟨by omega, by omega⟩ ⟨by omega, by omega⟩).mp q) (by omega))) (fun _ => ?_)
      refine rn_iload_n C d_T_countBelow_9 rfl ?_
      refine rn_bipush C (iI 16) d_T_countBelow_10 (by decide) ?_
      refine rn_icmp_ge C 33 d_T_countBelow_12 (by decide) (fun q_12 => absurd q_12 (fun q => absurd ((iI_le ⟨by omega, by omega⟩ ⟨by omega, by omega⟩).mp q) (by omega))) (fun _ => ?_)
      refine rn_aload_n C d_T_countBelow_15 rfl ?_
      refine rn_get C f_T_9 d_T_countBelow_16 (by assumption) (by rfl) ?_
      refine rn_iload_n C d_T_countBelow_19 rfl ?_
      refine rn_zaload C d_T_countBelow_20 (by assumption) (iI_vin h0 (by omega) (by omega)) ?_
      rw [iI_nat h0 (by omega), hzi]
      refine rn_if_eq C 27 d_T_countBelow_21 (by decide) (fun c21 => ?_) (fun c21 => ?_)
      · skip
        refine rn_iinc C _ d_T_countBelow_27 rfl (iI_inc _) (by decide) ?_
        refine rn_goto C 4 d_T_countBelow_30 (by decide) ?_
        have hb : bI (has i) = 0 ∨ bI (has i) = 1 := by cases has i <;> simp [bI]
        cases hc : has i with
        | false =>
          rw [hc] at c21 hs
          first | exact absurd rfl c21 | exact ih (i + 1) a (by omega) (by omega) (by omega) (by omega) (by rw [show bI false = 0 from rfl] at hs; omega)
        | true =>
          rw [hc] at c21 hs
          first | exact absurd c21 (by decide) | exact ih (i + 1) (a + 1) (by omega) (by omega) (by omega) (by omega) (by rw [show bI true = 1 from rfl] at hs; omega)
      · skip
        refine rn_iinc C _ d_T_countBelow_24 rfl (iI_inc _) (by decide) ?_
        refine rn_iinc C _ d_T_countBelow_27 rfl (iI_inc _) (by decide) ?_
        refine rn_goto C 4 d_T_countBelow_30 (by decide) ?_
        have hb : bI (has i) = 0 ∨ bI (has i) = 1 := by cases has i <;> simp [bI]
        cases hc : has i with
        | false =>
          rw [hc] at c21 hs
          first | exact absurd rfl c21 | exact ih (i + 1) a (by omega) (by omega) (by omega) (by omega) (by rw [show bI false = 0 from rfl] at hs; omega)
        | true =>
          rw [hc] at c21 hs
          first | exact absurd c21 (by decide) | exact ih (i + 1) (a + 1) (by omega) (by omega) (by omega) (by omega) (by rw [show bI true = 1 from rfl] at hs; omega)
  refine rn_iconst C (iI 0) d_T_countBelow_0 (by decide) ?_
  refine rn_istore_n C d_T_countBelow_1 (by decide) ?_
  refine rn_iconst C (iI 0) d_T_countBelow_2 (by decide) ?_
  refine rn_istore_n C d_T_countBelow_3 (by decide) ?_
  exact loop n 0 0 (by omega) (by omega) (by omega) (by omega) (by omega)

theorem flag0 {x : Int} (h : x = 0 ∨ x = 1) (q : iI x = 0) : x = 0 := by
  rcases h with h | h
  · exact h
  · rw [h] at q; exact absurd q (by decide)
theorem flag1 {x : Int} (h : x = 0 ∨ x = 1) (q : ¬ iI x = 0) : x = 1 := by
  rcases h with h | h
  · rw [h] at q; exact absurd rfl q
  · exact h
def G_C_line (av : List Value) (h : ah_H) (K : ah_R → ah_H → Prop) : Prop := ∃ (e1 e2 e3 e4 e5 e6 e7 e8 e9 : ah_E) (rest : ah_H) (fa fb fd : Nat → Int64) (fi p x : Int), av = [.ref 0, .int (iI p), .int (iI x)] ∧ h = cC :: e1 :: e2 :: e3 :: e4 :: e5 :: e6 :: e7 :: e8 :: e9 :: cN (iI fi) :: aL 3 fa :: aL 3 fb :: aL 3 fd :: rest ∧ (inI p) ∧ (inI x) ∧ ((fi = 0 ∨ fi = 1)) ∧ (¬ (0 ≤ p ∧ p ≤ 2 ∧ 0 ≤ x ∧ x ≤ 2) → K (.inr h.length) (h ++ [xB])) ∧ ((0 ≤ p ∧ p ≤ 2 ∧ 0 ≤ x ∧ x ≤ 2) → fi = 0 → K (.inr h.length) (h ++ [xS])) ∧ ((0 ≤ p ∧ p ≤ 2 ∧ 0 ≤ x ∧ x ≤ 2) → fi = 1 → K (.inl (some (.long ((if x = 0 then fa else if x = 1 then fb else fd) p.toNat)))) h)
set_option maxHeartbeats 4000000 in
set_option maxRecDepth 100000 in
theorem c_C_line (l : Launch) (hl : l.flags = flags0) : rn_Met l y_C_line wc_C_line rmC G_C_line := by
  refine rn_in mw_C_line.1 (by decide +kernel) ?_ ?_
  · intro _ av h K hG
    obtain ⟨e1, e2, e3, e4, e5, e6, e7, e8, e9, rest, fa, fb, fd, fi, p_, x, rfl, rfl, hc0, hc1, hc2, k1, k2, k3⟩ := hG
    exact Nat.le_of_ble_eq_true rfl
  intro p e s m args below meth c z sa D dA av h K hadm C hG
  have htr := Launch.traces_off hl hadm
  obtain ⟨e1, e2, e3, e4, e5, e6, e7, e8, e9, rest, fa, fb, fd, fi, p_, x, rfl, rfl, hc0, hc1, hc2, k1, k2, k3⟩ := hG
  refine rn_iload_n C d_C_line_0 rfl ?_
  refine rn_cS C (c_C_isPart l) mw_C_isPart k_C_74 d_C_line_1 (Nat.le_of_ble_eq_true rfl) (Nat.le_of_ble_eq_true rfl) ⟨by decide, by decide⟩ ⟨by decide, by decide⟩ ?_
  refine ⟨_, rfl, fun q1 => ?_, fun q1 => ?_⟩
  · skip
    refine rn_if_eq C 16 d_C_line_4 (by decide) (fun q => absurd q (by decide)) (fun _ => ?_)
    refine rn_iload_n C d_C_line_7 rfl ?_
    refine rn_if_lt C 16 d_C_line_8 (by decide) (fun c8 => ?_) (fun c8 => ?_)
    · skip
      refine rn_throw C htr tw_1 (tx := "no such part or number of a line") (by decide +kernel) d_C_line_16 d_C_line_19 d_C_line_20 d_C_line_22 d_C_line_25 (by decide) (Nat.le_of_ble_eq_true rfl) ⟨by decide, by decide⟩ ⟨by decide, by decide⟩ ?_
      simp only [Int32.lt_iff_toInt_lt, Int32.le_iff_toInt_le, ← Int32.toInt_inj, Int32.reduceToInt, iI_toInt hc0, iI_toInt hc1] at q1 c8
      exact k1 (by omega)
    · skip
      refine rn_iload_n C d_C_line_11 rfl ?_
      refine rn_iconst C 2 d_C_line_12 (by decide) ?_
      refine rn_icmp_le C 26 d_C_line_13 (by decide) (fun c13 => ?_) (fun c13 => ?_)
      · skip
        refine rn_aload_n C d_C_line_26 rfl ?_
        refine rn_get C f_C_49 d_C_line_27 rfl rfl ?_
        refine rn_get C f_C_208 d_C_line_30 rfl rfl ?_
        refine rn_if_ne C 46 d_C_line_33 (by decide) (fun c33 => ?_) (fun c33 => ?_)
        · skip
          refine rn_aload_n C d_C_line_46 rfl ?_
          refine rn_get C f_C_49 d_C_line_47 rfl rfl ?_
          refine rn_iload_n C d_C_line_50 rfl ?_
          refine rn_iload_n C d_C_line_51 rfl ?_
          have z1 := flag1 hc2 c33
          simp only [Int32.lt_iff_toInt_lt, Int32.le_iff_toInt_le, ← Int32.toInt_inj, Int32.reduceToInt, iI_toInt hc0, iI_toInt hc1] at q1 c8 c13 c33
          refine rn_cV C (c_N_number l) mw_N_number k_C_215 d_C_line_52 rfl rfl rfl (Nat.le_of_ble_eq_true rfl) (Nat.le_of_ble_eq_true rfl) ⟨by decide, by decide⟩ ⟨by decide, by decide⟩ ?_
          have hk := k3 (by omega) z1
          refine ⟨10, 11, 12, 13, 3, 3, 3, _, _, _, _, _, _, rfl, rfl, rfl, rfl, rfl, (iI_vin (by omega) (by omega) (by omega)), (iI_vin (by omega) (by omega) (by omega)), (iI_vin (by omega) (by omega) (by omega)), fun q => ?_, fun q => ?_, fun q => ?_⟩
          · rw [iI_toInt hc1] at q; rw [if_pos q] at hk; rw [iI_nat (by omega) (by omega)]; exact rn_lreturn C rfl d_C_line_55 ⟨by decide, by decide⟩ hk
          · rw [iI_toInt hc1] at q; rw [if_neg (by omega), if_pos q] at hk; rw [iI_nat (by omega) (by omega)]; exact rn_lreturn C rfl d_C_line_55 ⟨by decide, by decide⟩ hk
          rw [iI_toInt hc1] at q; rw [if_neg q.1, if_neg q.2] at hk; rw [iI_nat (by omega) (by omega)]; exact rn_lreturn C rfl d_C_line_55 ⟨by decide, by decide⟩ hk
        · skip
          refine rn_throw C htr tw_3 (tx := "nothing was fitted") (by decide +kernel) d_C_line_36 d_C_line_39 d_C_line_40 d_C_line_42 d_C_line_45 (by decide) (Nat.le_of_ble_eq_true rfl) ⟨by decide, by decide⟩ ⟨by decide, by decide⟩ ?_
          have z0 := flag0 hc2 c33
          simp only [Int32.lt_iff_toInt_lt, Int32.le_iff_toInt_le, ← Int32.toInt_inj, Int32.reduceToInt, iI_toInt hc0, iI_toInt hc1] at q1 c8 c13 c33
          exact k2 (by omega) z0
      · skip
        refine rn_throw C htr tw_1 (tx := "no such part or number of a line") (by decide +kernel) d_C_line_16 d_C_line_19 d_C_line_20 d_C_line_22 d_C_line_25 (by decide) (Nat.le_of_ble_eq_true rfl) ⟨by decide, by decide⟩ ⟨by decide, by decide⟩ ?_
        simp only [Int32.lt_iff_toInt_lt, Int32.le_iff_toInt_le, ← Int32.toInt_inj, Int32.reduceToInt, iI_toInt hc0, iI_toInt hc1] at q1 c8 c13
        exact k1 (by omega)
  · skip
    refine rn_if_eq C 16 d_C_line_4 (by decide) (fun _ => ?_) (fun q => absurd rfl q)
    refine rn_throw C htr tw_1 (tx := "no such part or number of a line") (by decide +kernel) d_C_line_16 d_C_line_19 d_C_line_20 d_C_line_22 d_C_line_25 (by decide) (Nat.le_of_ble_eq_true rfl) ⟨by decide, by decide⟩ ⟨by decide, by decide⟩ ?_
    simp only [Int32.lt_iff_toInt_lt, Int32.le_iff_toInt_le, ← Int32.toInt_inj, Int32.reduceToInt, iI_toInt hc0, iI_toInt hc1] at q1
    exact k1 (by omega)

/-- the lines kept: once fitted, whole numbers within bounds, the lower one above 0 -/
def lnOk (fi : Int) (fa fb fd : Nat → Int64) (A B D : Int → Int) : Prop := fi = 1 → ∀ p, 0 ≤ p → p < 3 → fa p.toNat = lI (A p) ∧ fb p.toNat = lI (B p) ∧ fd p.toNat = lI (D p) ∧ bL (A p) ∧ bL (B p) ∧ bL (D p) ∧ 0 < D p
def G_C_colour (av : List Value) (h : ah_H) (K : ah_R → ah_H → Prop) : Prop := ∃ (e1 e2 e3 e4 e5 e6 e7 e8 e9 : ah_E) (rest : ah_H) (fa fb fd : Nat → Int64) (A B D : Int → Int) (fi p v : Int), av = [.ref 0, .int (iI p), .int (iI v)] ∧ h = cC :: e1 :: e2 :: e3 :: e4 :: e5 :: e6 :: e7 :: e8 :: e9 :: cN (iI fi) :: aL 3 fa :: aL 3 fb :: aL 3 fd :: rest ∧ (inI p) ∧ (inI v) ∧ ((fi = 0 ∨ fi = 1)) ∧ (lnOk fi fa fb fd A B D) ∧ (¬ (0 ≤ p ∧ p ≤ 2) → K (.inr h.length) (h ++ [xB])) ∧ ((0 ≤ p ∧ p ≤ 2) → ¬ (0 ≤ v ∧ v ≤ 255) → K (.inr h.length) (h ++ [xA])) ∧ ((0 ≤ p ∧ p ≤ 2) → (0 ≤ v ∧ v ≤ 255) → fi = 0 → K (.inr h.length) (h ++ [xS])) ∧ ((0 ≤ p ∧ p ≤ 2) → (0 ≤ v ∧ v ≤ 255) → fi = 1 → K (.inl (some (.int (iI (colI (A p) (B p) (D p) v))))) h)
set_option maxHeartbeats 4000000 in
set_option maxRecDepth 100000 in
theorem c_C_colour (l : Launch) (hl : l.flags = flags0) : rn_Met l y_C_colour wc_C_colour rmC G_C_colour := by
  refine rn_in mw_C_colour.1 (by decide +kernel) ?_ ?_
  · intro _ av h K hG
    obtain ⟨e1, e2, e3, e4, e5, e6, e7, e8, e9, rest, fa, fb, fd, A, B, D_, fi, p_, v, rfl, rfl, hc0, hc1, hc2, hc3, k1, k2, k3, k4⟩ := hG
    exact Nat.le_of_ble_eq_true rfl
  intro p e s m args below meth c z sa D dA av h K hadm C hG
  have htr := Launch.traces_off hl hadm
  obtain ⟨e1, e2, e3, e4, e5, e6, e7, e8, e9, rest, fa, fb, fd, A, B, D_, fi, p_, v, rfl, rfl, hc0, hc1, hc2, hc3, k1, k2, k3, k4⟩ := hG
  refine rn_iload_n C d_C_colour_0 rfl ?_
  refine rn_cS C (c_C_isPart l) mw_C_isPart k_C_74 d_C_colour_1 (Nat.le_of_ble_eq_true rfl) (Nat.le_of_ble_eq_true rfl) ⟨by decide, by decide⟩ ⟨by decide, by decide⟩ ?_
  refine ⟨_, rfl, fun q1 => ?_, fun q1 => ?_⟩
  · skip
    refine rn_if_ne C 17 d_C_colour_4 (by decide) (fun _ => ?_) (fun q => absurd q (by decide))
    refine rn_iload_n C d_C_colour_17 rfl ?_
    refine rn_cS C (c_C_isPartValue l) mw_C_isPartValue k_C_85 d_C_colour_18 (Nat.le_of_ble_eq_true rfl) (Nat.le_of_ble_eq_true rfl) ⟨by decide, by decide⟩ ⟨by decide, by decide⟩ ?_
    refine ⟨_, rfl, fun q18 => ?_, fun q18 => ?_⟩
    · skip
      refine rn_if_ne C 34 d_C_colour_21 (by decide) (fun _ => ?_) (fun q => absurd q (by decide))
      refine rn_aload_n C d_C_colour_34 rfl ?_
      refine rn_get C f_C_49 d_C_colour_35 rfl rfl ?_
      refine rn_get C f_C_208 d_C_colour_38 rfl rfl ?_
      refine rn_if_ne C 54 d_C_colour_41 (by decide) (fun c41 => ?_) (fun c41 => ?_)
      · skip
        refine rn_aload_n C d_C_colour_54 rfl ?_
        refine rn_get C f_C_49 d_C_colour_55 rfl rfl ?_
        refine rn_iload_n C d_C_colour_58 rfl ?_
        refine rn_iload_n C d_C_colour_59 rfl ?_
        have z1 := flag1 hc2 c41
        simp only [Int32.lt_iff_toInt_lt, Int32.le_iff_toInt_le, ← Int32.toInt_inj, Int32.reduceToInt, iI_toInt hc0, iI_toInt hc1] at q1 q18 c41
        refine rn_cV C (c_N_partFrom l) mw_N_partFrom k_C_221 d_C_colour_60 rfl rfl rfl (Nat.le_of_ble_eq_true rfl) (Nat.le_of_ble_eq_true rfl) ⟨by decide, by decide⟩ ⟨by decide, by decide⟩ ?_
        obtain ⟨l1, l2, l3, l4, l5, l6, l7⟩ := hc3 z1 _ (show 0 ≤ p_ by omega) (by omega)
        refine ⟨10, 11, 12, 13, _, _, _, _, p_, v, A p_, B p_, D_ p_, rfl, rfl, rfl, rfl, rfl, by omega, by omega, by omega, by omega, l1, l2, l3, l4, l5, l6, l7, ?_⟩
        refine rn_ireturn C rfl rfl d_C_colour_63 ⟨by decide, by decide⟩ ?_
        exact k4 (by omega) (by omega) z1
      · skip
        refine rn_throw C htr tw_3 (tx := "nothing was fitted") (by decide +kernel) d_C_colour_44 d_C_colour_47 d_C_colour_48 d_C_colour_50 d_C_colour_53 (by decide) (Nat.le_of_ble_eq_true rfl) ⟨by decide, by decide⟩ ⟨by decide, by decide⟩ ?_
        have z0 := flag0 hc2 c41
        simp only [Int32.lt_iff_toInt_lt, Int32.le_iff_toInt_le, ← Int32.toInt_inj, Int32.reduceToInt, iI_toInt hc0, iI_toInt hc1] at q1 q18 c41
        exact k3 (by omega) (by omega) z0
    · skip
      refine rn_if_ne C 34 d_C_colour_21 (by decide) (fun q => absurd rfl q) (fun _ => ?_)
      refine rn_throw C htr tw_2 (tx := "a part is 0 .. 255") (by decide +kernel) d_C_colour_24 d_C_colour_27 d_C_colour_28 d_C_colour_30 d_C_colour_33 (by decide) (Nat.le_of_ble_eq_true rfl) ⟨by decide, by decide⟩ ⟨by decide, by decide⟩ ?_
      simp only [Int32.lt_iff_toInt_lt, Int32.le_iff_toInt_le, ← Int32.toInt_inj, Int32.reduceToInt, iI_toInt hc0, iI_toInt hc1] at q1 q18
      exact k2 (by omega) (by omega)
  · skip
    refine rn_if_ne C 17 d_C_colour_4 (by decide) (fun q => absurd rfl q) (fun _ => ?_)
    refine rn_throw C htr tw_1 (tx := "no such part") (by decide +kernel) d_C_colour_7 d_C_colour_10 d_C_colour_11 d_C_colour_13 d_C_colour_16 (by decide) (Nat.le_of_ble_eq_true rfl) ⟨by decide, by decide⟩ ⟨by decide, by decide⟩ ?_
    simp only [Int32.lt_iff_toInt_lt, Int32.le_iff_toInt_le, ← Int32.toInt_inj, Int32.reduceToInt, iI_toInt hc0, iI_toInt hc1] at q1
    exact k1 (by omega)

theorem char_nar {x : Int} (h0 : 0 ≤ x) (h1 : x < 128) : vp_nar .char ((iI x).toUInt32 % 65536).toInt32 = iI x := by
  obtain ⟨n, rfl⟩ := Int.eq_ofNat_of_zero_le h0
  have hn : n < 128 := by omega
  have hd : ∀ n : Fin 128, ((Int32.ofNat n.val).toUInt32 % 65536).toInt32 = Int32.ofNat n.val := by decide +kernel
  rw [pk_vc, show iI (n : Int) = Int32.ofNat n from (iI_lit n).symm]
  exact hd ⟨n, hn⟩
def G_C_unit (av : List Value) (h : ah_H) (K : ah_R → ah_H → Prop) : Prop := ∃ (e1 e2 e3 e4 e5 e6 e7 e8 e9 e10 e11 e12 e13 e14 : ah_E) (rest : ah_H) (tx : Nat → Int32) (rk sg x : Int), av = [.ref 0, .int (iI x)] ∧ h = cC :: e1 :: e2 :: e3 :: e4 :: e5 :: e6 :: e7 :: e8 :: e9 :: e10 :: e11 :: e12 :: e13 :: e14 :: cR (iI rk) (iI sg) :: aC 20 tx :: rest ∧ (inI x) ∧ (0 ≤ sg ∧ sg ≤ 20) ∧ (¬ (33 ≤ x ∧ x ≤ 126) → K (.inr h.length) (h ++ [xA])) ∧ ((33 ≤ x ∧ x ≤ 126) → sg = 20 → K (.inr h.length) (h ++ [xS])) ∧ ((33 ≤ x ∧ x ≤ 126) → sg < 20 → K (.inl (some (.int (iI (sg + 1))))) (cC :: e1 :: e2 :: e3 :: e4 :: e5 :: e6 :: e7 :: e8 :: e9 :: e10 :: e11 :: e12 :: e13 :: e14 :: cR (iI rk) (iI (sg + 1)) :: aC 20 (upd tx sg.toNat (iI x)) :: rest))
set_option maxHeartbeats 4000000 in
set_option maxRecDepth 100000 in
theorem c_C_unit (l : Launch) (hl : l.flags = flags0) : rn_Met l y_C_unit wc_C_unit rmC G_C_unit := by
  refine rn_in mw_C_unit.1 (by decide +kernel) ?_ ?_
  · intro _ av h K hG
    obtain ⟨e1, e2, e3, e4, e5, e6, e7, e8, e9, e10, e11, e12, e13, e14, rest, tx, rk, sg, x, rfl, rfl, hc0, hc1, k1, k2, k3⟩ := hG
    exact Nat.le_of_ble_eq_true rfl
  intro p e s m args below meth c z sa D dA av h K hadm C hG
  have htr := Launch.traces_off hl hadm
  obtain ⟨e1, e2, e3, e4, e5, e6, e7, e8, e9, e10, e11, e12, e13, e14, rest, tx, rk, sg, x, rfl, rfl, hc0, hc1, k1, k2, k3⟩ := hG
  refine rn_iload_n C d_C_unit_0 rfl ?_
  refine rn_bipush C 33 d_C_unit_1 (by decide) ?_
  refine rn_icmp_lt C 12 d_C_unit_3 (by decide) (fun c3 => ?_) (fun c3 => ?_)
  · skip
    refine rn_throw C htr tw_2 (tx := "a sign is 33 .. 126") (by decide +kernel) d_C_unit_12 d_C_unit_15 d_C_unit_16 d_C_unit_18 d_C_unit_21 (by decide) (Nat.le_of_ble_eq_true rfl) ⟨by decide, by decide⟩ ⟨by decide, by decide⟩ ?_
    simp only [Int32.lt_iff_toInt_lt, Int32.le_iff_toInt_le, ← Int32.toInt_inj, Int32.reduceToInt, iI_toInt hc0] at c3
    exact k1 (by omega)
  · skip
    refine rn_iload_n C d_C_unit_6 rfl ?_
    refine rn_bipush C 126 d_C_unit_7 (by decide) ?_
    refine rn_icmp_le C 22 d_C_unit_9 (by decide) (fun c9 => ?_) (fun c9 => ?_)
    · skip
      refine rn_aload_n C d_C_unit_22 rfl ?_
      refine rn_get C f_C_63 d_C_unit_23 rfl rfl ?_
      refine rn_cV C (c_R_textIsFull l) mw_R_textIsFull k_C_231 d_C_unit_26 rfl rfl rfl (Nat.le_of_ble_eq_true rfl) (Nat.le_of_ble_eq_true rfl) ⟨by decide, by decide⟩ ⟨by decide, by decide⟩ ?_
      refine ⟨_, _, _, _, _, _, _, rfl, rfl, fun q26 => ?_, fun q26 => ?_⟩
      · skip
        refine rn_if_eq C 42 d_C_unit_29 (by decide) (fun q => absurd q (by decide)) (fun _ => ?_)
        refine rn_throw C htr tw_3 (tx := "the text has 20 signs") (by decide +kernel) d_C_unit_32 d_C_unit_35 d_C_unit_36 d_C_unit_38 d_C_unit_41 (by decide) (Nat.le_of_ble_eq_true rfl) ⟨by decide, by decide⟩ ⟨by decide, by decide⟩ ?_
        have hs : (iI sg).toInt = sg := iI_toInt ⟨by omega, by omega⟩
        simp only [Int32.lt_iff_toInt_lt, Int32.le_iff_toInt_le, ← Int32.toInt_inj, Int32.reduceToInt, iI_toInt hc0, hs] at c3 c9 q26
        exact k2 (by omega) (by omega)
      · skip
        refine rn_if_eq C 42 d_C_unit_29 (by decide) (fun _ => ?_) (fun q => absurd rfl q)
        refine rn_aload_n C d_C_unit_42 rfl ?_
        refine rn_get C f_C_63 d_C_unit_43 rfl rfl ?_
        refine rn_iload_n C d_C_unit_46 rfl ?_
        refine rn_i2c C d_C_unit_47 ?_
        have hs : (iI sg).toInt = sg := iI_toInt ⟨by omega, by omega⟩
        simp only [Int32.lt_iff_toInt_lt, Int32.le_iff_toInt_le, ← Int32.toInt_inj, Int32.reduceToInt, iI_toInt hc0, hs] at c3 c9 q26
        have hk := k3 (by omega) (by omega)
        refine rn_cV C (c_R_append l) mw_R_append k_C_237 d_C_unit_48 rfl rfl rfl (Nat.le_of_ble_eq_true rfl) (Nat.le_of_ble_eq_true rfl) ⟨by decide, by decide⟩ ⟨by decide, by decide⟩ ?_
        refine ⟨_, _, _, _, _, _, _, _, _, _, _, _, _, _, _, _, _, _, _, _, _, rfl, rfl, iI_vin (by omega) (by omega) (by omega), ?_⟩
        rw [char_nar (by omega) (by omega), iI_nat (by omega) (by omega), show (1 : Int32) = iI 1 from rfl, iI_add]
        refine rn_ireturn C rfl rfl d_C_unit_51 ⟨by decide, by decide⟩ ?_
        exact hk
    · skip
      refine rn_throw C htr tw_2 (tx := "a sign is 33 .. 126") (by decide +kernel) d_C_unit_12 d_C_unit_15 d_C_unit_16 d_C_unit_18 d_C_unit_21 (by decide) (Nat.le_of_ble_eq_true rfl) ⟨by decide, by decide⟩ ⟨by decide, by decide⟩ ?_
      simp only [Int32.lt_iff_toInt_lt, Int32.le_iff_toInt_le, ← Int32.toInt_inj, Int32.reduceToInt, iI_toInt hc0] at c3 c9
      exact k1 (by omega)

def G_C_day (av : List Value) (h : ah_H) (K : ah_R → ah_H → Prop) : Prop := ∃ (e1 e2 e3 e4 e5 e6 e7 e8 e9 e10 e11 e12 e13 e14 e15 e16 e17 e18 e19 : ah_E) (rest : ah_H) (n x y xx xy d v : Int), av = [.ref 0, .int (iI d), .int (iI v)] ∧ h = cC :: e1 :: e2 :: e3 :: e4 :: e5 :: e6 :: e7 :: e8 :: e9 :: e10 :: e11 :: e12 :: e13 :: e14 :: e15 :: e16 :: e17 :: e18 :: e19 :: cS (iI n) (lI x) (lI y) (lI xx) (lI xy) :: rest ∧ (inI d) ∧ (inI v) ∧ (0 ≤ n ∧ n ≤ 40) ∧ (¬ (0 ≤ d ∧ d ≤ 100000 ∧ 0 ≤ v ∧ v ≤ 1000) → K (.inr h.length) (h ++ [xA])) ∧ ((0 ≤ d ∧ d ≤ 100000 ∧ 0 ≤ v ∧ v ≤ 1000) → n = 40 → K (.inr h.length) (h ++ [xS])) ∧ ((0 ≤ d ∧ d ≤ 100000 ∧ 0 ≤ v ∧ v ≤ 1000) → n < 40 → K (.inl (some (.int (iI (n + 1))))) (cC :: e1 :: e2 :: e3 :: e4 :: e5 :: e6 :: e7 :: e8 :: e9 :: e10 :: e11 :: e12 :: e13 :: e14 :: e15 :: e16 :: e17 :: e18 :: e19 :: cS (iI (n + 1)) (lI (x + d)) (lI (y + v)) (lI (xx + d * d)) (lI (xy + d * v)) :: rest))
set_option maxHeartbeats 4000000 in
set_option maxRecDepth 100000 in
theorem c_C_day (l : Launch) (hl : l.flags = flags0) : rn_Met l y_C_day wc_C_day rmC G_C_day := by
  refine rn_in mw_C_day.1 (by decide +kernel) ?_ ?_
  · intro _ av h K hG
    obtain ⟨e1, e2, e3, e4, e5, e6, e7, e8, e9, e10, e11, e12, e13, e14, e15, e16, e17, e18, e19, rest, n, x, y, xx, xy, d, v, rfl, rfl, hc0, hc1, hc2, k1, k2, k3⟩ := hG
    exact Nat.le_of_ble_eq_true rfl
  intro p e s m args below meth c z sa D dA av h K hadm C hG
  have htr := Launch.traces_off hl hadm
  obtain ⟨e1, e2, e3, e4, e5, e6, e7, e8, e9, e10, e11, e12, e13, e14, e15, e16, e17, e18, e19, rest, n, x, y, xx, xy, d, v, rfl, rfl, hc0, hc1, hc2, k1, k2, k3⟩ := hG
  refine rn_iload_n C d_C_day_0 rfl ?_
  refine rn_if_lt C 22 d_C_day_1 (by decide) (fun c1 => ?_) (fun c1 => ?_)
  · skip
    refine rn_throwW C htr tw_2 (tx := "a day is 0 .. 100000, its value 0 .. 1000") (by decide +kernel) d_C_day_22 d_C_day_25 d_C_day_26 d_C_day_29 d_C_day_32 (by decide) (Nat.le_of_ble_eq_true rfl) ⟨by decide, by decide⟩ ⟨by decide, by decide⟩ ?_
    simp only [Int32.lt_iff_toInt_lt, Int32.le_iff_toInt_le, ← Int32.toInt_inj, Int32.reduceToInt, iI_toInt hc0, iI_toInt hc1] at c1
    exact k1 (by omega)
  · skip
    refine rn_iload_n C d_C_day_4 rfl ?_
    refine rn_ldcw C v_C_259 d_C_day_5 ?_
    refine rn_icmp_gt C 22 d_C_day_8 (by decide) (fun c8 => ?_) (fun c8 => ?_)
    · skip
      refine rn_throwW C htr tw_2 (tx := "a day is 0 .. 100000, its value 0 .. 1000") (by decide +kernel) d_C_day_22 d_C_day_25 d_C_day_26 d_C_day_29 d_C_day_32 (by decide) (Nat.le_of_ble_eq_true rfl) ⟨by decide, by decide⟩ ⟨by decide, by decide⟩ ?_
      simp only [Int32.lt_iff_toInt_lt, Int32.le_iff_toInt_le, ← Int32.toInt_inj, Int32.reduceToInt, iI_toInt hc0, iI_toInt hc1] at c1 c8
      exact k1 (by omega)
    · skip
      refine rn_iload_n C d_C_day_11 rfl ?_
      refine rn_if_lt C 22 d_C_day_12 (by decide) (fun c12 => ?_) (fun c12 => ?_)
      · skip
        refine rn_throwW C htr tw_2 (tx := "a day is 0 .. 100000, its value 0 .. 1000") (by decide +kernel) d_C_day_22 d_C_day_25 d_C_day_26 d_C_day_29 d_C_day_32 (by decide) (Nat.le_of_ble_eq_true rfl) ⟨by decide, by decide⟩ ⟨by decide, by decide⟩ ?_
        simp only [Int32.lt_iff_toInt_lt, Int32.le_iff_toInt_le, ← Int32.toInt_inj, Int32.reduceToInt, iI_toInt hc0, iI_toInt hc1] at c1 c8 c12
        exact k1 (by omega)
      · skip
        refine rn_iload_n C d_C_day_15 rfl ?_
        refine rn_sipush C 1000 d_C_day_16 (by decide) ?_
        refine rn_icmp_le C 33 d_C_day_19 (by decide) (fun c19 => ?_) (fun c19 => ?_)
        · skip
          refine rn_aload_n C d_C_day_33 rfl ?_
          refine rn_get C f_C_67 d_C_day_34 rfl rfl ?_
          refine rn_get C f_C_262 d_C_day_37 rfl rfl ?_
          refine rn_bipush C 40 d_C_day_40 (by decide) ?_
          refine rn_icmp_lt C 56 d_C_day_42 (by decide) (fun c42 => ?_) (fun c42 => ?_)
          · skip
            refine rn_aload_n C d_C_day_56 rfl ?_
            refine rn_get C f_C_67 d_C_day_57 rfl rfl ?_
            refine rn_iload_n C d_C_day_60 rfl ?_
            refine rn_i2l C d_C_day_61 ?_
            refine rn_iload_n C d_C_day_62 rfl ?_
            refine rn_i2l C d_C_day_63 ?_
            have hs : (iI n).toInt = n := iI_toInt ⟨by omega, by omega⟩
            simp only [Int32.lt_iff_toInt_lt, Int32.le_iff_toInt_le, ← Int32.toInt_inj, Int32.reduceToInt, iI_toInt hc0, iI_toInt hc1, hs] at c1 c8 c12 c19 c42
            have hk := k3 (by omega) (by omega)
            rw [iI_toL hc0, iI_toL hc1]
            refine rn_cV C (c_S_add l) mw_S_add k_C_267 d_C_day_64 rfl rfl rfl (Nat.le_of_ble_eq_true rfl) (Nat.le_of_ble_eq_true rfl) ⟨by decide, by decide⟩ ⟨by decide, by decide⟩ ?_
            refine ⟨20, _, _, _, _, _, _, _, rfl, rfl, ?_⟩
            rw [show (1 : Int32) = iI 1 from rfl, iI_add, lI_add, lI_add, lI_mul, lI_mul, lI_add, lI_add]
            refine rn_aload_n C d_C_day_67 rfl ?_
            refine rn_get C f_C_67 d_C_day_68 rfl rfl ?_
            refine rn_get C f_C_262 d_C_day_71 rfl rfl ?_
            refine rn_ireturn C rfl rfl d_C_day_74 ⟨by decide, by decide⟩ ?_
            exact hk
          · skip
            refine rn_throwW C htr tw_3 (tx := "there are 40 days") (by decide +kernel) d_C_day_45 d_C_day_48 d_C_day_49 d_C_day_52 d_C_day_55 (by decide) (Nat.le_of_ble_eq_true rfl) ⟨by decide, by decide⟩ ⟨by decide, by decide⟩ ?_
            have hs : (iI n).toInt = n := iI_toInt ⟨by omega, by omega⟩
            simp only [Int32.lt_iff_toInt_lt, Int32.le_iff_toInt_le, ← Int32.toInt_inj, Int32.reduceToInt, iI_toInt hc0, iI_toInt hc1, hs] at c1 c8 c12 c19 c42
            exact k2 (by omega) (by omega)
        · skip
          refine rn_throwW C htr tw_2 (tx := "a day is 0 .. 100000, its value 0 .. 1000") (by decide +kernel) d_C_day_22 d_C_day_25 d_C_day_26 d_C_day_29 d_C_day_32 (by decide) (Nat.le_of_ble_eq_true rfl) ⟨by decide, by decide⟩ ⟨by decide, by decide⟩ ?_
          simp only [Int32.lt_iff_toInt_lt, Int32.le_iff_toInt_le, ← Int32.toInt_inj, Int32.reduceToInt, iI_toInt hc0, iI_toInt hc1] at c1 c8 c12 c19
          exact k1 (by omega)

def G_C_drift (av : List Value) (h : ah_H) (K : ah_R → ah_H → Prop) : Prop := ∃ (e1 e2 e3 e4 e5 e6 e7 e8 e9 e10 e11 e12 e13 e14 e15 e16 e17 e18 e19 : ah_E) (rest : ah_H) (n x y xx xy t : Int), av = [.ref 0, .int (iI t)] ∧ h = cC :: e1 :: e2 :: e3 :: e4 :: e5 :: e6 :: e7 :: e8 :: e9 :: e10 :: e11 :: e12 :: e13 :: e14 :: e15 :: e16 :: e17 :: e18 :: e19 :: cS (iI n) (lI x) (lI y) (lI xx) (lI xy) :: rest ∧ (inI t) ∧ (0 ≤ n ∧ n ≤ 40) ∧ (((n * xy - x * y).natAbs : Int) < 9223372036854775808) ∧ (((n * xx - x * x).natAbs : Int) < 9223372036854775808) ∧ (¬ (t = 0 ∨ t = 1) → K (.inr h.length) (h ++ [xB])) ∧ ((t = 0 ∨ t = 1) → K (.inl (some (.long (lI (lessI (n * xy - x * y) (n * xx - x * x) t))))) h)
set_option maxHeartbeats 4000000 in
set_option maxRecDepth 100000 in
theorem c_C_drift (l : Launch) (hl : l.flags = flags0) : rn_Met l y_C_drift wc_C_drift rmC G_C_drift := by
  refine rn_in mw_C_drift.1 (by decide +kernel) ?_ ?_
  · intro _ av h K hG
    obtain ⟨e1, e2, e3, e4, e5, e6, e7, e8, e9, e10, e11, e12, e13, e14, e15, e16, e17, e18, e19, rest, n, x, y, xx, xy, t, rfl, rfl, hc0, hc1, hc2, hc3, k1, k2⟩ := hG
    exact Nat.le_of_ble_eq_true rfl
  intro p e s m args below meth c z sa D dA av h K hadm C hG
  have htr := Launch.traces_off hl hadm
  obtain ⟨e1, e2, e3, e4, e5, e6, e7, e8, e9, e10, e11, e12, e13, e14, e15, e16, e17, e18, e19, rest, n, x, y, xx, xy, t, rfl, rfl, hc0, hc1, hc2, hc3, k1, k2⟩ := hG
  refine rn_iload_n C d_C_drift_0 rfl ?_
  refine rn_cS C (c_C_isHalfOfFraction l) mw_C_isHalfOfFraction k_C_153 d_C_drift_1 (Nat.le_of_ble_eq_true rfl) (Nat.le_of_ble_eq_true rfl) ⟨by decide, by decide⟩ ⟨by decide, by decide⟩ ?_
  refine ⟨_, rfl, fun q1 => ?_, fun q1 => ?_⟩
  · skip
    refine rn_if_ne C 18 d_C_drift_4 (by decide) (fun _ => ?_) (fun q => absurd q (by decide))
    refine rn_aload_n C d_C_drift_18 rfl ?_
    refine rn_get C f_C_67 d_C_drift_19 rfl rfl ?_
    refine rn_cV C (c_S_freeAbove l) mw_S_freeAbove k_C_273 d_C_drift_22 rfl rfl rfl (Nat.le_of_ble_eq_true rfl) (Nat.le_of_ble_eq_true rfl) ⟨by decide, by decide⟩ ⟨by decide, by decide⟩ ?_
    refine ⟨20, _, _, _, _, _, rfl, rfl, ?_⟩
    rw [iI_toL ⟨by omega, by omega⟩, lI_mul, lI_mul, lI_sub]
    refine rn_aload_n C d_C_drift_25 rfl ?_
    refine rn_get C f_C_67 d_C_drift_26 rfl rfl ?_
    refine rn_cV C (c_S_freeBelow l) mw_S_freeBelow k_C_276 d_C_drift_29 rfl rfl rfl (Nat.le_of_ble_eq_true rfl) (Nat.le_of_ble_eq_true rfl) ⟨by decide, by decide⟩ ⟨by decide, by decide⟩ ?_
    refine ⟨20, _, _, _, _, _, rfl, rfl, ?_⟩
    rw [iI_toL ⟨by omega, by omega⟩, lI_mul, lI_mul, lI_sub]
    refine rn_iload_n C d_C_drift_32 rfl ?_
    simp only [Int32.lt_iff_toInt_lt, Int32.le_iff_toInt_le, ← Int32.toInt_inj, Int32.reduceToInt, iI_toInt hc0] at q1
    refine rn_cS C (c_C_lessened l) mw_C_lessened k_C_170 d_C_drift_33 (Nat.le_of_ble_eq_true rfl) (Nat.le_of_ble_eq_true rfl) ⟨by decide, by decide⟩ ⟨by decide, by decide⟩ ?_
    refine ⟨_, _, _, rfl, hc2, hc3, (by omega), ?_⟩
    refine rn_lreturn C rfl d_C_drift_36 ⟨by decide, by decide⟩ ?_
    exact k2 (by omega)
  · skip
    refine rn_if_ne C 18 d_C_drift_4 (by decide) (fun q => absurd rfl q) (fun _ => ?_)
    refine rn_throwW C htr tw_1 (tx := "no such part of a fraction") (by decide +kernel) d_C_drift_7 d_C_drift_10 d_C_drift_11 d_C_drift_14 d_C_drift_17 (by decide) (Nat.le_of_ble_eq_true rfl) ⟨by decide, by decide⟩ ⟨by decide, by decide⟩ ?_
    simp only [Int32.lt_iff_toInt_lt, Int32.le_iff_toInt_le, ← Int32.toInt_inj, Int32.reduceToInt, iI_toInt hc0] at q1
    exact k1 (by omega)

def G_C_count (av : List Value) (h : ah_H) (K : ah_R → ah_H → Prop) : Prop := ∃ (e2 e3 e4 e5 e6 e9 e10 e11 e12 e13 e14 e16 e17 e18 e19 : ah_E) (rest : ah_H) (w g rk sg n t : Int) (nt x y xx xy : Value) (to : Nat → Int32) (has : Int → Bool), av = [.ref 0, .int (iI t)] ∧ h = cC :: cI (iI w) (iI g) :: e2 :: e3 :: e4 :: e5 :: e6 :: (.inr (5, [.ref 8, .ref 9, nt])) :: aZ 16 to :: e9 :: e10 :: e11 :: e12 :: e13 :: e14 :: cR (iI rk) (iI sg) :: e16 :: e17 :: e18 :: e19 :: (.inr (7, [.int (iI n), x, y, xx, xy])) :: rest ∧ (inI t) ∧ (zOk 16 to has) ∧ (¬ (0 ≤ t ∧ t ≤ 5) → K (.inr h.length) (h ++ [xB])) ∧ (t = 0 → K (.inl (some (.int (iI (w))))) h) ∧ (t = 1 → K (.inl (some (.int (iI (g))))) h) ∧ (t = 2 → K (.inl (some (.int (iI (sm (fun p => bI (has p)) 0 16))))) h) ∧ (t = 3 → K (.inl (some (.int (iI (rk))))) h) ∧ (t = 4 → K (.inl (some (.int (iI (n))))) h) ∧ (t = 5 → K (.inl (some (.int (iI (sg))))) h)
set_option maxHeartbeats 4000000 in
set_option maxRecDepth 100000 in
theorem c_C_count (l : Launch) (hl : l.flags = flags0) : rn_Met l y_C_count wc_C_count rmC G_C_count := by
  refine rn_in mw_C_count.1 (by decide +kernel) ?_ ?_
  · intro _ av h K hG
    obtain ⟨e2, e3, e4, e5, e6, e9, e10, e11, e12, e13, e14, e16, e17, e18, e19, rest, w, g, rk, sg, n, t, nt, x, y, xx, xy, to, has, rfl, rfl, hc0, hc1, k1, k2, k3, k4, k5, k6, k7⟩ := hG
    exact Nat.le_of_ble_eq_true rfl
  intro p e s m args below meth c z sa D dA av h K hadm C hG
  have htr := Launch.traces_off hl hadm
  obtain ⟨e2, e3, e4, e5, e6, e9, e10, e11, e12, e13, e14, e16, e17, e18, e19, rest, w, g, rk, sg, n, t, nt, x, y, xx, xy, to, has, rfl, rfl, hc0, hc1, k1, k2, k3, k4, k5, k6, k7⟩ := hG
  refine rn_iload_n C d_C_count_0 rfl ?_
  by_cases t1 : (iI t).toInt < 0 ∨ 5 < (iI t).toInt
  · refine rn_tableOut C 90 d_C_count_1 t1 (by decide) ?_
    refine rn_throwW C htr tw_1 (tx := "no such count") (by decide +kernel) d_C_count_90 d_C_count_93 d_C_count_94 d_C_count_97 d_C_count_100 (by decide) (Nat.le_of_ble_eq_true rfl) ⟨by decide, by decide⟩ ⟨by decide, by decide⟩ ?_
    rw [iI_toInt hc0] at t1
    exact k1 (by omega)
  · rcases (by omega : (iI t).toInt = 0 ∨ (iI t).toInt = 1 ∨ (iI t).toInt = 2 ∨ (iI t).toInt = 3 ∨ (iI t).toInt = 4 ∨ (iI t).toInt = 5) with s1 | s1 | s1 | s1 | s1 | s1
    · refine rn_tableIn C 40 d_C_count_1 (by omega) (by omega) (by rw [s1]; rfl) (by decide) ?_
      refine rn_aload_n C d_C_count_40 rfl ?_
      refine rn_get C f_C_12 d_C_count_41 rfl rfl ?_
      refine rn_get C f_C_279 d_C_count_44 rfl rfl ?_
      refine rn_ireturn C rfl rfl d_C_count_47 ⟨by decide, by decide⟩ ?_
      rw [iI_toInt hc0] at s1
      exact k2 s1
    · refine rn_tableIn C 48 d_C_count_1 (by omega) (by omega) (by rw [s1]; rfl) (by decide) ?_
      refine rn_aload_n C d_C_count_48 rfl ?_
      refine rn_get C f_C_12 d_C_count_49 rfl rfl ?_
      refine rn_get C f_C_282 d_C_count_52 rfl rfl ?_
      refine rn_ireturn C rfl rfl d_C_count_55 ⟨by decide, by decide⟩ ?_
      rw [iI_toInt hc0] at s1
      exact k3 s1
    · refine rn_tableIn C 56 d_C_count_1 (by omega) (by omega) (by rw [s1]; rfl) (by decide) ?_
      refine rn_aload_n C d_C_count_56 rfl ?_
      refine rn_get C f_C_42 d_C_count_57 rfl rfl ?_
      refine rn_bipush C 16 d_C_count_60 (by decide) ?_
      refine rn_cV C (c_T_countBelow l) mw_T_countBelow k_C_202 d_C_count_62 rfl rfl rfl (Nat.le_of_ble_eq_true rfl) (Nat.le_of_ble_eq_true rfl) ⟨by decide, by decide⟩ ⟨by decide, by decide⟩ ?_
      refine ⟨7, 8, _, _, to, has, 16, rfl, rfl, rfl, hc1, by omega, ?_⟩
      refine rn_ireturn C rfl rfl d_C_count_65 ⟨by decide, by decide⟩ ?_
      rw [iI_toInt hc0] at s1
      exact k4 s1
    · refine rn_tableIn C 66 d_C_count_1 (by omega) (by omega) (by rw [s1]; rfl) (by decide) ?_
      refine rn_aload_n C d_C_count_66 rfl ?_
      refine rn_get C f_C_63 d_C_count_67 rfl rfl ?_
      refine rn_get C f_C_285 d_C_count_70 rfl rfl ?_
      refine rn_ireturn C rfl rfl d_C_count_73 ⟨by decide, by decide⟩ ?_
      rw [iI_toInt hc0] at s1
      exact k5 s1
    · refine rn_tableIn C 74 d_C_count_1 (by omega) (by omega) (by rw [s1]; rfl) (by decide) ?_
      refine rn_aload_n C d_C_count_74 rfl ?_
      refine rn_get C f_C_67 d_C_count_75 rfl rfl ?_
      refine rn_get C f_C_262 d_C_count_78 rfl rfl ?_
      refine rn_ireturn C rfl rfl d_C_count_81 ⟨by decide, by decide⟩ ?_
      rw [iI_toInt hc0] at s1
      exact k6 s1
    · refine rn_tableIn C 82 d_C_count_1 (by omega) (by omega) (by rw [s1]; rfl) (by decide) ?_
      refine rn_aload_n C d_C_count_82 rfl ?_
      refine rn_get C f_C_63 d_C_count_83 rfl rfl ?_
      refine rn_get C f_C_288 d_C_count_86 rfl rfl ?_
      refine rn_ireturn C rfl rfl d_C_count_89 ⟨by decide, by decide⟩ ?_
      rw [iI_toInt hc0] at s1
      exact k7 s1

