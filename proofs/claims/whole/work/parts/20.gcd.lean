/-! Euclid, fractions, nearest. Laid by wip/whole/gen_c6.py. -/
/-- Euclid comes to its end within k steps -/
def eu : Nat → Nat → Nat → Prop
  | 0, _, y => y = 0
  | k + 1, x, y => y = 0 ∨ eu k y (x % y)
theorem eu_up : ∀ (k x y : Nat), eu k x y → eu (k + 1) x y
  | 0, x, y, h => Or.inl h
  | k + 1, x, y, h => h.elim Or.inl (fun h => Or.inr (eu_up k y (x % y) h))
theorem eu_of : ∀ (n x y : Nat), y < 2 ^ n → eu (2 * n) x y
  | 0, x, y, h => by simp at h; exact h
  | n + 1, x, y, h => by
    show eu (2 * n + 1 + 1) x y
    by_cases hy : y = 0
    · exact Or.inl hy
    refine Or.inr ?_
    by_cases hr : x % y = 0
    · exact Or.inl hr
    refine Or.inr (eu_of n _ _ ?_)
    have h1 : x % y < y := Nat.mod_lt _ (by omega)
    have h2 : y % (x % y) < x % y := Nat.mod_lt _ (by omega)
    have h3 : y = (x % y) * (y / (x % y)) + y % (x % y) := (Nat.div_add_mod y (x % y)).symm
    have h4 : 1 ≤ y / (x % y) := Nat.div_pos (by omega) (by omega)
    have h5 : x % y ≤ (x % y) * (y / (x % y)) := Nat.le_mul_of_pos_right _ h4
    have h6 : 2 ^ (n + 1) = 2 * 2 ^ n := by rw [Nat.pow_succ]; omega
    omega
theorem gcd_step (x y : Nat) : Nat.gcd y (x % y) = Nat.gcd x y := by rw [Nat.gcd_comm x y, Nat.gcd_rec y x, Nat.gcd_comm]
theorem lI_rem {x y : Nat} (hx : (x : Int) < 9223372036854775808) (hy : (y : Int) < 9223372036854775808) (h0 : ¬ y = 0) : lI x - lI x / lI y * lI y = lI ((x % y : Nat) : Int) := by
  rw [lI_div (by omega) hx (by omega) hy, lI_mul, lI_sub]
  congr 1
  have := Int.emod_add_mul_ediv (x : Int) (y : Int)
  have h2 : (y : Int) * ((x : Int) / y) = (x : Int) / y * y := Int.mul_comm _ _
  have h3 : ((x % y : Nat) : Int) = (x : Int) % y := Int.natCast_emod x y
  omega
theorem lFloor_I {a b : Int} (ha : inL a) (hb : inL b) (h0 : 0 < b) : lFloor (lI a) (lI b) = lI (a / b) := by
  have hs : (0 ≤ (lI a) ^^^ (lI b)) ↔ 0 ≤ a := by
    have e1 : ∀ x : Int64, (0 ≤ x) ↔ x.toBitVec.msb = false := by
      intro x
      rw [Int64.le_iff_toInt_le, BitVec.msb_eq_toInt]
      show (0 : Int64).toInt ≤ x.toInt ↔ decide (x.toBitVec.toInt < 0) = false
      rw [show (0 : Int64).toInt = 0 by decide, show x.toBitVec.toInt = x.toInt from rfl]
      simp
    have hy : (lI b).toBitVec.msb = false := (e1 _).mp (by rw [show (0 : Int64) = lI 0 from lI_lit 0]; exact (lI_le ⟨by omega, by omega⟩ hb).mpr (by omega))
    rw [e1, Int64.toBitVec_xor, BitVec.msb_xor, hy, Bool.xor_false, ← e1, show (0 : Int64) = lI 0 from lI_lit 0, lI_le ⟨by omega, by omega⟩ ha]
  have hd : inL (a.tdiv b) := by
    have := Int.natAbs_tdiv_le_natAbs a b
    obtain ⟨h1, h2⟩ := ha
    by_cases h : 0 ≤ a
    · have := Int.tdiv_nonneg h (Int.le_of_lt h0)
      exact ⟨by omega, by omega⟩
    · have : a.tdiv b ≤ 0 := by have := Int.tdiv_nonneg (a := -a) (b := b) (by omega) (by omega); rw [Int.neg_tdiv] at this; omega
      exact ⟨by omega, by omega⟩
  unfold lFloor
  rw [lI_tdiv ha hb hd]
  by_cases h : 0 ≤ a
  · rw [if_pos (hs.mpr h), Int.tdiv_eq_ediv_of_nonneg h]
  · rw [if_neg (fun q => h (hs.mp q)), lI_mul]
    have e : a.tdiv b = a / b + (if 0 ≤ a ∨ b ∣ a then 0 else b.sign) := Int.tdiv_eq_ediv
    have hm : inL (a.tdiv b * b) := by
      have h1 := Int.tmod_add_mul_tdiv a b
      have h2 : b * a.tdiv b = a.tdiv b * b := Int.mul_comm _ _
      have h3 : a.tdiv b ≤ 0 := by have := Int.tdiv_nonneg (a := -a) (b := b) (by omega) (by omega); rw [Int.neg_tdiv] at this; omega
      have h4 : a.tmod b ≤ 0 := by have := Int.tmod_nonneg (a := -a) b (by omega); rw [Int.neg_tmod] at this; omega
      have h5 : a.tdiv b * b ≤ 0 := Int.mul_nonpos_of_nonpos_of_nonneg h3 (by omega)
      obtain ⟨h6, h7⟩ := ha
      exact ⟨by omega, by omega⟩
    by_cases hdv : b ∣ a
    · rw [if_pos (Or.inr hdv), Int.add_zero] at e
      rw [if_pos (by rw [e, Int.ediv_mul_cancel hdv]), e]
    · rw [if_neg (by intro q; rcases q with q | q; exact h q; exact hdv q), Int.sign_eq_one_of_pos h0] at e
      have hne : ¬ lI (a.tdiv b * b) = lI a := by
        rw [lI_eq hm ha]
        intro q
        exact hdv ⟨a.tdiv b, by rw [Int.mul_comm]; exact q.symm⟩
      rw [if_neg hne, show (1 : Int64) = lI 1 from lI_lit 1, lI_sub, e]
      congr 1
      omega
def G_C_commonDivisor (av : List Value) (h : ah_H) (K : ah_R → ah_H → Prop) : Prop := ∃ (a b : Int), av = [.long (lI a), .long (lI b)] ∧ (a.natAbs : Int) < 9223372036854775808 ∧ (b.natAbs : Int) < 9223372036854775808 ∧ K (.inl (some (.long (lI (Int.gcd a b : Int))))) h
def G_M_divisor (av : List Value) (h : ah_H) (K : ah_R → ah_H → Prop) : Prop := ∃ (a b : Int), av = [.long (lI a), .long (lI b)] ∧ (a.natAbs : Int) < 9223372036854775808 ∧ (b.natAbs : Int) < 9223372036854775808 ∧ K (.inl (some (.long (lI (Int.gcd a b : Int))))) h
set_option maxHeartbeats 4000000 in
set_option maxRecDepth 100000 in
theorem c_C_commonDivisor (l : Launch) : rn_Met l y_C_commonDivisor wc_C_commonDivisor { frames := 2, cells := 0, slots := 0, locals := 21 } G_C_commonDivisor := by
  refine rn_in mw_C_commonDivisor.1 (by decide +kernel) ?_ ?_
  · intro _ av h K hG
    obtain ⟨a, b, rfl, ha, hb, hK⟩ := hG
    exact Nat.le_of_ble_eq_true rfl
  intro p e s m args below meth c z sa D dA av h K hadm C hG
  obtain ⟨a, b, rfl, ha, hb, hK⟩ := hG
  have hy2 : b.natAbs < 2 ^ 63 := by omega
  have loop : ∀ (k x y : Nat) (i : Int), eu k x y → 0 ≤ i → i + k ≤ 200 → (x : Int) < 9223372036854775808 → (y : Int) < 9223372036854775808 → Nat.gcd x y = Int.gcd a b → Run p l e { frames := 2, cells := 0, slots := 0, locals := 21 } s m args below meth c z sa D dA 0 0 K 11 15 [some (.long (lI a)), none, some (.long (lI b)), none, some (.long (lI (x : Nat))), none, some (.long (lI (y : Nat))), none, some (.int (iI i))] [] h 0 0 := by
    intro k
    induction k with
    | zero =>
      intro x y i he h0 h1 hx hy hg
      have he' : y = 0 := he
      subst he'
      have hx' : x = Int.gcd a b := by rw [← hg, Nat.gcd_zero_right]
      rw [← hx'] at hK
      refine rn_iload C d_C_commonDivisor_15 rfl ?_
      refine rn_sipush C (iI 200) d_C_commonDivisor_17 (by decide) ?_
      refine rn_icmp_ge C 51 d_C_commonDivisor_20 (by decide) (fun c20 => ?_) (fun c20 => ?_)
      · skip
        refine rn_lload C d_C_commonDivisor_51 rfl ?_
        refine rn_lreturn C rfl d_C_commonDivisor_53 ⟨by decide, by decide⟩ ?_
        exact hK
      · skip
        refine rn_lload C d_C_commonDivisor_23 rfl ?_
        refine rn_lconst C (lI 0) d_C_commonDivisor_25 (by decide) ?_
        refine rn_lc_eq C 51 d_C_commonDivisor_26 d_C_commonDivisor_27 (by decide) (fun _ => ?_) (fun q_26 => absurd (rfl) q_26)
        refine rn_lload C d_C_commonDivisor_51 rfl ?_
        refine rn_lreturn C rfl d_C_commonDivisor_53 ⟨by decide, by decide⟩ ?_
        exact hK
    | succ k ih =>
      intro x y i he h0 h1 hx hy hg
      refine rn_iload C d_C_commonDivisor_15 rfl ?_
      refine rn_sipush C (iI 200) d_C_commonDivisor_17 (by decide) ?_
      refine rn_icmp_ge C 51 d_C_commonDivisor_20 (by decide) (fun q_20 => absurd q_20 (fun q => absurd ((iI_le ⟨by omega, by omega⟩ ⟨by omega, by omega⟩).mp q) (by omega))) (fun _ => ?_)
      refine rn_lload C d_C_commonDivisor_23 rfl ?_
      refine rn_lconst C (lI 0) d_C_commonDivisor_25 (by decide) ?_
      refine rn_lc_eq C 51 d_C_commonDivisor_26 d_C_commonDivisor_27 (by decide) (fun c26 => ?_) (fun c26 => ?_)
      · skip
        refine rn_lload C d_C_commonDivisor_51 rfl ?_
        refine rn_lreturn C rfl d_C_commonDivisor_53 ⟨by decide, by decide⟩ ?_
        have hy0 : y = 0 := by have := (lI_eq (a := (y : Int)) (b := 0) ⟨by omega, by omega⟩ ⟨by omega, by omega⟩).mp c26; omega
        subst hy0
        rw [← hg, Nat.gcd_zero_right] at hK
        exact hK
      · skip
        have hy0 : ¬ y = 0 := fun q => c26 (by rw [q]; rfl)
        have he' := he.resolve_left hy0
        have hm : x % y < y := Nat.mod_lt _ (by omega)
        refine rn_lload C d_C_commonDivisor_30 rfl ?_
        refine rn_lload C d_C_commonDivisor_32 rfl ?_
        refine rn_lrem C d_C_commonDivisor_34 (fun q => hy0 (by have := (lI_eq (a := (y : Int)) (b := 0) ⟨by omega, by omega⟩ ⟨by omega, by omega⟩).mp q; omega)) ?_
        rw [lI_rem hx hy hy0]
        refine rn_lstore C d_C_commonDivisor_35 (by decide) ?_
        refine rn_lload C d_C_commonDivisor_37 rfl ?_
        refine rn_lstore C d_C_commonDivisor_39 (by decide) ?_
        refine rn_lload C d_C_commonDivisor_41 rfl ?_
        refine rn_lstore C d_C_commonDivisor_43 (by decide) ?_
        refine rn_iinc C _ d_C_commonDivisor_45 rfl (iI_inc _) (by decide) ?_
        refine rn_goto C 15 d_C_commonDivisor_48 (by decide) ?_
        refine rn_weak (lv' := [some (.long (lI a)), none, some (.long (lI b)), none, some (.long (lI (y : Nat))), none, some (.long (lI ((x % y) : Nat))), none, some (.int (iI (i + 1)))]) ⟨rfl, rfl, rfl, rfl, rfl, trivial⟩ ?_
        exact ih y (x % y) (i + 1) he' (by omega) (by omega) hy (by omega) ((gcd_step x y).trans hg)
  refine rn_lload_n C d_C_commonDivisor_0 rfl ?_
  refine rn_cS C (c_J_absl l) mw_J_absl k_C_331 d_C_commonDivisor_1 (Nat.le_of_ble_eq_true rfl) (Nat.le_of_ble_eq_true rfl) ⟨by decide, by decide⟩ ⟨by decide, by decide⟩ ?_
  refine ⟨_, rfl, ?_⟩
  rw [lAbs_I ⟨by omega, by omega⟩]
  refine rn_lstore C d_C_commonDivisor_4 (by decide) ?_
  refine rn_lload_n C d_C_commonDivisor_6 rfl ?_
  refine rn_cS C (c_J_absl l) mw_J_absl k_C_331 d_C_commonDivisor_7 (Nat.le_of_ble_eq_true rfl) (Nat.le_of_ble_eq_true rfl) ⟨by decide, by decide⟩ ⟨by decide, by decide⟩ ?_
  refine ⟨_, rfl, ?_⟩
  rw [lAbs_I ⟨by omega, by omega⟩]
  refine rn_lstore C d_C_commonDivisor_10 (by decide) ?_
  refine rn_iconst C (iI 0) d_C_commonDivisor_12 (by decide) ?_
  refine rn_istore C d_C_commonDivisor_13 (by decide) ?_
  exact loop 126 a.natAbs b.natAbs 0 (eu_of 63 _ _ hy2) (by omega) (by omega) ha hb rfl

set_option maxHeartbeats 4000000 in
set_option maxRecDepth 100000 in
theorem c_M_divisor (l : Launch) : rn_Met l y_M_divisor wc_M_divisor { frames := 1, cells := 0, slots := 0, locals := 0 } G_M_divisor := by
  refine rn_in mw_M_divisor.1 (by decide +kernel) ?_ ?_
  · intro _ av h K hG
    obtain ⟨a, b, rfl, ha, hb, hK⟩ := hG
    exact Nat.le_of_ble_eq_true rfl
  intro p e s m args below meth c z sa D dA av h K hadm C hG
  obtain ⟨a, b, rfl, ha, hb, hK⟩ := hG
  have hy2 : b.natAbs < 2 ^ 63 := by omega
  have loop : ∀ (k x y : Nat), eu k x y → (x : Int) < 9223372036854775808 → (y : Int) < 9223372036854775808 → Nat.gcd x y = Int.gcd a b → Run p l e { frames := 1, cells := 0, slots := 0, locals := 0 } s m args below meth c z sa D dA 0 0 K 10 30 [some (.long (lI a)), none, some (.long (lI b)), none, some (.long (lI (x : Nat))), none, some (.long (lI (y : Nat))), none] [] h 0 0 := by
    intro k
    induction k with
    | zero =>
      intro x y he hx hy hg
      have he' : y = 0 := he
      subst he'
      have hx' : x = Int.gcd a b := by rw [← hg, Nat.gcd_zero_right]
      rw [← hx'] at hK
      refine rn_lload C d_M_divisor_30 rfl ?_
      refine rn_lconst C (lI 0) d_M_divisor_32 (by decide) ?_
      refine rn_lc_eq C 55 d_M_divisor_33 d_M_divisor_34 (by decide) (fun _ => ?_) (fun q_33 => absurd (rfl) q_33)
      refine rn_lload C d_M_divisor_55 rfl ?_
      refine rn_lreturn C rfl d_M_divisor_57 ⟨by decide, by decide⟩ ?_
      exact hK
    | succ k ih =>
      intro x y he hx hy hg
      refine rn_lload C d_M_divisor_30 rfl ?_
      refine rn_lconst C (lI 0) d_M_divisor_32 (by decide) ?_
      refine rn_lc_eq C 55 d_M_divisor_33 d_M_divisor_34 (by decide) (fun c33 => ?_) (fun c33 => ?_)
      · skip
        refine rn_lload C d_M_divisor_55 rfl ?_
        refine rn_lreturn C rfl d_M_divisor_57 ⟨by decide, by decide⟩ ?_
        have hy0 : y = 0 := by have := (lI_eq (a := (y : Int)) (b := 0) ⟨by omega, by omega⟩ ⟨by omega, by omega⟩).mp c33; omega
        subst hy0
        rw [← hg, Nat.gcd_zero_right] at hK
        exact hK
      · skip
        have hy0 : ¬ y = 0 := fun q => c33 (by rw [q]; rfl)
        have he' := he.resolve_left hy0
        have hm : x % y < y := Nat.mod_lt _ (by omega)
        refine rn_lload C d_M_divisor_37 rfl ?_
        refine rn_lload C d_M_divisor_39 rfl ?_
        refine rn_lrem C d_M_divisor_41 (fun q => hy0 (by have := (lI_eq (a := (y : Int)) (b := 0) ⟨by omega, by omega⟩ ⟨by omega, by omega⟩).mp q; omega)) ?_
        rw [lI_rem hx hy hy0]
        refine rn_lstore C d_M_divisor_42 (by decide) ?_
        refine rn_lload C d_M_divisor_44 rfl ?_
        refine rn_lstore C d_M_divisor_46 (by decide) ?_
        refine rn_lload C d_M_divisor_48 rfl ?_
        refine rn_lstore C d_M_divisor_50 (by decide) ?_
        refine rn_goto C 30 d_M_divisor_52 (by decide) ?_
        refine rn_weak (lv' := [some (.long (lI a)), none, some (.long (lI b)), none, some (.long (lI (y : Nat))), none, some (.long (lI ((x % y) : Nat))), none]) ⟨rfl, rfl, rfl, rfl, trivial⟩ ?_
        exact ih y (x % y) he' hy (by omega) ((gcd_step x y).trans hg)
  have zl : lI 0 = lI 0 := rfl
  refine rn_lload_n C d_M_divisor_0 rfl ?_
  refine rn_lconst C (lI 0) d_M_divisor_1 (by decide) ?_
  refine rn_lc_ge C 12 d_M_divisor_2 d_M_divisor_3 (by decide) (fun c2 => ?_) (fun c2 => ?_)
  · skip
    have ea : a = (a.natAbs : Int) := by have := (lI_le ⟨by omega, by omega⟩ ⟨by omega, by omega⟩).mp c2; omega
    refine rn_lload_n C d_M_divisor_12 rfl ?_
    refine rn_lstore C d_M_divisor_13 (by decide) ?_
    refine rn_lload_n C d_M_divisor_15 rfl ?_
    refine rn_lconst C (lI 0) d_M_divisor_16 (by decide) ?_
    refine rn_lc_ge C 27 d_M_divisor_17 d_M_divisor_18 (by decide) (fun c17 => ?_) (fun c17 => ?_)
    · skip
      have eb : b = (b.natAbs : Int) := by have := (lI_le ⟨by omega, by omega⟩ ⟨by omega, by omega⟩).mp c17; omega
      refine rn_lload_n C d_M_divisor_27 rfl ?_
      refine rn_lstore C d_M_divisor_28 (by decide) ?_
      refine rn_weak (lv' := [some (.long (lI a)), none, some (.long (lI b)), none, some (.long (lI (a.natAbs : Nat))), none, some (.long (lI (b.natAbs : Nat))), none]) ⟨rfl, rfl, by first | rfl | rw [← ea], by first | rfl | rw [← eb], trivial⟩ ?_
      exact loop 126 a.natAbs b.natAbs (eu_of 63 _ _ hy2) ha hb rfl
    · skip
      refine rn_lconst C (lI 0) d_M_divisor_21 (by decide) ?_
      refine rn_lload_n C d_M_divisor_22 rfl ?_
      refine rn_lsub C d_M_divisor_23 ?_
      have eb : lI 0 - lI b = lI (b.natAbs : Int) := by rw [lI_sub]; congr 1; have : ¬ 0 ≤ b := fun q => c17 ((lI_le ⟨by omega, by omega⟩ ⟨by omega, by omega⟩).mpr q); omega
      rw [eb]
      refine rn_goto C 28 d_M_divisor_24 (by decide) ?_
      refine rn_lstore C d_M_divisor_28 (by decide) ?_
      refine rn_weak (lv' := [some (.long (lI a)), none, some (.long (lI b)), none, some (.long (lI (a.natAbs : Nat))), none, some (.long (lI (b.natAbs : Nat))), none]) ⟨rfl, rfl, by first | rfl | rw [← ea], by first | rfl | rw [← eb], trivial⟩ ?_
      exact loop 126 a.natAbs b.natAbs (eu_of 63 _ _ hy2) ha hb rfl
  · skip
    refine rn_lconst C (lI 0) d_M_divisor_6 (by decide) ?_
    refine rn_lload_n C d_M_divisor_7 rfl ?_
    refine rn_lsub C d_M_divisor_8 ?_
    have ea : lI 0 - lI a = lI (a.natAbs : Int) := by rw [lI_sub]; congr 1; have : ¬ 0 ≤ a := fun q => c2 ((lI_le ⟨by omega, by omega⟩ ⟨by omega, by omega⟩).mpr q); omega
    rw [ea]
    refine rn_goto C 13 d_M_divisor_9 (by decide) ?_
    refine rn_lstore C d_M_divisor_13 (by decide) ?_
    refine rn_lload_n C d_M_divisor_15 rfl ?_
    refine rn_lconst C (lI 0) d_M_divisor_16 (by decide) ?_
    refine rn_lc_ge C 27 d_M_divisor_17 d_M_divisor_18 (by decide) (fun c17 => ?_) (fun c17 => ?_)
    · skip
      have eb : b = (b.natAbs : Int) := by have := (lI_le ⟨by omega, by omega⟩ ⟨by omega, by omega⟩).mp c17; omega
      refine rn_lload_n C d_M_divisor_27 rfl ?_
      refine rn_lstore C d_M_divisor_28 (by decide) ?_
      refine rn_weak (lv' := [some (.long (lI a)), none, some (.long (lI b)), none, some (.long (lI (a.natAbs : Nat))), none, some (.long (lI (b.natAbs : Nat))), none]) ⟨rfl, rfl, by first | rfl | rw [← ea], by first | rfl | rw [← eb], trivial⟩ ?_
      exact loop 126 a.natAbs b.natAbs (eu_of 63 _ _ hy2) ha hb rfl
    · skip
      refine rn_lconst C (lI 0) d_M_divisor_21 (by decide) ?_
      refine rn_lload_n C d_M_divisor_22 rfl ?_
      refine rn_lsub C d_M_divisor_23 ?_
      have eb : lI 0 - lI b = lI (b.natAbs : Int) := by rw [lI_sub]; congr 1; have : ¬ 0 ≤ b := fun q => c17 ((lI_le ⟨by omega, by omega⟩ ⟨by omega, by omega⟩).mpr q); omega
      rw [eb]
      refine rn_goto C 28 d_M_divisor_24 (by decide) ?_
      refine rn_lstore C d_M_divisor_28 (by decide) ?_
      refine rn_weak (lv' := [some (.long (lI a)), none, some (.long (lI b)), none, some (.long (lI (a.natAbs : Nat))), none, some (.long (lI (b.natAbs : Nat))), none]) ⟨rfl, rfl, by first | rfl | rw [← ea], by first | rfl | rw [← eb], trivial⟩ ?_
      exact loop 126 a.natAbs b.natAbs (eu_of 63 _ _ hy2) ha hb rfl

def lessI (a b t : Int) : Int := if Int.gcd a b = 0 then t else if t = 0 then a.tdiv (Int.gcd a b) else b.tdiv (Int.gcd a b)
theorem inL_abs {a : Int} (h : (a.natAbs : Int) < 9223372036854775808) : inL a := ⟨by omega, by omega⟩
theorem inL_td {a b : Int} (h : (a.natAbs : Int) < 9223372036854775808) : inL (a.tdiv b) := by
  have := Int.natAbs_tdiv_le_natAbs a b
  exact inL_abs (by omega)
theorem gcd_small {a b : Int} (ha : (a.natAbs : Int) < 9223372036854775808) (hb : (b.natAbs : Int) < 9223372036854775808) : ((Int.gcd a b : Nat) : Int) < 9223372036854775808 := by
  have h1 : Int.gcd a b = Nat.gcd a.natAbs b.natAbs := rfl
  by_cases h : a.natAbs = 0
  · rw [h1, h, Nat.gcd_zero_left]; exact hb
  · have := Nat.gcd_le_left b.natAbs (show 0 < a.natAbs by omega)
    omega
def G_C_lessened (av : List Value) (h : ah_H) (K : ah_R → ah_H → Prop) : Prop := ∃ (a b t : Int), av = [.long (lI a), .long (lI b), .int (iI t)] ∧ (a.natAbs : Int) < 9223372036854775808 ∧ (b.natAbs : Int) < 9223372036854775808 ∧ (t = 0 ∨ t = 1) ∧ K (.inl (some (.long (lI (lessI a b t))))) h
set_option maxHeartbeats 4000000 in
set_option maxRecDepth 100000 in
theorem c_C_lessened (l : Launch) : rn_Met l y_C_lessened wc_C_lessened { frames := 3, cells := 0, slots := 0, locals := 51 } G_C_lessened := by
  refine rn_in mw_C_lessened.1 (by decide +kernel) ?_ ?_
  · intro _ av h K hG
    obtain ⟨a, b, t, rfl, ha, hb, ht, hK⟩ := hG
    exact Nat.le_of_ble_eq_true rfl
  intro p e s m args below meth c z sa D dA av h K hadm C hG
  obtain ⟨a, b, t, rfl, ha, hb, ht, hK⟩ := hG
  have hg := gcd_small ha hb
  have hg0 : (0 : Int) ≤ (Int.gcd a b : Int) := Int.natCast_nonneg _
  have nz : ¬ lI (Int.gcd a b : Int) ≤ lI 0 → ¬ Int.gcd a b = 0 := fun q e => q (by rw [e]; exact (lI_le ⟨by omega, by omega⟩ ⟨by omega, by omega⟩).mpr (by omega))
  refine rn_lload_n C d_C_lessened_0 rfl ?_
  refine rn_lload_n C d_C_lessened_1 rfl ?_
  refine rn_cS C (c_C_commonDivisor l) mw_C_commonDivisor k_C_328 d_C_lessened_2 (Nat.le_of_ble_eq_true rfl) (Nat.le_of_ble_eq_true rfl) ⟨by decide, by decide⟩ ⟨by decide, by decide⟩ ?_
  refine ⟨_, _, rfl, ha, hb, ?_⟩
  refine rn_lstore C d_C_lessened_5 (by decide) ?_
  refine rn_lload C d_C_lessened_7 rfl ?_
  refine rn_lconst C (lI 0) d_C_lessened_9 (by decide) ?_
  refine rn_lc_gt C 18 d_C_lessened_10 d_C_lessened_11 (by decide) (fun c10 => ?_) (fun c10 => ?_)
  · skip
    refine rn_iload C d_C_lessened_18 rfl ?_
    refine rn_if_ne C 27 d_C_lessened_20 (by decide) (fun c20 => ?_) (fun c20 => ?_)
    · skip
      refine rn_lload_n C d_C_lessened_27 rfl ?_
      refine rn_lload C d_C_lessened_28 rfl ?_
      have e0 : 0 < (Int.gcd a b : Int) := (lI_lt ⟨by omega, by omega⟩ ⟨by omega, by omega⟩).mp c10
      refine rn_ldiv C d_C_lessened_30 (fun q => absurd ((lI_eq ⟨by omega, by omega⟩ ⟨by omega, by omega⟩).mp (show lI (Int.gcd a b : Int) = lI 0 from q)) (by omega)) ?_
      refine rn_lreturn C rfl d_C_lessened_31 ⟨by decide, by decide⟩ ?_
      first | rw [lI_tdiv (inL_abs ha) ⟨by omega, by omega⟩ (inL_td ha)] | rw [lI_tdiv (inL_abs hb) ⟨by omega, by omega⟩ (inL_td hb)]
      rw [lessI, if_neg (by omega)] at hK
      first | (rw [if_pos (by first | exact (iI_eq ⟨by omega, by omega⟩ ⟨by omega, by omega⟩).mp (show iI t = iI 0 from c20))] at hK; exact hK) | (rw [if_neg (fun q => c20 (by rw [q]; rfl))] at hK; exact hK)
    · skip
      refine rn_lload_n C d_C_lessened_23 rfl ?_
      refine rn_goto C 28 d_C_lessened_24 (by decide) ?_
      refine rn_lload C d_C_lessened_28 rfl ?_
      have e0 : 0 < (Int.gcd a b : Int) := (lI_lt ⟨by omega, by omega⟩ ⟨by omega, by omega⟩).mp c10
      refine rn_ldiv C d_C_lessened_30 (fun q => absurd ((lI_eq ⟨by omega, by omega⟩ ⟨by omega, by omega⟩).mp (show lI (Int.gcd a b : Int) = lI 0 from q)) (by omega)) ?_
      refine rn_lreturn C rfl d_C_lessened_31 ⟨by decide, by decide⟩ ?_
      first | rw [lI_tdiv (inL_abs ha) ⟨by omega, by omega⟩ (inL_td ha)] | rw [lI_tdiv (inL_abs hb) ⟨by omega, by omega⟩ (inL_td hb)]
      rw [lessI, if_neg (by omega)] at hK
      first | (rw [if_pos (by first | exact (iI_eq ⟨by omega, by omega⟩ ⟨by omega, by omega⟩).mp (show iI t = iI 0 from c20))] at hK; exact hK) | (rw [if_neg (fun q => c20 (by rw [q]; rfl))] at hK; exact hK)
  · skip
    refine rn_iload C d_C_lessened_14 rfl ?_
    refine rn_i2l C d_C_lessened_16 ?_
    refine rn_lreturn C rfl d_C_lessened_17 ⟨by decide, by decide⟩ ?_
    have e0 : Int.gcd a b = 0 := by have : ¬ 0 < (Int.gcd a b : Int) := fun q => c10 ((lI_lt ⟨by omega, by omega⟩ ⟨by omega, by omega⟩).mpr q); omega
    rw [lessI, if_pos e0] at hK
    rw [iI_toL ⟨by omega, by omega⟩]
    exact hK

def G_C_nearest (av : List Value) (h : ah_H) (K : ah_R → ah_H → Prop) : Prop := ∃ (a b : Int), av = [.long (lI a), .long (lI b)] ∧ (-2000000000000000000 < a ∧ a < 2000000000000000000) ∧ (0 < b ∧ b < 2000000000000000000) ∧ K (.inl (some (.long (lI ((2 * a + b) / (2 * b)))))) h
set_option maxHeartbeats 4000000 in
set_option maxRecDepth 100000 in
theorem c_C_nearest (l : Launch) : rn_Met l y_C_nearest wc_C_nearest { frames := 2, cells := 0, slots := 0, locals := 25 } G_C_nearest := by
  refine rn_in mw_C_nearest.1 (by decide +kernel) ?_ ?_
  · intro _ av h K hG
    obtain ⟨a, b, rfl, ha, hb, hK⟩ := hG
    exact Nat.le_of_ble_eq_true rfl
  intro p e s m args below meth c z sa D dA av h K hadm C hG
  obtain ⟨a, b, rfl, ha, hb, hK⟩ := hG
  refine rn_lload_n C d_C_nearest_0 rfl ?_
  refine rn_lconst C (lI 0) d_C_nearest_1 (by decide) ?_
  refine rn_lc_gt C 8 d_C_nearest_2 d_C_nearest_3 (by decide) (fun _ => ?_) (fun q_2 => absurd ((lI_lt ⟨by omega, by omega⟩ ⟨by omega, by omega⟩).mpr (by omega)) q_2)
  refine rn_ldc2 C v_C_323 d_C_nearest_8 ?_
  refine rn_lload_n C d_C_nearest_11 rfl ?_
  refine rn_lmul C d_C_nearest_12 ?_
  refine rn_lload_n C d_C_nearest_13 rfl ?_
  refine rn_ladd C d_C_nearest_14 ?_
  refine rn_ldc2 C v_C_323 d_C_nearest_15 ?_
  refine rn_lload_n C d_C_nearest_18 rfl ?_
  refine rn_lmul C d_C_nearest_19 ?_
  refine rn_cS C (c_J_floorDivl l) mw_J_floorDivl k_C_325 d_C_nearest_20 (Nat.le_of_ble_eq_true rfl) (Nat.le_of_ble_eq_true rfl) ⟨by decide, by decide⟩ ⟨by decide, by decide⟩ ?_
  refine ⟨lI (2 * a + b), lI (2 * b), by rw [← lI_add, ← lI_mul, ← lI_mul]; rfl, fun q => absurd ((lI_eq ⟨by omega, by omega⟩ ⟨by omega, by omega⟩).mp (show lI (2 * b) = lI 0 from q)) (by omega), ?_⟩
  rw [lFloor_I ⟨by omega, by omega⟩ ⟨by omega, by omega⟩ (by omega)]
  refine rn_lreturn C rfl d_C_nearest_23 ⟨by decide, by decide⟩ ?_
  exact hK

