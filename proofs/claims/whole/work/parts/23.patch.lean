/-! Patches: where they lie, their means and noise. Laid by wip/whole/gen_c9.py. -/
def colN (c r t p : Int) : Int := if t = 1 then c - 1 - p / r else if t = 2 then c - 1 - p % c else if t = 3 then p / r else p % c
def rowN (c r t p : Int) : Int := if t = 1 then p % r else if t = 2 then r - 1 - p / c else if t = 3 then r - 1 - p % r else p / c
def lyOk (c r t : Int) : Prop := 1 ≤ c ∧ c ≤ 4 ∧ 1 ≤ r ∧ r ≤ 4 ∧ 0 ≤ t ∧ t ≤ 3
theorem div_in {p a b : Int} (hb : 0 < b) (h0 : 0 ≤ p) (h1 : p < a * b) : 0 ≤ p / b ∧ p / b < a := ⟨Int.ediv_nonneg h0 (Int.le_of_lt hb), Int.ediv_lt_of_lt_mul hb h1⟩
theorem mod_in {p b : Int} (hb : 0 < b) : 0 ≤ p % b ∧ p % b < b := ⟨Int.emod_nonneg p (by omega), Int.emod_lt_of_pos p hb⟩
theorem colN_in {c r t p : Int} (h : lyOk c r t) (h0 : 0 ≤ p) (h1 : p < c * r) : 0 ≤ colN c r t p ∧ colN c r t p < c := by
  unfold lyOk at h
  have a := div_in (a := c) (b := r) (by omega) h0 h1
  have b := mod_in (p := p) (b := c) (by omega)
  unfold colN
  split
  · omega
  · split
    · omega
    · split <;> omega
theorem rowN_in {c r t p : Int} (h : lyOk c r t) (h0 : 0 ≤ p) (h1 : p < c * r) : 0 ≤ rowN c r t p ∧ rowN c r t p < r := by
  unfold lyOk at h
  have a := div_in (a := r) (b := c) (by omega) h0 (by rw [Int.mul_comm]; exact h1)
  have b := mod_in (p := p) (b := r) (by omega)
  unfold rowN
  split
  · omega
  · split
    · omega
    · split <;> omega
def fsI (k s n : Int) : Int := (k * n + s - 1) / s
theorem fs_in {k s n : Int} (k0 : 0 ≤ k) (k1 : k < s) (s1 : s ≤ 4) (hn : 4 ≤ n) (hn2 : n ≤ 30) : 0 ≤ fsI k s n ∧ fsI k s n < fsI (k + 1) s n ∧ fsI (k + 1) s n ≤ n ∧ 0 ≤ k * n ∧ k * n ≤ 120 ∧ (k + 1) * n = k * n + n := by
  have m := mbd (A := 4) (B := 30) (a := k) (b := n) (by omega) (by omega)
  have m0 : 0 ≤ k * n := Int.mul_nonneg k0 (by omega)
  have e : (k + 1) * n = k * n + n := by rw [Int.add_mul]; omega
  unfold fsI
  refine ⟨Int.ediv_nonneg (by omega) (by omega), ?_, ?_, m0, by omega, e⟩
  · have h1 : (k * n + s - 1 + s) / s = (k * n + s - 1) / s + 1 := Int.add_ediv_of_dvd_right (Int.dvd_refl s) |>.trans (by rw [Int.ediv_self (by omega)])
    have h2 : (k * n + s - 1 + s) / s ≤ ((k + 1) * n + s - 1) / s := Int.ediv_le_ediv (by omega) (by omega)
    omega
  · have h3 : (k + 1) * n ≤ s * n := Int.mul_le_mul_of_nonneg_right (by omega) (by omega)
    have h4 : (n + 1) * s = s * n + s := by rw [Int.add_mul, Int.mul_comm n s]; omega
    have h5 : ((k + 1) * n + s - 1) / s < n + 1 := Int.ediv_lt_of_lt_mul (by omega) (by omega)
    omega
/-- where the k-th of s shares begins, between two sides -/
def pL (le ri s k : Int) : Int := le + 1 + fsI k s (ri - le - 1)
def frOk (le to ri bo w g : Int) : Prop := 0 ≤ le ∧ le + 5 ≤ ri ∧ ri < w ∧ 0 ≤ to ∧ to + 5 ≤ bo ∧ bo < g ∧ w ≤ 30 ∧ g ≤ 30
theorem pL_in {le ri s k : Int} (h0 : 0 ≤ le) (h1 : le + 5 ≤ ri) (h2 : ri < 30) (k0 : 0 ≤ k) (k1 : k < s) (s1 : s ≤ 4) : le + 1 ≤ pL le ri s k ∧ pL le ri s k < pL le ri s (k + 1) ∧ pL le ri s (k + 1) ≤ ri := by
  have := fs_in (n := ri - le - 1) k0 k1 s1 (by omega) (by omega)
  unfold pL
  omega
def sumR (f : Int → Int → Int) (a b u v : Int) : Int := sm (fun y => sm (fun x => f x y) a (b - a).toNat) u (v - u).toNat
theorem sumR_le {f : Int → Int → Int} {M : Int} (hf : ∀ x y, 0 ≤ f x y ∧ f x y ≤ M) {a b u v : Int} (h1 : a ≤ b) (h2 : u ≤ v) : 0 ≤ sumR f a b u v ∧ sumR f a b u v ≤ ((b - a) * (v - u)) * M := by
  have h := sm_le (f := fun y => sm (fun x => f x y) a (b - a).toNat) (b := (b - a) * M) (v - u).toNat u (fun y _ _ => by
    have h3 := sm_le (f := fun x => f x y) (b := M) (b - a).toNat a (fun x _ _ => hf x y)
    rw [show ((b - a).toNat : Int) = b - a by omega] at h3
    exact h3)
  rw [show ((v - u).toNat : Int) = v - u by omega] at h
  unfold sumR
  rw [Int.mul_comm (b - a) (v - u), Int.mul_assoc]
  exact h
def mnI (t n : Int) : Int := (2 * t + n) / (2 * n)
theorem mnI_in {t n : Int} (hn : 0 < n) (h0 : 0 ≤ t) (h1 : t ≤ n * 255) : 0 ≤ mnI t n ∧ mnI t n ≤ 255 := by
  unfold mnI
  refine ⟨Int.ediv_nonneg (by omega) (by omega), ?_⟩
  have : (2 * t + n) / (2 * n) < 256 := Int.ediv_lt_of_lt_mul (by omega) (by omega)
  omega
def rcN (le to ri bo c r t p : Int) : Int := (pL le ri c (colN c r t p + 1) - pL le ri c (colN c r t p)) * (pL to bo r (rowN c r t p + 1) - pL to bo r (rowN c r t p))
def rcS (f : Int → Int → Int) (le to ri bo c r t p : Int) : Int := sumR f (pL le ri c (colN c r t p)) (pL le ri c (colN c r t p + 1)) (pL to bo r (rowN c r t p)) (pL to bo r (rowN c r t p + 1))
def rdI (lt : Int → Int → Int → Int) (le to ri bo c r t p k : Int) : Int := mnI (rcS (fun x y => lt x y k) le to ri bo c r t p) (rcN le to ri bo c r t p)
def spI (lt : Int → Int → Int → Int) (le to ri bo c r t p : Int) : Int := rcN le to ri bo c r t p * rcS (fun x y => lt x y 1 * lt x y 1) le to ri bo c r t p - rcS (fun x y => lt x y 1) le to ri bo c r t p * rcS (fun x y => lt x y 1) le to ri bo c r t p
theorem rcN_in {le to ri bo w g c r t p : Int} (hf : frOk le to ri bo w g) (hy : lyOk c r t) (p0 : 0 ≤ p) (p1 : p < c * r) : 0 < rcN le to ri bo c r t p ∧ rcN le to ri bo c r t p ≤ 900 := by
  have hc := colN_in hy p0 p1
  have hr := rowN_in hy p0 p1
  unfold frOk at hf
  unfold lyOk at hy
  have h1 := pL_in (le := le) (ri := ri) (s := c) (k := colN c r t p) (by omega) (by omega) (by omega) hc.1 hc.2 (by omega)
  have h2 := pL_in (le := to) (ri := bo) (s := r) (k := rowN c r t p) (by omega) (by omega) (by omega) hr.1 hr.2 (by omega)
  unfold rcN
  refine ⟨Int.mul_pos (by omega) (by omega), ?_⟩
  have := mbd (A := 30) (B := 30) (a := pL le ri c (colN c r t p + 1) - pL le ri c (colN c r t p)) (b := pL to bo r (rowN c r t p + 1) - pL to bo r (rowN c r t p)) (by omega) (by omega)
  omega
theorem rcS_in {f : Int → Int → Int} {M : Int} (hf : ∀ x y, 0 ≤ f x y ∧ f x y ≤ M) {le to ri bo w g c r t p : Int} (hfr : frOk le to ri bo w g) (hy : lyOk c r t) (p0 : 0 ≤ p) (p1 : p < c * r) : 0 ≤ rcS f le to ri bo c r t p ∧ rcS f le to ri bo c r t p ≤ rcN le to ri bo c r t p * M := by
  have hc := colN_in hy p0 p1
  have hr := rowN_in hy p0 p1
  unfold frOk at hfr
  unfold lyOk at hy
  have h1 := pL_in (le := le) (ri := ri) (s := c) (k := colN c r t p) (by omega) (by omega) (by omega) hc.1 hc.2 (by omega)
  have h2 := pL_in (le := to) (ri := bo) (s := r) (k := rowN c r t p) (by omega) (by omega) (by omega) hr.1 hr.2 (by omega)
  exact sumR_le hf (by omega) (by omega)
def ltB (lt : Int → Int → Int → Int) : Prop := ∀ x y k, 0 ≤ lt x y k ∧ lt x y k ≤ 255
theorem rdI_in {lt : Int → Int → Int → Int} (hl : ltB lt) {le to ri bo w g c r t p : Int} (hfr : frOk le to ri bo w g) (hy : lyOk c r t) (p0 : 0 ≤ p) (p1 : p < c * r) (k : Int) : 0 ≤ rdI lt le to ri bo c r t p k ∧ rdI lt le to ri bo c r t p k ≤ 255 := by
  have h1 := rcN_in hfr hy p0 p1
  have h2 := rcS_in (f := fun x y => lt x y k) (fun x y => hl x y k) hfr hy p0 p1
  exact mnI_in h1.1 h2.1 h2.2
theorem sq_bd {a M : Int} (h0 : 0 ≤ a) (h1 : a ≤ M) : 0 ≤ a * a ∧ a * a ≤ M * M := ⟨Int.mul_nonneg h0 h0, Int.mul_le_mul h1 h1 h0 (by omega)⟩
theorem spI_in {lt : Int → Int → Int → Int} (hl : ltB lt) {le to ri bo w g c r t p : Int} (hfr : frOk le to ri bo w g) (hy : lyOk c r t) (p0 : 0 ≤ p) (p1 : p < c * r) : -(rcN le to ri bo c r t p * rcN le to ri bo c r t p * 65025) ≤ spI lt le to ri bo c r t p ∧ spI lt le to ri bo c r t p ≤ rcN le to ri bo c r t p * rcN le to ri bo c r t p * 65025 ∧ 0 < rcN le to ri bo c r t p * rcN le to ri bo c r t p ∧ rcN le to ri bo c r t p * rcN le to ri bo c r t p ≤ 810000 := by
  have h1 := rcN_in hfr hy p0 p1
  have h2 := rcS_in (f := fun x y => lt x y 1) (fun x y => hl x y 1) hfr hy p0 p1
  have h3 := rcS_in (f := fun x y => lt x y 1 * lt x y 1) (M := 65025) (fun x y => by
    have := sq_bd (hl x y 1).1 (hl x y 1).2
    omega) hfr hy p0 p1
  unfold spI
  have h4 := sq_bd h2.1 h2.2
  have h5 := sq_bd (Int.le_of_lt h1.1) h1.2
  have h6 : 0 ≤ rcN le to ri bo c r t p * rcS (fun x y => lt x y 1 * lt x y 1) le to ri bo c r t p := Int.mul_nonneg (by omega) h3.1
  have h7 : rcN le to ri bo c r t p * rcS (fun x y => lt x y 1 * lt x y 1) le to ri bo c r t p ≤ rcN le to ri bo c r t p * (rcN le to ri bo c r t p * 65025) := Int.mul_le_mul_of_nonneg_left h3.2 (by omega)
  have h8 : rcN le to ri bo c r t p * (rcN le to ri bo c r t p * 65025) = rcN le to ri bo c r t p * rcN le to ri bo c r t p * 65025 := (Int.mul_assoc _ _ _).symm
  have h9 : rcN le to ri bo c r t p * 255 * (rcN le to ri bo c r t p * 255) = rcN le to ri bo c r t p * rcN le to ri bo c r t p * 65025 := by
    rw [Int.mul_assoc, Int.mul_comm 255, Int.mul_assoc, ← Int.mul_assoc]
    omega
  have h10 : 0 < rcN le to ri bo c r t p * rcN le to ri bo c r t p := Int.mul_pos h1.1 h1.1
  omega
theorem iI_rem {a b : Int} (h0 : 0 ≤ a) (ha : a < 2147483648) (hb : 0 < b) (hb2 : b < 2147483648) : iI a - iI a / iI b * iI b = iI (a % b) := by
  rw [iI_div h0 ha hb hb2, iI_mul, iI_sub]
  congr 1
  have := Int.emod_add_mul_ediv a b
  have h2 : b * (a / b) = a / b * b := Int.mul_comm _ _
  omega
def G2_Y_columnOf (av : List Value) (h : ah_H) (K : ah_R → ah_H → Prop) : Prop := ∃ (q : Nat) (c r t p : Int), av = [.ref q, .int (iI p)] ∧ h[q]? = some (cY (iI c) (iI r) (iI t)) ∧ lyOk c r t ∧ 0 ≤ p ∧ p < 16 ∧ K (.inl (some (.int (iI (colN c r t p))))) h
def G2_Y_rowOf (av : List Value) (h : ah_H) (K : ah_R → ah_H → Prop) : Prop := ∃ (q : Nat) (c r t p : Int), av = [.ref q, .int (iI p)] ∧ h[q]? = some (cY (iI c) (iI r) (iI t)) ∧ lyOk c r t ∧ 0 ≤ p ∧ p < 16 ∧ K (.inl (some (.int (iI (rowN c r t p))))) h
theorem pos_not {c : Int} (h : 1 ≤ c) (h2 : c ≤ 4) : ¬ iI c ≤ 0 := fun q => absurd ((iI_le ⟨by omega, by omega⟩ ⟨by omega, by omega⟩).mp (show iI c ≤ iI 0 from q)) (by omega)
theorem c2_Y_columnOf (l : Launch) : rn_Met l y_Y_columnOf wc_Y_columnOf { frames := 1, cells := 0, slots := 0, locals := 0 } G2_Y_columnOf := by
  refine rn_wk (c_Y_columnOf l) ?_
  intro _ av h K hG
  obtain ⟨q, c, r, t, p, rfl, h1, hy, p0, p1, hK⟩ := hG
  have hy' := hy
  unfold lyOk at hy
  have ht : (iI t).toInt = t := iI_toInt ⟨by omega, by omega⟩
  refine ⟨q, iI c, iI r, iI t, iI p, rfl, h1, pos_not hy.1 (by omega), pos_not (by omega) (by omega), ?_, ?_, ?_, ?_⟩ <;> rw [ht] <;> intro q <;> unfold colN at hK
  · rw [if_pos q] at hK
    first
      | (rw [show (1 : Int32) = iI 1 from rfl, iI_sub, iI_div p0 (by omega) (by omega) (by omega), iI_sub]; exact hK)
      | (rw [iI_rem p0 (by omega) (by omega) (by omega)]; exact hK)
  · rw [if_neg (by omega), if_pos q] at hK
    first
      | (rw [iI_rem p0 (by omega) (by omega) (by omega), show (1 : Int32) = iI 1 from rfl, iI_sub, iI_sub]; exact hK)
      | (rw [show (1 : Int32) = iI 1 from rfl, iI_sub, iI_div p0 (by omega) (by omega) (by omega), iI_sub]; exact hK)
  · rw [if_neg (by omega), if_neg (by omega), if_pos q] at hK
    first
      | (rw [iI_div p0 (by omega) (by omega) (by omega)]; exact hK)
      | (rw [iI_rem p0 (by omega) (by omega) (by omega), show (1 : Int32) = iI 1 from rfl, iI_sub, iI_sub]; exact hK)
  · rw [if_neg (by omega), if_neg (by omega), if_neg (by omega)] at hK
    first
      | (rw [iI_rem p0 (by omega) (by omega) (by omega)]; exact hK)
      | (rw [iI_div p0 (by omega) (by omega) (by omega)]; exact hK)
theorem c2_Y_rowOf (l : Launch) : rn_Met l y_Y_rowOf wc_Y_rowOf { frames := 1, cells := 0, slots := 0, locals := 0 } G2_Y_rowOf := by
  refine rn_wk (c_Y_rowOf l) ?_
  intro _ av h K hG
  obtain ⟨q, c, r, t, p, rfl, h1, hy, p0, p1, hK⟩ := hG
  have hy' := hy
  unfold lyOk at hy
  have ht : (iI t).toInt = t := iI_toInt ⟨by omega, by omega⟩
  refine ⟨q, iI c, iI r, iI t, iI p, rfl, h1, pos_not hy.1 (by omega), pos_not (by omega) (by omega), ?_, ?_, ?_, ?_⟩ <;> rw [ht] <;> intro q <;> unfold rowN at hK
  · rw [if_pos q] at hK
    first
      | (rw [show (1 : Int32) = iI 1 from rfl, iI_sub, iI_div p0 (by omega) (by omega) (by omega), iI_sub]; exact hK)
      | (rw [iI_rem p0 (by omega) (by omega) (by omega)]; exact hK)
  · rw [if_neg (by omega), if_pos q] at hK
    first
      | (rw [iI_rem p0 (by omega) (by omega) (by omega), show (1 : Int32) = iI 1 from rfl, iI_sub, iI_sub]; exact hK)
      | (rw [show (1 : Int32) = iI 1 from rfl, iI_sub, iI_div p0 (by omega) (by omega) (by omega), iI_sub]; exact hK)
  · rw [if_neg (by omega), if_neg (by omega), if_pos q] at hK
    first
      | (rw [iI_div p0 (by omega) (by omega) (by omega)]; exact hK)
      | (rw [iI_rem p0 (by omega) (by omega) (by omega), show (1 : Int32) = iI 1 from rfl, iI_sub, iI_sub]; exact hK)
  · rw [if_neg (by omega), if_neg (by omega), if_neg (by omega)] at hK
    first
      | (rw [iI_rem p0 (by omega) (by omega) (by omega)]; exact hK)
      | (rw [iI_div p0 (by omega) (by omega) (by omega)]; exact hK)
def G2_P_firstOf (av : List Value) (h : ah_H) (K : ah_R → ah_H → Prop) : Prop := ∃ (k s n : Int), av = [.int (iI k), .int (iI s), .int (iI n)] ∧ 0 ≤ k ∧ k ≤ s ∧ 1 ≤ s ∧ s ≤ 4 ∧ 4 ≤ n ∧ n ≤ 30 ∧ K (.inl (some (.int (iI (fsI k s n))))) h
theorem c2_P_firstOf (l : Launch) : rn_Met l y_P_firstOf wc_P_firstOf { frames := 1, cells := 0, slots := 0, locals := 0 } G2_P_firstOf := by
  refine rn_wk (c_P_firstOf l) ?_
  intro _ av h K hG
  obtain ⟨k, s, n, rfl, k0, k1, s0, s1, n0, n1, hK⟩ := hG
  have m := mbd (A := 4) (B := 30) (a := k) (b := n) (by omega) (by omega)
  have m0 : 0 ≤ k * n := Int.mul_nonneg k0 (by omega)
  refine ⟨iI k, iI s, iI n, rfl, (iI_lt (a := 0) (b := s) ⟨by omega, by omega⟩ ⟨by omega, by omega⟩).mpr (by omega), ?_⟩
  rw [iI_mul, iI_add, show (1 : Int32) = iI 1 from rfl, iI_sub, iI_div (by omega) (by omega) (by omega) (by omega)]
  exact hK
def G_P_aim (av : List Value) (h : ah_H) (K : ah_R → ah_H → Prop) : Prop := ∃ (e0 e1 e2 e3 : ah_E) (rest : ah_H) (fo a1 a2 a3 a4 : Int32) (le to ri bo c r t p w g : Int), av = [.ref 6, .ref 4, .ref 5, .int (iI p)] ∧ h = e0 :: e1 :: e2 :: e3 :: cF fo (iI le) (iI to) (iI ri) (iI bo) :: cY (iI c) (iI r) (iI t) :: cP a1 a2 a3 a4 :: rest ∧ frOk le to ri bo w g ∧ lyOk c r t ∧ 0 ≤ p ∧ p < c * r ∧ K (.inl none) (e0 :: e1 :: e2 :: e3 :: cF fo (iI le) (iI to) (iI ri) (iI bo) :: cY (iI c) (iI r) (iI t) :: cP (iI (pL le ri c (colN c r t p))) (iI (pL to bo r (rowN c r t p))) (iI (pL le ri c (colN c r t p + 1))) (iI (pL to bo r (rowN c r t p + 1))) :: rest)
set_option maxHeartbeats 4000000 in
set_option maxRecDepth 100000 in
theorem c_P_aim (l : Launch) : rn_Met l y_P_aim wc_P_aim { frames := 2, cells := 0, slots := 0, locals := 22 } G_P_aim := by
  refine rn_in mw_P_aim.1 (by decide +kernel) ?_ ?_
  · intro _ av h K hG
    obtain ⟨e0, e1, e2, e3, rest, fo, a1, a2, a3, a4, le, to, ri, bo, c_, r, t, p_, w, g, rfl, rfl, hf, hy, p0, p1, hK⟩ := hG
    exact Nat.le_of_ble_eq_true rfl
  intro p e s m args below meth c z sa D dA av h K hadm C hG
  obtain ⟨e0, e1, e2, e3, rest, fo, a1, a2, a3, a4, le, to, ri, bo, c_, r, t, p_, w, g, rfl, rfl, hf, hy, p0, p1, hK⟩ := hG
  have hc := colN_in hy p0 p1
  have hr := rowN_in hy p0 p1
  have hf' := hf
  have hy' := hy
  unfold frOk at hf'
  unfold lyOk at hy'
  have mq := mbd (A := 4) (B := 4) (a := c_) (b := r) (by omega) (by omega)
  unfold pL at hK
  refine rn_aload_n C d_P_aim_0 rfl ?_
  refine rn_iload_n C d_P_aim_1 rfl ?_
  refine rn_cV C (c2_Y_columnOf l) mw_Y_columnOf k_P_9 d_P_aim_2 rfl rfl rfl (Nat.le_of_ble_eq_true rfl) (Nat.le_of_ble_eq_true rfl) ⟨by decide, by decide⟩ ⟨by decide, by decide⟩ ?_
  refine ⟨5, _, _, _, _, rfl, rfl, hy, p0, by omega, ?_⟩
  refine rn_istore C d_P_aim_5 (by decide) ?_
  refine rn_aload_n C d_P_aim_7 rfl ?_
  refine rn_iload_n C d_P_aim_8 rfl ?_
  refine rn_cV C (c2_Y_rowOf l) mw_Y_rowOf k_P_15 d_P_aim_9 rfl rfl rfl (Nat.le_of_ble_eq_true rfl) (Nat.le_of_ble_eq_true rfl) ⟨by decide, by decide⟩ ⟨by decide, by decide⟩ ?_
  refine ⟨5, _, _, _, _, rfl, rfl, hy, p0, by omega, ?_⟩
  refine rn_istore C d_P_aim_12 (by decide) ?_
  refine rn_aload_n C d_P_aim_14 rfl ?_
  refine rn_get C f_P_18 d_P_aim_15 rfl rfl ?_
  refine rn_aload_n C d_P_aim_18 rfl ?_
  refine rn_get C f_P_24 d_P_aim_19 rfl rfl ?_
  refine rn_isub C d_P_aim_22 ?_
  refine rn_iconst C (iI 1) d_P_aim_23 (by decide) ?_
  refine rn_isub C d_P_aim_24 ?_
  rw [iI_sub, iI_sub]
  refine rn_istore C d_P_aim_25 (by decide) ?_
  refine rn_aload_n C d_P_aim_27 rfl ?_
  refine rn_get C f_P_27 d_P_aim_28 rfl rfl ?_
  refine rn_aload_n C d_P_aim_31 rfl ?_
  refine rn_get C f_P_30 d_P_aim_32 rfl rfl ?_
  refine rn_isub C d_P_aim_35 ?_
  refine rn_iconst C (iI 1) d_P_aim_36 (by decide) ?_
  refine rn_isub C d_P_aim_37 ?_
  rw [iI_sub, iI_sub]
  refine rn_istore C d_P_aim_38 (by decide) ?_
  refine rn_aload_n C d_P_aim_40 rfl ?_
  refine rn_aload_n C d_P_aim_41 rfl ?_
  refine rn_get C f_P_24 d_P_aim_42 rfl rfl ?_
  refine rn_iconst C (iI 1) d_P_aim_45 (by decide) ?_
  refine rn_iadd C d_P_aim_46 ?_
  refine rn_iload C d_P_aim_47 rfl ?_
  refine rn_aload_n C d_P_aim_49 rfl ?_
  refine rn_get C f_P_33 d_P_aim_50 rfl rfl ?_
  refine rn_iload C d_P_aim_53 rfl ?_
  refine rn_cS C (c2_P_firstOf l) mw_P_firstOf k_P_36 d_P_aim_55 (Nat.le_of_ble_eq_true rfl) (Nat.le_of_ble_eq_true rfl) ⟨by decide, by decide⟩ ⟨by decide, by decide⟩ ?_
  refine ⟨_, _, _, rfl, by omega, by omega, by omega, by omega, by omega, by omega, ?_⟩
  refine rn_iadd C d_P_aim_58 ?_
  rw [iI_add, iI_add]
  refine rn_put C f_P_42 ft_P fn_P_0 d_P_aim_59 rfl (Nat.le_of_ble_eq_true rfl) (fun _ _ => ⟨rfl, rfl⟩) ?_
  refine rn_aload_n C d_P_aim_62 rfl ?_
  refine rn_aload_n C d_P_aim_63 rfl ?_
  refine rn_get C f_P_24 d_P_aim_64 rfl rfl ?_
  refine rn_iconst C (iI 1) d_P_aim_67 (by decide) ?_
  refine rn_iadd C d_P_aim_68 ?_
  refine rn_iload C d_P_aim_69 rfl ?_
  refine rn_iconst C (iI 1) d_P_aim_71 (by decide) ?_
  refine rn_iadd C d_P_aim_72 ?_
  refine rn_aload_n C d_P_aim_73 rfl ?_
  refine rn_get C f_P_33 d_P_aim_74 rfl rfl ?_
  refine rn_iload C d_P_aim_77 rfl ?_
  rw [iI_add]
  refine rn_cS C (c2_P_firstOf l) mw_P_firstOf k_P_36 d_P_aim_79 (Nat.le_of_ble_eq_true rfl) (Nat.le_of_ble_eq_true rfl) ⟨by decide, by decide⟩ ⟨by decide, by decide⟩ ?_
  refine ⟨_, _, _, rfl, by omega, by omega, by omega, by omega, by omega, by omega, ?_⟩
  refine rn_iadd C d_P_aim_82 ?_
  rw [iI_add, iI_add]
  refine rn_put C f_P_43 ft_P fn_P_2 d_P_aim_83 rfl (Nat.le_of_ble_eq_true rfl) (fun _ _ => ⟨rfl, rfl⟩) ?_
  refine rn_aload_n C d_P_aim_86 rfl ?_
  refine rn_aload_n C d_P_aim_87 rfl ?_
  refine rn_get C f_P_30 d_P_aim_88 rfl rfl ?_
  refine rn_iconst C (iI 1) d_P_aim_91 (by decide) ?_
  refine rn_iadd C d_P_aim_92 ?_
  refine rn_iload C d_P_aim_93 rfl ?_
  refine rn_aload_n C d_P_aim_95 rfl ?_
  refine rn_get C f_P_46 d_P_aim_96 rfl rfl ?_
  refine rn_iload C d_P_aim_99 rfl ?_
  refine rn_cS C (c2_P_firstOf l) mw_P_firstOf k_P_36 d_P_aim_101 (Nat.le_of_ble_eq_true rfl) (Nat.le_of_ble_eq_true rfl) ⟨by decide, by decide⟩ ⟨by decide, by decide⟩ ?_
  refine ⟨_, _, _, rfl, by omega, by omega, by omega, by omega, by omega, by omega, ?_⟩
  refine rn_iadd C d_P_aim_104 ?_
  rw [iI_add, iI_add]
  refine rn_put C f_P_49 ft_P fn_P_1 d_P_aim_105 rfl (Nat.le_of_ble_eq_true rfl) (fun _ _ => ⟨rfl, rfl⟩) ?_
  refine rn_aload_n C d_P_aim_108 rfl ?_
  refine rn_aload_n C d_P_aim_109 rfl ?_
  refine rn_get C f_P_30 d_P_aim_110 rfl rfl ?_
  refine rn_iconst C (iI 1) d_P_aim_113 (by decide) ?_
  refine rn_iadd C d_P_aim_114 ?_
  refine rn_iload C d_P_aim_115 rfl ?_
  refine rn_iconst C (iI 1) d_P_aim_117 (by decide) ?_
  refine rn_iadd C d_P_aim_118 ?_
  refine rn_aload_n C d_P_aim_119 rfl ?_
  refine rn_get C f_P_46 d_P_aim_120 rfl rfl ?_
  refine rn_iload C d_P_aim_123 rfl ?_
  rw [iI_add]
  refine rn_cS C (c2_P_firstOf l) mw_P_firstOf k_P_36 d_P_aim_125 (Nat.le_of_ble_eq_true rfl) (Nat.le_of_ble_eq_true rfl) ⟨by decide, by decide⟩ ⟨by decide, by decide⟩ ?_
  refine ⟨_, _, _, rfl, by omega, by omega, by omega, by omega, by omega, by omega, ?_⟩
  refine rn_iadd C d_P_aim_128 ?_
  rw [iI_add, iI_add]
  refine rn_put C f_P_50 ft_P fn_P_3 d_P_aim_129 rfl (Nat.le_of_ble_eq_true rfl) (fun _ _ => ⟨rfl, rfl⟩) ?_
  refine rn_return C rfl d_P_aim_132 ⟨by decide, by decide⟩ ?_
  exact hK

def G_P_mean (av : List Value) (h : ah_H) (K : ah_R → ah_H → Prop) : Prop := ∃ (q qi : Nat) (a b u v w g k : Int) (pic : Int → Int → Int → Int) (lig : Int → Int → Int), av = [.ref q, .ref qi, .int (iI k)] ∧ h[q]? = some (cP (iI a) (iI u) (iI b) (iI v)) ∧ PX h qi w g pic lig ∧ w ≤ 30 ∧ g ≤ 30 ∧ 0 ≤ a ∧ a < b ∧ b ≤ w ∧ 0 ≤ u ∧ u < v ∧ v ≤ g ∧ 0 ≤ k ∧ k < 3 ∧ K (.inl (some (.int (iI (mnI (sumR (fun x y => ltI pic lig x y k) a b u v) ((b - a) * (v - u))))))) h
set_option maxHeartbeats 4000000 in
set_option maxRecDepth 100000 in
theorem c_P_mean (l : Launch) : rn_Met l y_P_mean wc_P_mean { frames := 3, cells := 0, slots := 0, locals := 48 } G_P_mean := by
  refine rn_in mw_P_mean.1 (by decide +kernel) ?_ ?_
  · intro _ av h K hG
    obtain ⟨q, qi, a, b, u, v, w, g, j, pic, lig, rfl, h1, hP, w1, g1, a0, a1, a2, u0, u1, u2, j0, j1, hK⟩ := hG
    exact Nat.le_of_ble_eq_true rfl
  intro p e s m args below meth c z sa D dA av h K hadm C hG
  obtain ⟨q, qi, a, b, u, v, w, g, j, pic, lig, rfl, h1, hP, w1, g1, a0, a1, a2, u0, u1, u2, j0, j1, hK⟩ := hG
  have hP' := hP
  obtain ⟨qp, ql, np, nl, pf, lf, hq1, hq2, hq3, hpk⟩ := hP'
  have hb := sumR_le (f := fun x y => ltI pic lig x y j) (M := 255) (fun x y => ltI_in hpk.2.2.2.2.1 hpk.2.2.2.2.2 x y j) (show a ≤ b by omega) (show u ≤ v by omega)
  have mq := mbd (A := 30) (B := 30) (a := b - a) (b := v - u) (by omega) (by omega)
  have mp : 0 < (b - a) * (v - u) := Int.mul_pos (by omega) (by omega)
  have me : (iI b - iI a) * (iI v - iI u) = iI ((b - a) * (v - u)) := by rw [iI_sub, iI_sub, iI_mul]
  have hmn := mnI_in mp hb.1 hb.2
  unfold mnI at hmn hK
  have tail : Run p l e { frames := 3, cells := 0, slots := 0, locals := 48 } s m args below meth c z sa D dA 0 0 K 6 56 [some (.ref q), some (.ref qi), some (.int (iI j)), some (.int (iI (sumR (fun x y => ltI pic lig x y j) a b u v)))] [] h 0 0 := by
    refine rn_iload_n C d_P_mean_56 rfl ?_
    refine rn_i2l C d_P_mean_57 ?_
    refine rn_aload_n C d_P_mean_58 rfl ?_
    refine rn_cV C (c_P_cells l) mw_P_cells k_P_53 d_P_mean_59 rfl (by assumption) rfl (Nat.le_of_ble_eq_true rfl) (Nat.le_of_ble_eq_true rfl) ⟨by decide, by decide⟩ ⟨by decide, by decide⟩ ?_
    refine ⟨_, _, _, _, _, rfl, h1, ?_⟩
    rw [me]
    refine rn_i2l C d_P_mean_62 ?_
    rw [iI_toL ⟨by omega, by omega⟩, iI_toL ⟨by omega, by omega⟩]
    refine rn_cS C (c_C_nearest l) mw_C_nearest k_P_62 d_P_mean_63 (Nat.le_of_ble_eq_true rfl) (Nat.le_of_ble_eq_true rfl) ⟨by decide, by decide⟩ ⟨by decide, by decide⟩ ?_
    refine ⟨_, _, rfl, by omega, by omega, ?_⟩
    refine rn_l2i C d_P_mean_66 ?_
    rw [lI_toI ⟨by omega, by omega⟩]
    refine rn_ireturn C rfl rfl d_P_mean_67 ⟨by decide, by decide⟩ ?_
    exact hK
  have loopx : ∀ (k : Nat) (x y s_ : Int), x + k = b → a ≤ x → u ≤ y → y < v → Run p l e { frames := 3, cells := 0, slots := 0, locals := 48 } s m args below meth c z sa D dA 0 0 K 6 50 [some (.ref q), some (.ref qi), some (.int (iI j)), some (.int (iI (s_ + sm (fun x => ltI pic lig x y j) x k))), some (.int (iI y))] [] h 0 0 → Run p l e { frames := 3, cells := 0, slots := 0, locals := 48 } s m args below meth c z sa D dA 0 0 K 6 23 [some (.ref q), some (.ref qi), some (.int (iI j)), some (.int (iI (s_))), some (.int (iI y)), some (.int (iI x))] [] h 0 0 := by
    intro k
    induction k with
    | zero =>
      intro x y s_ hx x0 y0 y1 kk
      rw [sm, Int.add_zero] at kk
      refine rn_iload C d_P_mean_23 rfl ?_
      refine rn_aload_n C d_P_mean_25 rfl ?_
      refine rn_get C f_P_43 d_P_mean_26 (by assumption) (by rfl) ?_
      refine rn_icmp_ge C 50 d_P_mean_29 (by decide) (fun _ => ?_) (fun q_29 => absurd ((iI_le ⟨by omega, by omega⟩ ⟨by omega, by omega⟩).mpr (by omega)) q_29)
      refine rn_weak (lv' := [some (.ref q), some (.ref qi), some (.int (iI j)), some (.int (iI (s_))), some (.int (iI y))]) ⟨rfl, rfl, rfl, rfl, rfl, trivial⟩ ?_
      exact kk
    | succ k ih =>
      intro x y s_ hx x0 y0 y1 kk
      rw [sm, ← Int.add_assoc] at kk
      refine rn_iload C d_P_mean_23 rfl ?_
      refine rn_aload_n C d_P_mean_25 rfl ?_
      refine rn_get C f_P_43 d_P_mean_26 (by assumption) (by rfl) ?_
      refine rn_icmp_ge C 50 d_P_mean_29 (by decide) (fun q_29 => absurd q_29 (fun q => absurd ((iI_le ⟨by omega, by omega⟩ ⟨by omega, by omega⟩).mp q) (by omega))) (fun _ => ?_)
      refine rn_iload_n C d_P_mean_32 rfl ?_
      refine rn_aload_n C d_P_mean_33 rfl ?_
      refine rn_iload C d_P_mean_34 rfl ?_
      refine rn_iload C d_P_mean_36 rfl ?_
      refine rn_iload_n C d_P_mean_38 rfl ?_
      refine rn_cV C (c2_I_litPart l) mw_I_litPart k_P_57 d_P_mean_39 rfl (by assumption) rfl (Nat.le_of_ble_eq_true rfl) (Nat.le_of_ble_eq_true rfl) ⟨by decide, by decide⟩ ⟨by decide, by decide⟩ ?_
      refine ⟨_, w, g, _, _, _, pic, lig, rfl, hP, by omega, by omega, by omega, by omega, j0, j1, ?_⟩
      refine rn_iadd C d_P_mean_42 ?_
      rw [iI_add]
      refine rn_istore_n C d_P_mean_43 (by decide) ?_
      refine rn_iinc C _ d_P_mean_44 rfl (iI_inc _) (by decide) ?_
      refine rn_goto C 23 d_P_mean_47 (by decide) ?_
      exact ih (x + 1) y _ (by omega) (by omega) y0 y1 kk
  have loopy : ∀ (k : Nat) (y s_ : Int), y + k = v → u ≤ y → s_ + sm (fun y => sm (fun x => ltI pic lig x y j) a (b - a).toNat) y k = sumR (fun x y => ltI pic lig x y j) a b u v → Run p l e { frames := 3, cells := 0, slots := 0, locals := 48 } s m args below meth c z sa D dA 0 0 K 6 8 [some (.ref q), some (.ref qi), some (.int (iI j)), some (.int (iI (s_))), some (.int (iI y))] [] h 0 0 := by
    intro k
    induction k with
    | zero =>
      intro y s_ hy y0 he
      rw [sm, Int.add_zero] at he
      rw [← he] at tail
      refine rn_iload C d_P_mean_8 rfl ?_
      refine rn_aload_n C d_P_mean_10 rfl ?_
      refine rn_get C f_P_50 d_P_mean_11 (by assumption) (by rfl) ?_
      refine rn_icmp_ge C 56 d_P_mean_14 (by decide) (fun _ => ?_) (fun q_14 => absurd ((iI_le ⟨by omega, by omega⟩ ⟨by omega, by omega⟩).mpr (by omega)) q_14)
      refine rn_weak (lv' := [some (.ref q), some (.ref qi), some (.int (iI j)), some (.int (iI (s_)))]) ⟨rfl, rfl, rfl, rfl, trivial⟩ ?_
      exact tail
    | succ k ih =>
      intro y s_ hy y0 he
      rw [sm, ← Int.add_assoc] at he
      refine rn_iload C d_P_mean_8 rfl ?_
      refine rn_aload_n C d_P_mean_10 rfl ?_
      refine rn_get C f_P_50 d_P_mean_11 (by assumption) (by rfl) ?_
      refine rn_icmp_ge C 56 d_P_mean_14 (by decide) (fun q_14 => absurd q_14 (fun q => absurd ((iI_le ⟨by omega, by omega⟩ ⟨by omega, by omega⟩).mp q) (by omega))) (fun _ => ?_)
      refine rn_aload_n C d_P_mean_17 rfl ?_
      refine rn_get C f_P_42 d_P_mean_18 (by assumption) (by rfl) ?_
      refine rn_istore C d_P_mean_21 (by decide) ?_
      refine loopx (b - a).toNat a y s_ (by omega) (by omega) y0 (by omega) ?_
      refine rn_iinc C _ d_P_mean_50 rfl (iI_inc _) (by decide) ?_
      refine rn_goto C 8 d_P_mean_53 (by decide) ?_
      exact ih (y + 1) _ (by omega) (by omega) he
  refine rn_iconst C (iI 0) d_P_mean_0 (by decide) ?_
  refine rn_istore_n C d_P_mean_1 (by decide) ?_
  refine rn_aload_n C d_P_mean_2 rfl ?_
  refine rn_get C f_P_49 d_P_mean_3 (by assumption) (by rfl) ?_
  refine rn_istore C d_P_mean_6 (by decide) ?_
  exact loopy (v - u).toNat u 0 (by omega) (by omega) (by rw [Int.zero_add]; rfl)

def G_P_spread (av : List Value) (h : ah_H) (K : ah_R → ah_H → Prop) : Prop := ∃ (q qi : Nat) (a b u v w g : Int) (pic : Int → Int → Int → Int) (lig : Int → Int → Int), av = [.ref q, .ref qi] ∧ h[q]? = some (cP (iI a) (iI u) (iI b) (iI v)) ∧ PX h qi w g pic lig ∧ w ≤ 30 ∧ g ≤ 30 ∧ 0 ≤ a ∧ a < b ∧ b ≤ w ∧ 0 ≤ u ∧ u < v ∧ v ≤ g ∧ K (.inl (some (.long (lI ((b - a) * (v - u) * sumR (fun x y => ltI pic lig x y 1 * ltI pic lig x y 1) a b u v - sumR (fun x y => ltI pic lig x y 1) a b u v * sumR (fun x y => ltI pic lig x y 1) a b u v))))) h
set_option maxHeartbeats 4000000 in
set_option maxRecDepth 100000 in
theorem c_P_spread (l : Launch) : rn_Met l y_P_spread wc_P_spread { frames := 3, cells := 0, slots := 0, locals := 47 } G_P_spread := by
  refine rn_in mw_P_spread.1 (by decide +kernel) ?_ ?_
  · intro _ av h K hG
    obtain ⟨q, qi, a, b, u, v, w, g, pic, lig, rfl, h1, hP, w1, g1, a0, a1, a2, u0, u1, u2, hK⟩ := hG
    exact Nat.le_of_ble_eq_true rfl
  intro p e s m args below meth c z sa D dA av h K hadm C hG
  obtain ⟨q, qi, a, b, u, v, w, g, pic, lig, rfl, h1, hP, w1, g1, a0, a1, a2, u0, u1, u2, hK⟩ := hG
  have hP' := hP
  obtain ⟨qp, ql, np, nl, pf, lf, hq1, hq2, hq3, hpk⟩ := hP'
  have lb := fun x y => ltI_in hpk.2.2.2.2.1 hpk.2.2.2.2.2 x y 1
  have mq := mbd (A := 30) (B := 30) (a := b - a) (b := v - u) (by omega) (by omega)
  have me : (iI b - iI a) * (iI v - iI u) = iI ((b - a) * (v - u)) := by rw [iI_sub, iI_sub, iI_mul]
  have tail : Run p l e { frames := 3, cells := 0, slots := 0, locals := 47 } s m args below meth c z sa D dA 0 0 K 10 74 [some (.ref q), some (.ref qi), some (.long (lI (sumR (fun x y => ltI pic lig x y 1) a b u v))), none, some (.long (lI (sumR (fun x y => ltI pic lig x y 1 * ltI pic lig x y 1) a b u v))), none] [] h 0 0 := by
    refine rn_aload_n C d_P_spread_74 rfl ?_
    refine rn_cV C (c_P_cells l) mw_P_cells k_P_53 d_P_spread_75 rfl (by assumption) rfl (Nat.le_of_ble_eq_true rfl) (Nat.le_of_ble_eq_true rfl) ⟨by decide, by decide⟩ ⟨by decide, by decide⟩ ?_
    refine ⟨_, _, _, _, _, rfl, h1, ?_⟩
    rw [me]
    refine rn_i2l C d_P_spread_78 ?_
    rw [iI_toL ⟨by omega, by omega⟩]
    refine rn_lload C d_P_spread_79 rfl ?_
    refine rn_lmul C d_P_spread_81 ?_
    refine rn_lload_n C d_P_spread_82 rfl ?_
    refine rn_lload_n C d_P_spread_83 rfl ?_
    refine rn_lmul C d_P_spread_84 ?_
    refine rn_lsub C d_P_spread_85 ?_
    rw [lI_mul, lI_mul, lI_sub]
    refine rn_lreturn C rfl d_P_spread_86 ⟨by decide, by decide⟩ ?_
    exact hK
  have loopx : ∀ (k : Nat) (x y s_ t_ : Int), x + k = b → a ≤ x → u ≤ y → y < v → Run p l e { frames := 3, cells := 0, slots := 0, locals := 47 } s m args below meth c z sa D dA 0 0 K 10 68 [some (.ref q), some (.ref qi), some (.long (lI (s_ + sm (fun x => ltI pic lig x y 1) x k))), none, some (.long (lI (t_ + sm (fun x => ltI pic lig x y 1 * ltI pic lig x y 1) x k))), none, some (.int (iI y))] [] h 0 0 → Run p l e { frames := 3, cells := 0, slots := 0, locals := 47 } s m args below meth c z sa D dA 0 0 K 10 26 [some (.ref q), some (.ref qi), some (.long (lI (s_))), none, some (.long (lI (t_))), none, some (.int (iI y)), some (.int (iI x))] [] h 0 0 := by
    intro k
    induction k with
    | zero =>
      intro x y s_ t_ hx x0 y0 y1 kk
      rw [sm, sm, Int.add_zero, Int.add_zero] at kk
      refine rn_iload C d_P_spread_26 rfl ?_
      refine rn_aload_n C d_P_spread_28 rfl ?_
      refine rn_get C f_P_43 d_P_spread_29 (by assumption) (by rfl) ?_
      refine rn_icmp_ge C 68 d_P_spread_32 (by decide) (fun _ => ?_) (fun q_32 => absurd ((iI_le ⟨by omega, by omega⟩ ⟨by omega, by omega⟩).mpr (by omega)) q_32)
      refine rn_weak (lv' := [some (.ref q), some (.ref qi), some (.long (lI (s_))), none, some (.long (lI (t_))), none, some (.int (iI y))]) ⟨rfl, rfl, rfl, rfl, rfl, trivial⟩ ?_
      exact kk
    | succ k ih =>
      intro x y s_ t_ hx x0 y0 y1 kk
      rw [sm, sm, ← Int.add_assoc, ← Int.add_assoc] at kk
      have lbx := lb x y
      refine rn_iload C d_P_spread_26 rfl ?_
      refine rn_aload_n C d_P_spread_28 rfl ?_
      refine rn_get C f_P_43 d_P_spread_29 (by assumption) (by rfl) ?_
      refine rn_icmp_ge C 68 d_P_spread_32 (by decide) (fun q_32 => absurd q_32 (fun q => absurd ((iI_le ⟨by omega, by omega⟩ ⟨by omega, by omega⟩).mp q) (by omega))) (fun _ => ?_)
      refine rn_aload_n C d_P_spread_35 rfl ?_
      refine rn_iload C d_P_spread_36 rfl ?_
      refine rn_iload C d_P_spread_38 rfl ?_
      refine rn_iconst C (iI 1) d_P_spread_40 (by decide) ?_
      refine rn_cV C (c2_I_litPart l) mw_I_litPart k_P_57 d_P_spread_41 rfl (by assumption) rfl (Nat.le_of_ble_eq_true rfl) (Nat.le_of_ble_eq_true rfl) ⟨by decide, by decide⟩ ⟨by decide, by decide⟩ ?_
      refine ⟨_, w, g, _, _, _, pic, lig, rfl, hP, by omega, by omega, by omega, by omega, by omega, by omega, ?_⟩
      refine rn_i2l C d_P_spread_44 ?_
      rw [iI_toL ⟨by omega, by omega⟩]
      refine rn_lstore C d_P_spread_45 (by decide) ?_
      refine rn_lload_n C d_P_spread_47 rfl ?_
      refine rn_lload C d_P_spread_48 rfl ?_
      refine rn_ladd C d_P_spread_50 ?_
      rw [lI_add]
      refine rn_lstore_n C d_P_spread_51 (by decide) ?_
      refine rn_lload C d_P_spread_52 rfl ?_
      refine rn_lload C d_P_spread_54 rfl ?_
      refine rn_lload C d_P_spread_56 rfl ?_
      refine rn_lmul C d_P_spread_58 ?_
      refine rn_ladd C d_P_spread_59 ?_
      rw [lI_mul, lI_add]
      refine rn_lstore C d_P_spread_60 (by decide) ?_
      refine rn_iinc C _ d_P_spread_62 rfl (iI_inc _) (by decide) ?_
      refine rn_goto C 26 d_P_spread_65 (by decide) ?_
      refine rn_weak (lv' := [some (.ref q), some (.ref qi), some (.long (lI (s_ + ltI pic lig x y 1))), none, some (.long (lI (t_ + ltI pic lig x y 1 * ltI pic lig x y 1))), none, some (.int (iI y)), some (.int (iI (x + 1)))]) ⟨rfl, rfl, rfl, rfl, rfl, rfl, trivial⟩ ?_
      exact ih (x + 1) y _ _ (by omega) (by omega) y0 y1 kk
  have loopy : ∀ (k : Nat) (y s_ t_ : Int), y + k = v → u ≤ y → s_ + sm (fun y => sm (fun x => ltI pic lig x y 1) a (b - a).toNat) y k = sumR (fun x y => ltI pic lig x y 1) a b u v → t_ + sm (fun y => sm (fun x => ltI pic lig x y 1 * ltI pic lig x y 1) a (b - a).toNat) y k = sumR (fun x y => ltI pic lig x y 1 * ltI pic lig x y 1) a b u v → Run p l e { frames := 3, cells := 0, slots := 0, locals := 47 } s m args below meth c z sa D dA 0 0 K 10 11 [some (.ref q), some (.ref qi), some (.long (lI (s_))), none, some (.long (lI (t_))), none, some (.int (iI y))] [] h 0 0 := by
    intro k
    induction k with
    | zero =>
      intro y s_ t_ hy y0 he he2
      rw [sm, Int.add_zero] at he he2
      rw [← he, ← he2] at tail
      refine rn_iload C d_P_spread_11 rfl ?_
      refine rn_aload_n C d_P_spread_13 rfl ?_
      refine rn_get C f_P_50 d_P_spread_14 (by assumption) (by rfl) ?_
      refine rn_icmp_ge C 74 d_P_spread_17 (by decide) (fun _ => ?_) (fun q_17 => absurd ((iI_le ⟨by omega, by omega⟩ ⟨by omega, by omega⟩).mpr (by omega)) q_17)
      refine rn_weak (lv' := [some (.ref q), some (.ref qi), some (.long (lI (s_))), none, some (.long (lI (t_))), none]) ⟨rfl, rfl, rfl, rfl, trivial⟩ ?_
      exact tail
    | succ k ih =>
      intro y s_ t_ hy y0 he he2
      rw [sm, ← Int.add_assoc] at he he2
      refine rn_iload C d_P_spread_11 rfl ?_
      refine rn_aload_n C d_P_spread_13 rfl ?_
      refine rn_get C f_P_50 d_P_spread_14 (by assumption) (by rfl) ?_
      refine rn_icmp_ge C 74 d_P_spread_17 (by decide) (fun q_17 => absurd q_17 (fun q => absurd ((iI_le ⟨by omega, by omega⟩ ⟨by omega, by omega⟩).mp q) (by omega))) (fun _ => ?_)
      refine rn_aload_n C d_P_spread_20 rfl ?_
      refine rn_get C f_P_42 d_P_spread_21 (by assumption) (by rfl) ?_
      refine rn_istore C d_P_spread_24 (by decide) ?_
      refine loopx (b - a).toNat a y s_ t_ (by omega) (by omega) y0 (by omega) ?_
      refine rn_iinc C _ d_P_spread_68 rfl (iI_inc _) (by decide) ?_
      refine rn_goto C 11 d_P_spread_71 (by decide) ?_
      exact ih (y + 1) _ _ (by omega) (by omega) he he2
  refine rn_lconst C (lI 0) d_P_spread_0 (by decide) ?_
  refine rn_lstore_n C d_P_spread_1 (by decide) ?_
  refine rn_lconst C (lI 0) d_P_spread_2 (by decide) ?_
  refine rn_lstore C d_P_spread_3 (by decide) ?_
  refine rn_aload_n C d_P_spread_5 rfl ?_
  refine rn_get C f_P_49 d_P_spread_6 (by assumption) (by rfl) ?_
  refine rn_istore C d_P_spread_9 (by decide) ?_
  exact loopy (v - u).toNat u 0 0 (by omega) (by omega) (by rw [Int.zero_add]; rfl) (by rw [Int.zero_add]; rfl)

def G_C_partOfPatch (av : List Value) (h : ah_H) (K : ah_R → ah_H → Prop) : Prop := ∃ (rest : ah_H) (fo : Int32) (np nl : Nat) (w g le to ri bo c r t : Int) (pf lf : Nat → Int32) (pic : Int → Int → Int → Int) (lig : Int → Int → Int) (a1 a2 a3 a4 : Int32) (p k : Int), av = [.ref 0, .int (iI p), .int (iI k)] ∧ h = cC :: cI (iI w) (iI g) :: aI np pf :: aI nl lf :: cF fo (iI le) (iI to) (iI ri) (iI bo) :: cY (iI c) (iI r) (iI t) :: cP a1 a2 a3 a4 :: rest ∧ picOk w g np nl pf lf pic lig ∧ frOk le to ri bo w g ∧ lyOk c r t ∧ 0 ≤ p ∧ p < c * r ∧ 0 ≤ k ∧ k < 3 ∧ K (.inl (some (.int (iI (rdI (ltI pic lig) le to ri bo c r t p k))))) (cC :: cI (iI w) (iI g) :: aI np pf :: aI nl lf :: cF fo (iI le) (iI to) (iI ri) (iI bo) :: cY (iI c) (iI r) (iI t) :: cP (iI (pL le ri c (colN c r t p))) (iI (pL to bo r (rowN c r t p))) (iI (pL le ri c (colN c r t p + 1))) (iI (pL to bo r (rowN c r t p + 1))) :: rest)
set_option maxHeartbeats 4000000 in
set_option maxRecDepth 100000 in
theorem c_C_partOfPatch (l : Launch) : rn_Met l y_C_partOfPatch wc_C_partOfPatch { frames := 4, cells := 0, slots := 0, locals := 73 } G_C_partOfPatch := by
  refine rn_in mw_C_partOfPatch.1 (by decide +kernel) ?_ ?_
  · intro _ av h K hG
    obtain ⟨rest, fo, np, nl, w, g, le, to, ri, bo, c_, r, t, pf, lf, pic, lig, a1, a2, a3, a4, p_, k, rfl, rfl, hpk, hf, hy, p0, p1, k0, k1, hK⟩ := hG
    exact Nat.le_of_ble_eq_true rfl
  intro p e s m args below meth c z sa D dA av h K hadm C hG
  obtain ⟨rest, fo, np, nl, w, g, le, to, ri, bo, c_, r, t, pf, lf, pic, lig, a1, a2, a3, a4, p_, k, rfl, rfl, hpk, hf, hy, p0, p1, k0, k1, hK⟩ := hG
  have hc := colN_in hy p0 p1
  have hr := rowN_in hy p0 p1
  have hf' := hf
  have hy' := hy
  unfold frOk at hf'
  unfold lyOk at hy'
  have r1 := pL_in (le := le) (ri := ri) (s := c_) (k := colN c_ r t p_) (by omega) (by omega) (by omega) hc.1 hc.2 (by omega)
  have r2 := pL_in (le := to) (ri := bo) (s := r) (k := rowN c_ r t p_) (by omega) (by omega) (by omega) hr.1 hr.2 (by omega)
  have hPX : PX (cC :: cI (iI w) (iI g) :: aI np pf :: aI nl lf :: cF fo (iI le) (iI to) (iI ri) (iI bo) :: cY (iI c_) (iI r) (iI t) :: cP (iI (pL le ri c_ (colN c_ r t p_))) (iI (pL to bo r (rowN c_ r t p_))) (iI (pL le ri c_ (colN c_ r t p_ + 1))) (iI (pL to bo r (rowN c_ r t p_ + 1))) :: rest) 1 w g pic lig := ⟨2, 3, np, nl, pf, lf, rfl, rfl, rfl, hpk⟩
  refine rn_aload_n C d_C_partOfPatch_0 rfl ?_
  refine rn_get C f_C_35 d_C_partOfPatch_1 rfl rfl ?_
  refine rn_aload_n C d_C_partOfPatch_4 rfl ?_
  refine rn_get C f_C_21 d_C_partOfPatch_5 rfl rfl ?_
  refine rn_aload_n C d_C_partOfPatch_8 rfl ?_
  refine rn_get C f_C_28 d_C_partOfPatch_9 rfl rfl ?_
  refine rn_iload_n C d_C_partOfPatch_12 rfl ?_
  refine rn_cV C (c_P_aim l) mw_P_aim k_C_158 d_C_partOfPatch_13 rfl rfl rfl (Nat.le_of_ble_eq_true rfl) (Nat.le_of_ble_eq_true rfl) ⟨by decide, by decide⟩ ⟨by decide, by decide⟩ ?_
  refine ⟨_, _, _, _, _, _, _, _, _, _, _, _, _, _, _, _, _, _, _, _, rfl, rfl, hf, hy, p0, p1, ?_⟩
  refine rn_aload_n C d_C_partOfPatch_16 rfl ?_
  refine rn_get C f_C_35 d_C_partOfPatch_17 rfl rfl ?_
  refine rn_aload_n C d_C_partOfPatch_20 rfl ?_
  refine rn_get C f_C_12 d_C_partOfPatch_21 rfl rfl ?_
  refine rn_iload_n C d_C_partOfPatch_24 rfl ?_
  refine rn_cV C (c_P_mean l) mw_P_mean k_C_293 d_C_partOfPatch_25 rfl rfl rfl (Nat.le_of_ble_eq_true rfl) (Nat.le_of_ble_eq_true rfl) ⟨by decide, by decide⟩ ⟨by decide, by decide⟩ ?_
  refine ⟨6, 1, _, _, _, _, _, _, _, pic, lig, rfl, rfl, hPX, by omega, by omega, by omega, by omega, by omega, by omega, by omega, by omega, k0, k1, ?_⟩
  refine rn_ireturn C rfl rfl d_C_partOfPatch_28 ⟨by decide, by decide⟩ ?_
  exact hK

def G_C_read (av : List Value) (h : ah_H) (K : ah_R → ah_H → Prop) : Prop := ∃ (rest : ah_H) (np nl : Nat) (w g le to ri bo c r t : Int) (pf lf : Nat → Int32) (pic : Int → Int → Int → Int) (lig : Int → Int → Int) (a1 a2 a3 a4 : Int32) (fo p k : Int), av = [.ref 0, .int (iI p), .int (iI k)] ∧ h = cC :: cI (iI w) (iI g) :: aI np pf :: aI nl lf :: cF (iI fo) (iI le) (iI to) (iI ri) (iI bo) :: cY (iI c) (iI r) (iI t) :: cP a1 a2 a3 a4 :: rest ∧ (inI p) ∧ (inI k) ∧ (fo = 0 ∨ fo = 1) ∧ (picOk w g np nl pf lf pic lig) ∧ (lyOk c r t) ∧ (fo = 1 → frOk le to ri bo w g) ∧ (¬ (0 ≤ p ∧ p < c * r ∧ 0 ≤ k ∧ k ≤ 2) → K (.inr h.length) (h ++ [xB])) ∧ ((0 ≤ p ∧ p < c * r ∧ 0 ≤ k ∧ k ≤ 2) → fo = 0 → K (.inr h.length) (h ++ [xS])) ∧ ((0 ≤ p ∧ p < c * r ∧ 0 ≤ k ∧ k ≤ 2) → fo = 1 → K (.inl (some (.int (iI (rdI (ltI pic lig) le to ri bo c r t p k))))) (cC :: cI (iI w) (iI g) :: aI np pf :: aI nl lf :: cF (iI fo) (iI le) (iI to) (iI ri) (iI bo) :: cY (iI c) (iI r) (iI t) :: cP (iI (pL le ri c (colN c r t p))) (iI (pL to bo r (rowN c r t p))) (iI (pL le ri c (colN c r t p + 1))) (iI (pL to bo r (rowN c r t p + 1))) :: rest))
set_option maxHeartbeats 4000000 in
set_option maxRecDepth 100000 in
theorem c_C_read (l : Launch) (hl : l.flags = flags0) : rn_Met l y_C_read wc_C_read rmC G_C_read := by
  refine rn_in mw_C_read.1 (by decide +kernel) ?_ ?_
  · intro _ av h K hG
    obtain ⟨rest, np, nl, w, g, le, to, ri, bo, c_, r, t, pf, lf, pic, lig, a1, a2, a3, a4, fo, p_, k, rfl, rfl, hc0, hc1, hc2, hc3, hc4, hc5, k1, k2, k3⟩ := hG
    exact Nat.le_of_ble_eq_true rfl
  intro p e s m args below meth c z sa D dA av h K hadm C hG
  have htr := Launch.traces_off hl hadm
  obtain ⟨rest, np, nl, w, g, le, to, ri, bo, c_, r, t, pf, lf, pic, lig, a1, a2, a3, a4, fo, p_, k, rfl, rfl, hc0, hc1, hc2, hc3, hc4, hc5, k1, k2, k3⟩ := hG
  have hyb := hc4
  unfold lyOk at hyb
  have mq := mbd (A := 4) (B := 4) (a := c_) (b := r) (by omega) (by omega)
  have me : iI c_ * iI r = iI (c_ * r) := iI_mul _ _
  have hs : (iI (c_ * r)).toInt = c_ * r := iI_toInt ⟨by omega, by omega⟩
  refine rn_aload_n C d_C_read_0 rfl ?_
  refine rn_get C f_C_28 d_C_read_1 rfl rfl ?_
  refine rn_iload_n C d_C_read_4 rfl ?_
  refine rn_cV C (c_Y_hasPatch l) mw_Y_hasPatch k_C_144 d_C_read_5 rfl rfl rfl (Nat.le_of_ble_eq_true rfl) (Nat.le_of_ble_eq_true rfl) ⟨by decide, by decide⟩ ⟨by decide, by decide⟩ ?_
  refine ⟨_, _, _, _, _, rfl, rfl, fun q5 => ?_, fun q5 => ?_⟩
  · skip
    refine rn_if_eq C 18 d_C_read_8 (by decide) (fun q => absurd q (by decide)) (fun _ => ?_)
    refine rn_iload_n C d_C_read_11 rfl ?_
    refine rn_cS C (c_C_isPart l) mw_C_isPart k_C_74 d_C_read_12 (Nat.le_of_ble_eq_true rfl) (Nat.le_of_ble_eq_true rfl) ⟨by decide, by decide⟩ ⟨by decide, by decide⟩ ?_
    refine ⟨_, rfl, fun q12 => ?_, fun q12 => ?_⟩
    · skip
      refine rn_if_ne C 28 d_C_read_15 (by decide) (fun _ => ?_) (fun q => absurd q (by decide))
      refine rn_aload_n C d_C_read_28 rfl ?_
      refine rn_get C f_C_21 d_C_read_29 rfl rfl ?_
      refine rn_get C f_C_112 d_C_read_32 rfl rfl ?_
      refine rn_if_ne C 48 d_C_read_35 (by decide) (fun c35 => ?_) (fun c35 => ?_)
      · skip
        refine rn_aload_n C d_C_read_48 rfl ?_
        refine rn_iload_n C d_C_read_49 rfl ?_
        refine rn_iload_n C d_C_read_50 rfl ?_
        have z1 := flag1 hc2 c35
        simp only [Int32.lt_iff_toInt_lt, Int32.le_iff_toInt_le, ← Int32.toInt_inj, Int32.reduceToInt, iI_toInt hc0, iI_toInt hc1, me, hs] at q5 q12 c35
        refine rn_cV C (c_C_partOfPatch l) mw_C_partOfPatch k_C_149 d_C_read_51 rfl rfl rfl (Nat.le_of_ble_eq_true rfl) (Nat.le_of_ble_eq_true rfl) ⟨by decide, by decide⟩ ⟨by decide, by decide⟩ ?_
        refine ⟨_, _, _, _, _, _, _, _, _, _, _, _, _, _, _, _, _, _, _, _, _, _, _, rfl, rfl, hc3, hc5 z1, hc4, by omega, by omega, by omega, by omega, ?_⟩
        refine rn_ireturn C rfl rfl d_C_read_54 ⟨by decide, by decide⟩ ?_
        exact k3 (by omega) z1
      · skip
        refine rn_throw C htr tw_3 (tx := "no frame is found") (by decide +kernel) d_C_read_38 d_C_read_41 d_C_read_42 d_C_read_44 d_C_read_47 (by decide) (Nat.le_of_ble_eq_true rfl) ⟨by decide, by decide⟩ ⟨by decide, by decide⟩ ?_
        have z0 := flag0 hc2 c35
        simp only [Int32.lt_iff_toInt_lt, Int32.le_iff_toInt_le, ← Int32.toInt_inj, Int32.reduceToInt, iI_toInt hc0, iI_toInt hc1, me, hs] at q5 q12 c35
        exact k2 (by omega) z0
    · skip
      refine rn_if_ne C 28 d_C_read_15 (by decide) (fun q => absurd rfl q) (fun _ => ?_)
      refine rn_throw C htr tw_1 (tx := "no such patch or part") (by decide +kernel) d_C_read_18 d_C_read_21 d_C_read_22 d_C_read_24 d_C_read_27 (by decide) (Nat.le_of_ble_eq_true rfl) ⟨by decide, by decide⟩ ⟨by decide, by decide⟩ ?_
      simp only [Int32.lt_iff_toInt_lt, Int32.le_iff_toInt_le, ← Int32.toInt_inj, Int32.reduceToInt, iI_toInt hc0, iI_toInt hc1, me, hs] at q5 q12
      exact k1 (by omega)
  · skip
    refine rn_if_eq C 18 d_C_read_8 (by decide) (fun _ => ?_) (fun q => absurd rfl q)
    refine rn_throw C htr tw_1 (tx := "no such patch or part") (by decide +kernel) d_C_read_18 d_C_read_21 d_C_read_22 d_C_read_24 d_C_read_27 (by decide) (Nat.le_of_ble_eq_true rfl) ⟨by decide, by decide⟩ ⟨by decide, by decide⟩ ?_
    simp only [Int32.lt_iff_toInt_lt, Int32.le_iff_toInt_le, ← Int32.toInt_inj, Int32.reduceToInt, iI_toInt hc0, iI_toInt hc1, me, hs] at q5
    exact k1 (by omega)

theorem abs_of {x M : Int} (h1 : -M ≤ x) (h2 : x ≤ M) (hM : M < 9223372036854775808) : (x.natAbs : Int) < 9223372036854775808 := by omega
def G_C_noise (av : List Value) (h : ah_H) (K : ah_R → ah_H → Prop) : Prop := ∃ (rest : ah_H) (np nl : Nat) (w g le to ri bo c r t : Int) (pf lf : Nat → Int32) (pic : Int → Int → Int → Int) (lig : Int → Int → Int) (a1 a2 a3 a4 : Int32) (fo p k : Int), av = [.ref 0, .int (iI p), .int (iI k)] ∧ h = cC :: cI (iI w) (iI g) :: aI np pf :: aI nl lf :: cF (iI fo) (iI le) (iI to) (iI ri) (iI bo) :: cY (iI c) (iI r) (iI t) :: cP a1 a2 a3 a4 :: rest ∧ (inI p) ∧ (inI k) ∧ (fo = 0 ∨ fo = 1) ∧ (picOk w g np nl pf lf pic lig) ∧ (lyOk c r t) ∧ (fo = 1 → frOk le to ri bo w g) ∧ (¬ (0 ≤ p ∧ p < c * r ∧ (k = 0 ∨ k = 1)) → K (.inr h.length) (h ++ [xB])) ∧ ((0 ≤ p ∧ p < c * r ∧ (k = 0 ∨ k = 1)) → fo = 0 → K (.inr h.length) (h ++ [xS])) ∧ ((0 ≤ p ∧ p < c * r ∧ (k = 0 ∨ k = 1)) → fo = 1 → K (.inl (some (.long (lI (lessI (spI (ltI pic lig) le to ri bo c r t p) (rcN le to ri bo c r t p * rcN le to ri bo c r t p) k))))) (cC :: cI (iI w) (iI g) :: aI np pf :: aI nl lf :: cF (iI fo) (iI le) (iI to) (iI ri) (iI bo) :: cY (iI c) (iI r) (iI t) :: cP (iI (pL le ri c (colN c r t p))) (iI (pL to bo r (rowN c r t p))) (iI (pL le ri c (colN c r t p + 1))) (iI (pL to bo r (rowN c r t p + 1))) :: rest))
set_option maxHeartbeats 4000000 in
set_option maxRecDepth 100000 in
theorem c_C_noise (l : Launch) (hl : l.flags = flags0) : rn_Met l y_C_noise wc_C_noise rmC G_C_noise := by
  refine rn_in mw_C_noise.1 (by decide +kernel) ?_ ?_
  · intro _ av h K hG
    obtain ⟨rest, np, nl, w, g, le, to, ri, bo, c_, r, t, pf, lf, pic, lig, a1, a2, a3, a4, fo, p_, k, rfl, rfl, hc0, hc1, hc2, hc3, hc4, hc5, k1, k2, k3⟩ := hG
    exact Nat.le_of_ble_eq_true rfl
  intro p e s m args below meth c z sa D dA av h K hadm C hG
  have htr := Launch.traces_off hl hadm
  obtain ⟨rest, np, nl, w, g, le, to, ri, bo, c_, r, t, pf, lf, pic, lig, a1, a2, a3, a4, fo, p_, k, rfl, rfl, hc0, hc1, hc2, hc3, hc4, hc5, k1, k2, k3⟩ := hG
  have hyb := hc4
  unfold lyOk at hyb
  have mq := mbd (A := 4) (B := 4) (a := c_) (b := r) (by omega) (by omega)
  have me : iI c_ * iI r = iI (c_ * r) := iI_mul _ _
  have hs : (iI (c_ * r)).toInt = c_ * r := iI_toInt ⟨by omega, by omega⟩
  refine rn_aload_n C d_C_noise_0 rfl ?_
  refine rn_get C f_C_28 d_C_noise_1 rfl rfl ?_
  refine rn_iload_n C d_C_noise_4 rfl ?_
  refine rn_cV C (c_Y_hasPatch l) mw_Y_hasPatch k_C_144 d_C_noise_5 rfl rfl rfl (Nat.le_of_ble_eq_true rfl) (Nat.le_of_ble_eq_true rfl) ⟨by decide, by decide⟩ ⟨by decide, by decide⟩ ?_
  refine ⟨_, _, _, _, _, rfl, rfl, fun q5 => ?_, fun q5 => ?_⟩
  · skip
    refine rn_if_eq C 18 d_C_noise_8 (by decide) (fun q => absurd q (by decide)) (fun _ => ?_)
    refine rn_iload_n C d_C_noise_11 rfl ?_
    refine rn_cS C (c_C_isHalfOfFraction l) mw_C_isHalfOfFraction k_C_153 d_C_noise_12 (Nat.le_of_ble_eq_true rfl) (Nat.le_of_ble_eq_true rfl) ⟨by decide, by decide⟩ ⟨by decide, by decide⟩ ?_
    refine ⟨_, rfl, fun q12 => ?_, fun q12 => ?_⟩
    · skip
      refine rn_if_ne C 28 d_C_noise_15 (by decide) (fun _ => ?_) (fun q => absurd q (by decide))
      refine rn_aload_n C d_C_noise_28 rfl ?_
      refine rn_get C f_C_21 d_C_noise_29 rfl rfl ?_
      refine rn_get C f_C_112 d_C_noise_32 rfl rfl ?_
      refine rn_if_ne C 48 d_C_noise_35 (by decide) (fun c35 => ?_) (fun c35 => ?_)
      · skip
        have z1 := flag1 hc2 c35
        simp only [Int32.lt_iff_toInt_lt, Int32.le_iff_toInt_le, ← Int32.toInt_inj, Int32.reduceToInt, iI_toInt hc0, iI_toInt hc1, me, hs] at q5 q12 c35
        have hf := hc5 z1
        have hy := hc4
        have hpk := hc3
        have p0 : 0 ≤ p_ := by omega
        have p1 : p_ < c_ * r := by omega
        have hc := colN_in hy p0 p1
        have hr := rowN_in hy p0 p1
        have hf' := hf
        have hy' := hy
        unfold frOk at hf'
        unfold lyOk at hy'
        have r1 := pL_in (le := le) (ri := ri) (s := c_) (k := colN c_ r t p_) (by omega) (by omega) (by omega) hc.1 hc.2 (by omega)
        have r2 := pL_in (le := to) (ri := bo) (s := r) (k := rowN c_ r t p_) (by omega) (by omega) (by omega) hr.1 hr.2 (by omega)
        have hPX : PX (cC :: cI (iI w) (iI g) :: aI np pf :: aI nl lf :: cF (iI fo) (iI le) (iI to) (iI ri) (iI bo) :: cY (iI c_) (iI r) (iI t) :: cP (iI (pL le ri c_ (colN c_ r t p_))) (iI (pL to bo r (rowN c_ r t p_))) (iI (pL le ri c_ (colN c_ r t p_ + 1))) (iI (pL to bo r (rowN c_ r t p_ + 1))) :: rest) 1 w g pic lig := ⟨2, 3, np, nl, pf, lf, rfl, rfl, rfl, hpk⟩
        have lb : ltB (ltI pic lig) := fun x y j => ltI_in hpk.2.2.2.2.1 hpk.2.2.2.2.2 x y j
        have si := spI_in lb hf hy p0 p1
        have ni := rcN_in hf hy p0 p1
        refine rn_aload_n C d_C_noise_48 rfl ?_
        refine rn_get C f_C_35 d_C_noise_49 rfl rfl ?_
        refine rn_aload_n C d_C_noise_52 rfl ?_
        refine rn_get C f_C_21 d_C_noise_53 rfl rfl ?_
        refine rn_aload_n C d_C_noise_56 rfl ?_
        refine rn_get C f_C_28 d_C_noise_57 rfl rfl ?_
        refine rn_iload_n C d_C_noise_60 rfl ?_
        refine rn_cV C (c_P_aim l) mw_P_aim k_C_158 d_C_noise_61 rfl rfl rfl (Nat.le_of_ble_eq_true rfl) (Nat.le_of_ble_eq_true rfl) ⟨by decide, by decide⟩ ⟨by decide, by decide⟩ ?_
        refine ⟨_, _, _, _, _, _, _, _, _, _, _, _, _, _, _, _, _, _, _, _, rfl, rfl, hf, hy, p0, p1, ?_⟩
        refine rn_aload_n C d_C_noise_64 rfl ?_
        refine rn_get C f_C_35 d_C_noise_65 rfl rfl ?_
        refine rn_aload_n C d_C_noise_68 rfl ?_
        refine rn_get C f_C_12 d_C_noise_69 rfl rfl ?_
        refine rn_cV C (c_P_spread l) mw_P_spread k_C_162 d_C_noise_72 rfl rfl rfl (Nat.le_of_ble_eq_true rfl) (Nat.le_of_ble_eq_true rfl) ⟨by decide, by decide⟩ ⟨by decide, by decide⟩ ?_
        refine ⟨6, 1, _, _, _, _, _, _, pic, lig, rfl, rfl, hPX, by omega, by omega, by omega, by omega, by omega, by omega, by omega, by omega, ?_⟩
        refine rn_aload_n C d_C_noise_75 rfl ?_
        refine rn_get C f_C_35 d_C_noise_76 rfl rfl ?_
        refine rn_cV C (c_P_cellsSquared l) mw_P_cellsSquared k_C_166 d_C_noise_79 rfl rfl rfl (Nat.le_of_ble_eq_true rfl) (Nat.le_of_ble_eq_true rfl) ⟨by decide, by decide⟩ ⟨by decide, by decide⟩ ?_
        refine ⟨6, _, _, _, _, rfl, rfl, ?_⟩
        rw [iI_sub, iI_sub, iI_mul, show (pL le ri c_ (colN c_ r t p_ + 1) - pL le ri c_ (colN c_ r t p_)) * (pL to bo r (rowN c_ r t p_ + 1) - pL to bo r (rowN c_ r t p_)) = rcN le to ri bo c_ r t p_ from rfl, iI_toL ⟨by omega, by omega⟩, lI_mul]
        refine rn_iload_n C d_C_noise_82 rfl ?_
        refine rn_cS C (c_C_lessened l) mw_C_lessened k_C_170 d_C_noise_83 (Nat.le_of_ble_eq_true rfl) (Nat.le_of_ble_eq_true rfl) ⟨by decide, by decide⟩ ⟨by decide, by decide⟩ ?_
        refine ⟨_, _, _, rfl, abs_of si.1 si.2.1 (by omega), by omega, (by omega), ?_⟩
        refine rn_lreturn C rfl d_C_noise_86 ⟨by decide, by decide⟩ ?_
        exact k3 (by omega) z1
      · skip
        refine rn_throw C htr tw_3 (tx := "no frame is found") (by decide +kernel) d_C_noise_38 d_C_noise_41 d_C_noise_42 d_C_noise_44 d_C_noise_47 (by decide) (Nat.le_of_ble_eq_true rfl) ⟨by decide, by decide⟩ ⟨by decide, by decide⟩ ?_
        have z0 := flag0 hc2 c35
        simp only [Int32.lt_iff_toInt_lt, Int32.le_iff_toInt_le, ← Int32.toInt_inj, Int32.reduceToInt, iI_toInt hc0, iI_toInt hc1, me, hs] at q5 q12 c35
        exact k2 (by omega) z0
    · skip
      refine rn_if_ne C 28 d_C_noise_15 (by decide) (fun q => absurd rfl q) (fun _ => ?_)
      refine rn_throw C htr tw_1 (tx := "no such patch or part of a fraction") (by decide +kernel) d_C_noise_18 d_C_noise_21 d_C_noise_22 d_C_noise_24 d_C_noise_27 (by decide) (Nat.le_of_ble_eq_true rfl) ⟨by decide, by decide⟩ ⟨by decide, by decide⟩ ?_
      simp only [Int32.lt_iff_toInt_lt, Int32.le_iff_toInt_le, ← Int32.toInt_inj, Int32.reduceToInt, iI_toInt hc0, iI_toInt hc1, me, hs] at q5 q12
      exact k1 (by omega)
  · skip
    refine rn_if_eq C 18 d_C_noise_8 (by decide) (fun _ => ?_) (fun q => absurd rfl q)
    refine rn_throw C htr tw_1 (tx := "no such patch or part of a fraction") (by decide +kernel) d_C_noise_18 d_C_noise_21 d_C_noise_22 d_C_noise_24 d_C_noise_27 (by decide) (Nat.le_of_ble_eq_true rfl) ⟨by decide, by decide⟩ ⟨by decide, by decide⟩ ?_
    simp only [Int32.lt_iff_toInt_lt, Int32.le_iff_toInt_le, ← Int32.toInt_inj, Int32.reduceToInt, iI_toInt hc0, iI_toInt hc1, me, hs] at q5
    exact k1 (by omega)

