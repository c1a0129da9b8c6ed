/-! Whole numbers in the machine's words: iI, lI, and what the operations do there. -/
def iI (x : Int) : Int32 := Int32.ofInt x
def lI (x : Int) : Int64 := Int64.ofInt x
def inI (x : Int) : Prop := -2147483648 ≤ x ∧ x < 2147483648
def inL (x : Int) : Prop := -9223372036854775808 ≤ x ∧ x < 9223372036854775808
theorem iI_add (a b : Int) : iI a + iI b = iI (a + b) := (Int32.ofInt_add a b).symm
theorem iI_mul (a b : Int) : iI a * iI b = iI (a * b) := (Int32.ofInt_mul a b).symm
theorem iI_neg (a : Int) : - iI a = iI (-a) := (Int32.ofInt_neg a).symm
theorem iI_sub (a b : Int) : iI a - iI b = iI (a - b) := (Int32.ofInt_sub a b).symm
theorem lI_add (a b : Int) : lI a + lI b = lI (a + b) := (Int64.ofInt_add a b).symm
theorem lI_mul (a b : Int) : lI a * lI b = lI (a * b) := (Int64.ofInt_mul a b).symm
theorem lI_neg (a : Int) : - lI a = lI (-a) := (Int64.ofInt_neg a).symm
theorem lI_sub (a b : Int) : lI a - lI b = lI (a - b) := (Int64.ofInt_sub a b).symm
theorem iI_of (x : Int32) : iI x.toInt = x := by simp [iI]
theorem lI_of (x : Int64) : lI x.toInt = x := by simp [lI]
theorem iI_lit (n : Nat) : (OfNat.ofNat n : Int32) = iI (n : Int) := by
  show Int32.ofNat n = Int32.ofInt n
  first | exact (Int32.ofInt_eq_ofNat).symm | (apply Int32.toBitVec_inj.mp; simp [Int32.ofInt, Int32.ofNat]) | (simp [Int32.ofInt, Int32.ofNat]; rfl)
theorem lI_lit (n : Nat) : (OfNat.ofNat n : Int64) = lI (n : Int) := by
  show Int64.ofNat n = Int64.ofInt n
  first | exact (Int64.ofInt_eq_ofNat).symm | (apply Int64.toBitVec_inj.mp; simp [Int64.ofInt, Int64.ofNat]) | (simp [Int64.ofInt, Int64.ofNat]; rfl)
theorem iI_toInt {a : Int} (h : inI a) : (iI a).toInt = a := by
  unfold iI
  exact Int32.toInt_ofInt_of_le (by obtain ⟨h1, h2⟩ := h; omega) (by obtain ⟨h1, h2⟩ := h; omega)
theorem lI_toInt {a : Int} (h : inL a) : (lI a).toInt = a := by
  unfold lI
  exact Int64.toInt_ofInt_of_le (by obtain ⟨h1, h2⟩ := h; omega) (by obtain ⟨h1, h2⟩ := h; omega)
theorem iI_in (x : Int32) : inI x.toInt := ⟨Int32.le_toInt x, Int32.toInt_lt x⟩
theorem lI_in (x : Int64) : inL x.toInt := ⟨Int64.le_toInt x, Int64.toInt_lt x⟩
theorem iI_lt {a b : Int} (ha : inI a) (hb : inI b) : (iI a < iI b) ↔ a < b := by rw [Int32.lt_iff_toInt_lt, iI_toInt ha, iI_toInt hb]
theorem iI_le {a b : Int} (ha : inI a) (hb : inI b) : (iI a ≤ iI b) ↔ a ≤ b := by rw [Int32.le_iff_toInt_le, iI_toInt ha, iI_toInt hb]
theorem iI_eq {a b : Int} (ha : inI a) (hb : inI b) : (iI a = iI b) ↔ a = b := by rw [← Int32.toInt_inj, iI_toInt ha, iI_toInt hb]
theorem lI_lt {a b : Int} (ha : inL a) (hb : inL b) : (lI a < lI b) ↔ a < b := by rw [Int64.lt_iff_toInt_lt, lI_toInt ha, lI_toInt hb]
theorem lI_le {a b : Int} (ha : inL a) (hb : inL b) : (lI a ≤ lI b) ↔ a ≤ b := by rw [Int64.le_iff_toInt_le, lI_toInt ha, lI_toInt hb]
theorem lI_eq {a b : Int} (ha : inL a) (hb : inL b) : (lI a = lI b) ↔ a = b := by rw [← Int64.toInt_inj, lI_toInt ha, lI_toInt hb]
theorem iI_tdiv {a b : Int} (ha : inI a) (hb : inI b) (hm : inI (a.tdiv b)) : iI a / iI b = iI (a.tdiv b) := by
  rw [← Int32.toInt_inj, Int32.toInt_div, iI_toInt ha, iI_toInt hb, iI_toInt hm]
  obtain ⟨h1, h2⟩ := hm
  exact Int.bmod_eq_of_le (by omega) (by omega)
theorem lI_tdiv {a b : Int} (ha : inL a) (hb : inL b) (hm : inL (a.tdiv b)) : lI a / lI b = lI (a.tdiv b) := by
  rw [← Int64.toInt_inj, Int64.toInt_div, lI_toInt ha, lI_toInt hb, lI_toInt hm]
  obtain ⟨h1, h2⟩ := hm
  exact Int.bmod_eq_of_le (by omega) (by omega)
theorem div_small {a b : Int} (h0 : 0 ≤ a) (hb : 0 < b) : 0 ≤ a / b ∧ a / b ≤ a := ⟨Int.ediv_nonneg h0 (Int.le_of_lt hb), Int.ediv_le_self b h0⟩
theorem iI_div {a b : Int} (h0 : 0 ≤ a) (ha : a < 2147483648) (hb : 0 < b) (hb2 : b < 2147483648) : iI a / iI b = iI (a / b) := by
  have h := div_small h0 hb
  rw [← Int.tdiv_eq_ediv_of_nonneg h0] at h ⊢
  exact iI_tdiv ⟨by omega, ha⟩ ⟨by omega, hb2⟩ ⟨by omega, by omega⟩
theorem lI_div {a b : Int} (h0 : 0 ≤ a) (ha : a < 9223372036854775808) (hb : 0 < b) (hb2 : b < 9223372036854775808) : lI a / lI b = lI (a / b) := by
  have h := div_small h0 hb
  rw [← Int.tdiv_eq_ediv_of_nonneg h0] at h ⊢
  exact lI_tdiv ⟨by omega, ha⟩ ⟨by omega, hb2⟩ ⟨by omega, by omega⟩
theorem iI_nat {a : Int} (h0 : 0 ≤ a) (ha : a < 2147483648) : (iI a).toNatClampNeg = a.toNat := by
  rw [Int32.toNatClampNeg, iI_toInt ⟨by omega, ha⟩]
theorem iI_vin {a : Int} {n : Nat} (h0 : 0 ≤ a) (ha : a < 2147483648) (hn : a.toNat < n) : vp_in (iI a) n := by
  unfold vp_in
  rw [iI_nat h0 ha, show (0 : Int32) = iI 0 from iI_lit 0, iI_lt ⟨by omega, ha⟩ ⟨by omega, by omega⟩]
  omega
theorem iI_toL {a : Int} (ha : inI a) : (iI a).toInt64 = lI a := by
  rw [← Int64.toInt_inj, Int32.toInt_toInt64, iI_toInt ha, lI_toInt ⟨by obtain ⟨h1, h2⟩ := ha; omega, by obtain ⟨h1, h2⟩ := ha; omega⟩]
theorem lI_toI {a : Int} (ha : inI a) : (lI a).toInt32 = iI a := by
  rw [← Int32.toInt_inj, Int64.toInt_toInt32, lI_toInt ⟨by obtain ⟨h1, h2⟩ := ha; omega, by obtain ⟨h1, h2⟩ := ha; omega⟩, iI_toInt ha]
  obtain ⟨h1, h2⟩ := ha
  exact Int.bmod_eq_of_le (by omega) (by omega)
theorem iI_inc (a : Int) : iI a + Int32.ofInt 1 = iI (a + 1) := iI_add a 1
theorem inI_of {a : Int} (h1 : -2147483648 ≤ a) (h2 : a < 2147483648) : inI a := ⟨h1, h2⟩
theorem jMin_I {a b : Int} (ha : inI a) (hb : inI b) : jMin (iI a) (iI b) = iI (min a b) := by
  unfold jMin
  by_cases h : b < a
  · rw [if_pos ((iI_lt hb ha).mpr h), show min a b = b by omega]
  · rw [if_neg (fun q => h ((iI_lt hb ha).mp q)), show min a b = a by omega]
theorem jMax_I {a b : Int} (ha : inI a) (hb : inI b) : jMax (iI a) (iI b) = iI (max a b) := by
  unfold jMax
  by_cases h : a < b
  · rw [if_pos ((iI_lt ha hb).mpr h), show max a b = b by omega]
  · rw [if_neg (fun q => h ((iI_lt ha hb).mp q)), show max a b = a by omega]
theorem lMin_I {a b : Int} (ha : inL a) (hb : inL b) : lMin (lI a) (lI b) = lI (min a b) := by
  unfold lMin
  by_cases h : b < a
  · rw [if_pos ((lI_lt hb ha).mpr h), show min a b = b by omega]
  · rw [if_neg (fun q => h ((lI_lt hb ha).mp q)), show min a b = a by omega]
theorem lMax_I {a b : Int} (ha : inL a) (hb : inL b) : lMax (lI a) (lI b) = lI (max a b) := by
  unfold lMax
  by_cases h : a < b
  · rw [if_pos ((lI_lt ha hb).mpr h), show max a b = b by omega]
  · rw [if_neg (fun q => h ((lI_lt ha hb).mp q)), show max a b = a by omega]
theorem lAbs_I {a : Int} (ha : inL a) : lAbs (lI a) = lI (a.natAbs : Int) := by
  unfold lAbs
  have z : (0 : Int64) = lI 0 := lI_lit 0
  by_cases h : 0 ≤ a
  · rw [if_pos (by rw [z]; exact (lI_le ⟨by omega, by omega⟩ ha).mpr h), show (a.natAbs : Int) = a by omega]
  · rw [if_neg (by rw [z]; exact fun q => h ((lI_le ⟨by omega, by omega⟩ ha).mp q)), lI_neg, show (a.natAbs : Int) = -a by omega]
/-- the sum of f over k whole numbers from i on -/
def sm (f : Int → Int) : Int → Nat → Int
  | _, 0 => 0
  | i, k + 1 => f i + sm f (i + 1) k
theorem sm_last (f : Int → Int) : ∀ (k : Nat) (i : Int), sm f i (k + 1) = sm f i k + f (i + k)
  | 0, i => by simp [sm]
  | k + 1, i => by
    rw [sm, sm_last f k (i + 1), sm]
    rw [show i + 1 + (k : Int) = i + ((k + 1 : Nat) : Int) by omega]
    omega
theorem sm_add (f : Int → Int) : ∀ (k m : Nat) (i : Int), sm f i (k + m) = sm f i k + sm f (i + k) m
  | 0, m, i => by simp [sm]
  | k + 1, m, i => by
    rw [show k + 1 + m = (k + m) + 1 by omega, sm, sm, sm_add f k m (i + 1), show i + 1 + (k : Int) = i + ((k + 1 : Nat) : Int) by omega]
    omega
theorem sm_congr {f g : Int → Int} : ∀ (k : Nat) (i : Int), (∀ j, i ≤ j → j < i + k → f j = g j) → sm f i k = sm g i k
  | 0, _, _ => rfl
  | k + 1, i, h => by rw [sm, sm, h i (by omega) (by omega), sm_congr k (i + 1) (fun j h1 h2 => h j (by omega) (by omega))]
theorem sm_zero {f : Int → Int} : ∀ (k : Nat) (i : Int), (∀ j, i ≤ j → j < i + k → f j = 0) → sm f i k = 0
  | 0, _, _ => rfl
  | k + 1, i, h => by rw [sm, h i (by omega) (by omega), sm_zero k (i + 1) (fun j h1 h2 => h j (by omega) (by omega))]; rfl
theorem sm_le {f : Int → Int} {b : Int} : ∀ (k : Nat) (i : Int), (∀ j, i ≤ j → j < i + k → 0 ≤ f j ∧ f j ≤ b) → 0 ≤ sm f i k ∧ sm f i k ≤ k * b
  | 0, _, _ => by simp [sm]
  | k + 1, i, h => by
    have h1 := h i (by omega) (by omega)
    have h2 := sm_le k (i + 1) (fun j h1 h2 => h j (by omega) (by omega))
    rw [sm]
    have : ((k + 1 : Nat) : Int) * b = k * b + b := by rw [Int.natCast_add, Int.add_mul]; simp
    omega
/-- shifting the numbers -/
theorem sm_shift (f : Int → Int) (d : Int) : ∀ (k : Nat) (i : Int), sm (fun j => f (d + j)) i k = sm f (d + i) k
  | 0, _ => rfl
  | k + 1, i => by rw [sm, sm, sm_shift f d k (i + 1), show d + (i + 1) = d + i + 1 by omega]
