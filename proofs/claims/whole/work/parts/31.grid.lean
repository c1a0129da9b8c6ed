/-! Cells of a patch, found by asking every cell between the sides which patch it is of. -/
def pAt (c r t x y : Int) : Int := if t = 1 then r * (c - 1 - x) + y else if t = 2 then c * (r - 1 - y) + (c - 1 - x) else if t = 3 then r * x + (r - 1 - y) else c * y + x
theorem dm_iff {m a b p : Int} (hm : 0 < m) (b0 : 0 ≤ b) (b1 : b < m) : m * a + b = p ↔ a = p / m ∧ b = p % m := by
  constructor
  · intro h
    subst h
    have e1 : (m * a + b) / m = a := by
      rw [Int.add_comm, Int.add_mul_ediv_left b a (by omega), Int.ediv_eq_zero_of_lt b0 b1, Int.zero_add]
    have e2 : (m * a + b) % m = b := by
      rw [Int.add_comm, Int.add_mul_emod_self_left, Int.emod_eq_of_lt b0 b1]
    exact ⟨e1.symm, e2.symm⟩
  · intro ⟨ha, hb⟩
    have h := Int.emod_add_mul_ediv p m
    rw [ha, hb]
    omega
theorem pAt_iff {c r t x y : Int} (h : lyOk c r t) (x0 : 0 ≤ x) (x1 : x < c) (y0 : 0 ≤ y) (y1 : y < r) (p : Int) : pAt c r t x y = p ↔ x = colN c r t p ∧ y = rowN c r t p := by
  unfold lyOk at h
  unfold pAt colN rowN
  by_cases t1 : t = 1
  · simp only [if_pos t1]
    rw [dm_iff (by omega) (by omega) (by omega)]
    constructor
    · intro ⟨h1, h2⟩; constructor <;> omega
    · intro ⟨h1, h2⟩; constructor <;> omega
  · simp only [if_neg t1]
    by_cases t2 : t = 2
    · simp only [if_pos t2]
      rw [dm_iff (by omega) (by omega) (by omega)]
      constructor
      · intro ⟨h1, h2⟩; constructor <;> omega
      · intro ⟨h1, h2⟩; constructor <;> omega
    · simp only [if_neg t2]
      by_cases t3 : t = 3
      · simp only [if_pos t3]
        rw [dm_iff (by omega) (by omega) (by omega)]
        constructor
        · intro ⟨h1, h2⟩; constructor <;> omega
        · intro ⟨h1, h2⟩; constructor <;> omega
      · simp only [if_neg t3]
        rw [dm_iff (by omega) (by omega) (by omega)]
        constructor
        · intro ⟨h1, h2⟩; constructor <;> omega
        · intro ⟨h1, h2⟩; constructor <;> omega
theorem pAt_in {c r t x y : Int} (h : lyOk c r t) (x0 : 0 ≤ x) (x1 : x < c) (y0 : 0 ≤ y) (y1 : y < r) : 0 ≤ pAt c r t x y ∧ pAt c r t x y ≤ 100 := by
  unfold lyOk at h
  unfold pAt
  have m1 := mbd (A := 4) (B := 4) (a := r) (b := c - 1 - x) (by omega) (by omega)
  have m2 := mbd (A := 4) (B := 4) (a := c) (b := r - 1 - y) (by omega) (by omega)
  have m3 := mbd (A := 4) (B := 4) (a := r) (b := x) (by omega) (by omega)
  have m4 := mbd (A := 4) (B := 4) (a := c) (b := y) (by omega) (by omega)
  have n1 : 0 ≤ r * (c - 1 - x) := Int.mul_nonneg (by omega) (by omega)
  have n2 : 0 ≤ c * (r - 1 - y) := Int.mul_nonneg (by omega) (by omega)
  have n3 : 0 ≤ r * x := Int.mul_nonneg (by omega) (by omega)
  have n4 : 0 ≤ c * y := Int.mul_nonneg (by omega) (by omega)
  split
  · omega
  · split
    · omega
    · split <;> omega
theorem fs_le {k s n i : Int} (hs : 0 < s) : fsI k s n ≤ i ↔ k * n ≤ i * s := by
  unfold fsI
  have h := Int.ediv_lt_iff_lt_mul (a := k * n + s - 1) (b := i + 1) (c := s) hs
  have e : (i + 1) * s = i * s + s := by rw [Int.add_mul]; omega
  rw [e] at h
  constructor
  · intro q
    have := h.mp (by omega)
    omega
  · intro q
    have := h.mpr (by omega)
    omega
theorem share_iff {c n i k : Int} (hc : 0 < c) (hn : 0 < n) : i * c / n = k ↔ (fsI k c n ≤ i ∧ i < fsI (k + 1) c n) := by
  have h1 := Int.le_ediv_iff_mul_le (a := k) (b := i * c) (c := n) hn
  have h2 := Int.ediv_lt_iff_lt_mul (a := i * c) (b := k + 1) (c := n) hn
  have h3 := fs_le (k := k) (s := c) (n := n) (i := i) hc
  have h4 := fs_le (k := k + 1) (s := c) (n := n) (i := i) hc
  constructor
  · intro h
    refine ⟨h3.mpr (h1.mp (by omega)), ?_⟩
    have h5 := h2.mp (by omega)
    have h6 : ¬ fsI (k + 1) c n ≤ i := fun q => absurd (h4.mp q) (by omega)
    omega
  · intro ⟨q1, q2⟩
    have h5 := h1.mpr (h3.mp q1)
    have h7 : ¬ (k + 1) * n ≤ i * c := fun q => absurd (h4.mpr q) (by omega)
    have h6 := h2.mpr (by omega)
    omega
theorem share_in {c n i : Int} (hc : 0 < c) (i0 : 0 ≤ i) (i1 : i < n) : 0 ≤ i * c / n ∧ i * c / n < c := by
  have h0 : 0 ≤ i * c := Int.mul_nonneg i0 (by omega)
  have h1 : i * c < n * c := Int.mul_lt_mul_of_pos_right i1 hc
  rw [Int.mul_comm n c] at h1
  exact div_in (by omega) h0 h1
theorem sm_grid (F : Int → Int → Int) (W : Nat) (hW : 0 < W) : ∀ n : Nat, sm (fun k => F (k % W) (k / W)) 0 (W * n) = sm (fun j => sm (fun i => F i j) 0 W) 0 n
  | 0 => by rw [Nat.mul_zero]; rfl
  | n + 1 => by
    rw [Nat.mul_succ, sm_add, sm_grid F W hW n, sm_last, Int.zero_add, Int.zero_add]
    congr 1
    have h := sm_shift (fun k => F (k % W) (k / W)) ((W * n : Nat) : Int) W 0
    rw [Int.add_zero] at h
    rw [← h]
    refine sm_congr W 0 (fun i h1 h2 => ?_)
    have e1 : (((W * n : Nat) : Int) + i) % (W : Int) = i := by
      rw [Int.natCast_mul, Int.add_comm, Int.add_mul_emod_self_left, Int.emod_eq_of_lt h1 (by omega)]
    have e2 : (((W * n : Nat) : Int) + i) / (W : Int) = n := by
      rw [Int.natCast_mul, Int.add_comm, Int.add_mul_ediv_left _ _ (by omega), Int.ediv_eq_zero_of_lt h1 (by omega), Int.zero_add]
    show F ((((W * n : Nat) : Int) + i) % (W : Int)) ((((W * n : Nat) : Int) + i) / (W : Int)) = F i n
    rw [e1, e2]
theorem sm_part {g : Int → Int} {P : Int → Bool} {a b : Int} {N : Nat} (a0 : 0 ≤ a) (ab : a ≤ b) (bN : b ≤ N) (hP : ∀ i : Int, 0 ≤ i → i < N → (P i = true ↔ (a ≤ i ∧ i < b))) : sh P g 0 N = sm g a (b - a).toNat := by
  have e : N = a.toNat + ((b - a).toNat + (N - b.toNat)) := by omega
  unfold sh
  rw [e, sm_add, sm_add]
  have e1 : (0 : Int) + (a.toNat : Int) = a := by omega
  have e2 : a + ((b - a).toNat : Int) = b := by omega
  rw [e1, e2]
  have z1 : sm (fun p => if P p = true then g p else 0) 0 a.toNat = 0 := sm_zero _ _ (fun j h1 h2 => if_neg (fun q => by have := (hP j h1 (by omega)).mp q; omega))
  have z2 : sm (fun p => if P p = true then g p else 0) b (N - b.toNat) = 0 := sm_zero _ _ (fun j h1 h2 => if_neg (fun q => by have := (hP j (by omega) (by omega)).mp q; omega))
  have z3 : sm (fun p => if P p = true then g p else 0) a (b - a).toNat = sm g a (b - a).toNat := sm_congr _ _ (fun j h1 h2 => if_pos ((hP j (by omega) (by omega)).mpr ⟨h1, by omega⟩))
  rw [z1, z2, z3]
  omega
def gB (c r t W H p j : Int) : Bool := decide (pAt c r t (j % W * c / W) (j / W * r / H) = p)
theorem gat0 {c r t p a b u v : Int} {W H : Nat} (hy : lyOk c r t) (hW : 0 < W) (hH : 0 < H) (f : Int → Int → Int) (ha : a = fsI (colN c r t p) c W) (hb : b = fsI (colN c r t p + 1) c W) (hu : u = fsI (rowN c r t p) r H) (hv : v = fsI (rowN c r t p + 1) r H)
    (a0 : 0 ≤ a) (ab : a ≤ b) (bW : b ≤ W) (u0 : 0 ≤ u) (uv : u ≤ v) (vH : v ≤ H) : sh (gB c r t W H p) (fun j => f (j % W) (j / W)) 0 (W * H) = sm (fun y => sm (fun x => f x y) a (b - a).toNat) u (v - u).toNat := by
  have hy' := hy
  unfold lyOk at hy'
  refine (sm_grid (fun i j => if decide (pAt c r t (i * c / W) (j * r / H) = p) = true then f i j else 0) W hW H).trans ?_
  rw [← sm_part (P := fun j => decide (u ≤ j ∧ j < v)) (g := fun y => sm (fun x => f x y) a (b - a).toNat) (N := H) u0 uv vH (fun i _ _ => decide_eq_true_iff)]
  unfold sh
  refine sm_congr _ _ (fun j j0 j1 => ?_)
  have sj := share_in (c := r) (n := H) (i := j) (by omega) j0 (by omega)
  have ij := share_iff (c := r) (n := (H : Int)) (i := j) (k := rowN c r t p) (by omega) (by omega)
  by_cases hj : u ≤ j ∧ j < v
  · show _ = if decide (u ≤ j ∧ j < v) = true then _ else _
    rw [if_pos (decide_eq_true hj)]
    show sm _ 0 W = sm (fun x => f x j) a (b - a).toNat
    rw [← sm_part (P := fun i => decide (pAt c r t (i * c / W) (j * r / H) = p)) (g := fun x => f x j) (N := W) a0 ab bW (fun i i0 i1 => ?_)]
    · rfl
    · have si := share_in (c := c) (n := W) (i := i) (by omega) i0 i1
      have ii := share_iff (c := c) (n := (W : Int)) (i := i) (k := colN c r t p) (by omega) (by omega)
      rw [decide_eq_true_iff, pAt_iff hy si.1 si.2 sj.1 sj.2, ii, ij, ← ha, ← hb, ← hu, ← hv]
      exact ⟨fun q => q.1, fun q => ⟨q, hj⟩⟩
  · show _ = if decide (u ≤ j ∧ j < v) = true then _ else _
    rw [if_neg (fun q => hj (decide_eq_true_iff.mp q))]
    refine sm_zero _ _ (fun i i0 i1 => if_neg (fun q => hj ?_))
    have si := share_in (c := c) (n := W) (i := i) (by omega) i0 (by omega)
    have q2 := ((pAt_iff hy si.1 si.2 sj.1 sj.2 p).mp (decide_eq_true_iff.mp q)).2
    rw [hu, hv]
    exact ij.mp q2
theorem gat {le to ri bo w g c r t p : Int} (hfr : frOk le to ri bo w g) (hy : lyOk c r t) (p0 : 0 ≤ p) (p1 : p < c * r) (f : Int → Int → Int) :
    sh (gB c r t (ri - le - 1) (bo - to - 1) p) (fun j => f (le + 1 + j % (ri - le - 1)) (to + 1 + j / (ri - le - 1))) 0 ((ri - le - 1) * (bo - to - 1)).toNat = rcS f le to ri bo c r t p := by
  have hc := colN_in hy p0 p1
  have hr := rowN_in hy p0 p1
  have hy' := hy
  unfold frOk at hfr
  unfold lyOk at hy'
  have h1 := fs_in (n := ri - le - 1) hc.1 hc.2 (by omega) (by omega) (by omega)
  have h2 := fs_in (n := bo - to - 1) hr.1 hr.2 (by omega) (by omega) (by omega)
  obtain ⟨W, hW⟩ : ∃ W : Nat, ri - le - 1 = W := ⟨(ri - le - 1).toNat, by omega⟩
  obtain ⟨H, hH⟩ : ∃ H : Nat, bo - to - 1 = H := ⟨(bo - to - 1).toNat, by omega⟩
  unfold rcS sumR pL
  have w0 : 0 < W := by omega
  have g0 : 0 < H := by omega
  rw [hW] at h1 ⊢
  rw [hH] at h2 ⊢
  have e := gat0 (p := p) (W := W) (H := H) hy w0 g0 (fun x y => f (le + 1 + x) (to + 1 + y)) rfl rfl rfl rfl h1.1 (by omega) h1.2.2.1 h2.1 (by omega) h2.2.2.1
  rw [show ((W : Int) * (H : Int)).toNat = W * H by rw [← Int.natCast_mul]; rfl, e]
  rw [show le + 1 + fsI (colN c r t p + 1) c W - (le + 1 + fsI (colN c r t p) c W) = fsI (colN c r t p + 1) c W - fsI (colN c r t p) c W by omega]
  rw [show to + 1 + fsI (rowN c r t p + 1) r H - (to + 1 + fsI (rowN c r t p) r H) = fsI (rowN c r t p + 1) r H - fsI (rowN c r t p) r H by omega]
  rw [← sm_shift (fun y => sm (fun x => f x y) (le + 1 + fsI (colN c r t p) c W) (fsI (colN c r t p + 1) c W - fsI (colN c r t p) c W).toNat) (to + 1)]
  refine sm_congr _ _ (fun y _ _ => ?_)
  exact sm_shift (fun x => f x (to + 1 + y)) (le + 1) _ _
theorem sm_const (v : Int) : ∀ (k : Nat) (i : Int), sm (fun _ => v) i k = k * v
  | 0, i => by simp [sm]
  | k + 1, i => by
    rw [sm, sm_const v k (i + 1), Int.natCast_add, Int.add_mul]
    omega
theorem gat_one {le to ri bo w g c r t p : Int} (hfr : frOk le to ri bo w g) (hy : lyOk c r t) (p0 : 0 ≤ p) (p1 : p < c * r) :
    sh (gB c r t (ri - le - 1) (bo - to - 1) p) (fun _ => 1) 0 ((ri - le - 1) * (bo - to - 1)).toNat = rcN le to ri bo c r t p := by
  rw [gat hfr hy p0 p1 (fun _ _ => 1)]
  have hc := colN_in hy p0 p1
  have hr := rowN_in hy p0 p1
  unfold frOk at hfr
  unfold lyOk at hy
  have h1 := pL_in (le := le) (ri := ri) (s := c) (k := colN c r t p) (by omega) (by omega) (by omega) hc.1 hc.2 (by omega)
  have h2 := pL_in (le := to) (ri := bo) (s := r) (k := rowN c r t p) (by omega) (by omega) (by omega) hr.1 hr.2 (by omega)
  unfold rcS sumR rcN
  simp only [sm_const, Int.mul_one]
  rw [show ((pL to bo r (rowN c r t p + 1) - pL to bo r (rowN c r t p)).toNat : Int) = pL to bo r (rowN c r t p + 1) - pL to bo r (rowN c r t p) by omega, show ((pL le ri c (colN c r t p + 1) - pL le ri c (colN c r t p)).toNat : Int) = pL le ri c (colN c r t p + 1) - pL le ri c (colN c r t p) by omega, Int.mul_comm]
