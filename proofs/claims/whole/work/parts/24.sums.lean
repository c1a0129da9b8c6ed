/-! Sums over patches that have a target; the fitted line. -/
def sh (has : Int → Bool) (f : Int → Int) (i : Int) (k : Nat) : Int := sm (fun p => if has p then f p else 0) i k
theorem sh_zero (has : Int → Bool) (f : Int → Int) (i : Int) : sh has f i 0 = 0 := rfl
theorem sh_t {has : Int → Bool} {f : Int → Int} {i : Int} {k : Nat} (h : has i = true) : sh has f i (k + 1) = f i + sh has f (i + 1) k := by
  simp only [sh, sm, h, if_true]
theorem sh_f {has : Int → Bool} {f : Int → Int} {i : Int} {k : Nat} (h : has i = false) : sh has f i (k + 1) = sh has f (i + 1) k := by
  simp [sh, sm, h]
theorem sh_bd {has : Int → Bool} {f : Int → Int} {M : Int} (hM : 0 ≤ M) : ∀ (k : Nat) (i : Int), (∀ p, i ≤ p → p < i + k → has p = true → -M ≤ f p ∧ f p ≤ M) → -(k * M) ≤ sh has f i k ∧ sh has f i k ≤ k * M
  | 0, i, _ => by simp [sh, sm]
  | k + 1, i, h => by
    have ih := sh_bd hM k (i + 1) (fun p h1 h2 h3 => h p (by omega) (by omega) h3)
    have e : ((k + 1 : Nat) : Int) * M = k * M + M := by rw [Int.natCast_add, Int.add_mul]; simp
    cases hc : has i with
    | false => rw [sh_f hc, e]; omega
    | true =>
      have := h i (by omega) (by omega) hc
      rw [sh_t hc, e]; omega
theorem sh_nn {has : Int → Bool} {f : Int → Int} (h : ∀ p, 0 ≤ f p) : ∀ (k : Nat) (i : Int), 0 ≤ sh has f i k
  | 0, i => by simp [sh, sm]
  | k + 1, i => by
    have ih := sh_nn (has := has) h k (i + 1)
    cases hc : has i with
    | false => rw [sh_f hc]; exact ih
    | true => have := h i; rw [sh_t hc]; omega
theorem sh_one (has : Int → Bool) : ∀ (k : Nat) (i : Int), sh has (fun _ => 1) i k = sm (fun p => bI (has p)) i k
  | 0, _ => rfl
  | k + 1, i => by
    rw [sm, ← sh_one has k (i + 1)]
    cases hc : has i with
    | false => rw [sh_f hc]; simp [bI]
    | true => rw [sh_t hc]; simp [bI]
theorem sq_nn (a : Int) : 0 ≤ a * a := by
  rcases Int.le_total 0 a with h | h
  · exact Int.mul_nonneg h h
  · exact Int.mul_nonneg_of_nonpos_of_nonpos h h
theorem cs_a (has : Int → Bool) (f : Int → Int) (v : Int) : ∀ (k : Nat) (i : Int), 0 ≤ sh has (fun p => f p * f p) i k - 2 * v * sh has f i k + v * v * sh has (fun _ => 1) i k
  | 0, i => by simp [sh, sm]
  | k + 1, i => by
    have ih := cs_a has f v k (i + 1)
    cases hc : has i with
    | false => rw [sh_f hc, sh_f hc, sh_f hc]; exact ih
    | true =>
      rw [sh_t hc, sh_t hc, sh_t hc]
      have := sq_nn (f i - v)
      have e : f i * f i + sh has (fun p => f p * f p) (i + 1) k - 2 * v * (f i + sh has f (i + 1) k) + v * v * (1 + sh has (fun _ => 1) (i + 1) k) = (sh has (fun p => f p * f p) (i + 1) k - 2 * v * sh has f (i + 1) k + v * v * sh has (fun _ => 1) (i + 1) k) + (f i - v) * (f i - v) := by grind
      rw [e]
      omega
theorem cs_b (has : Int → Bool) (f : Int → Int) : ∀ (k : Nat) (i : Int), 0 ≤ sh has (fun _ => 1) i k * sh has (fun p => f p * f p) i k - sh has f i k * sh has f i k
  | 0, i => by simp [sh, sm]
  | k + 1, i => by
    have ih := cs_b has f k (i + 1)
    cases hc : has i with
    | false => rw [sh_f hc, sh_f hc, sh_f hc]; exact ih
    | true =>
      rw [sh_t hc, sh_t hc, sh_t hc]
      have ha := cs_a has f (f i) k (i + 1)
      have e : (1 + sh has (fun _ => 1) (i + 1) k) * (f i * f i + sh has (fun p => f p * f p) (i + 1) k) - (f i + sh has f (i + 1) k) * (f i + sh has f (i + 1) k) = (sh has (fun _ => 1) (i + 1) k * sh has (fun p => f p * f p) (i + 1) k - sh has f (i + 1) k * sh has f (i + 1) k) + (sh has (fun p => f p * f p) (i + 1) k - 2 * f i * sh has f (i + 1) k + f i * f i * sh has (fun _ => 1) (i + 1) k) := by grind
      rw [e]
      omega
def red3 (t : Int × Int × Int) : Int × Int × Int := (t.1.tdiv (gcd3 t.1 t.2.1 t.2.2), t.2.1.tdiv (gcd3 t.1 t.2.1 t.2.2), t.2.2.tdiv (gcd3 t.1 t.2.1 t.2.2))
def heldT (xx xy u v : Int) : Int × Int × Int := if xx = 0 then (0, v, 1) else (xy, xx * v - xy * u, xx)
def freeT (n x y xx xy : Int) : Int × Int × Int := if n * xx - x * x = 0 then (0, y, n) else (n * xy - x * y, y * xx - x * xy, n * xx - x * x)
/-- the line of a part: rd the read, tg the wanted, nt the neutral patch, n how many patches -/
def rawK (rd tg : Int → Int → Int) (has : Int → Bool) (nt : Int) (n : Nat) (k : Int) : Int × Int × Int :=
  if 0 ≤ nt ∧ nt < n then heldT (sh has (fun p => (rd p k - rd nt k) * (rd p k - rd nt k)) 0 n) (sh has (fun p => (rd p k - rd nt k) * (tg p k - tg nt k)) 0 n) (rd nt k) (tg nt k)
  else freeT (sh has (fun _ => 1) 0 n) (sh has (fun p => rd p k) 0 n) (sh has (fun p => tg p k) 0 n) (sh has (fun p => rd p k * rd p k) 0 n) (sh has (fun p => rd p k * tg p k) 0 n)
def fitK (rd tg : Int → Int → Int) (has : Int → Bool) (nt : Int) (n : Nat) (k : Int) : Int × Int × Int := red3 (rawK rd tg has nt n k)
/-- what the sums of up to sixteen points stay within -/
theorem sums_bd {has : Int → Bool} {f g : Int → Int} {n : Nat} (hn : n ≤ 16) (hf : ∀ p : Int, 0 ≤ p → p < n → has p = true → -255 ≤ f p ∧ f p ≤ 255) (hg : ∀ p : Int, 0 ≤ p → p < n → has p = true → -255 ≤ g p ∧ g p ≤ 255) :
    (-4080 ≤ sh has f 0 n ∧ sh has f 0 n ≤ 4080) ∧ (-1040400 ≤ sh has (fun p => f p * g p) 0 n ∧ sh has (fun p => f p * g p) 0 n ≤ 1040400) := by
  have a := sh_bd (f := f) (M := 255) (by omega) n 0 (fun p h1 h2 h3 => hf p h1 (by omega) h3)
  have b := sh_bd (f := fun p => f p * g p) (M := 65025) (by omega) n 0 (fun p h1 h2 h3 => by
    have := mbd (hf p h1 (by omega) h3) (hg p h1 (by omega) h3)
    omega)
  omega
theorem free_bd {has : Int → Bool} {f g : Int → Int} {n : Nat} (hn : n ≤ 16) (hf : ∀ p : Int, 0 ≤ p → p < n → has p = true → -255 ≤ f p ∧ f p ≤ 255) (hg : ∀ p : Int, 0 ≤ p → p < n → has p = true → -255 ≤ g p ∧ g p ≤ 255) :
    bL (sh has g 0 n) ∧ bL (sh has (fun _ => 1) 0 n * sh has (fun p => f p * g p) 0 n - sh has f 0 n * sh has g 0 n) ∧ bL (sh has g 0 n * sh has (fun p => f p * f p) 0 n - sh has f 0 n * sh has (fun p => f p * g p) 0 n) ∧ bL (sh has (fun _ => 1) 0 n * sh has (fun p => f p * f p) 0 n - sh has f 0 n * sh has f 0 n) ∧ 0 ≤ sh has (fun _ => 1) 0 n * sh has (fun p => f p * f p) 0 n - sh has f 0 n * sh has f 0 n := by
  have a := sums_bd hn hf hg
  have b := sums_bd hn hg hf
  have d := sums_bd hn hf hf
  have e := sm_has_le has n 0
  rw [← sh_one] at e
  have h1 := mbd (A := 16) (B := 1040400) (a := sh has (fun _ => 1) 0 n) (b := sh has (fun p => f p * g p) 0 n) (by omega) (by omega)
  have h2 := mbd (A := 4080) (B := 4080) (a := sh has f 0 n) (b := sh has g 0 n) (by omega) (by omega)
  have h3 := mbd (A := 4080) (B := 1040400) (a := sh has g 0 n) (b := sh has (fun p => f p * f p) 0 n) (by omega) (by omega)
  have h4 := mbd (A := 4080) (B := 1040400) (a := sh has f 0 n) (b := sh has (fun p => f p * g p) 0 n) (by omega) (by omega)
  have h5 := mbd (A := 16) (B := 1040400) (a := sh has (fun _ => 1) 0 n) (b := sh has (fun p => f p * f p) 0 n) (by omega) (by omega)
  have h6 := mbd (A := 4080) (B := 4080) (a := sh has f 0 n) (b := sh has f 0 n) (by omega) (by omega)
  unfold bL
  refine ⟨by omega, by omega, by omega, by omega, cs_b has f n 0⟩
theorem held_bd {has : Int → Bool} {f g : Int → Int} {n : Nat} {u v : Int} (hn : n ≤ 16) (hf : ∀ p : Int, 0 ≤ p → p < n → has p = true → -255 ≤ f p ∧ f p ≤ 255) (hg : ∀ p : Int, 0 ≤ p → p < n → has p = true → -255 ≤ g p ∧ g p ≤ 255) (hu : 0 ≤ u ∧ u ≤ 255) (hv : 0 ≤ v ∧ v ≤ 255) :
    bL v ∧ bL (sh has (fun p => f p * g p) 0 n) ∧ bL (sh has (fun p => f p * f p) 0 n) ∧ 0 ≤ sh has (fun p => f p * f p) 0 n ∧ bL (sh has (fun p => f p * f p) 0 n * v - sh has (fun p => f p * g p) 0 n * u) := by
  have a := sums_bd hn hf hg
  have d := sums_bd hn hf hf
  have h1 := mbd (A := 1040400) (B := 255) (a := sh has (fun p => f p * f p) 0 n) (b := v) (by omega) (by omega)
  have h2 := mbd (A := 1040400) (B := 255) (a := sh has (fun p => f p * g p) 0 n) (b := u) (by omega) (by omega)
  unfold bL
  refine ⟨by omega, by omega, by omega, sh_nn (fun p => sq_nn (f p)) n 0, by omega⟩
theorem red3_ok {t : Int × Int × Int} (h1 : bL t.1) (h2 : bL t.2.1) (h3 : bL t.2.2) (h4 : 0 < t.2.2) : bL (red3 t).1 ∧ bL (red3 t).2.1 ∧ bL (red3 t).2.2 ∧ 0 < (red3 t).2.2 :=
  ⟨bL_red h1, bL_red h2, bL_red h3, gcd3_red h4⟩
def rdB (rd : Int → Int → Int) (n : Nat) : Prop := ∀ p k : Int, 0 ≤ p → p < n → 0 ≤ rd p k ∧ rd p k ≤ 255
def tgB (tg : Int → Int → Int) (has : Int → Bool) : Prop := ∀ p k : Int, 0 ≤ p → p < 16 → 0 ≤ k → k < 3 → has p = true → 0 ≤ tg p k ∧ tg p k ≤ 255
theorem raw_ok {rd tg : Int → Int → Int} {has : Int → Bool} {nt : Int} {n : Nat} {k : Int} (hn : n ≤ 16) (hr : rdB rd n) (ht : tgB tg has) (hnt : 0 ≤ nt → has nt = true) (h0 : 0 < sh has (fun _ => 1) 0 n) (k0 : 0 ≤ k) (k1 : k < 3) :
    bL (rawK rd tg has nt n k).1 ∧ bL (rawK rd tg has nt n k).2.1 ∧ bL (rawK rd tg has nt n k).2.2 ∧ 0 < (rawK rd tg has nt n k).2.2 := by
  unfold rawK
  have e := sm_has_le has n 0
  rw [← sh_one] at e
  by_cases hh : 0 ≤ nt ∧ nt < n
  · rw [if_pos hh]
    have r0 := hr nt k hh.1 hh.2
    have t0 := ht nt k hh.1 (by omega) k0 k1 (hnt hh.1)
    obtain ⟨b1, b2, b3, b4, b5⟩ := held_bd (has := has) (f := fun p => rd p k - rd nt k) (g := fun p => tg p k - tg nt k) hn (fun p h1 h2 _ => by have := hr p k h1 h2; (try dsimp only); omega) (fun p h1 h2 h3 => by have := ht p k h1 (by omega) k0 k1 h3; (try dsimp only); omega) r0 t0
    unfold heldT
    by_cases hz : sh has (fun p => (rd p k - rd nt k) * (rd p k - rd nt k)) 0 n = 0
    · rw [if_pos hz]; exact ⟨by unfold bL; omega, b1, by unfold bL; (try dsimp only); omega, by simp⟩
    · rw [if_neg hz]; exact ⟨b2, b5, b3, by (try dsimp only); omega⟩
  · rw [if_neg hh]
    obtain ⟨b1, b2, b3, b4, b5⟩ := free_bd (has := has) (f := fun p => rd p k) (g := fun p => tg p k) hn (fun p h1 h2 _ => by have := hr p k h1 h2; (try dsimp only); omega) (fun p h1 h2 h3 => by have := ht p k h1 (by omega) k0 k1 h3; (try dsimp only); omega)
    unfold freeT
    by_cases hz : sh has (fun _ => 1) 0 n * sh has (fun p => rd p k * rd p k) 0 n - sh has (fun p => rd p k) 0 n * sh has (fun p => rd p k) 0 n = 0
    · rw [if_pos hz]; exact ⟨by unfold bL; omega, b1, by unfold bL; (try dsimp only); omega, h0⟩
    · rw [if_neg hz]; exact ⟨b2, b3, b4, by (try dsimp only); omega⟩
theorem fitK_ok {rd tg : Int → Int → Int} {has : Int → Bool} {nt : Int} {n : Nat} {k : Int} (hn : n ≤ 16) (hr : rdB rd n) (ht : tgB tg has) (hnt : 0 ≤ nt → has nt = true) (h0 : 0 < sh has (fun _ => 1) 0 n) (k0 : 0 ≤ k) (k1 : k < 3) :
    bL (fitK rd tg has nt n k).1 ∧ bL (fitK rd tg has nt n k).2.1 ∧ bL (fitK rd tg has nt n k).2.2 ∧ 0 < (fitK rd tg has nt n k).2.2 := by
  obtain ⟨a, b, c, d⟩ := raw_ok hn hr ht hnt h0 k0 k1
  exact red3_ok a b c d
