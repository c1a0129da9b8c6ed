/-! The picture by its cells; the frame. Laid by wip/whole/gen_c8.py. -/
def picOk (w g : Int) (np nl : Nat) (pf lf : Nat → Int32) (pic : Int → Int → Int → Int) (lig : Int → Int → Int) : Prop :=
  (6 ≤ w ∧ w ≤ 30 ∧ 6 ≤ g ∧ g ≤ 30) ∧ (np = (w * g * 3).toNat ∧ nl = (w * g).toNat) ∧ (∀ x y p, 0 ≤ x → x < w → 0 ≤ y → y < g → 0 ≤ p → p < 3 → pf ((y * w + x) * 3 + p).toNat = iI (pic x y p)) ∧ (∀ x y, 0 ≤ x → x < w → 0 ≤ y → y < g → lf (y * w + x).toNat = iI (lig x y)) ∧ (∀ x y p, 0 ≤ pic x y p ∧ pic x y p ≤ 255) ∧ (∀ x y, 0 ≤ lig x y ∧ lig x y ≤ 255)
theorem cell_in {x y w g : Int} (hw : 6 ≤ w ∧ w ≤ 30 ∧ 6 ≤ g ∧ g ≤ 30) (x0 : 0 ≤ x) (x1 : x < w) (y0 : 0 ≤ y) (y1 : y < g) : 0 ≤ y * w + x ∧ y * w + x < w * g ∧ w * g ≤ 900 ∧ 0 ≤ y * w := by
  have h1 : 0 ≤ y * w := Int.mul_nonneg y0 (by omega)
  have h2 : (y + 1) * w ≤ g * w := Int.mul_le_mul_of_nonneg_right (by omega) (by omega)
  have h3 : (y + 1) * w = y * w + w := by rw [Int.add_mul]; omega
  have h4 : w * g = g * w := Int.mul_comm _ _
  have h5 := mbd (A := 30) (B := 30) (a := w) (b := g) (by omega) (by omega)
  omega
def dk (pic : Int → Int → Int → Int) (x y : Int) : Bool := decide (pic x y 0 ≤ 40 ∧ pic x y 1 ≤ 40 ∧ pic x y 2 ≤ 40)
def ltI (pic : Int → Int → Int → Int) (lig : Int → Int → Int) (x y p : Int) : Int := if lig x y = 0 then 0 else min 255 ((400 * pic x y p + lig x y) / (2 * lig x y))
theorem ltI_in {pic : Int → Int → Int → Int} {lig : Int → Int → Int} (h1 : ∀ x y p, 0 ≤ pic x y p ∧ pic x y p ≤ 255) (h2 : ∀ x y, 0 ≤ lig x y ∧ lig x y ≤ 255) (x y p : Int) : 0 ≤ ltI pic lig x y p ∧ ltI pic lig x y p ≤ 255 := by
  unfold ltI
  have a := h1 x y p
  have b := h2 x y
  by_cases h : lig x y = 0
  · rw [if_pos h]; omega
  · rw [if_neg h]
    have := Int.ediv_nonneg (a := 400 * pic x y p + lig x y) (b := 2 * lig x y) (by omega) (by omega)
    omega
theorem jLit_I {l v : Int} (hl : 0 ≤ l ∧ l ≤ 255) (hv : 0 ≤ v ∧ v ≤ 255) : jLit (iI l) (iI v) = iI (if l = 0 then 0 else min 255 ((400 * v + l) / (2 * l))) := by
  unfold jLit
  by_cases h : l = 0
  · rw [if_pos h, if_pos (by rw [h]; rfl)]; rfl
  · have hne : ¬ iI l = 0 := fun q => h ((iI_eq ⟨by omega, by omega⟩ ⟨by omega, by omega⟩).mp (show iI l = iI 0 from q))
    have hd := div_small (a := 400 * v + l) (b := 2 * l) (by omega) (by omega)
    rw [if_neg h, if_neg hne, show (2 : Int32) = iI 2 from rfl, show (200 : Int32) = iI 200 from rfl, show (255 : Int32) = iI 255 from rfl, iI_mul, iI_mul, iI_mul, iI_add, show 2 * (v * 200) + l = 400 * v + l by omega, iI_div (by omega) (by omega) (by omega) (by omega), jMin_I ⟨by omega, by omega⟩ ⟨by omega, by omega⟩]
def PX (h : ah_H) (q : Nat) (w g : Int) (pic : Int → Int → Int → Int) (lig : Int → Int → Int) : Prop := ∃ (qp ql np nl : Nat) (pf lf : Nat → Int32), h[q]? = some (.inr (1, [.int (iI w), .int (iI g), .ref qp, .ref ql])) ∧ h[qp]? = some (aI np pf) ∧ h[ql]? = some (aI nl lf) ∧ picOk w g np nl pf lf pic lig
def G2_I_litPart (av : List Value) (h : ah_H) (K : ah_R → ah_H → Prop) : Prop := ∃ (q : Nat) (w g x y p : Int) (pic : Int → Int → Int → Int) (lig : Int → Int → Int), av = [.ref q, .int (iI x), .int (iI y), .int (iI p)] ∧ PX h q w g pic lig ∧ 0 ≤ x ∧ x < w ∧ 0 ≤ y ∧ y < g ∧ 0 ≤ p ∧ p < 3 ∧ K (.inl (some (.int (iI (ltI pic lig x y p))))) h
theorem c2_I_litPart (l : Launch) : rn_Met l y_I_litPart wc_I_litPart { frames := 2, cells := 0, slots := 0, locals := 21 } G2_I_litPart := by
  refine rn_wk (c_I_litPart l) ?_
  intro _ av h K hG
  obtain ⟨q, w, g, x, y, p, pic, lig, rfl, ⟨qp, ql, np, nl, pf, lf, h1, h2, h3, hw, ⟨hn1, hn2⟩, hp, hl, bp, bl⟩, x0, x1, y0, y1, p0, p1, hK⟩ := hG
  have hc := cell_in hw x0 x1 y0 y1
  have e1 : iI y * iI w + iI x = iI (y * w + x) := by rw [iI_mul, iI_add]
  have e2 : iI (y * w + x) * 3 + iI p = iI ((y * w + x) * 3 + p) := by rw [show (3 : Int32) = iI 3 from rfl, iI_mul, iI_add]
  refine ⟨q, qp, ql, np, nl, iI w, iI g, iI x, iI y, iI p, pf, lf, rfl, h1, h2, h3, ?_, ?_, ?_, ?_⟩
  · rw [e1]; exact iI_vin hc.1 (by omega) (by omega)
  · rw [e1, e2]; exact iI_vin (by omega) (by omega) (by omega)
  · rw [e1, iI_nat hc.1 (by omega), hl x y x0 x1 y0 y1]
    intro h
    have b := bl x y
    rw [show (2 : Int32) = iI 2 from rfl, iI_mul]
    exact fun q => h ((iI_eq (a := lig x y) (b := 0) ⟨by omega, by omega⟩ ⟨by omega, by omega⟩).mpr (by have := (iI_eq ⟨by omega, by omega⟩ ⟨by omega, by omega⟩).mp (show iI (2 * lig x y) = iI 0 from q); omega))
  · rw [e1, e2, iI_nat hc.1 (by omega), iI_nat (by omega) (by omega), hl x y x0 x1 y0 y1, hp x y p x0 x1 y0 y1 p0 p1, jLit_I (bl x y) (bp x y p)]
    exact hK
def G_I_isDark (av : List Value) (h : ah_H) (K : ah_R → ah_H → Prop) : Prop := ∃ (q : Nat) (w g x y : Int) (pic : Int → Int → Int → Int) (lig : Int → Int → Int), av = [.ref q, .int (iI x), .int (iI y)] ∧ PX h q w g pic lig ∧ 0 ≤ x ∧ x < w ∧ 0 ≤ y ∧ y < g ∧ (dk pic x y = true → K (.inl (some (.int 1))) h) ∧ (¬ dk pic x y = true → K (.inl (some (.int 0))) h)
set_option maxHeartbeats 4000000 in
set_option maxRecDepth 100000 in
theorem c_I_isDark (l : Launch) : rn_Met l y_I_isDark wc_I_isDark { frames := 1, cells := 0, slots := 0, locals := 0 } G_I_isDark := by
  refine rn_in mw_I_isDark.1 (by decide +kernel) ?_ ?_
  · intro _ av h K hG
    obtain ⟨q, w, g, x, y, pic, lig, rfl, ⟨qp, ql, np, nl, pf, lf, h1, h2, h3, hw, ⟨hn1, hn2⟩, hp, hl, bp, bl⟩, x0, x1, y0, y1, k1, k2⟩ := hG
    exact Nat.le_of_ble_eq_true rfl
  intro p e s m args below meth c z sa D dA av h K hadm C hG
  obtain ⟨q, w, g, x, y, pic, lig, rfl, ⟨qp, ql, np, nl, pf, lf, h1, h2, h3, hw, ⟨hn1, hn2⟩, hp, hl, bp, bl⟩, x0, x1, y0, y1, k1, k2⟩ := hG
  have hc := cell_in hw x0 x1 y0 y1
  have loop : ∀ (k : Nat) (i : Int), i + k = 3 → 0 ≤ i → (∀ j, 0 ≤ j → j < i → pic x y j ≤ 40) → Run p l e { frames := 1, cells := 0, slots := 0, locals := 0 } s m args below meth c z sa D dA 0 0 K 5 14 [some (.ref q), some (.int (iI x)), some (.int (iI y)), some (.int (iI ((y * w + x) * 3))), some (.int (iI (i)))] [] h 0 0 := by
    intro k
    induction k with
    | zero =>
      intro i hi h0 hd
      have hd1 : dk pic x y = true := by unfold dk; rw [decide_eq_true_iff]; exact ⟨hd 0 (by omega) (by omega), hd 1 (by omega) (by omega), hd 2 (by omega) (by omega)⟩
      refine rn_iload C d_I_isDark_14 rfl ?_
      refine rn_iconst C (iI 3) d_I_isDark_16 (by decide) ?_
      refine rn_icmp_ge C 42 d_I_isDark_17 (by decide) (fun _ => ?_) (fun q_17 => absurd ((iI_le ⟨by omega, by omega⟩ ⟨by omega, by omega⟩).mpr (by omega)) q_17)
      refine rn_iconst C (iI 1) d_I_isDark_42 (by decide) ?_
      refine rn_ireturn C rfl rfl d_I_isDark_43 ⟨by decide, by decide⟩ ?_
      exact k1 hd1
    | succ k ih =>
      intro i hi h0 hd
      have b := bp x y i
      refine rn_iload C d_I_isDark_14 rfl ?_
      refine rn_iconst C (iI 3) d_I_isDark_16 (by decide) ?_
      refine rn_icmp_ge C 42 d_I_isDark_17 (by decide) (fun q_17 => absurd q_17 (fun q => absurd ((iI_le ⟨by omega, by omega⟩ ⟨by omega, by omega⟩).mp q) (by omega))) (fun _ => ?_)
      refine rn_aload_n C d_I_isDark_20 rfl ?_
      refine rn_get C f_I_27 d_I_isDark_21 (by assumption) (by rfl) ?_
      refine rn_iload_n C d_I_isDark_24 rfl ?_
      refine rn_iload C d_I_isDark_25 rfl ?_
      refine rn_iadd C d_I_isDark_27 ?_
      rw [iI_add]
      refine rn_iaload C d_I_isDark_28 (by assumption) (iI_vin (by omega) (by omega) (by omega)) ?_
      rw [iI_nat (by omega) (by omega), hp x y i x0 x1 y0 y1 h0 (by omega)]
      refine rn_bipush C (iI 40) d_I_isDark_29 (by decide) ?_
      refine rn_icmp_le C 36 d_I_isDark_31 (by decide) (fun c31 => ?_) (fun c31 => ?_)
      · skip
        refine rn_iinc C _ d_I_isDark_36 rfl (iI_inc _) (by decide) ?_
        refine rn_goto C 14 d_I_isDark_39 (by decide) ?_
        have cc : pic x y i ≤ 40 := (iI_le ⟨by omega, by omega⟩ ⟨by omega, by omega⟩).mp c31
        refine ih (i + 1) (by omega) (by omega) (fun j j0 j1 => ?_)
        by_cases hj : j = i
        · rw [hj]; exact cc
        · exact hd j j0 (by omega)
      · skip
        have cc : ¬ pic x y i ≤ 40 := fun q => c31 ((iI_le ⟨by omega, by omega⟩ ⟨by omega, by omega⟩).mpr q)
        refine rn_iconst C (iI 0) d_I_isDark_34 (by decide) ?_
        refine rn_ireturn C rfl rfl d_I_isDark_35 ⟨by decide, by decide⟩ ?_
        refine k2 ?_
        unfold dk; rw [decide_eq_true_iff]
        intro hh
        have h3 : i = 0 ∨ i = 1 ∨ i = 2 := by omega
        rcases h3 with h3 | h3 | h3 <;> rw [h3] at cc <;> omega
  refine rn_iload_n C d_I_isDark_0 rfl ?_
  refine rn_aload_n C d_I_isDark_1 rfl ?_
  refine rn_get C f_I_20 d_I_isDark_2 (by assumption) (by rfl) ?_
  refine rn_imul C d_I_isDark_5 ?_
  refine rn_iload_n C d_I_isDark_6 rfl ?_
  refine rn_iadd C d_I_isDark_7 ?_
  rw [iI_mul, iI_add]
  refine rn_iconst C (iI 3) d_I_isDark_8 (by decide) ?_
  refine rn_imul C d_I_isDark_9 ?_
  rw [iI_mul]
  refine rn_istore_n C d_I_isDark_10 (by decide) ?_
  refine rn_iconst C (iI 0) d_I_isDark_11 (by decide) ?_
  refine rn_istore C d_I_isDark_12 (by decide) ?_
  exact loop 3 0 (by omega) (by omega) (fun j j0 j1 => by omega)

def wd (d : Int → Int → Bool) (x y : Int) (s : Int × Int × Int × Int) : Int × Int × Int × Int := if d x y then (min s.1 x, min s.2.1 y, max s.2.2.1 x, max s.2.2.2 y) else s
def rowF (d : Int → Int → Bool) (y : Int) : Int → Nat → Int × Int × Int × Int → Int × Int × Int × Int
  | _, 0, s => s
  | x, k + 1, s => rowF d y (x + 1) k (wd d x y s)
def allF (d : Int → Int → Bool) (w : Nat) : Int → Nat → Int × Int × Int × Int → Int × Int × Int × Int
  | _, 0, s => s
  | y, k + 1, s => allF d w (y + 1) k (rowF d y 0 w s)
/-- nothing dark yet (from the start given), or a box within the picture -/
def bok (w g u v : Int) (s : Int × Int × Int × Int) : Prop := s = (u, v, -1, -1) ∨ (0 ≤ s.1 ∧ s.1 ≤ s.2.2.1 ∧ s.2.2.1 < w ∧ 0 ≤ s.2.1 ∧ s.2.1 ≤ s.2.2.2 ∧ s.2.2.2 < g)
theorem bok_wd {d : Int → Int → Bool} {w g u v x y : Int} {s : Int × Int × Int × Int} (hu : w ≤ u) (hv : g ≤ v) (x0 : 0 ≤ x) (x1 : x < w) (y0 : 0 ≤ y) (y1 : y < g) (h : bok w g u v s) : bok w g u v (wd d x y s) := by
  unfold wd
  by_cases hd : d x y = true
  · rw [if_pos hd]
    refine Or.inr ?_
    rcases h with h | h
    · subst h; simp only; omega
    · simp only; omega
  · rw [if_neg hd]; exact h
def bd (d : Int → Int → Bool) (s : Int × Int × Int × Int) : Prop := (∀ x, s.1 ≤ x → x ≤ s.2.2.1 → d x s.2.1 = true ∧ d x s.2.2.2 = true) ∧ (∀ y, s.2.1 ≤ y → y ≤ s.2.2.2 → d s.1 y = true ∧ d s.2.2.1 y = true)
def fnd (d : Int → Int → Bool) (s : Int × Int × Int × Int) : Prop := s.1 + 5 ≤ s.2.2.1 ∧ s.2.1 + 5 ≤ s.2.2.2 ∧ bd d s
abbrev cFs (fo : Int) (s : Int × Int × Int × Int) : ah_E := cF (iI fo) (iI s.1) (iI s.2.1) (iI s.2.2.1) (iI s.2.2.2)
def G_F_borderIsDark (av : List Value) (h : ah_H) (K : ah_R → ah_H → Prop) : Prop := ∃ (q qi : Nat) (fo : Int32) (a b u v w g : Int) (pic : Int → Int → Int → Int) (lig : Int → Int → Int), av = [.ref q, .ref qi] ∧ h[q]? = some (cF fo (iI a) (iI b) (iI u) (iI v)) ∧ PX h qi w g pic lig ∧ w ≤ 30 ∧ g ≤ 30 ∧ 0 ≤ a ∧ a ≤ u ∧ u < w ∧ 0 ≤ b ∧ b ≤ v ∧ v < g ∧ (bd (dk pic) (a, b, u, v) → K (.inl (some (.int 1))) h) ∧ (¬ bd (dk pic) (a, b, u, v) → K (.inl (some (.int 0))) h)
set_option maxHeartbeats 4000000 in
set_option maxRecDepth 100000 in
theorem c_F_borderIsDark (l : Launch) : rn_Met l y_F_borderIsDark wc_F_borderIsDark { frames := 2, cells := 0, slots := 0, locals := 24 } G_F_borderIsDark := by
  refine rn_in mw_F_borderIsDark.1 (by decide +kernel) ?_ ?_
  · intro _ av h K hG
    obtain ⟨q, qi, fo, a, b, u, v, w, g, pic, lig, rfl, h1, hP, hw, hg, a0, a1, a2, b0, b1, b2, k1, k2⟩ := hG
    exact Nat.le_of_ble_eq_true rfl
  intro p e s m args below meth c z sa D dA av h K hadm C hG
  obtain ⟨q, qi, fo, a, b, u, v, w, g, pic, lig, rfl, h1, hP, hw, hg, a0, a1, a2, b0, b1, b2, k1, k2⟩ := hG
  have hP' := hP
  obtain ⟨qp, ql, np, nl, pf, lf, hq1, -⟩ := hP'
  have loop2 : ∀ (k : Nat) (i : Int), i + k = v + 1 → b ≤ i → (∀ x, a ≤ x → x ≤ u → dk pic x b = true ∧ dk pic x v = true) → (∀ y, b ≤ y → y < i → dk pic a y = true ∧ dk pic u y = true) → Run p l e { frames := 2, cells := 0, slots := 0, locals := 24 } s m args below meth c z sa D dA 0 0 K 3 50 [some (.ref q), some (.ref qi), some (.int (iI i))] [] h 0 0 := by
    intro k
    induction k with
    | zero =>
      intro i hi h0 ht hd
      refine rn_iload_n C d_F_borderIsDark_50 rfl ?_
      refine rn_aload_n C d_F_borderIsDark_51 rfl ?_
      refine rn_get C f_F_29 d_F_borderIsDark_52 (by assumption) (by rfl) ?_
      refine rn_icmp_gt C 90 d_F_borderIsDark_55 (by decide) (fun _ => ?_) (fun q_55 => absurd ((iI_lt ⟨by omega, by omega⟩ ⟨by omega, by omega⟩).mpr (by omega)) q_55)
      refine rn_iconst C (iI 1) d_F_borderIsDark_90 (by decide) ?_
      refine rn_ireturn C rfl rfl d_F_borderIsDark_91 ⟨by decide, by decide⟩ ?_
      exact k1 ⟨ht, fun y y0 y1 => hd y y0 (show y < i by have : y ≤ v := y1; omega)⟩
    | succ k ih =>
      intro i hi h0 ht hd
      refine rn_iload_n C d_F_borderIsDark_50 rfl ?_
      refine rn_aload_n C d_F_borderIsDark_51 rfl ?_
      refine rn_get C f_F_29 d_F_borderIsDark_52 (by assumption) (by rfl) ?_
      refine rn_icmp_gt C 90 d_F_borderIsDark_55 (by decide) (fun q_55 => absurd q_55 (fun q => absurd ((iI_lt ⟨by omega, by omega⟩ ⟨by omega, by omega⟩).mp q) (by omega))) (fun _ => ?_)
      refine rn_aload_n C d_F_borderIsDark_58 rfl ?_
      refine rn_aload_n C d_F_borderIsDark_59 rfl ?_
      refine rn_get C f_F_15 d_F_borderIsDark_60 (by assumption) (by rfl) ?_
      refine rn_iload_n C d_F_borderIsDark_63 rfl ?_
      refine rn_cV C (c_I_isDark l) mw_I_isDark k_F_32 d_F_borderIsDark_64 rfl (by assumption) rfl (Nat.le_of_ble_eq_true rfl) (Nat.le_of_ble_eq_true rfl) ⟨by decide, by decide⟩ ⟨by decide, by decide⟩ ?_
      refine ⟨_, _, _, _, _, _, _, rfl, (by assumption), by omega, by omega, by omega, by omega, fun q64 => ?_, fun q64 => ?_⟩
      · skip
        refine rn_if_eq C 82 d_F_borderIsDark_67 (by decide) (fun q => absurd q (by decide)) (fun _ => ?_)
        refine rn_aload_n C d_F_borderIsDark_70 rfl ?_
        refine rn_aload_n C d_F_borderIsDark_71 rfl ?_
        refine rn_get C f_F_26 d_F_borderIsDark_72 (by assumption) (by rfl) ?_
        refine rn_iload_n C d_F_borderIsDark_75 rfl ?_
        refine rn_cV C (c_I_isDark l) mw_I_isDark k_F_32 d_F_borderIsDark_76 rfl (by assumption) rfl (Nat.le_of_ble_eq_true rfl) (Nat.le_of_ble_eq_true rfl) ⟨by decide, by decide⟩ ⟨by decide, by decide⟩ ?_
        refine ⟨_, _, _, _, _, _, _, rfl, (by assumption), by omega, by omega, by omega, by omega, fun q76 => ?_, fun q76 => ?_⟩
        · skip
          refine rn_if_ne C 84 d_F_borderIsDark_79 (by decide) (fun _ => ?_) (fun q => absurd q (by decide))
          refine rn_iinc C _ d_F_borderIsDark_84 rfl (iI_inc _) (by decide) ?_
          refine rn_goto C 50 d_F_borderIsDark_87 (by decide) ?_
          refine ih (i + 1) (by omega) (by omega) ht (fun y y0 y1 => ?_)
          by_cases hj : y = i
          · rw [hj]; exact ⟨q64, q76⟩
          · exact hd y y0 (by omega)
        · skip
          refine rn_if_ne C 84 d_F_borderIsDark_79 (by decide) (fun q => absurd rfl q) (fun _ => ?_)
          refine rn_iconst C (iI 0) d_F_borderIsDark_82 (by decide) ?_
          refine rn_ireturn C rfl rfl d_F_borderIsDark_83 ⟨by decide, by decide⟩ ?_
          refine k2 (fun hh => ?_)
          have := hh.2 i h0 (show i ≤ v by omega)
          first | exact q64 this.1 | exact q76 this.2
      · skip
        refine rn_if_eq C 82 d_F_borderIsDark_67 (by decide) (fun _ => ?_) (fun q => absurd rfl q)
        refine rn_iconst C (iI 0) d_F_borderIsDark_82 (by decide) ?_
        refine rn_ireturn C rfl rfl d_F_borderIsDark_83 ⟨by decide, by decide⟩ ?_
        refine k2 (fun hh => ?_)
        have := hh.2 i h0 (show i ≤ v by omega)
        first | exact q64 this.1 | exact q76 this.2
  have loop1 : ∀ (k : Nat) (i : Int), i + k = u + 1 → a ≤ i → (∀ x, a ≤ x → x < i → dk pic x b = true ∧ dk pic x v = true) → Run p l e { frames := 2, cells := 0, slots := 0, locals := 24 } s m args below meth c z sa D dA 0 0 K 3 5 [some (.ref q), some (.ref qi), some (.int (iI i))] [] h 0 0 := by
    intro k
    induction k with
    | zero =>
      intro i hi h0 hd
      refine rn_iload_n C d_F_borderIsDark_5 rfl ?_
      refine rn_aload_n C d_F_borderIsDark_6 rfl ?_
      refine rn_get C f_F_26 d_F_borderIsDark_7 (by assumption) (by rfl) ?_
      refine rn_icmp_gt C 45 d_F_borderIsDark_10 (by decide) (fun _ => ?_) (fun q_10 => absurd ((iI_lt ⟨by omega, by omega⟩ ⟨by omega, by omega⟩).mpr (by omega)) q_10)
      refine rn_aload_n C d_F_borderIsDark_45 rfl ?_
      refine rn_get C f_F_23 d_F_borderIsDark_46 (by assumption) (by rfl) ?_
      refine rn_istore_n C d_F_borderIsDark_49 (by decide) ?_
      exact loop2 (v + 1 - b).toNat b (by omega) (by omega) (fun x x0 x1 => hd x x0 (by omega)) (fun y y0 y1 => by omega)
    | succ k ih =>
      intro i hi h0 hd
      refine rn_iload_n C d_F_borderIsDark_5 rfl ?_
      refine rn_aload_n C d_F_borderIsDark_6 rfl ?_
      refine rn_get C f_F_26 d_F_borderIsDark_7 (by assumption) (by rfl) ?_
      refine rn_icmp_gt C 45 d_F_borderIsDark_10 (by decide) (fun q_10 => absurd q_10 (fun q => absurd ((iI_lt ⟨by omega, by omega⟩ ⟨by omega, by omega⟩).mp q) (by omega))) (fun _ => ?_)
      refine rn_aload_n C d_F_borderIsDark_13 rfl ?_
      refine rn_iload_n C d_F_borderIsDark_14 rfl ?_
      refine rn_aload_n C d_F_borderIsDark_15 rfl ?_
      refine rn_get C f_F_23 d_F_borderIsDark_16 (by assumption) (by rfl) ?_
      refine rn_cV C (c_I_isDark l) mw_I_isDark k_F_32 d_F_borderIsDark_19 rfl (by assumption) rfl (Nat.le_of_ble_eq_true rfl) (Nat.le_of_ble_eq_true rfl) ⟨by decide, by decide⟩ ⟨by decide, by decide⟩ ?_
      refine ⟨_, _, _, _, _, _, _, rfl, (by assumption), by omega, by omega, by omega, by omega, fun q19 => ?_, fun q19 => ?_⟩
      · skip
        refine rn_if_eq C 37 d_F_borderIsDark_22 (by decide) (fun q => absurd q (by decide)) (fun _ => ?_)
        refine rn_aload_n C d_F_borderIsDark_25 rfl ?_
        refine rn_iload_n C d_F_borderIsDark_26 rfl ?_
        refine rn_aload_n C d_F_borderIsDark_27 rfl ?_
        refine rn_get C f_F_29 d_F_borderIsDark_28 (by assumption) (by rfl) ?_
        refine rn_cV C (c_I_isDark l) mw_I_isDark k_F_32 d_F_borderIsDark_31 rfl (by assumption) rfl (Nat.le_of_ble_eq_true rfl) (Nat.le_of_ble_eq_true rfl) ⟨by decide, by decide⟩ ⟨by decide, by decide⟩ ?_
        refine ⟨_, _, _, _, _, _, _, rfl, (by assumption), by omega, by omega, by omega, by omega, fun q31 => ?_, fun q31 => ?_⟩
        · skip
          refine rn_if_ne C 39 d_F_borderIsDark_34 (by decide) (fun _ => ?_) (fun q => absurd q (by decide))
          refine rn_iinc C _ d_F_borderIsDark_39 rfl (iI_inc _) (by decide) ?_
          refine rn_goto C 5 d_F_borderIsDark_42 (by decide) ?_
          refine ih (i + 1) (by omega) (by omega) (fun x x0 x1 => ?_)
          by_cases hj : x = i
          · rw [hj]; exact ⟨q19, q31⟩
          · exact hd x x0 (by omega)
        · skip
          refine rn_if_ne C 39 d_F_borderIsDark_34 (by decide) (fun q => absurd rfl q) (fun _ => ?_)
          refine rn_iconst C (iI 0) d_F_borderIsDark_37 (by decide) ?_
          refine rn_ireturn C rfl rfl d_F_borderIsDark_38 ⟨by decide, by decide⟩ ?_
          refine k2 (fun hh => ?_)
          have := hh.1 i h0 (show i ≤ u by omega)
          first | exact q19 this.1 | exact q31 this.2
      · skip
        refine rn_if_eq C 37 d_F_borderIsDark_22 (by decide) (fun _ => ?_) (fun q => absurd rfl q)
        refine rn_iconst C (iI 0) d_F_borderIsDark_37 (by decide) ?_
        refine rn_ireturn C rfl rfl d_F_borderIsDark_38 ⟨by decide, by decide⟩ ?_
        refine k2 (fun hh => ?_)
        have := hh.1 i h0 (show i ≤ u by omega)
        first | exact q19 this.1 | exact q31 this.2
  refine rn_aload_n C d_F_borderIsDark_0 rfl ?_
  refine rn_get C f_F_15 d_F_borderIsDark_1 (by assumption) (by rfl) ?_
  refine rn_istore_n C d_F_borderIsDark_4 (by decide) ?_
  exact loop1 (u + 1 - a).toNat a (by omega) (by omega) (fun x x0 x1 => by omega)

def G_F_lookIn (av : List Value) (h : ah_H) (K : ah_R → ah_H → Prop) : Prop := ∃ (e0 : ah_E) (rest : ah_H) (fo le to ri bo : Int32) (np nl : Nat) (w g : Int) (pf lf : Nat → Int32) (pic : Int → Int → Int → Int) (lig : Int → Int → Int), av = [.ref 4, .ref 1] ∧ h = e0 :: cI (iI w) (iI g) :: aI np pf :: aI nl lf :: cF fo le to ri bo :: rest ∧ picOk w g np nl pf lf pic lig ∧ (bok w g w g (allF (dk pic) w.toNat 0 g.toNat (w, g, -1, -1)) → ∀ f : Int, (f = 1 ∧ fnd (dk pic) (allF (dk pic) w.toNat 0 g.toNat (w, g, -1, -1))) ∨ (f = 0 ∧ ¬ fnd (dk pic) (allF (dk pic) w.toNat 0 g.toNat (w, g, -1, -1))) → K (.inl none) (e0 :: cI (iI w) (iI g) :: aI np pf :: aI nl lf :: cFs f (allF (dk pic) w.toNat 0 g.toNat (w, g, -1, -1)) :: rest))
set_option maxHeartbeats 4000000 in
set_option maxRecDepth 100000 in
theorem c_F_lookIn (l : Launch) : rn_Met l y_F_lookIn wc_F_lookIn { frames := 3, cells := 0, slots := 0, locals := 46 } G_F_lookIn := by
  refine rn_in mw_F_lookIn.1 (by decide +kernel) ?_ ?_
  · intro _ av h K hG
    obtain ⟨e0, rest, fo, le, to, ri, bo, np, nl, w, g, pf, lf, pic, lig, rfl, rfl, hpk, hK⟩ := hG
    exact Nat.le_of_ble_eq_true rfl
  intro p e s m args below meth c z sa D dA av h K hadm C hG
  obtain ⟨e0, rest, fo, le, to, ri, bo, np, nl, w, g, pf, lf, pic, lig, rfl, rfl, hpk, hK⟩ := hG
  have hw := hpk.1
  have hPX : ∀ s_ : Int × Int × Int × Int, PX (e0 :: cI (iI w) (iI g) :: aI np pf :: aI nl lf :: cF fo (iI s_.1) (iI s_.2.1) (iI s_.2.2.1) (iI s_.2.2.2) :: rest) 1 w g pic lig := fun s_ => ⟨2, 3, np, nl, pf, lf, rfl, rfl, rfl, hpk⟩
  have sb : ∀ s_ : Int × Int × Int × Int, bok w g w g s_ → -1 ≤ s_.1 ∧ s_.1 ≤ 30 ∧ -1 ≤ s_.2.1 ∧ s_.2.1 ≤ 30 ∧ -1 ≤ s_.2.2.1 ∧ s_.2.2.1 ≤ 30 ∧ -1 ≤ s_.2.2.2 ∧ s_.2.2.2 ≤ 30 := by
    intro s_ h
    rcases h with h | h
    · subst h; simp only; omega
    · omega
  have tail : ∀ s_ : Int × Int × Int × Int, bok w g w g s_ → s_ = (allF (dk pic) w.toNat 0 g.toNat (w, g, -1, -1)) → Run p l e { frames := 3, cells := 0, slots := 0, locals := 46 } s m args below meth c z sa D dA 0 0 K 4 73 [some (.ref 4), some (.ref 1)] [] (e0 :: cI (iI w) (iI g) :: aI np pf :: aI nl lf :: cF fo (iI s_.1) (iI s_.2.1) (iI s_.2.2.1) (iI s_.2.2.2) :: rest) 0 0 := by
    intro s_ hs he
    have hb := sb s_ hs
    rw [← he] at hK
    have hPX1 := hPX s_
    refine rn_aload_n C d_F_lookIn_73 rfl ?_
    refine rn_aload_n C d_F_lookIn_74 rfl ?_
    refine rn_get C f_F_26 d_F_lookIn_75 rfl rfl ?_
    refine rn_aload_n C d_F_lookIn_78 rfl ?_
    refine rn_get C f_F_15 d_F_lookIn_79 rfl rfl ?_
    refine rn_isub C d_F_lookIn_82 ?_
    rw [iI_sub]
    refine rn_iconst C (iI 1) d_F_lookIn_83 (by decide) ?_
    refine rn_iadd C d_F_lookIn_84 ?_
    rw [iI_add]
    refine rn_bipush C (iI 6) d_F_lookIn_85 (by decide) ?_
    refine rn_icmp_lt C 118 d_F_lookIn_87 (by decide) (fun c87 => ?_) (fun c87 => ?_)
    · skip
      refine rn_iconst C (iI 0) d_F_lookIn_118 (by decide) ?_
      refine rn_put C f_F_44 ft_F fn_F_0 d_F_lookIn_119 rfl (Nat.le_of_ble_eq_true rfl) (fun _ _ => ⟨rfl, rfl⟩) ?_
      refine rn_return C rfl d_F_lookIn_122 ⟨by decide, by decide⟩ ?_
      refine hK hs _ ?_
      first
        | exact Or.inl ⟨rfl, by omega, by omega, q108⟩
        | exact Or.inr ⟨rfl, fun hh => q108 hh.2.2⟩
        | exact Or.inr ⟨rfl, fun hh => by have hh1 := hh.1; have cc := (iI_lt ⟨by omega, by omega⟩ ⟨by omega, by omega⟩).mp c87; omega⟩
        | exact Or.inr ⟨rfl, fun hh => by have hh1 := hh.2.1; have cc := (iI_lt ⟨by omega, by omega⟩ ⟨by omega, by omega⟩).mp c103; omega⟩
    · skip
      have c87b : ¬ s_.2.2.1 - s_.1 + 1 < 6 := fun q => c87 ((iI_lt ⟨by omega, by omega⟩ ⟨by omega, by omega⟩).mpr q)
      refine rn_aload_n C d_F_lookIn_90 rfl ?_
      refine rn_get C f_F_29 d_F_lookIn_91 rfl rfl ?_
      refine rn_aload_n C d_F_lookIn_94 rfl ?_
      refine rn_get C f_F_23 d_F_lookIn_95 rfl rfl ?_
      refine rn_isub C d_F_lookIn_98 ?_
      rw [iI_sub]
      refine rn_iconst C (iI 1) d_F_lookIn_99 (by decide) ?_
      refine rn_iadd C d_F_lookIn_100 ?_
      rw [iI_add]
      refine rn_bipush C (iI 6) d_F_lookIn_101 (by decide) ?_
      refine rn_icmp_lt C 118 d_F_lookIn_103 (by decide) (fun c103 => ?_) (fun c103 => ?_)
      · skip
        refine rn_iconst C (iI 0) d_F_lookIn_118 (by decide) ?_
        refine rn_put C f_F_44 ft_F fn_F_0 d_F_lookIn_119 rfl (Nat.le_of_ble_eq_true rfl) (fun _ _ => ⟨rfl, rfl⟩) ?_
        refine rn_return C rfl d_F_lookIn_122 ⟨by decide, by decide⟩ ?_
        refine hK hs _ ?_
        first
          | exact Or.inl ⟨rfl, by omega, by omega, q108⟩
          | exact Or.inr ⟨rfl, fun hh => q108 hh.2.2⟩
          | exact Or.inr ⟨rfl, fun hh => by have hh1 := hh.1; have cc := (iI_lt ⟨by omega, by omega⟩ ⟨by omega, by omega⟩).mp c87; omega⟩
          | exact Or.inr ⟨rfl, fun hh => by have hh1 := hh.2.1; have cc := (iI_lt ⟨by omega, by omega⟩ ⟨by omega, by omega⟩).mp c103; omega⟩
      · skip
        have c103b : ¬ s_.2.2.2 - s_.2.1 + 1 < 6 := fun q => c103 ((iI_lt ⟨by omega, by omega⟩ ⟨by omega, by omega⟩).mpr q)
        have hs2 := hs.resolve_left (fun e => by rw [e] at c87b; simp only at c87b; omega)
        refine rn_aload_n C d_F_lookIn_106 rfl ?_
        refine rn_aload_n C d_F_lookIn_107 rfl ?_
        refine rn_cV C (c_F_borderIsDark l) mw_F_borderIsDark k_F_40 d_F_lookIn_108 rfl rfl rfl (Nat.le_of_ble_eq_true rfl) (Nat.le_of_ble_eq_true rfl) ⟨by decide, by decide⟩ ⟨by decide, by decide⟩ ?_
        refine ⟨_, _, _, _, _, _, _, _, _, _, _, rfl, rfl, (by assumption), by omega, by omega, by omega, by omega, by omega, by omega, by omega, by omega, fun q108 => ?_, fun q108 => ?_⟩
        · skip
          refine rn_if_eq C 118 d_F_lookIn_111 (by decide) (fun q => absurd q (by decide)) (fun _ => ?_)
          refine rn_iconst C (iI 1) d_F_lookIn_114 (by decide) ?_
          refine rn_goto C 119 d_F_lookIn_115 (by decide) ?_
          refine rn_put C f_F_44 ft_F fn_F_0 d_F_lookIn_119 rfl (Nat.le_of_ble_eq_true rfl) (fun _ _ => ⟨rfl, rfl⟩) ?_
          refine rn_return C rfl d_F_lookIn_122 ⟨by decide, by decide⟩ ?_
          refine hK hs _ ?_
          first
            | exact Or.inl ⟨rfl, by omega, by omega, q108⟩
            | exact Or.inr ⟨rfl, fun hh => q108 hh.2.2⟩
            | exact Or.inr ⟨rfl, fun hh => by have hh1 := hh.1; have cc := (iI_lt ⟨by omega, by omega⟩ ⟨by omega, by omega⟩).mp c87; omega⟩
            | exact Or.inr ⟨rfl, fun hh => by have hh1 := hh.2.1; have cc := (iI_lt ⟨by omega, by omega⟩ ⟨by omega, by omega⟩).mp c103; omega⟩
        · skip
          refine rn_if_eq C 118 d_F_lookIn_111 (by decide) (fun _ => ?_) (fun q => absurd rfl q)
          refine rn_iconst C (iI 0) d_F_lookIn_118 (by decide) ?_
          refine rn_put C f_F_44 ft_F fn_F_0 d_F_lookIn_119 rfl (Nat.le_of_ble_eq_true rfl) (fun _ _ => ⟨rfl, rfl⟩) ?_
          refine rn_return C rfl d_F_lookIn_122 ⟨by decide, by decide⟩ ?_
          refine hK hs _ ?_
          first
            | exact Or.inl ⟨rfl, by omega, by omega, q108⟩
            | exact Or.inr ⟨rfl, fun hh => q108 hh.2.2⟩
            | exact Or.inr ⟨rfl, fun hh => by have hh1 := hh.1; have cc := (iI_lt ⟨by omega, by omega⟩ ⟨by omega, by omega⟩).mp c87; omega⟩
            | exact Or.inr ⟨rfl, fun hh => by have hh1 := hh.2.1; have cc := (iI_lt ⟨by omega, by omega⟩ ⟨by omega, by omega⟩).mp c103; omega⟩
  have loopx : ∀ (k : Nat) (x y : Int) (s_ : Int × Int × Int × Int), x + k = w → 0 ≤ x → 0 ≤ y → y < g → bok w g w g s_ → (∀ s', bok w g w g s' → s' = rowF (dk pic) y x k s_ → Run p l e { frames := 3, cells := 0, slots := 0, locals := 46 } s m args below meth c z sa D dA 0 0 K 4 67 [some (.ref 4), some (.ref 1), some (.int (iI y))] [] (e0 :: cI (iI w) (iI g) :: aI np pf :: aI nl lf :: cF fo (iI s'.1) (iI s'.2.1) (iI s'.2.2.1) (iI s'.2.2.2) :: rest) 0 0) → Run p l e { frames := 3, cells := 0, slots := 0, locals := 46 } s m args below meth c z sa D dA 0 0 K 4 38 [some (.ref 4), some (.ref 1), some (.int (iI y)), some (.int (iI x))] [] (e0 :: cI (iI w) (iI g) :: aI np pf :: aI nl lf :: cF fo (iI s_.1) (iI s_.2.1) (iI s_.2.2.1) (iI s_.2.2.2) :: rest) 0 0 := by
    intro k
    induction k with
    | zero =>
      intro x y s_ hx x0 y0 y1 hs kk
      have hb := sb s_ hs
      refine rn_iload_n C d_F_lookIn_38 rfl ?_
      refine rn_aload_n C d_F_lookIn_39 rfl ?_
      refine rn_get C f_F_9 d_F_lookIn_40 rfl rfl ?_
      refine rn_icmp_ge C 67 d_F_lookIn_43 (by decide) (fun _ => ?_) (fun q_43 => absurd ((iI_le ⟨by omega, by omega⟩ ⟨by omega, by omega⟩).mpr (by omega)) q_43)
      refine rn_weak (lv' := [some (.ref 4), some (.ref 1), some (.int (iI y))]) ⟨rfl, rfl, rfl, trivial⟩ ?_
      exact kk s_ hs rfl
    | succ k ih =>
      intro x y s_ hx x0 y0 y1 hs kk
      have hb := sb s_ hs
      have hPX1 := hPX s_
      have hs2 := bok_wd (d := dk pic) (Int.le_refl w) (Int.le_refl g) x0 (show x < w by omega) y0 y1 hs
      refine rn_iload_n C d_F_lookIn_38 rfl ?_
      refine rn_aload_n C d_F_lookIn_39 rfl ?_
      refine rn_get C f_F_9 d_F_lookIn_40 rfl rfl ?_
      refine rn_icmp_ge C 67 d_F_lookIn_43 (by decide) (fun q_43 => absurd q_43 (fun q => absurd ((iI_le ⟨by omega, by omega⟩ ⟨by omega, by omega⟩).mp q) (by omega))) (fun _ => ?_)
      refine rn_aload_n C d_F_lookIn_46 rfl ?_
      refine rn_iload_n C d_F_lookIn_47 rfl ?_
      refine rn_iload_n C d_F_lookIn_48 rfl ?_
      refine rn_cV C (c_I_isDark l) mw_I_isDark k_F_32 d_F_lookIn_49 rfl rfl rfl (Nat.le_of_ble_eq_true rfl) (Nat.le_of_ble_eq_true rfl) ⟨by decide, by decide⟩ ⟨by decide, by decide⟩ ?_
      refine ⟨_, _, _, _, _, _, _, rfl, (by assumption), by omega, by omega, by omega, by omega, fun q49 => ?_, fun q49 => ?_⟩
      · skip
        refine rn_if_eq C 61 d_F_lookIn_52 (by decide) (fun q => absurd q (by decide)) (fun _ => ?_)
        refine rn_aload_n C d_F_lookIn_55 rfl ?_
        refine rn_iload_n C d_F_lookIn_56 rfl ?_
        refine rn_iload_n C d_F_lookIn_57 rfl ?_
        refine rn_cV C (c_F_widenTo l) mw_F_widenTo k_F_36 d_F_lookIn_58 rfl rfl rfl (Nat.le_of_ble_eq_true rfl) (Nat.le_of_ble_eq_true rfl) ⟨by decide, by decide⟩ ⟨by decide, by decide⟩ ?_
        refine ⟨4, _, _, _, _, _, _, _, rfl, rfl, ?_⟩
        rw [jMin_I ⟨by omega, by omega⟩ ⟨by omega, by omega⟩, jMin_I ⟨by omega, by omega⟩ ⟨by omega, by omega⟩, jMax_I ⟨by omega, by omega⟩ ⟨by omega, by omega⟩, jMax_I ⟨by omega, by omega⟩ ⟨by omega, by omega⟩]
        refine rn_iinc C _ d_F_lookIn_61 rfl (iI_inc _) (by decide) ?_
        refine rn_goto C 38 d_F_lookIn_64 (by decide) ?_
        have := ih (x + 1) y _ (by omega) (by omega) y0 y1 hs2 (fun s' h1 h2 => kk s' h1 (h2.trans rfl))
        first | (rw [wd, if_pos q49] at this; exact this) | (rw [wd, if_neg q49] at this; exact this)
      · skip
        refine rn_if_eq C 61 d_F_lookIn_52 (by decide) (fun _ => ?_) (fun q => absurd rfl q)
        refine rn_iinc C _ d_F_lookIn_61 rfl (iI_inc _) (by decide) ?_
        refine rn_goto C 38 d_F_lookIn_64 (by decide) ?_
        have := ih (x + 1) y _ (by omega) (by omega) y0 y1 hs2 (fun s' h1 h2 => kk s' h1 (h2.trans rfl))
        first | (rw [wd, if_pos q49] at this; exact this) | (rw [wd, if_neg q49] at this; exact this)
  have loopy : ∀ (k : Nat) (y : Int) (s_ : Int × Int × Int × Int), y + k = g → 0 ≤ y → bok w g w g s_ → allF (dk pic) w.toNat y k s_ = (allF (dk pic) w.toNat 0 g.toNat (w, g, -1, -1)) → Run p l e { frames := 3, cells := 0, slots := 0, locals := 46 } s m args below meth c z sa D dA 0 0 K 4 28 [some (.ref 4), some (.ref 1), some (.int (iI y))] [] (e0 :: cI (iI w) (iI g) :: aI np pf :: aI nl lf :: cF fo (iI s_.1) (iI s_.2.1) (iI s_.2.2.1) (iI s_.2.2.2) :: rest) 0 0 := by
    intro k
    induction k with
    | zero =>
      intro y s_ hy y0 hs he
      refine rn_iload_n C d_F_lookIn_28 rfl ?_
      refine rn_aload_n C d_F_lookIn_29 rfl ?_
      refine rn_get C f_F_20 d_F_lookIn_30 rfl rfl ?_
      refine rn_icmp_ge C 73 d_F_lookIn_33 (by decide) (fun _ => ?_) (fun q_33 => absurd ((iI_le ⟨by omega, by omega⟩ ⟨by omega, by omega⟩).mpr (by omega)) q_33)
      refine rn_weak (lv' := [some (.ref 4), some (.ref 1)]) ⟨rfl, rfl, trivial⟩ ?_
      exact tail s_ hs he
    | succ k ih =>
      intro y s_ hy y0 hs he
      refine rn_iload_n C d_F_lookIn_28 rfl ?_
      refine rn_aload_n C d_F_lookIn_29 rfl ?_
      refine rn_get C f_F_20 d_F_lookIn_30 rfl rfl ?_
      refine rn_icmp_ge C 73 d_F_lookIn_33 (by decide) (fun q_33 => absurd q_33 (fun q => absurd ((iI_le ⟨by omega, by omega⟩ ⟨by omega, by omega⟩).mp q) (by omega))) (fun _ => ?_)
      refine rn_iconst C (iI 0) d_F_lookIn_36 (by decide) ?_
      refine rn_istore_n C d_F_lookIn_37 (by decide) ?_
      refine loopx w.toNat 0 y s_ (by omega) (by omega) y0 (by omega) hs (fun s' h1 h2 => ?_)
      refine rn_iinc C _ d_F_lookIn_67 rfl (iI_inc _) (by decide) ?_
      refine rn_goto C 28 d_F_lookIn_70 (by decide) ?_
      exact ih (y + 1) s' (by omega) (by omega) h1 (by rw [h2]; exact he)
  refine rn_aload_n C d_F_lookIn_0 rfl ?_
  refine rn_aload_n C d_F_lookIn_1 rfl ?_
  refine rn_get C f_F_9 d_F_lookIn_2 rfl rfl ?_
  refine rn_put C f_F_15 ft_F fn_F_1 d_F_lookIn_5 rfl (Nat.le_of_ble_eq_true rfl) (fun _ _ => ⟨rfl, rfl⟩) ?_
  refine rn_aload_n C d_F_lookIn_8 rfl ?_
  refine rn_aload_n C d_F_lookIn_9 rfl ?_
  refine rn_get C f_F_20 d_F_lookIn_10 rfl rfl ?_
  refine rn_put C f_F_23 ft_F fn_F_2 d_F_lookIn_13 rfl (Nat.le_of_ble_eq_true rfl) (fun _ _ => ⟨rfl, rfl⟩) ?_
  refine rn_aload_n C d_F_lookIn_16 rfl ?_
  refine rn_iconst C (iI (-1)) d_F_lookIn_17 (by decide) ?_
  refine rn_put C f_F_26 ft_F fn_F_3 d_F_lookIn_18 rfl (Nat.le_of_ble_eq_true rfl) (fun _ _ => ⟨rfl, rfl⟩) ?_
  refine rn_aload_n C d_F_lookIn_21 rfl ?_
  refine rn_iconst C (iI (-1)) d_F_lookIn_22 (by decide) ?_
  refine rn_put C f_F_29 ft_F fn_F_4 d_F_lookIn_23 rfl (Nat.le_of_ble_eq_true rfl) (fun _ _ => ⟨rfl, rfl⟩) ?_
  refine rn_iconst C (iI 0) d_F_lookIn_26 (by decide) ?_
  refine rn_istore_n C d_F_lookIn_27 (by decide) ?_
  exact loopy g.toNat 0 (w, g, -1, -1) (by omega) (by omega) (Or.inl rfl) rfl

def G_C_find (av : List Value) (h : ah_H) (K : ah_R → ah_H → Prop) : Prop := ∃ (rest : ah_H) (fo le to ri bo : Int32) (np nl : Nat) (w g : Int) (pf lf : Nat → Int32) (pic : Int → Int → Int → Int) (lig : Int → Int → Int), av = [.ref 0] ∧ h = cC :: cI (iI w) (iI g) :: aI np pf :: aI nl lf :: cF fo le to ri bo :: rest ∧ picOk w g np nl pf lf pic lig ∧ (bok w g w g (allF (dk pic) w.toNat 0 g.toNat (w, g, -1, -1)) → ∀ f : Int, (f = 1 ∧ fnd (dk pic) (allF (dk pic) w.toNat 0 g.toNat (w, g, -1, -1))) ∨ (f = 0 ∧ ¬ fnd (dk pic) (allF (dk pic) w.toNat 0 g.toNat (w, g, -1, -1))) → K (.inl (some (.int (iI f)))) (cC :: cI (iI w) (iI g) :: aI np pf :: aI nl lf :: cFs f (allF (dk pic) w.toNat 0 g.toNat (w, g, -1, -1)) :: rest))
set_option maxHeartbeats 4000000 in
set_option maxRecDepth 100000 in
theorem c_C_find (l : Launch) : rn_Met l y_C_find wc_C_find { frames := 4, cells := 0, slots := 0, locals := 69 } G_C_find := by
  refine rn_in mw_C_find.1 (by decide +kernel) ?_ ?_
  · intro _ av h K hG
    obtain ⟨rest, fo, le, to, ri, bo, np, nl, w, g, pf, lf, pic, lig, rfl, rfl, hpk, hK⟩ := hG
    exact Nat.le_of_ble_eq_true rfl
  intro p e s m args below meth c z sa D dA av h K hadm C hG
  obtain ⟨rest, fo, le, to, ri, bo, np, nl, w, g, pf, lf, pic, lig, rfl, rfl, hpk, hK⟩ := hG
  refine rn_aload_n C d_C_find_0 rfl ?_
  refine rn_get C f_C_21 d_C_find_1 rfl rfl ?_
  refine rn_aload_n C d_C_find_4 rfl ?_
  refine rn_get C f_C_12 d_C_find_5 rfl rfl ?_
  refine rn_cV C (c_F_lookIn l) mw_F_lookIn k_C_108 d_C_find_8 rfl rfl rfl (Nat.le_of_ble_eq_true rfl) (Nat.le_of_ble_eq_true rfl) ⟨by decide, by decide⟩ ⟨by decide, by decide⟩ ?_
  refine ⟨_, _, _, _, _, _, _, _, _, _, _, _, _, _, _, rfl, rfl, hpk, fun hb f hf => ?_⟩
  refine rn_aload_n C d_C_find_11 rfl ?_
  refine rn_get C f_C_21 d_C_find_12 rfl rfl ?_
  refine rn_get C f_C_112 d_C_find_15 rfl rfl ?_
  refine rn_ireturn C rfl (by rcases hf with ⟨rfl, -⟩ | ⟨rfl, -⟩ <;> rfl) d_C_find_18 ⟨by decide, by decide⟩ ?_
  exact hK hb f hf

