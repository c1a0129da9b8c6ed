/-! The fit. Laid by wip/whole/gen_c10.py. -/
theorem has0 {b : Bool} (h : (if b = true then iI 1 else iI 0) = 0) : b = false := by
  cases b with
  | false => rfl
  | true => exact absurd h (by decide)
theorem has1 {b : Bool} (h : ¬ (if b = true then iI 1 else iI 0) = 0) : b = true := by
  cases b with
  | true => rfl
  | false => exact absurd (by decide) h
def tOk (tp : Nat → Int32) (has : Int → Bool) (tg : Int → Int → Int) : Prop := ∀ p k : Int, 0 ≤ p → p < 16 → 0 ≤ k → k < 3 → has p = true → tp (p * 3 + k).toNat = iI (tg p k)
def G2_T_partOf (av : List Value) (h : ah_H) (K : ah_R → ah_H → Prop) : Prop := ∃ (q q8 q9 : Nat) (nt : Int32) (p k : Int) (tp : Nat → Int32) (has : Int → Bool) (tg : Int → Int → Int), av = [.ref q, .int (iI p), .int (iI k)] ∧ h[q]? = some (.inr (5, [.ref q8, .ref q9, .int nt])) ∧ h[q9]? = some (aI 48 tp) ∧ tOk tp has tg ∧ 0 ≤ p ∧ p < 16 ∧ 0 ≤ k ∧ k < 3 ∧ has p = true ∧ K (.inl (some (.int (iI (tg p k))))) h
theorem c2_T_partOf (l : Launch) : rn_Met l y_T_partOf wc_T_partOf { frames := 1, cells := 0, slots := 0, locals := 0 } G2_T_partOf := by
  refine rn_wk (c_T_partOf l) ?_
  intro _ av h K hG
  obtain ⟨q, q8, q9, nt, p, k, tp, has, tg, rfl, h1, h2, ht, p0, p1, k0, k1, hp, hK⟩ := hG
  refine ⟨_, _, _, _, _, _, _, _, rfl, h1, h2, ?_, ?_⟩
  · rw [show (3 : Int32) = iI 3 from rfl, iI_mul, iI_add]; exact iI_vin (by omega) (by omega) (by omega)
  · rw [show (3 : Int32) = iI 3 from rfl, iI_mul, iI_add, iI_nat (by omega) (by omega), ht p k p0 p1 k0 k1 hp]; exact hK
def G_C_fitPart (av : List Value) (h : ah_H) (K : ah_R → ah_H → Prop) : Prop := ∃ (rest : ah_H) (fo : Int32) (np nl : Nat) (w g le to ri bo c r t : Int) (pf lf : Nat → Int32) (pic : Int → Int → Int → Int) (lig : Int → Int → Int) (a1 a2 a3 a4 : Int32) (nt : Int) (to_ tp : Nat → Int32) (has : Int → Bool) (tg : Int → Int → Int) (fi : Int) (fa fb fd : Nat → Int64) (b1 : Int32) (b2 b3 b4 b5 : Int64) (k : Int), av = [.ref 0, .int (iI k)] ∧ h = cC :: cI (iI w) (iI g) :: aI np pf :: aI nl lf :: cF fo (iI le) (iI to) (iI ri) (iI bo) :: cY (iI c) (iI r) (iI t) :: cP a1 a2 a3 a4 :: cT (iI nt) :: aZ 16 to_ :: aI 48 tp :: cN (iI fi) :: aL 3 fa :: aL 3 fb :: aL 3 fd :: cS b1 b2 b3 b4 b5 :: rest ∧ picOk w g np nl pf lf pic lig ∧ frOk le to ri bo w g ∧ lyOk c r t ∧ zOk 16 to_ has ∧ tOk tp has tg ∧ tgB tg has ∧ (0 ≤ nt → has nt = true) ∧ -1 ≤ nt ∧ nt < 16 ∧ 0 ≤ k ∧ k < 3 ∧ 0 < sh has (fun _ => 1) 0 (c * r).toNat ∧ (∀ (a1 a2 a3 a4 b1 : Int32) (b2 b3 b4 b5 : Int64), K (.inl none) (cC :: cI (iI w) (iI g) :: aI np pf :: aI nl lf :: cF fo (iI le) (iI to) (iI ri) (iI bo) :: cY (iI c) (iI r) (iI t) :: cP a1 a2 a3 a4 :: cT (iI nt) :: aZ 16 to_ :: aI 48 tp :: cN (iI fi) :: aL 3 (vp_updL fa k.toNat (lI (fitK (rdI (ltI pic lig) le to ri bo c r t) tg has nt (c * r).toNat k).1)) :: aL 3 (vp_updL fb k.toNat (lI (fitK (rdI (ltI pic lig) le to ri bo c r t) tg has nt (c * r).toNat k).2.1)) :: aL 3 (vp_updL fd k.toNat (lI (fitK (rdI (ltI pic lig) le to ri bo c r t) tg has nt (c * r).toNat k).2.2)) :: cS b1 b2 b3 b4 b5 :: rest))
set_option maxHeartbeats 4000000 in
set_option maxRecDepth 100000 in
theorem c_C_fitPart (l : Launch) : rn_Met l y_C_fitPart wc_C_fitPart { frames := 5, cells := 0, slots := 0, locals := 106 } G_C_fitPart := by
  refine rn_in mw_C_fitPart.1 (by decide +kernel) ?_ ?_
  · intro _ av h K hG
    obtain ⟨rest, fo, np, nl, w, g, le, to, ri, bo, c_, r, t, pf, lf, pic, lig, a1, a2, a3, a4, nt, to_, tp, has, tg, fi, fa, fb, fd, b1, b2, b3, b4, b5, k, rfl, rfl, hpk, hf, hy, hz, ht, htb, hnt, nt0, nt1, k0, k1, hn0, hK⟩ := hG
    exact Nat.le_of_ble_eq_true rfl
  intro p e s m args below meth c z sa D dA av h K hadm C hG
  obtain ⟨rest, fo, np, nl, w, g, le, to, ri, bo, c_, r, t, pf, lf, pic, lig, a1, a2, a3, a4, nt, to_, tp, has, tg, fi, fa, fb, fd, b1, b2, b3, b4, b5, k, rfl, rfl, hpk, hf, hy, hz, ht, htb, hnt, nt0, nt1, k0, k1, hn0, hK⟩ := hG
  have hf' := hf
  have hy' := hy
  unfold frOk at hf'
  unfold lyOk at hy'
  have mq := mbd (A := 4) (B := 4) (a := c_) (b := r) (by omega) (by omega)
  have mp : 0 < c_ * r := Int.mul_pos (by omega) (by omega)
  have me : iI c_ * iI r = iI (c_ * r) := iI_mul _ _
  have hN : ((c_ * r).toNat : Int) = c_ * r := by omega
  have lb : ltB (ltI pic lig) := fun x y j => ltI_in hpk.2.2.2.2.1 hpk.2.2.2.2.2 x y j
  have hrd : rdB (rdI (ltI pic lig) le to ri bo c_ r t) (c_ * r).toNat := fun p k h1 h2 => rdI_in lb hf hy h1 (by omega) k
  have tail : ∀ (fl : Int32) (x0 y0 : Int) (a1 a2 a3 a4 : Int32), ((fl = 1 ∧ (0 ≤ nt ∧ nt < c_ * r) ∧ x0 = (rdI (ltI pic lig) le to ri bo c_ r t) nt k ∧ y0 = tg nt k) ∨ (fl = 0 ∧ ¬ (0 ≤ nt ∧ nt < c_ * r) ∧ x0 = 0 ∧ y0 = 0)) → Run p l e { frames := 5, cells := 0, slots := 0, locals := 106 } s m args below meth c z sa D dA 0 0 K 7 125 [some (.ref 0), some (.int (iI k)), some (.int (iI nt)), some (.int fl), some (.int (iI x0)), some (.int (iI y0))] [] (cC :: cI (iI w) (iI g) :: aI np pf :: aI nl lf :: cF fo (iI le) (iI to) (iI ri) (iI bo) :: cY (iI c_) (iI r) (iI t) :: cP a1 a2 a3 a4 :: cT (iI nt) :: aZ 16 to_ :: aI 48 tp :: cN (iI fi) :: aL 3 fa :: aL 3 fb :: aL 3 fd :: cS (iI (sh has (fun _ => 1) 0 (c_ * r).toNat)) (lI (sh has (fun p => (rdI (ltI pic lig) le to ri bo c_ r t) p k - x0) 0 (c_ * r).toNat)) (lI (sh has (fun p => tg p k - y0) 0 (c_ * r).toNat)) (lI (sh has (fun p => ((rdI (ltI pic lig) le to ri bo c_ r t) p k - x0) * ((rdI (ltI pic lig) le to ri bo c_ r t) p k - x0)) 0 (c_ * r).toNat)) (lI (sh has (fun p => ((rdI (ltI pic lig) le to ri bo c_ r t) p k - x0) * (tg p k - y0)) 0 (c_ * r).toNat)) :: rest) 0 0 := by
    intro fl x0 y0 a1 a2 a3 a4 hm
    have hsn := sm_has_le has (c_ * r).toNat 0
    rw [← sh_one] at hsn
    rcases hm with ⟨rfl, hh, rfl, rfl⟩ | ⟨rfl, hh, rfl, rfl⟩
    · have r0 := hrd nt k hh.1 (by omega)
      have t0 := htb nt k hh.1 (by omega) k0 k1 (hnt hh.1)
      obtain ⟨b1, b2, b3, b4, b5⟩ := held_bd (has := has) (f := fun p => (rdI (ltI pic lig) le to ri bo c_ r t) p k - (rdI (ltI pic lig) le to ri bo c_ r t) nt k) (g := fun p => tg p k - tg nt k) (n := (c_ * r).toNat) (by omega) (fun p h1 h2 _ => by have := hrd p k h1 h2; (try dsimp only); omega) (fun p h1 h2 h3 => by have := htb p k h1 (by omega) k0 k1 h3; (try dsimp only); omega) r0 t0
      simp only [fitK, rawK, if_pos (show 0 ≤ nt ∧ nt < ((c_ * r).toNat : Int) by omega), heldT] at hK
      refine rn_iload_n C d_C_fitPart_125 rfl ?_
      refine rn_if_eq C 150 d_C_fitPart_126 (by decide) (fun q_126 => absurd q_126 (by decide)) (fun _ => ?_)
      refine rn_aload_n C d_C_fitPart_129 rfl ?_
      refine rn_get C f_C_49 d_C_fitPart_130 rfl rfl ?_
      refine rn_iload_n C d_C_fitPart_133 rfl ?_
      refine rn_aload_n C d_C_fitPart_134 rfl ?_
      refine rn_get C f_C_56 d_C_fitPart_135 rfl rfl ?_
      refine rn_iload C d_C_fitPart_138 rfl ?_
      refine rn_i2l C d_C_fitPart_140 ?_
      refine rn_iload C d_C_fitPart_141 rfl ?_
      refine rn_i2l C d_C_fitPart_143 ?_
      rw [iI_toL ⟨by omega, by omega⟩, iI_toL ⟨by omega, by omega⟩]
      refine rn_cV C (c_N_hold l) mw_N_hold k_C_303 d_C_fitPart_144 rfl rfl rfl (Nat.le_of_ble_eq_true rfl) (Nat.le_of_ble_eq_true rfl) ⟨by decide, by decide⟩ ⟨by decide, by decide⟩ ?_
      refine ⟨_, _, _, _, _, _, _, _, _, _, _, _, _, _, _, _, _, _, _, _, _, _, _, rfl, rfl, k0, k1, b1, b2, b3, b4, b5, fun q => ?_, fun q => ?_⟩
      · simp only [if_pos q, red3] at hK
        refine rn_goto C 162 d_C_fitPart_147 (by decide) ?_
        refine rn_return C rfl d_C_fitPart_162 ⟨by decide, by decide⟩ ?_
        exact hK _ _ _ _ _ _ _ _ _
      · simp only [if_neg q, red3] at hK
        refine rn_goto C 162 d_C_fitPart_147 (by decide) ?_
        refine rn_return C rfl d_C_fitPart_162 ⟨by decide, by decide⟩ ?_
        exact hK _ _ _ _ _ _ _ _ _
    · obtain ⟨b1, b2, b3, b4, b5⟩ := free_bd (has := has) (f := fun p => (rdI (ltI pic lig) le to ri bo c_ r t) p k) (g := fun p => tg p k) (n := (c_ * r).toNat) (by omega) (fun p h1 h2 _ => by have := hrd p k h1 h2; (try dsimp only); omega) (fun p h1 h2 h3 => by have := htb p k h1 (by omega) k0 k1 h3; (try dsimp only); omega)
      simp only [Int.sub_zero]
      simp only [fitK, rawK, if_neg (show ¬ (0 ≤ nt ∧ nt < ((c_ * r).toNat : Int)) by omega), freeT] at hK
      refine rn_iload_n C d_C_fitPart_125 rfl ?_
      refine rn_if_eq C 150 d_C_fitPart_126 (by decide) (fun _ => ?_) (fun q_126 => absurd (rfl) q_126)
      refine rn_aload_n C d_C_fitPart_150 rfl ?_
      refine rn_get C f_C_49 d_C_fitPart_151 rfl rfl ?_
      refine rn_iload_n C d_C_fitPart_154 rfl ?_
      refine rn_aload_n C d_C_fitPart_155 rfl ?_
      refine rn_get C f_C_56 d_C_fitPart_156 rfl rfl ?_
      refine rn_cV C (c_N_fitFreely l) mw_N_fitFreely k_C_307 d_C_fitPart_159 rfl rfl rfl (Nat.le_of_ble_eq_true rfl) (Nat.le_of_ble_eq_true rfl) ⟨by decide, by decide⟩ ⟨by decide, by decide⟩ ?_
      refine ⟨_, _, _, _, _, _, _, _, _, _, _, _, _, _, _, _, _, _, _, _, _, rfl, rfl, k0, k1, hn0, by omega, b1, b2, b3, b4, b5, fun q => ?_, fun q => ?_⟩
      · simp only [if_pos q, red3] at hK
        refine rn_return C rfl d_C_fitPart_162 ⟨by decide, by decide⟩ ?_
        exact hK _ _ _ _ _ _ _ _ _
      · simp only [if_neg q, red3] at hK
        refine rn_return C rfl d_C_fitPart_162 ⟨by decide, by decide⟩ ?_
        exact hK _ _ _ _ _ _ _ _ _
  have loop : ∀ (fl : Int32) (x0 y0 : Int), ((fl = 1 ∧ (0 ≤ nt ∧ nt < c_ * r) ∧ x0 = (rdI (ltI pic lig) le to ri bo c_ r t) nt k ∧ y0 = tg nt k) ∨ (fl = 0 ∧ ¬ (0 ≤ nt ∧ nt < c_ * r) ∧ x0 = 0 ∧ y0 = 0)) → (0 ≤ x0 ∧ x0 ≤ 255 ∧ 0 ≤ y0 ∧ y0 ≤ 255) → ∀ (j : Nat) (i n_ x_ y_ xx_ xy_ : Int) (a1 a2 a3 a4 : Int32), i + j = c_ * r → 0 ≤ i → n_ + sh has (fun _ => 1) i j = sh has (fun _ => 1) 0 (c_ * r).toNat → x_ + sh has (fun p => (rdI (ltI pic lig) le to ri bo c_ r t) p k - x0) i j = sh has (fun p => (rdI (ltI pic lig) le to ri bo c_ r t) p k - x0) 0 (c_ * r).toNat → y_ + sh has (fun p => tg p k - y0) i j = sh has (fun p => tg p k - y0) 0 (c_ * r).toNat → xx_ + sh has (fun p => ((rdI (ltI pic lig) le to ri bo c_ r t) p k - x0) * ((rdI (ltI pic lig) le to ri bo c_ r t) p k - x0)) i j = sh has (fun p => ((rdI (ltI pic lig) le to ri bo c_ r t) p k - x0) * ((rdI (ltI pic lig) le to ri bo c_ r t) p k - x0)) 0 (c_ * r).toNat → xy_ + sh has (fun p => ((rdI (ltI pic lig) le to ri bo c_ r t) p k - x0) * (tg p k - y0)) i j = sh has (fun p => ((rdI (ltI pic lig) le to ri bo c_ r t) p k - x0) * (tg p k - y0)) 0 (c_ * r).toNat → Run p l e { frames := 5, cells := 0, slots := 0, locals := 106 } s m args below meth c z sa D dA 0 0 K 7 62 [some (.ref 0), some (.int (iI k)), some (.int (iI nt)), some (.int fl), some (.int (iI x0)), some (.int (iI y0)), some (.int (iI i))] [] (cC :: cI (iI w) (iI g) :: aI np pf :: aI nl lf :: cF fo (iI le) (iI to) (iI ri) (iI bo) :: cY (iI c_) (iI r) (iI t) :: cP a1 a2 a3 a4 :: cT (iI nt) :: aZ 16 to_ :: aI 48 tp :: cN (iI fi) :: aL 3 fa :: aL 3 fb :: aL 3 fd :: cS (iI n_) (lI x_) (lI y_) (lI xx_) (lI xy_) :: rest) 0 0 := by
    intro fl x0 y0 hm hxy j
    induction j with
    | zero =>
      intro i n_ x_ y_ xx_ xy_ a1 a2 a3 a4 hi i0 e1 e2 e3 e4 e5
      rw [sh_zero, Int.add_zero] at e1 e2 e3 e4 e5
      have tl := tail fl x0 y0 a1 a2 a3 a4 hm
      rw [← e1, ← e2, ← e3, ← e4, ← e5] at tl
      refine rn_iload C d_C_fitPart_62 rfl ?_
      refine rn_aload_n C d_C_fitPart_64 rfl ?_
      refine rn_get C f_C_28 d_C_fitPart_65 rfl rfl ?_
      refine rn_cV C (c_Y_patches l) mw_Y_patches k_C_198 d_C_fitPart_68 rfl rfl rfl (Nat.le_of_ble_eq_true rfl) (Nat.le_of_ble_eq_true rfl) ⟨by decide, by decide⟩ ⟨by decide, by decide⟩ ?_
      refine ⟨5, _, _, _, rfl, rfl, ?_⟩
      rw [me]
      refine rn_icmp_ge C 125 d_C_fitPart_71 (by decide) (fun _ => ?_) (fun q_71 => absurd ((iI_le ⟨by omega, by omega⟩ ⟨by omega, by omega⟩).mpr (by omega)) q_71)
      refine rn_weak (lv' := [some (.ref 0), some (.int (iI k)), some (.int (iI nt)), some (.int fl), some (.int (iI x0)), some (.int (iI y0))]) ⟨rfl, rfl, rfl, rfl, rfl, rfl, trivial⟩ ?_
      exact tl
    | succ j ih =>
      intro i n_ x_ y_ xx_ xy_ a1 a2 a3 a4 hi i0 e1 e2 e3 e4 e5
      have hzi := hz i i0 (by omega)
      have rr_ := hrd i k i0 (by omega)
      refine rn_iload C d_C_fitPart_62 rfl ?_
      refine rn_aload_n C d_C_fitPart_64 rfl ?_
      refine rn_get C f_C_28 d_C_fitPart_65 rfl rfl ?_
      refine rn_cV C (c_Y_patches l) mw_Y_patches k_C_198 d_C_fitPart_68 rfl rfl rfl (Nat.le_of_ble_eq_true rfl) (Nat.le_of_ble_eq_true rfl) ⟨by decide, by decide⟩ ⟨by decide, by decide⟩ ?_
      refine ⟨5, _, _, _, rfl, rfl, ?_⟩
      rw [me]
      refine rn_icmp_ge C 125 d_C_fitPart_71 (by decide) (fun q_71 => absurd q_71 (fun q => absurd ((iI_le ⟨by omega, by omega⟩ ⟨by omega, by omega⟩).mp q) (by omega))) (fun _ => ?_)
      refine rn_aload_n C d_C_fitPart_74 rfl ?_
      refine rn_get C f_C_42 d_C_fitPart_75 rfl rfl ?_
      refine rn_get C f_C_189 d_C_fitPart_78 rfl rfl ?_
      refine rn_iload C d_C_fitPart_81 rfl ?_
      refine rn_zaload C d_C_fitPart_83 rfl (iI_vin i0 (by omega) (by omega)) ?_
      rw [iI_nat i0 (by omega), hzi]
      refine rn_if_eq C 119 d_C_fitPart_84 (by decide) (fun c84 => ?_) (fun c84 => ?_)
      · skip
        refine rn_iinc C _ d_C_fitPart_119 rfl (iI_inc _) (by decide) ?_
        refine rn_goto C 62 d_C_fitPart_122 (by decide) ?_
        first
          | exact ih (i + 1) _ _ _ _ _ _ _ _ _ (by omega) (by omega) e1 e2 e3 e4 e5
          | (rw [sh_f (has0 c84)] at e1 e2 e3 e4 e5; exact ih (i + 1) _ _ _ _ _ _ _ _ _ (by omega) (by omega) e1 e2 e3 e4 e5)
      · skip
        have hc : has i = true := has1 c84
        rw [sh_t hc, ← Int.add_assoc] at e1 e2 e3 e4 e5
        have ti := htb i k i0 (by omega) k0 k1 hc
        refine rn_aload_n C d_C_fitPart_87 rfl ?_
        refine rn_get C f_C_56 d_C_fitPart_88 rfl rfl ?_
        refine rn_aload_n C d_C_fitPart_91 rfl ?_
        refine rn_iload C d_C_fitPart_92 rfl ?_
        refine rn_iload_n C d_C_fitPart_94 rfl ?_
        refine rn_cV C (c_C_partOfPatch l) mw_C_partOfPatch k_C_149 d_C_fitPart_95 rfl rfl rfl (Nat.le_of_ble_eq_true rfl) (Nat.le_of_ble_eq_true rfl) ⟨by decide, by decide⟩ ⟨by decide, by decide⟩ ?_
        refine ⟨_, _, _, _, _, _, _, _, _, _, _, _, _, _, _, _, _, _, _, _, _, _, _, rfl, rfl, hpk, hf, hy, i0, by omega, k0, k1, ?_⟩
        refine rn_iload C d_C_fitPart_98 rfl ?_
        refine rn_isub C d_C_fitPart_100 ?_
        rw [iI_sub]
        refine rn_i2l C d_C_fitPart_101 ?_
        rw [iI_toL ⟨by omega, by omega⟩]
        refine rn_aload_n C d_C_fitPart_102 rfl ?_
        refine rn_get C f_C_42 d_C_fitPart_103 rfl rfl ?_
        refine rn_iload C d_C_fitPart_106 rfl ?_
        refine rn_iload_n C d_C_fitPart_108 rfl ?_
        refine rn_cV C (c2_T_partOf l) mw_T_partOf k_C_297 d_C_fitPart_109 rfl rfl rfl (Nat.le_of_ble_eq_true rfl) (Nat.le_of_ble_eq_true rfl) ⟨by decide, by decide⟩ ⟨by decide, by decide⟩ ?_
        refine ⟨7, 8, 9, _, _, _, tp, has, tg, rfl, rfl, rfl, ht, i0, by omega, k0, k1, hc, ?_⟩
        refine rn_iload C d_C_fitPart_112 rfl ?_
        refine rn_isub C d_C_fitPart_114 ?_
        rw [iI_sub]
        refine rn_i2l C d_C_fitPart_115 ?_
        rw [iI_toL ⟨by omega, by omega⟩]
        refine rn_cV C (c_S_add l) mw_S_add k_C_267 d_C_fitPart_116 rfl rfl rfl (Nat.le_of_ble_eq_true rfl) (Nat.le_of_ble_eq_true rfl) ⟨by decide, by decide⟩ ⟨by decide, by decide⟩ ?_
        refine ⟨14, _, _, _, _, _, _, _, rfl, rfl, ?_⟩
        rw [show (1 : Int32) = iI 1 from rfl, iI_add, lI_add, lI_add, lI_mul, lI_mul, lI_add, lI_add]
        refine rn_iinc C _ d_C_fitPart_119 rfl (iI_inc _) (by decide) ?_
        refine rn_goto C 62 d_C_fitPart_122 (by decide) ?_
        first
          | exact ih (i + 1) _ _ _ _ _ _ _ _ _ (by omega) (by omega) e1 e2 e3 e4 e5
          | (rw [sh_f (has0 c84)] at e1 e2 e3 e4 e5; exact ih (i + 1) _ _ _ _ _ _ _ _ _ (by omega) (by omega) e1 e2 e3 e4 e5)
  have main : ∀ (fl : Int32) (x0 y0 : Int) (a1 a2 a3 a4 : Int32), ((fl = 1 ∧ (0 ≤ nt ∧ nt < c_ * r) ∧ x0 = (rdI (ltI pic lig) le to ri bo c_ r t) nt k ∧ y0 = tg nt k) ∨ (fl = 0 ∧ ¬ (0 ≤ nt ∧ nt < c_ * r) ∧ x0 = 0 ∧ y0 = 0)) → (0 ≤ x0 ∧ x0 ≤ 255 ∧ 0 ≤ y0 ∧ y0 ≤ 255) → Run p l e { frames := 5, cells := 0, slots := 0, locals := 106 } s m args below meth c z sa D dA 0 0 K 7 52 [some (.ref 0), some (.int (iI k)), some (.int (iI nt)), some (.int fl), some (.int (iI x0)), some (.int (iI y0))] [] (cC :: cI (iI w) (iI g) :: aI np pf :: aI nl lf :: cF fo (iI le) (iI to) (iI ri) (iI bo) :: cY (iI c_) (iI r) (iI t) :: cP a1 a2 a3 a4 :: cT (iI nt) :: aZ 16 to_ :: aI 48 tp :: cN (iI fi) :: aL 3 fa :: aL 3 fb :: aL 3 fd :: cS b1 b2 b3 b4 b5 :: rest) 0 0 := by
    intro fl x0 y0 a1 a2 a3 a4 hm hxy
    refine rn_aload_n C d_C_fitPart_52 rfl ?_
    refine rn_get C f_C_56 d_C_fitPart_53 rfl rfl ?_
    refine rn_cV C (c_S_clear l) mw_S_clear k_C_300 d_C_fitPart_56 rfl rfl rfl (Nat.le_of_ble_eq_true rfl) (Nat.le_of_ble_eq_true rfl) ⟨by decide, by decide⟩ ⟨by decide, by decide⟩ ?_
    refine ⟨14, _, _, _, _, _, rfl, rfl, ?_⟩
    refine rn_iconst C (iI 0) d_C_fitPart_59 (by decide) ?_
    refine rn_istore C d_C_fitPart_60 (by decide) ?_
    exact loop fl x0 y0 hm hxy (c_ * r).toNat 0 0 0 0 0 0 _ _ _ _ (by omega) (by omega) (by omega) (by omega) (by omega) (by omega) (by omega)
  refine rn_aload_n C d_C_fitPart_0 rfl ?_
  refine rn_get C f_C_42 d_C_fitPart_1 rfl rfl ?_
  refine rn_get C f_C_195 d_C_fitPart_4 rfl rfl ?_
  refine rn_istore_n C d_C_fitPart_7 (by decide) ?_
  refine rn_aload_n C d_C_fitPart_8 rfl ?_
  refine rn_get C f_C_28 d_C_fitPart_9 rfl rfl ?_
  refine rn_iload_n C d_C_fitPart_12 rfl ?_
  refine rn_cV C (c_Y_hasPatch l) mw_Y_hasPatch k_C_144 d_C_fitPart_13 rfl rfl rfl (Nat.le_of_ble_eq_true rfl) (Nat.le_of_ble_eq_true rfl) ⟨by decide, by decide⟩ ⟨by decide, by decide⟩ ?_
  refine ⟨5, _, _, _, _, rfl, rfl, fun hh => ?_, fun hh => ?_⟩ <;> rw [me, iI_toInt (show inI nt from ⟨by omega, by omega⟩), iI_toInt (show inI (c_ * r) from ⟨by omega, by omega⟩)] at hh
  · have r0 := hrd nt k hh.1 (by omega)
    have t0 := htb nt k hh.1 (by omega) k0 k1 (hnt hh.1)
    refine rn_istore_n C d_C_fitPart_16 (by decide) ?_
    refine rn_iload_n C d_C_fitPart_17 rfl ?_
    refine rn_if_eq C 30 d_C_fitPart_18 (by decide) (fun q_18 => absurd q_18 (by decide)) (fun _ => ?_)
    refine rn_aload_n C d_C_fitPart_21 rfl ?_
    refine rn_iload_n C d_C_fitPart_22 rfl ?_
    refine rn_iload_n C d_C_fitPart_23 rfl ?_
    refine rn_cV C (c_C_partOfPatch l) mw_C_partOfPatch k_C_149 d_C_fitPart_24 rfl rfl rfl (Nat.le_of_ble_eq_true rfl) (Nat.le_of_ble_eq_true rfl) ⟨by decide, by decide⟩ ⟨by decide, by decide⟩ ?_
    refine ⟨_, _, _, _, _, _, _, _, _, _, _, _, _, _, _, _, _, _, _, _, _, _, _, rfl, rfl, hpk, hf, hy, by omega, by omega, k0, k1, ?_⟩
    refine rn_goto C 31 d_C_fitPart_27 (by decide) ?_
    refine rn_istore C d_C_fitPart_31 (by decide) ?_
    refine rn_iload_n C d_C_fitPart_33 rfl ?_
    refine rn_if_eq C 49 d_C_fitPart_34 (by decide) (fun q_34 => absurd q_34 (by decide)) (fun _ => ?_)
    refine rn_aload_n C d_C_fitPart_37 rfl ?_
    refine rn_get C f_C_42 d_C_fitPart_38 rfl rfl ?_
    refine rn_iload_n C d_C_fitPart_41 rfl ?_
    refine rn_iload_n C d_C_fitPart_42 rfl ?_
    refine rn_cV C (c2_T_partOf l) mw_T_partOf k_C_297 d_C_fitPart_43 rfl rfl rfl (Nat.le_of_ble_eq_true rfl) (Nat.le_of_ble_eq_true rfl) ⟨by decide, by decide⟩ ⟨by decide, by decide⟩ ?_
    refine ⟨7, 8, 9, _, _, _, tp, has, tg, rfl, rfl, rfl, ht, by omega, by omega, k0, k1, hnt (by omega), ?_⟩
    refine rn_goto C 50 d_C_fitPart_46 (by decide) ?_
    refine rn_istore C d_C_fitPart_50 (by decide) ?_
    exact main _ _ _ _ _ _ _ (Or.inl ⟨rfl, hh, rfl, rfl⟩) ⟨r0.1, r0.2, t0.1, t0.2⟩
  · skip
    refine rn_istore_n C d_C_fitPart_16 (by decide) ?_
    refine rn_iload_n C d_C_fitPart_17 rfl ?_
    refine rn_if_eq C 30 d_C_fitPart_18 (by decide) (fun _ => ?_) (fun q_18 => absurd (rfl) q_18)
    refine rn_iconst C (iI 0) d_C_fitPart_30 (by decide) ?_
    refine rn_istore C d_C_fitPart_31 (by decide) ?_
    refine rn_iload_n C d_C_fitPart_33 rfl ?_
    refine rn_if_eq C 49 d_C_fitPart_34 (by decide) (fun _ => ?_) (fun q_34 => absurd (rfl) q_34)
    refine rn_iconst C (iI 0) d_C_fitPart_49 (by decide) ?_
    refine rn_istore C d_C_fitPart_50 (by decide) ?_
    exact main _ _ _ _ _ _ _ (Or.inr ⟨rfl, hh, rfl, rfl⟩) ⟨by omega, by omega, by omega, by omega⟩

def G_C_fit (av : List Value) (h : ah_H) (K : ah_R → ah_H → Prop) : Prop := ∃ (rest : ah_H) (np nl : Nat) (w g le to ri bo c r t : Int) (pf lf : Nat → Int32) (pic : Int → Int → Int → Int) (lig : Int → Int → Int) (a1 a2 a3 a4 : Int32) (nt : Int) (to_ tp : Nat → Int32) (has : Int → Bool) (tg : Int → Int → Int) (fi : Int) (fa fb fd : Nat → Int64) (b1 : Int32) (b2 b3 b4 b5 : Int64) (fo : Int), av = [.ref 0] ∧ h = cC :: cI (iI w) (iI g) :: aI np pf :: aI nl lf :: cF (iI fo) (iI le) (iI to) (iI ri) (iI bo) :: cY (iI c) (iI r) (iI t) :: cP a1 a2 a3 a4 :: cT (iI nt) :: aZ 16 to_ :: aI 48 tp :: cN (iI fi) :: aL 3 fa :: aL 3 fb :: aL 3 fd :: cS b1 b2 b3 b4 b5 :: rest ∧ (fo = 0 ∨ fo = 1) ∧ picOk w g np nl pf lf pic lig ∧ lyOk c r t ∧ (fo = 1 → frOk le to ri bo w g) ∧ zOk 16 to_ has ∧ tOk tp has tg ∧ tgB tg has ∧ (0 ≤ nt → has nt = true) ∧ -1 ≤ nt ∧ nt < 16 ∧ (fo = 0 → K (.inr h.length) (h ++ [xS])) ∧ (fo = 1 → sh has (fun _ => 1) 0 (c * r).toNat < 2 → K (.inl (some (.int (iI (sh has (fun _ => 1) 0 (c * r).toNat))))) h) ∧ (fo = 1 → 2 ≤ sh has (fun _ => 1) 0 (c * r).toNat → ∀ (a1 a2 a3 a4 b1 : Int32) (b2 b3 b4 b5 : Int64) (fa fb fd : Nat → Int64), (∀ j : Int, 0 ≤ j → j < 3 → fa j.toNat = lI (fitK (rdI (ltI pic lig) le to ri bo c r t) tg has nt (c * r).toNat j).1 ∧ fb j.toNat = lI (fitK (rdI (ltI pic lig) le to ri bo c r t) tg has nt (c * r).toNat j).2.1 ∧ fd j.toNat = lI (fitK (rdI (ltI pic lig) le to ri bo c r t) tg has nt (c * r).toNat j).2.2) → K (.inl (some (.int (iI (sh has (fun _ => 1) 0 (c * r).toNat))))) (cC :: cI (iI w) (iI g) :: aI np pf :: aI nl lf :: cF (iI fo) (iI le) (iI to) (iI ri) (iI bo) :: cY (iI c) (iI r) (iI t) :: cP a1 a2 a3 a4 :: cT (iI nt) :: aZ 16 to_ :: aI 48 tp :: cN (iI 1) :: aL 3 fa :: aL 3 fb :: aL 3 fd :: cS b1 b2 b3 b4 b5 :: rest))
set_option maxHeartbeats 4000000 in
set_option maxRecDepth 100000 in
theorem c_C_fit (l : Launch) (hl : l.flags = flags0) : rn_Met l y_C_fit wc_C_fit rmC G_C_fit := by
  refine rn_in mw_C_fit.1 (by decide +kernel) ?_ ?_
  · intro _ av h K hG
    obtain ⟨rest, np, nl, w, g, le, to, ri, bo, c_, r, t, pf, lf, pic, lig, a1, a2, a3, a4, nt, to_, tp, has, tg, fi, fa, fb, fd, b1, b2, b3, b4, b5, fo, rfl, rfl, hfo, hpk, hy, hf0, hz, ht, htb, hnt, nt0, nt1, k1, k2, k3⟩ := hG
    exact Nat.le_of_ble_eq_true rfl
  intro p e s m args below meth c z sa D dA av h K hadm C hG
  have htr := Launch.traces_off hl hadm
  obtain ⟨rest, np, nl, w, g, le, to, ri, bo, c_, r, t, pf, lf, pic, lig, a1, a2, a3, a4, nt, to_, tp, has, tg, fi, fa, fb, fd, b1, b2, b3, b4, b5, fo, rfl, rfl, hfo, hpk, hy, hf0, hz, ht, htb, hnt, nt0, nt1, k1, k2, k3⟩ := hG
  have hy' := hy
  unfold lyOk at hy'
  have mq := mbd (A := 4) (B := 4) (a := c_) (b := r) (by omega) (by omega)
  have mp : 0 < c_ * r := Int.mul_pos (by omega) (by omega)
  have me : iI c_ * iI r = iI (c_ * r) := iI_mul _ _
  have hN : ((c_ * r).toNat : Int) = c_ * r := by omega
  have hsn := sm_has_le has (c_ * r).toNat 0
  rw [← sh_one] at hsn
  have loop : fo = 1 → 2 ≤ sh has (fun _ => 1) 0 (c_ * r).toNat → ∀ (j : Nat) (i : Int) (a1 a2 a3 a4 b1 : Int32) (b2 b3 b4 b5 : Int64) (fa fb fd : Nat → Int64), i + j = 3 → 0 ≤ i → (∀ j : Int, 0 ≤ j → j < i → fa j.toNat = lI (fitK (rdI (ltI pic lig) le to ri bo c_ r t) tg has nt (c_ * r).toNat j).1 ∧ fb j.toNat = lI (fitK (rdI (ltI pic lig) le to ri bo c_ r t) tg has nt (c_ * r).toNat j).2.1 ∧ fd j.toNat = lI (fitK (rdI (ltI pic lig) le to ri bo c_ r t) tg has nt (c_ * r).toNat j).2.2) → Run p l e rmC s m args below meth c z sa D dA 1 6 K 3 42 [some (.ref 0), some (.int (iI (sh has (fun _ => 1) 0 (c_ * r).toNat))), some (.int (iI i))] [] (cC :: cI (iI w) (iI g) :: aI np pf :: aI nl lf :: cF (iI fo) (iI le) (iI to) (iI ri) (iI bo) :: cY (iI c_) (iI r) (iI t) :: cP a1 a2 a3 a4 :: cT (iI nt) :: aZ 16 to_ :: aI 48 tp :: cN (iI fi) :: aL 3 fa :: aL 3 fb :: aL 3 fd :: cS b1 b2 b3 b4 b5 :: rest) 0 0 := by
    intro hfo1 h2 j
    induction j with
    | zero =>
      intro i a1 a2 a3 a4 b1 b2 b3 b4 b5 fa fb fd hi i0 hl
      refine rn_iload_n C d_C_fit_42 rfl ?_
      refine rn_iconst C (iI 3) d_C_fit_43 (by decide) ?_
      refine rn_icmp_ge C 58 d_C_fit_44 (by decide) (fun _ => ?_) (fun q_44 => absurd ((iI_le ⟨by omega, by omega⟩ ⟨by omega, by omega⟩).mpr (by omega)) q_44)
      refine rn_aload_n C d_C_fit_58 rfl ?_
      refine rn_get C f_C_49 d_C_fit_59 rfl rfl ?_
      refine rn_iconst C (iI 1) d_C_fit_62 (by decide) ?_
      refine rn_put C f_C_208 ft_N fn_N_0 d_C_fit_63 rfl (Nat.le_of_ble_eq_true rfl) (fun _ _ => ⟨rfl, rfl⟩) ?_
      refine rn_iload_n C d_C_fit_66 rfl ?_
      refine rn_ireturn C rfl rfl d_C_fit_67 ⟨by decide, by decide⟩ ?_
      exact k3 hfo1 h2 _ _ _ _ _ _ _ _ _ _ _ _ (fun j h1 h2 => hl j h1 (by omega))
    | succ j ih =>
      intro i a1 a2 a3 a4 b1 b2 b3 b4 b5 fa fb fd hi i0 hl
      refine rn_iload_n C d_C_fit_42 rfl ?_
      refine rn_iconst C (iI 3) d_C_fit_43 (by decide) ?_
      refine rn_icmp_ge C 58 d_C_fit_44 (by decide) (fun q_44 => absurd q_44 (fun q => absurd ((iI_le ⟨by omega, by omega⟩ ⟨by omega, by omega⟩).mp q) (by omega))) (fun _ => ?_)
      refine rn_aload_n C d_C_fit_47 rfl ?_
      refine rn_iload_n C d_C_fit_48 rfl ?_
      refine rn_cV C (c_C_fitPart l) mw_C_fitPart k_C_205 d_C_fit_49 rfl rfl rfl (Nat.le_of_ble_eq_true rfl) (Nat.le_of_ble_eq_true rfl) ⟨by decide, by decide⟩ ⟨by decide, by decide⟩ ?_
      refine ⟨_, _, _, _, _, _, _, _, _, _, _, _, _, _, _, _, _, _, _, _, _, _, _, _, _, _, _, _, _, _, _, _, _, _, _, _, rfl, rfl, hpk, hf0 hfo1, hy, hz, ht, htb, hnt, nt0, nt1, i0, by omega, by omega, fun a1 a2 a3 a4 b1 b2 b3 b4 b5 => ?_⟩
      refine rn_iinc C _ d_C_fit_52 rfl (iI_inc _) (by decide) ?_
      refine rn_goto C 42 d_C_fit_55 (by decide) ?_
      refine ih (i + 1) _ _ _ _ _ _ _ _ _ _ _ _ (by omega) (by omega) (fun q h1 h2 => ?_)
      by_cases hq : q = i
      · subst hq; exact ⟨vp_updL_same _ _ _, vp_updL_same _ _ _, vp_updL_same _ _ _⟩
      · have hq2 : q.toNat ≠ i.toNat := by omega
        rw [vp_updL_other _ _ hq2, vp_updL_other _ _ hq2, vp_updL_other _ _ hq2]
        exact hl q h1 (by omega)
  refine rn_aload_n C d_C_fit_0 rfl ?_
  refine rn_get C f_C_21 d_C_fit_1 rfl rfl ?_
  refine rn_get C f_C_112 d_C_fit_4 rfl rfl ?_
  refine rn_if_ne C 20 d_C_fit_7 (by decide) (fun c7 => ?_) (fun c7 => ?_)
  · skip
    have hfo1 := flag1 hfo c7
    refine rn_aload_n C d_C_fit_20 rfl ?_
    refine rn_get C f_C_42 d_C_fit_21 rfl rfl ?_
    refine rn_aload_n C d_C_fit_24 rfl ?_
    refine rn_get C f_C_28 d_C_fit_25 rfl rfl ?_
    refine rn_cV C (c_Y_patches l) mw_Y_patches k_C_198 d_C_fit_28 rfl rfl rfl (Nat.le_of_ble_eq_true rfl) (Nat.le_of_ble_eq_true rfl) ⟨by decide, by decide⟩ ⟨by decide, by decide⟩ ?_
    refine ⟨5, _, _, _, rfl, rfl, ?_⟩
    rw [me]
    refine rn_cV C (c_T_countBelow l) mw_T_countBelow k_C_202 d_C_fit_31 rfl rfl rfl (Nat.le_of_ble_eq_true rfl) (Nat.le_of_ble_eq_true rfl) ⟨by decide, by decide⟩ ⟨by decide, by decide⟩ ?_
    refine ⟨7, 8, _, _, to_, has, (c_ * r).toNat, by rw [hN]; rfl, rfl, rfl, hz, by omega, ?_⟩
    rw [← sh_one]
    refine rn_istore_n C d_C_fit_34 (by decide) ?_
    refine rn_iload_n C d_C_fit_35 rfl ?_
    refine rn_iconst C (iI 2) d_C_fit_36 (by decide) ?_
    refine rn_icmp_lt C 66 d_C_fit_37 (by decide) (fun c37 => ?_) (fun c37 => ?_)
    · skip
      refine rn_iload_n C d_C_fit_66 rfl ?_
      refine rn_ireturn C rfl rfl d_C_fit_67 ⟨by decide, by decide⟩ ?_
      exact k2 hfo1 ((iI_lt ⟨by omega, by omega⟩ ⟨by omega, by omega⟩).mp c37)
    · skip
      refine rn_iconst C (iI 0) d_C_fit_40 (by decide) ?_
      refine rn_istore_n C d_C_fit_41 (by decide) ?_
      have h2 : ¬ sh has (fun _ => 1) 0 (c_ * r).toNat < 2 := fun q => c37 ((iI_lt ⟨by omega, by omega⟩ ⟨by omega, by omega⟩).mpr q)
      exact loop hfo1 (by omega) 3 0 _ _ _ _ _ _ _ _ _ _ _ _ (by omega) (by omega) (fun q h1 h2 => by omega)
  · skip
    refine rn_throw C htr tw_3 (tx := "no frame is found") (by decide +kernel) d_C_fit_10 d_C_fit_13 d_C_fit_14 d_C_fit_16 d_C_fit_19 (by decide) (Nat.le_of_ble_eq_true rfl) ⟨by decide, by decide⟩ ⟨by decide, by decide⟩ ?_
    exact k1 (flag0 hfo c7)

