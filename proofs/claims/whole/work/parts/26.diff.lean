/-! Differences, noise, rules, rejects. Laid by wip/whole/gen_c11.py. -/
def wt (k : Int) : Int := if k = 0 then 2 else if k = 1 then 4 else 3
theorem wt_in (k : Int) : 0 ≤ wt k ∧ wt k ≤ 4 := by unfold wt; split <;> (try split) <;> omega
theorem w3_I {i : Int} (h0 : 0 ≤ i) (h1 : i < 3) : rn_w3 (iI i).toNatClampNeg = .int (iI (wt i)) := by
  have h : i = 0 ∨ i = 1 ∨ i = 2 := by omega
  rcases h with rfl | rfl | rfl <;> rfl
def dfT (rd tg : Int → Int → Int) (A B D : Int → Int) (p k : Int) : Int := wt k * (colI (A k) (B k) (D k) (rd p k) - tg p k) * (colI (A k) (B k) (D k) (rd p k) - tg p k)
def difI (rd tg : Int → Int → Int) (A B D : Int → Int) (p : Int) : Int := sm (dfT rd tg A B D p) 0 3
theorem dfT_in {rd tg : Int → Int → Int} {A B D : Int → Int} {p k : Int} (h : 0 ≤ tg p k ∧ tg p k ≤ 255) : 0 ≤ dfT rd tg A B D p k ∧ dfT rd tg A B D p k ≤ 260100 := by
  have a := colI_in (A k) (B k) (D k) (rd p k)
  unfold dfT
  have hm : -255 ≤ colI (A k) (B k) (D k) (rd p k) - tg p k ∧ colI (A k) (B k) (D k) (rd p k) - tg p k ≤ 255 := by omega
  have b := mbd hm hm
  have e := sq_nn (colI (A k) (B k) (D k) (rd p k) - tg p k)
  have w := wt_in k
  rw [Int.mul_assoc]
  refine ⟨Int.mul_nonneg w.1 e, ?_⟩
  have := Int.mul_le_mul (a := wt k) (c := 4) (b := (colI (A k) (B k) (D k) (rd p k) - tg p k) * (colI (A k) (B k) (D k) (rd p k) - tg p k)) (d := 65025) w.2 (by omega) e (by omega)
  omega
theorem difI_in {rd tg : Int → Int → Int} {A B D : Int → Int} {p : Int} (h : ∀ k, 0 ≤ k → k < 3 → 0 ≤ tg p k ∧ tg p k ≤ 255) : 0 ≤ difI rd tg A B D p ∧ difI rd tg A B D p ≤ 780300 := by
  have := sm_le (f := dfT rd tg A B D p) (b := 260100) 3 0 (fun k h1 h2 => dfT_in (h k h1 (by omega)))
  unfold difI
  omega
def mx (f : Int → Int) : Int → Nat → Int → Int
  | _, 0, a => a
  | i, k + 1, a => mx f (i + 1) k (max a (f i))
theorem td_bd {s n M : Int} (hn : 0 < n) (hM : 0 ≤ M) (h : -(n * M) ≤ s ∧ s ≤ n * M) : -M ≤ s.tdiv n ∧ s.tdiv n ≤ M := by
  by_cases h0 : 0 ≤ s
  · rw [Int.tdiv_eq_ediv_of_nonneg h0]
    have h1 := Int.ediv_nonneg h0 (Int.le_of_lt hn)
    have h2 : s / n ≤ M := Int.ediv_le_of_le_mul hn (by rw [Int.mul_comm]; exact h.2)
    omega
  · have e : s.tdiv n = -((-s).tdiv n) := by rw [Int.neg_tdiv, Int.neg_neg]
    rw [e, Int.tdiv_eq_ediv_of_nonneg (by omega)]
    have h1 := Int.ediv_nonneg (a := -s) (b := n) (by omega) (Int.le_of_lt hn)
    have h2 : (-s) / n ≤ M := Int.ediv_le_of_le_mul hn (by rw [Int.mul_comm]; omega)
    omega
def nsI (lt : Int → Int → Int → Int) (le to ri bo c r t p : Int) : Int := (spI lt le to ri bo c r t p).tdiv (rcN le to ri bo c r t p * rcN le to ri bo c r t p)
theorem nsI_in {lt : Int → Int → Int → Int} (hl : ltB lt) {le to ri bo w g c r t p : Int} (hfr : frOk le to ri bo w g) (hy : lyOk c r t) (p0 : 0 ≤ p) (p1 : p < c * r) : -65025 ≤ nsI lt le to ri bo c r t p ∧ nsI lt le to ri bo c r t p ≤ 65025 := by
  have h := spI_in hl hfr hy p0 p1
  exact td_bd h.2.2.1 (by omega) ⟨h.1, h.2.1⟩
def G_C_differenceOrNone (av : List Value) (h : ah_H) (K : ah_R → ah_H → Prop) : Prop := ∃ (rest : ah_H) (fo : Int32) (np nl : Nat) (w g le to ri bo c r t : Int) (pf lf : Nat → Int32) (pic : Int → Int → Int → Int) (lig : Int → Int → Int) (a1 a2 a3 a4 : Int32) (nt : Int) (to_ tp : Nat → Int32) (has : Int → Bool) (tg : Int → Int → Int) (fa fb fd : Nat → Int64) (A B D : Int → Int) (p : Int), av = [.ref 0, .int (iI p)] ∧ h = cC :: cI (iI w) (iI g) :: aI np pf :: aI nl lf :: cF fo (iI le) (iI to) (iI ri) (iI bo) :: cY (iI c) (iI r) (iI t) :: cP a1 a2 a3 a4 :: cT (iI nt) :: aZ 16 to_ :: aI 48 tp :: cN (iI 1) :: aL 3 fa :: aL 3 fb :: aL 3 fd :: rest ∧ picOk w g np nl pf lf pic lig ∧ frOk le to ri bo w g ∧ lyOk c r t ∧ zOk 16 to_ has ∧ tOk tp has tg ∧ tgB tg has ∧ (0 ≤ nt → has nt = true) ∧ -1 ≤ nt ∧ nt < 16 ∧ lnOk 1 fa fb fd A B D ∧ 0 ≤ p ∧ p < c * r ∧ (has p = false → K (.inl (some (.int (iI (-1))))) h) ∧ (has p = true → ∀ (a1 a2 a3 a4 : Int32), K (.inl (some (.int (iI (difI (rdI (ltI pic lig) le to ri bo c r t) tg A B D p))))) (cC :: cI (iI w) (iI g) :: aI np pf :: aI nl lf :: cF fo (iI le) (iI to) (iI ri) (iI bo) :: cY (iI c) (iI r) (iI t) :: cP a1 a2 a3 a4 :: cT (iI nt) :: aZ 16 to_ :: aI 48 tp :: cN (iI 1) :: aL 3 fa :: aL 3 fb :: aL 3 fd :: rest))
set_option maxHeartbeats 4000000 in
set_option maxRecDepth 100000 in
theorem c_C_differenceOrNone (l : Launch) : rn_Met l y_C_differenceOrNone wc_C_differenceOrNone { frames := 5, cells := 0, slots := 0, locals := 95 } G_C_differenceOrNone := by
  refine rn_in mw_C_differenceOrNone.1 (by decide +kernel) ?_ ?_
  · intro _ av h K hG
    obtain ⟨rest, fo, np, nl, w, g, le, to, ri, bo, c_, r, t, pf, lf, pic, lig, a1, a2, a3, a4, nt, to_, tp, has, tg, fa, fb, fd, A, B, D_, p_, rfl, rfl, hpk, hf, hy, hz, ht, htb, hnt, nt0, nt1, hln, p0, p1, k1, k2⟩ := hG
    exact Nat.le_of_ble_eq_true rfl
  intro p e s m args below meth c z sa D dA av h K hadm C hG
  obtain ⟨rest, fo, np, nl, w, g, le, to, ri, bo, c_, r, t, pf, lf, pic, lig, a1, a2, a3, a4, nt, to_, tp, has, tg, fa, fb, fd, A, B, D_, p_, rfl, rfl, hpk, hf, hy, hz, ht, htb, hnt, nt0, nt1, hln, p0, p1, k1, k2⟩ := hG
  have hf' := hf
  have hy' := hy
  unfold frOk at hf'
  unfold lyOk at hy'
  have mq := mbd (A := 4) (B := 4) (a := c_) (b := r) (by omega) (by omega)
  have mp : 0 < c_ * r := Int.mul_pos (by omega) (by omega)
  have me : iI c_ * iI r = iI (c_ * r) := iI_mul _ _
  have hN : ((c_ * r).toNat : Int) = c_ * r := by omega
  have lb : ltB (ltI pic lig) := fun x y j => ltI_in hpk.2.2.2.2.1 hpk.2.2.2.2.2 x y j
  have hrd : rdB (rdI (ltI pic lig) le to ri bo c_ r t) (c_ * r).toNat := fun p k h1 h2 => rdI_in lb hf hy h1 (by omega) k
  have loop : has p_ = true → ∀ (j : Nat) (i s_ : Int) (a1 a2 a3 a4 : Int32), i + j = 3 → 0 ≤ i → s_ + sm (dfT (rdI (ltI pic lig) le to ri bo c_ r t) tg A B D_ p_) i j = (difI (rdI (ltI pic lig) le to ri bo c_ r t) tg A B D_ p_) → Run p l e { frames := 5, cells := 0, slots := 0, locals := 95 } s m args below meth c z sa D dA 0 0 K 5 18 [some (.ref 0), some (.int (iI p_)), some (.int (iI (s_))), some (.int (iI (i)))] [] (cC :: cI (iI w) (iI g) :: aI np pf :: aI nl lf :: cF fo (iI le) (iI to) (iI ri) (iI bo) :: cY (iI c_) (iI r) (iI t) :: cP a1 a2 a3 a4 :: cT (iI nt) :: aZ 16 to_ :: aI 48 tp :: cN (iI 1) :: aL 3 fa :: aL 3 fb :: aL 3 fd :: rest) 0 0 := by
    intro hp j
    induction j with
    | zero =>
      intro i s_ a1 a2 a3 a4 hi i0 he
      rw [sm, Int.add_zero] at he
      refine rn_iload_n C d_C_differenceOrNone_18 rfl ?_
      refine rn_iconst C (iI 3) d_C_differenceOrNone_19 (by decide) ?_
      refine rn_icmp_ge C 69 d_C_differenceOrNone_20 (by decide) (fun _ => ?_) (fun q_20 => absurd ((iI_le ⟨by omega, by omega⟩ ⟨by omega, by omega⟩).mpr (by omega)) q_20)
      refine rn_iload_n C d_C_differenceOrNone_69 rfl ?_
      refine rn_ireturn C rfl rfl d_C_differenceOrNone_70 ⟨by decide, by decide⟩ ?_
      rw [he]
      exact k2 hp _ _ _ _
    | succ j ih =>
      intro i s_ a1 a2 a3 a4 hi i0 he
      rw [sm, ← Int.add_assoc] at he
      have rr_ := hrd p_ i p0 (by omega)
      obtain ⟨l1, l2, l3, l4, l5, l6, l7⟩ := hln rfl i i0 (by omega)
      refine rn_iload_n C d_C_differenceOrNone_18 rfl ?_
      refine rn_iconst C (iI 3) d_C_differenceOrNone_19 (by decide) ?_
      refine rn_icmp_ge C 69 d_C_differenceOrNone_20 (by decide) (fun q_20 => absurd q_20 (fun q => absurd ((iI_le ⟨by omega, by omega⟩ ⟨by omega, by omega⟩).mp q) (by omega))) (fun _ => ?_)
      refine rn_aload_n C d_C_differenceOrNone_23 rfl ?_
      refine rn_get C f_C_49 d_C_differenceOrNone_24 rfl rfl ?_
      refine rn_iload_n C d_C_differenceOrNone_27 rfl ?_
      refine rn_aload_n C d_C_differenceOrNone_28 rfl ?_
      refine rn_iload_n C d_C_differenceOrNone_29 rfl ?_
      refine rn_iload_n C d_C_differenceOrNone_30 rfl ?_
      refine rn_cV C (c_C_partOfPatch l) mw_C_partOfPatch k_C_149 d_C_differenceOrNone_31 rfl rfl rfl (Nat.le_of_ble_eq_true rfl) (Nat.le_of_ble_eq_true rfl) ⟨by decide, by decide⟩ ⟨by decide, by decide⟩ ?_
      refine ⟨_, _, _, _, _, _, _, _, _, _, _, _, _, _, _, _, _, _, _, _, _, _, _, rfl, rfl, hpk, hf, hy, p0, p1, i0, by omega, ?_⟩
      refine rn_cV C (c_N_partFrom l) mw_N_partFrom k_C_221 d_C_differenceOrNone_34 rfl rfl rfl (Nat.le_of_ble_eq_true rfl) (Nat.le_of_ble_eq_true rfl) ⟨by decide, by decide⟩ ⟨by decide, by decide⟩ ?_
      refine ⟨10, 11, 12, 13, _, fa, fb, fd, i, _, _, _, _, rfl, rfl, rfl, rfl, rfl, i0, by omega, rr_.1, rr_.2, l1, l2, l3, l4, l5, l6, l7, ?_⟩
      refine rn_aload_n C d_C_differenceOrNone_37 rfl ?_
      refine rn_get C f_C_42 d_C_differenceOrNone_38 rfl rfl ?_
      refine rn_iload_n C d_C_differenceOrNone_41 rfl ?_
      refine rn_iload_n C d_C_differenceOrNone_42 rfl ?_
      refine rn_cV C (c2_T_partOf l) mw_T_partOf k_C_297 d_C_differenceOrNone_43 rfl rfl rfl (Nat.le_of_ble_eq_true rfl) (Nat.le_of_ble_eq_true rfl) ⟨by decide, by decide⟩ ⟨by decide, by decide⟩ ?_
      refine ⟨7, 8, 9, _, _, _, tp, has, tg, rfl, rfl, rfl, ht, p0, by omega, i0, by omega, hp, ?_⟩
      refine rn_isub C d_C_differenceOrNone_46 ?_
      rw [iI_sub]
      refine rn_istore C d_C_differenceOrNone_47 (by decide) ?_
      refine rn_iload_n C d_C_differenceOrNone_49 rfl ?_
      refine rn_stat C (ww 677 (by decide +kernel) (by decide +kernel)) d_C_differenceOrNone_50 ?_
      refine rn_iload_n C d_C_differenceOrNone_53 rfl ?_
      refine rn_tld C d_C_differenceOrNone_54 (iI_vin i0 (by omega) (by omega)) (w3_I i0 (by omega)) ?_
      refine rn_iload C d_C_differenceOrNone_55 rfl ?_
      refine rn_imul C d_C_differenceOrNone_57 ?_
      refine rn_iload C d_C_differenceOrNone_58 rfl ?_
      refine rn_imul C d_C_differenceOrNone_60 ?_
      refine rn_iadd C d_C_differenceOrNone_61 ?_
      rw [iI_mul, iI_mul, iI_add]
      refine rn_istore_n C d_C_differenceOrNone_62 (by decide) ?_
      refine rn_iinc C _ d_C_differenceOrNone_63 rfl (iI_inc _) (by decide) ?_
      refine rn_goto C 18 d_C_differenceOrNone_66 (by decide) ?_
      refine rn_weak (lv' := [some (.ref 0), some (.int (iI p_)), some (.int (iI (s_ + (dfT (rdI (ltI pic lig) le to ri bo c_ r t) tg A B D_ p_) i))), some (.int (iI (i + 1)))]) ⟨rfl, rfl, rfl, rfl, trivial⟩ ?_
      exact ih (i + 1) _ _ _ _ _ (by omega) (by omega) he
  have hzi := hz p_ p0 (by omega)
  refine rn_aload_n C d_C_differenceOrNone_0 rfl ?_
  refine rn_get C f_C_42 d_C_differenceOrNone_1 rfl rfl ?_
  refine rn_get C f_C_189 d_C_differenceOrNone_4 rfl rfl ?_
  refine rn_iload_n C d_C_differenceOrNone_7 rfl ?_
  refine rn_zaload C d_C_differenceOrNone_8 rfl (iI_vin p0 (by omega) (by omega)) ?_
  rw [iI_nat p0 (by omega), hzi]
  refine rn_if_ne C 14 d_C_differenceOrNone_9 (by decide) (fun c9 => ?_) (fun c9 => ?_)
  · skip
    refine rn_iconst C (iI 0) d_C_differenceOrNone_14 (by decide) ?_
    refine rn_istore_n C d_C_differenceOrNone_15 (by decide) ?_
    refine rn_iconst C (iI 0) d_C_differenceOrNone_16 (by decide) ?_
    refine rn_istore_n C d_C_differenceOrNone_17 (by decide) ?_
    exact loop (has1 c9) 3 0 0 _ _ _ _ (by omega) (by omega) (by rw [Int.zero_add]; rfl)
  · skip
    refine rn_iconst C (iI (-1)) d_C_differenceOrNone_12 (by decide) ?_
    refine rn_ireturn C rfl rfl d_C_differenceOrNone_13 ⟨by decide, by decide⟩ ?_
    exact k1 (has0 c9)

def G_C_difference (av : List Value) (h : ah_H) (K : ah_R → ah_H → Prop) : Prop := ∃ (rest : ah_H) (np nl : Nat) (w g le to ri bo c r t : Int) (pf lf : Nat → Int32) (pic : Int → Int → Int → Int) (lig : Int → Int → Int) (a1 a2 a3 a4 : Int32) (nt : Int) (to_ tp : Nat → Int32) (has : Int → Bool) (tg : Int → Int → Int) (fa fb fd : Nat → Int64) (A B D : Int → Int) (fo fi p : Int), av = [.ref 0, .int (iI p)] ∧ h = cC :: cI (iI w) (iI g) :: aI np pf :: aI nl lf :: cF (iI fo) (iI le) (iI to) (iI ri) (iI bo) :: cY (iI c) (iI r) (iI t) :: cP a1 a2 a3 a4 :: cT (iI nt) :: aZ 16 to_ :: aI 48 tp :: cN (iI fi) :: aL 3 fa :: aL 3 fb :: aL 3 fd :: rest ∧ (inI p) ∧ (fo = 0 ∨ fo = 1) ∧ (fi = 0 ∨ fi = 1) ∧ (picOk w g np nl pf lf pic lig) ∧ (lyOk c r t) ∧ (fo = 1 → frOk le to ri bo w g) ∧ (zOk 16 to_ has ∧ tOk tp has tg ∧ tgB tg has ∧ (0 ≤ nt → has nt = true) ∧ -1 ≤ nt ∧ nt < 16) ∧ (lnOk fi fa fb fd A B D) ∧ (¬ (0 ≤ p ∧ p < c * r) → K (.inr h.length) (h ++ [xB])) ∧ ((0 ≤ p ∧ p < c * r) → (fo = 0 ∨ fi = 0) → K (.inr h.length) (h ++ [xS])) ∧ ((0 ≤ p ∧ p < c * r) → fo = 1 → fi = 1 → has p = false → K (.inl (some (.int (iI (-1))))) h) ∧ ((0 ≤ p ∧ p < c * r) → fo = 1 → fi = 1 → has p = true → ∀ (a1 a2 a3 a4 : Int32), K (.inl (some (.int (iI (difI (rdI (ltI pic lig) le to ri bo c r t) tg A B D p))))) (cC :: cI (iI w) (iI g) :: aI np pf :: aI nl lf :: cF (iI fo) (iI le) (iI to) (iI ri) (iI bo) :: cY (iI c) (iI r) (iI t) :: cP a1 a2 a3 a4 :: cT (iI nt) :: aZ 16 to_ :: aI 48 tp :: cN (iI fi) :: aL 3 fa :: aL 3 fb :: aL 3 fd :: rest))
set_option maxHeartbeats 4000000 in
set_option maxRecDepth 100000 in
theorem c_C_difference (l : Launch) (hl : l.flags = flags0) : rn_Met l y_C_difference wc_C_difference rmC G_C_difference := by
  refine rn_in mw_C_difference.1 (by decide +kernel) ?_ ?_
  · intro _ av h K hG
    obtain ⟨rest, np, nl, w, g, le, to, ri, bo, c_, r, t, pf, lf, pic, lig, a1, a2, a3, a4, nt, to_, tp, has, tg, fa, fb, fd, A, B, D_, fo, fi, p_, rfl, rfl, hc0, hc1, hc2, hc3, hc4, hc5, hc6, hc7, k1, k2, k3, k4⟩ := hG
    exact Nat.le_of_ble_eq_true rfl
  intro p e s m args below meth c z sa D dA av h K hadm C hG
  have htr := Launch.traces_off hl hadm
  obtain ⟨rest, np, nl, w, g, le, to, ri, bo, c_, r, t, pf, lf, pic, lig, a1, a2, a3, a4, nt, to_, tp, has, tg, fa, fb, fd, A, B, D_, fo, fi, p_, rfl, rfl, hc0, hc1, hc2, hc3, hc4, hc5, hc6, hc7, k1, k2, k3, k4⟩ := hG
  have hyb := hc4
  unfold lyOk at hyb
  have mq := mbd (A := 4) (B := 4) (a := c_) (b := r) (by omega) (by omega)
  have me : iI c_ * iI r = iI (c_ * r) := iI_mul _ _
  have hs : (iI (c_ * r)).toInt = c_ * r := iI_toInt ⟨by omega, by omega⟩
  refine rn_aload_n C d_C_difference_0 rfl ?_
  refine rn_get C f_C_28 d_C_difference_1 rfl rfl ?_
  refine rn_iload_n C d_C_difference_4 rfl ?_
  refine rn_cV C (c_Y_hasPatch l) mw_Y_hasPatch k_C_144 d_C_difference_5 rfl rfl rfl (Nat.le_of_ble_eq_true rfl) (Nat.le_of_ble_eq_true rfl) ⟨by decide, by decide⟩ ⟨by decide, by decide⟩ ?_
  refine ⟨_, _, _, _, _, rfl, rfl, fun q5 => ?_, fun q5 => ?_⟩
  · skip
    refine rn_if_ne C 21 d_C_difference_8 (by decide) (fun _ => ?_) (fun q => absurd q (by decide))
    refine rn_aload_n C d_C_difference_21 rfl ?_
    refine rn_get C f_C_21 d_C_difference_22 rfl rfl ?_
    refine rn_get C f_C_112 d_C_difference_25 rfl rfl ?_
    refine rn_if_eq C 41 d_C_difference_28 (by decide) (fun c28 => ?_) (fun c28 => ?_)
    · skip
      refine rn_throw C htr tw_3 (tx := "no frame is found, or nothing was fitted") (by decide +kernel) d_C_difference_41 d_C_difference_44 d_C_difference_45 d_C_difference_47 d_C_difference_50 (by decide) (Nat.le_of_ble_eq_true rfl) ⟨by decide, by decide⟩ ⟨by decide, by decide⟩ ?_
      have z0 : fo = 0 ∨ fi = 0 := by
        first | exact Or.inl (flag0 hc1 c28) | exact Or.inr (flag0 hc2 c38)
      simp only [iI_toInt hc0, me, hs] at q5
      exact k2 (by omega) z0
    · skip
      refine rn_aload_n C d_C_difference_31 rfl ?_
      refine rn_get C f_C_49 d_C_difference_32 rfl rfl ?_
      refine rn_get C f_C_208 d_C_difference_35 rfl rfl ?_
      refine rn_if_ne C 51 d_C_difference_38 (by decide) (fun c38 => ?_) (fun c38 => ?_)
      · skip
        refine rn_aload_n C d_C_difference_51 rfl ?_
        refine rn_iload_n C d_C_difference_52 rfl ?_
        have z1 := flag1 hc1 c28
        have z2 := flag1 hc2 c38
        simp only [iI_toInt hc0, me, hs] at q5
        have k3b := k3 (by omega) z1 z2
        have k4b := k4 (by omega) z1 z2
        subst z2
        refine rn_cV C (c_C_differenceOrNone l) mw_C_differenceOrNone k_C_226 d_C_difference_53 rfl rfl rfl (Nat.le_of_ble_eq_true rfl) (Nat.le_of_ble_eq_true rfl) ⟨by decide, by decide⟩ ⟨by decide, by decide⟩ ?_
        refine ⟨_, _, _, _, _, _, _, _, _, _, _, _, _, _, _, _, _, _, _, _, _, _, _, _, _, _, _, _, _, _, _, _, _, rfl, rfl, hc3, hc5 z1, hc4, hc6.1, hc6.2.1, hc6.2.2.1, hc6.2.2.2.1, hc6.2.2.2.2.1, hc6.2.2.2.2.2, hc7, by omega, by omega, fun hq => ?_, fun hq a1 a2 a3 a4 => ?_⟩
        · exact rn_ireturn C rfl rfl d_C_difference_56 ⟨by decide, by decide⟩ (k3b hq)
        · exact rn_ireturn C rfl rfl d_C_difference_56 ⟨by decide, by decide⟩ (k4b hq _ _ _ _)
      · skip
        refine rn_throw C htr tw_3 (tx := "no frame is found, or nothing was fitted") (by decide +kernel) d_C_difference_41 d_C_difference_44 d_C_difference_45 d_C_difference_47 d_C_difference_50 (by decide) (Nat.le_of_ble_eq_true rfl) ⟨by decide, by decide⟩ ⟨by decide, by decide⟩ ?_
        have z0 : fo = 0 ∨ fi = 0 := by
          first | exact Or.inl (flag0 hc1 c28) | exact Or.inr (flag0 hc2 c38)
        simp only [iI_toInt hc0, me, hs] at q5
        exact k2 (by omega) z0
  · skip
    refine rn_if_ne C 21 d_C_difference_8 (by decide) (fun q => absurd rfl q) (fun _ => ?_)
    refine rn_throw C htr tw_1 (tx := "no such patch") (by decide +kernel) d_C_difference_11 d_C_difference_14 d_C_difference_15 d_C_difference_17 d_C_difference_20 (by decide) (Nat.le_of_ble_eq_true rfl) ⟨by decide, by decide⟩ ⟨by decide, by decide⟩ ?_
    simp only [Int32.lt_iff_toInt_lt, Int32.le_iff_toInt_le, ← Int32.toInt_inj, Int32.reduceToInt, iI_toInt hc0, me, hs] at q5
    exact k1 (by omega)

def G_C_greatestDifference (av : List Value) (h : ah_H) (K : ah_R → ah_H → Prop) : Prop := ∃ (rest : ah_H) (fo : Int32) (np nl : Nat) (w g le to ri bo c r t : Int) (pf lf : Nat → Int32) (pic : Int → Int → Int → Int) (lig : Int → Int → Int) (a1 a2 a3 a4 : Int32) (nt : Int) (to_ tp : Nat → Int32) (has : Int → Bool) (tg : Int → Int → Int) (fa fb fd : Nat → Int64) (A B D : Int → Int), av = [.ref 0] ∧ h = cC :: cI (iI w) (iI g) :: aI np pf :: aI nl lf :: cF fo (iI le) (iI to) (iI ri) (iI bo) :: cY (iI c) (iI r) (iI t) :: cP a1 a2 a3 a4 :: cT (iI nt) :: aZ 16 to_ :: aI 48 tp :: cN (iI 1) :: aL 3 fa :: aL 3 fb :: aL 3 fd :: rest ∧ picOk w g np nl pf lf pic lig ∧ frOk le to ri bo w g ∧ lyOk c r t ∧ zOk 16 to_ has ∧ tOk tp has tg ∧ tgB tg has ∧ (0 ≤ nt → has nt = true) ∧ -1 ≤ nt ∧ nt < 16 ∧ lnOk 1 fa fb fd A B D ∧ (∀ (a1 a2 a3 a4 : Int32), K (.inl (some (.int (iI (mx (fun p => if has p then difI (rdI (ltI pic lig) le to ri bo c r t) tg A B D p else 0) 0 (c * r).toNat 0))))) (cC :: cI (iI w) (iI g) :: aI np pf :: aI nl lf :: cF fo (iI le) (iI to) (iI ri) (iI bo) :: cY (iI c) (iI r) (iI t) :: cP a1 a2 a3 a4 :: cT (iI nt) :: aZ 16 to_ :: aI 48 tp :: cN (iI 1) :: aL 3 fa :: aL 3 fb :: aL 3 fd :: rest))
set_option maxHeartbeats 4000000 in
set_option maxRecDepth 100000 in
theorem c_C_greatestDifference (l : Launch) : rn_Met l y_C_greatestDifference wc_C_greatestDifference { frames := 6, cells := 0, slots := 0, locals := 119 } G_C_greatestDifference := by
  refine rn_in mw_C_greatestDifference.1 (by decide +kernel) ?_ ?_
  · intro _ av h K hG
    obtain ⟨rest, fo, np, nl, w, g, le, to, ri, bo, c_, r, t, pf, lf, pic, lig, a1, a2, a3, a4, nt, to_, tp, has, tg, fa, fb, fd, A, B, D_, rfl, rfl, hpk, hf, hy, hz, ht, htb, hnt, nt0, nt1, hln, hK⟩ := hG
    exact Nat.le_of_ble_eq_true rfl
  intro p e s m args below meth c z sa D dA av h K hadm C hG
  obtain ⟨rest, fo, np, nl, w, g, le, to, ri, bo, c_, r, t, pf, lf, pic, lig, a1, a2, a3, a4, nt, to_, tp, has, tg, fa, fb, fd, A, B, D_, rfl, rfl, hpk, hf, hy, hz, ht, htb, hnt, nt0, nt1, hln, hK⟩ := hG
  have hf' := hf
  have hy' := hy
  unfold frOk at hf'
  unfold lyOk at hy'
  have mq := mbd (A := 4) (B := 4) (a := c_) (b := r) (by omega) (by omega)
  have mp : 0 < c_ * r := Int.mul_pos (by omega) (by omega)
  have me : iI c_ * iI r = iI (c_ * r) := iI_mul _ _
  have hN : ((c_ * r).toNat : Int) = c_ * r := by omega
  have lb : ltB (ltI pic lig) := fun x y j => ltI_in hpk.2.2.2.2.1 hpk.2.2.2.2.2 x y j
  have hrd : rdB (rdI (ltI pic lig) le to ri bo c_ r t) (c_ * r).toNat := fun p k h1 h2 => rdI_in lb hf hy h1 (by omega) k
  have loop : ∀ (j : Nat) (i a_ : Int) (a1 a2 a3 a4 : Int32), i + j = c_ * r → 0 ≤ i → 0 ≤ a_ → a_ ≤ 780300 → mx (fun p => if has p then difI (rdI (ltI pic lig) le to ri bo c_ r t) tg A B D_ p else 0) i j a_ = (mx (fun p => if has p then difI (rdI (ltI pic lig) le to ri bo c_ r t) tg A B D_ p else 0) 0 (c_ * r).toNat 0) → Run p l e { frames := 6, cells := 0, slots := 0, locals := 119 } s m args below meth c z sa D dA 0 0 K 3 4 [some (.ref 0), some (.int (iI (a_))), some (.int (iI (i)))] [] (cC :: cI (iI w) (iI g) :: aI np pf :: aI nl lf :: cF fo (iI le) (iI to) (iI ri) (iI bo) :: cY (iI c_) (iI r) (iI t) :: cP a1 a2 a3 a4 :: cT (iI nt) :: aZ 16 to_ :: aI 48 tp :: cN (iI 1) :: aL 3 fa :: aL 3 fb :: aL 3 fd :: rest) 0 0 := by
    intro j
    induction j with
    | zero =>
      intro i a_ a1 a2 a3 a4 hi i0 b0 b1 he
      rw [mx] at he
      refine rn_iload_n C d_C_greatestDifference_4 rfl ?_
      refine rn_aload_n C d_C_greatestDifference_5 rfl ?_
      refine rn_get C f_C_28 d_C_greatestDifference_6 rfl rfl ?_
      refine rn_cV C (c_Y_patches l) mw_Y_patches k_C_198 d_C_greatestDifference_9 rfl rfl rfl (Nat.le_of_ble_eq_true rfl) (Nat.le_of_ble_eq_true rfl) ⟨by decide, by decide⟩ ⟨by decide, by decide⟩ ?_
      refine ⟨5, _, _, _, rfl, rfl, ?_⟩
      rw [me]
      refine rn_icmp_ge C 31 d_C_greatestDifference_12 (by decide) (fun _ => ?_) (fun q_12 => absurd ((iI_le ⟨by omega, by omega⟩ ⟨by omega, by omega⟩).mpr (by omega)) q_12)
      refine rn_iload_n C d_C_greatestDifference_31 rfl ?_
      refine rn_ireturn C rfl rfl d_C_greatestDifference_32 ⟨by decide, by decide⟩ ?_
      rw [he]
      exact hK _ _ _ _
    | succ j ih =>
      intro i a_ a1 a2 a3 a4 hi i0 b0 b1 he
      rw [mx] at he
      refine rn_iload_n C d_C_greatestDifference_4 rfl ?_
      refine rn_aload_n C d_C_greatestDifference_5 rfl ?_
      refine rn_get C f_C_28 d_C_greatestDifference_6 rfl rfl ?_
      refine rn_cV C (c_Y_patches l) mw_Y_patches k_C_198 d_C_greatestDifference_9 rfl rfl rfl (Nat.le_of_ble_eq_true rfl) (Nat.le_of_ble_eq_true rfl) ⟨by decide, by decide⟩ ⟨by decide, by decide⟩ ?_
      refine ⟨5, _, _, _, rfl, rfl, ?_⟩
      rw [me]
      refine rn_icmp_ge C 31 d_C_greatestDifference_12 (by decide) (fun q_12 => absurd q_12 (fun q => absurd ((iI_le ⟨by omega, by omega⟩ ⟨by omega, by omega⟩).mp q) (by omega))) (fun _ => ?_)
      refine rn_iload_n C d_C_greatestDifference_15 rfl ?_
      refine rn_aload_n C d_C_greatestDifference_16 rfl ?_
      refine rn_iload_n C d_C_greatestDifference_17 rfl ?_
      refine rn_cV C (c_C_differenceOrNone l) mw_C_differenceOrNone k_C_226 d_C_greatestDifference_18 rfl rfl rfl (Nat.le_of_ble_eq_true rfl) (Nat.le_of_ble_eq_true rfl) ⟨by decide, by decide⟩ ⟨by decide, by decide⟩ ?_
      refine ⟨_, _, _, _, _, _, _, _, _, _, _, _, _, _, _, _, _, _, _, _, _, _, _, _, _, _, _, _, _, _, _, _, _, rfl, rfl, hpk, hf, hy, hz, ht, htb, hnt, nt0, nt1, hln, i0, by omega, fun hq => ?_, fun hq a1 a2 a3 a4 => ?_⟩
      · rw [hq, if_neg (by decide)] at he
        refine rn_cS C (c_J_maxi l) mw_J_maxi k_C_315 d_C_greatestDifference_21 (Nat.le_of_ble_eq_true rfl) (Nat.le_of_ble_eq_true rfl) ⟨by decide, by decide⟩ ⟨by decide, by decide⟩ ?_
        refine ⟨_, _, rfl, ?_⟩
        rw [jMax_I ⟨by omega, by omega⟩ ⟨by omega, by omega⟩]
        refine rn_istore_n C d_C_greatestDifference_24 (by decide) ?_
        refine rn_iinc C _ d_C_greatestDifference_25 rfl (iI_inc _) (by decide) ?_
        refine rn_goto C 4 d_C_greatestDifference_28 (by decide) ?_
        exact ih (i + 1) _ _ _ _ _ (by omega) (by omega) (by omega) (by omega) (by rw [show max a_ (-1) = max a_ 0 by omega]; exact he)
      · rw [hq, if_pos rfl] at he
        have db := difI_in (rd := (rdI (ltI pic lig) le to ri bo c_ r t)) (tg := tg) (A := A) (B := B) (D := D_) (p := i) (fun k h1 h2 => htb i k i0 (by omega) h1 h2 hq)
        refine rn_cS C (c_J_maxi l) mw_J_maxi k_C_315 d_C_greatestDifference_21 (Nat.le_of_ble_eq_true rfl) (Nat.le_of_ble_eq_true rfl) ⟨by decide, by decide⟩ ⟨by decide, by decide⟩ ?_
        refine ⟨_, _, rfl, ?_⟩
        rw [jMax_I ⟨by omega, by omega⟩ ⟨by omega, by omega⟩]
        refine rn_istore_n C d_C_greatestDifference_24 (by decide) ?_
        refine rn_iinc C _ d_C_greatestDifference_25 rfl (iI_inc _) (by decide) ?_
        refine rn_goto C 4 d_C_greatestDifference_28 (by decide) ?_
        exact ih (i + 1) _ _ _ _ _ (by omega) (by omega) (by omega) (by omega) he
  refine rn_iconst C (iI 0) d_C_greatestDifference_0 (by decide) ?_
  refine rn_istore_n C d_C_greatestDifference_1 (by decide) ?_
  refine rn_iconst C (iI 0) d_C_greatestDifference_2 (by decide) ?_
  refine rn_istore_n C d_C_greatestDifference_3 (by decide) ?_
  exact loop (c_ * r).toNat 0 0 _ _ _ _ (by omega) (by omega) (by omega) (by omega) rfl

def G_C_greatestNoise (av : List Value) (h : ah_H) (K : ah_R → ah_H → Prop) : Prop := ∃ (rest : ah_H) (fo : Int32) (np nl : Nat) (w g le to ri bo c r t : Int) (pf lf : Nat → Int32) (pic : Int → Int → Int → Int) (lig : Int → Int → Int) (a1 a2 a3 a4 : Int32), av = [.ref 0] ∧ h = cC :: cI (iI w) (iI g) :: aI np pf :: aI nl lf :: cF fo (iI le) (iI to) (iI ri) (iI bo) :: cY (iI c) (iI r) (iI t) :: cP a1 a2 a3 a4 :: rest ∧ picOk w g np nl pf lf pic lig ∧ frOk le to ri bo w g ∧ lyOk c r t ∧ (∀ (a1 a2 a3 a4 : Int32), K (.inl (some (.long (lI (mx (nsI (ltI pic lig) le to ri bo c r t) 0 (c * r).toNat 0))))) (cC :: cI (iI w) (iI g) :: aI np pf :: aI nl lf :: cF fo (iI le) (iI to) (iI ri) (iI bo) :: cY (iI c) (iI r) (iI t) :: cP a1 a2 a3 a4 :: rest))
set_option maxHeartbeats 4000000 in
set_option maxRecDepth 100000 in
theorem c_C_greatestNoise (l : Launch) : rn_Met l y_C_greatestNoise wc_C_greatestNoise { frames := 4, cells := 0, slots := 0, locals := 76 } G_C_greatestNoise := by
  refine rn_in mw_C_greatestNoise.1 (by decide +kernel) ?_ ?_
  · intro _ av h K hG
    obtain ⟨rest, fo, np, nl, w, g, le, to, ri, bo, c_, r, t, pf, lf, pic, lig, a1, a2, a3, a4, rfl, rfl, hpk, hf, hy, hK⟩ := hG
    exact Nat.le_of_ble_eq_true rfl
  intro p e s m args below meth c z sa D dA av h K hadm C hG
  obtain ⟨rest, fo, np, nl, w, g, le, to, ri, bo, c_, r, t, pf, lf, pic, lig, a1, a2, a3, a4, rfl, rfl, hpk, hf, hy, hK⟩ := hG
  have hf' := hf
  have hy' := hy
  unfold frOk at hf'
  unfold lyOk at hy'
  have mq := mbd (A := 4) (B := 4) (a := c_) (b := r) (by omega) (by omega)
  have mp : 0 < c_ * r := Int.mul_pos (by omega) (by omega)
  have me : iI c_ * iI r = iI (c_ * r) := iI_mul _ _
  have hN : ((c_ * r).toNat : Int) = c_ * r := by omega
  have lb : ltB (ltI pic lig) := fun x y j => ltI_in hpk.2.2.2.2.1 hpk.2.2.2.2.2 x y j
  have hrd : rdB (rdI (ltI pic lig) le to ri bo c_ r t) (c_ * r).toNat := fun p k h1 h2 => rdI_in lb hf hy h1 (by omega) k
  have loop : ∀ (j : Nat) (i a_ : Int) (a1 a2 a3 a4 : Int32), i + j = c_ * r → 0 ≤ i → 0 ≤ a_ → a_ ≤ 65025 → mx (nsI (ltI pic lig) le to ri bo c_ r t) i j a_ = (mx (nsI (ltI pic lig) le to ri bo c_ r t) 0 (c_ * r).toNat 0) → Run p l e { frames := 4, cells := 0, slots := 0, locals := 76 } s m args below meth c z sa D dA 0 0 K 6 4 [some (.ref 0), some (.long (lI (a_))), none, some (.int (iI (i)))] [] (cC :: cI (iI w) (iI g) :: aI np pf :: aI nl lf :: cF fo (iI le) (iI to) (iI ri) (iI bo) :: cY (iI c_) (iI r) (iI t) :: cP a1 a2 a3 a4 :: rest) 0 0 := by
    intro j
    induction j with
    | zero =>
      intro i a_ a1 a2 a3 a4 hi i0 b0 b1 he
      rw [mx] at he
      refine rn_iload_n C d_C_greatestNoise_4 rfl ?_
      refine rn_aload_n C d_C_greatestNoise_5 rfl ?_
      refine rn_get C f_C_28 d_C_greatestNoise_6 rfl rfl ?_
      refine rn_cV C (c_Y_patches l) mw_Y_patches k_C_198 d_C_greatestNoise_9 rfl rfl rfl (Nat.le_of_ble_eq_true rfl) (Nat.le_of_ble_eq_true rfl) ⟨by decide, by decide⟩ ⟨by decide, by decide⟩ ?_
      refine ⟨5, _, _, _, rfl, rfl, ?_⟩
      rw [me]
      refine rn_icmp_ge C 72 d_C_greatestNoise_12 (by decide) (fun _ => ?_) (fun q_12 => absurd ((iI_le ⟨by omega, by omega⟩ ⟨by omega, by omega⟩).mpr (by omega)) q_12)
      refine rn_lload_n C d_C_greatestNoise_72 rfl ?_
      refine rn_lreturn C rfl d_C_greatestNoise_73 ⟨by decide, by decide⟩ ?_
      rw [he]
      exact hK _ _ _ _
    | succ j ih =>
      intro i a_ a1 a2 a3 a4 hi i0 b0 b1 he
      rw [mx] at he
      have i1 : i < c_ * r := by omega
      have hc := colN_in hy i0 i1
      have hr := rowN_in hy i0 i1
      have r1 := pL_in (le := le) (ri := ri) (s := c_) (k := colN c_ r t i) (by omega) (by omega) (by omega) hc.1 hc.2 (by omega)
      have r2 := pL_in (le := to) (ri := bo) (s := r) (k := rowN c_ r t i) (by omega) (by omega) (by omega) hr.1 hr.2 (by omega)
      have hPX : PX (cC :: cI (iI w) (iI g) :: aI np pf :: aI nl lf :: cF fo (iI le) (iI to) (iI ri) (iI bo) :: cY (iI c_) (iI r) (iI t) :: cP (iI (pL le ri c_ (colN c_ r t i))) (iI (pL to bo r (rowN c_ r t i))) (iI (pL le ri c_ (colN c_ r t i + 1))) (iI (pL to bo r (rowN c_ r t i + 1))) :: rest) 1 w g pic lig := ⟨2, 3, np, nl, pf, lf, rfl, rfl, rfl, hpk⟩
      have si := spI_in lb hf hy i0 i1
      have ni := rcN_in hf hy i0 i1
      have vi := nsI_in lb hf hy i0 i1
      refine rn_iload_n C d_C_greatestNoise_4 rfl ?_
      refine rn_aload_n C d_C_greatestNoise_5 rfl ?_
      refine rn_get C f_C_28 d_C_greatestNoise_6 rfl rfl ?_
      refine rn_cV C (c_Y_patches l) mw_Y_patches k_C_198 d_C_greatestNoise_9 rfl rfl rfl (Nat.le_of_ble_eq_true rfl) (Nat.le_of_ble_eq_true rfl) ⟨by decide, by decide⟩ ⟨by decide, by decide⟩ ?_
      refine ⟨5, _, _, _, rfl, rfl, ?_⟩
      rw [me]
      refine rn_icmp_ge C 72 d_C_greatestNoise_12 (by decide) (fun q_12 => absurd q_12 (fun q => absurd ((iI_le ⟨by omega, by omega⟩ ⟨by omega, by omega⟩).mp q) (by omega))) (fun _ => ?_)
      refine rn_aload_n C d_C_greatestNoise_15 rfl ?_
      refine rn_get C f_C_35 d_C_greatestNoise_16 rfl rfl ?_
      refine rn_aload_n C d_C_greatestNoise_19 rfl ?_
      refine rn_get C f_C_21 d_C_greatestNoise_20 rfl rfl ?_
      refine rn_aload_n C d_C_greatestNoise_23 rfl ?_
      refine rn_get C f_C_28 d_C_greatestNoise_24 rfl rfl ?_
      refine rn_iload_n C d_C_greatestNoise_27 rfl ?_
      refine rn_cV C (c_P_aim l) mw_P_aim k_C_158 d_C_greatestNoise_28 rfl rfl rfl (Nat.le_of_ble_eq_true rfl) (Nat.le_of_ble_eq_true rfl) ⟨by decide, by decide⟩ ⟨by decide, by decide⟩ ?_
      refine ⟨_, _, _, _, _, _, _, _, _, _, _, _, _, _, _, _, _, _, _, _, rfl, rfl, hf, hy, i0, i1, ?_⟩
      refine rn_aload_n C d_C_greatestNoise_31 rfl ?_
      refine rn_get C f_C_35 d_C_greatestNoise_32 rfl rfl ?_
      refine rn_cV C (c_P_cellsSquared l) mw_P_cellsSquared k_C_166 d_C_greatestNoise_35 rfl rfl rfl (Nat.le_of_ble_eq_true rfl) (Nat.le_of_ble_eq_true rfl) ⟨by decide, by decide⟩ ⟨by decide, by decide⟩ ?_
      refine ⟨6, _, _, _, _, rfl, rfl, ?_⟩
      rw [iI_sub, iI_sub, iI_mul, show (pL le ri c_ (colN c_ r t i + 1) - pL le ri c_ (colN c_ r t i)) * (pL to bo r (rowN c_ r t i + 1) - pL to bo r (rowN c_ r t i)) = rcN le to ri bo c_ r t i from rfl, iI_toL ⟨by omega, by omega⟩, lI_mul]
      refine rn_lstore C d_C_greatestNoise_38 (by decide) ?_
      refine rn_lload C d_C_greatestNoise_40 rfl ?_
      refine rn_lconst C (lI 0) d_C_greatestNoise_42 (by decide) ?_
      refine rn_lc_le C 66 d_C_greatestNoise_43 d_C_greatestNoise_44 (by decide) (fun q_43 => absurd q_43 (fun q => absurd ((lI_le ⟨by omega, by omega⟩ ⟨by omega, by omega⟩).mp q) (by omega))) (fun _ => ?_)
      refine rn_lload_n C d_C_greatestNoise_47 rfl ?_
      refine rn_aload_n C d_C_greatestNoise_48 rfl ?_
      refine rn_get C f_C_35 d_C_greatestNoise_49 rfl rfl ?_
      refine rn_aload_n C d_C_greatestNoise_52 rfl ?_
      refine rn_get C f_C_12 d_C_greatestNoise_53 rfl rfl ?_
      refine rn_cV C (c_P_spread l) mw_P_spread k_C_162 d_C_greatestNoise_56 rfl rfl rfl (Nat.le_of_ble_eq_true rfl) (Nat.le_of_ble_eq_true rfl) ⟨by decide, by decide⟩ ⟨by decide, by decide⟩ ?_
      refine ⟨6, 1, _, _, _, _, _, _, pic, lig, rfl, rfl, hPX, by omega, by omega, by omega, by omega, by omega, by omega, by omega, by omega, ?_⟩
      rw [show (pL le ri c_ (colN c_ r t i + 1) - pL le ri c_ (colN c_ r t i)) * (pL to bo r (rowN c_ r t i + 1) - pL to bo r (rowN c_ r t i)) * sumR (fun x y => ltI pic lig x y 1 * ltI pic lig x y 1) (pL le ri c_ (colN c_ r t i)) (pL le ri c_ (colN c_ r t i + 1)) (pL to bo r (rowN c_ r t i)) (pL to bo r (rowN c_ r t i + 1)) - sumR (fun x y => ltI pic lig x y 1) (pL le ri c_ (colN c_ r t i)) (pL le ri c_ (colN c_ r t i + 1)) (pL to bo r (rowN c_ r t i)) (pL to bo r (rowN c_ r t i + 1)) * sumR (fun x y => ltI pic lig x y 1) (pL le ri c_ (colN c_ r t i)) (pL le ri c_ (colN c_ r t i + 1)) (pL to bo r (rowN c_ r t i)) (pL to bo r (rowN c_ r t i + 1)) = spI (ltI pic lig) le to ri bo c_ r t i from rfl]
      refine rn_lload C d_C_greatestNoise_59 rfl ?_
      refine rn_ldiv C d_C_greatestNoise_61 (fun q => absurd ((lI_eq ⟨by omega, by omega⟩ ⟨by omega, by omega⟩).mp (show lI (rcN le to ri bo c_ r t i * rcN le to ri bo c_ r t i) = lI 0 from q)) (by omega)) ?_
      rw [lI_tdiv ⟨by omega, by omega⟩ ⟨by omega, by omega⟩ (show inL (nsI (ltI pic lig) le to ri bo c_ r t i) from ⟨by omega, by omega⟩), show (spI (ltI pic lig) le to ri bo c_ r t i).tdiv (rcN le to ri bo c_ r t i * rcN le to ri bo c_ r t i) = nsI (ltI pic lig) le to ri bo c_ r t i from rfl]
      refine rn_cS C (c_J_maxl l) mw_J_maxl k_C_320 d_C_greatestNoise_62 (Nat.le_of_ble_eq_true rfl) (Nat.le_of_ble_eq_true rfl) ⟨by decide, by decide⟩ ⟨by decide, by decide⟩ ?_
      refine ⟨_, _, rfl, ?_⟩
      rw [lMax_I (a := a_) ⟨by omega, by omega⟩ (show inL (nsI (ltI pic lig) le to ri bo c_ r t i) from ⟨by omega, by omega⟩)]
      refine rn_lstore_n C d_C_greatestNoise_65 (by decide) ?_
      refine rn_iinc C _ d_C_greatestNoise_66 rfl (iI_inc _) (by decide) ?_
      refine rn_goto C 4 d_C_greatestNoise_69 (by decide) ?_
      refine rn_weak (lv' := [some (.ref 0), some (.long (lI (max a_ ((nsI (ltI pic lig) le to ri bo c_ r t) i)))), none, some (.int (iI (i + 1)))]) ⟨rfl, rfl, rfl, trivial⟩ ?_
      exact ih (i + 1) _ _ _ _ _ (by omega) (by omega) (by omega) (by omega) he
  refine rn_lconst C (lI 0) d_C_greatestNoise_0 (by decide) ?_
  refine rn_lstore_n C d_C_greatestNoise_1 (by decide) ?_
  refine rn_iconst C (iI 0) d_C_greatestNoise_2 (by decide) ?_
  refine rn_istore_n C d_C_greatestNoise_3 (by decide) ?_
  exact loop (c_ * r).toNat 0 0 _ _ _ _ (by omega) (by omega) (by omega) (by omega) rfl

