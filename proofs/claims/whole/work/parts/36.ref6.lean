/-! The reference: drift, find, its making. Laid by wip/whole/gen_m6.py. -/
def G_M_drift (av : List Value) (h : ah_H) (K : ah_R → ah_H → Prop) : Prop := ∃ (e22 e23 e24 e25 e26 e27 e28 e29 e30 e31 e32 : ah_E) (pre rest : ah_H) (xth xw xg xfo xle xto xri xbo xco xro xqu xnt xfi xsg xrk xce xsu : Int32) (xsq : Int64) (my mv : Nat → Int32) (dy t : Int) (X Y : Int → Int), av = [.ref 21, .int (iI t)] ∧ h = pre ++ cM xth xw xg xfo xle xto xri xbo xco xro xqu xnt xfi xsg xrk (iI dy) xce xsu xsq :: e22 :: e23 :: e24 :: e25 :: e26 :: e27 :: e28 :: e29 :: e30 :: e31 :: e32 :: aI 40 my :: aI 40 mv :: rest ∧ pre.length = 21 ∧ (inI t) ∧ (0 ≤ dy ∧ dy ≤ 40) ∧ (dyOk dy my mv X Y) ∧ (¬ (t = 0 ∨ t = 1) → K (.inl (some (.long (lI 0)))) (pre ++ cM (iI 1) xw xg xfo xle xto xri xbo xco xro xqu xnt xfi xsg xrk (iI dy) xce xsu xsq :: e22 :: e23 :: e24 :: e25 :: e26 :: e27 :: e28 :: e29 :: e30 :: e31 :: e32 :: aI 40 my :: aI 40 mv :: rest)) ∧ ((t = 0 ∨ t = 1) → K (.inl (some (.long (lI (lessI (dy * sm (fun z => X z * Y z) 0 dy.toNat - sm X 0 dy.toNat * sm Y 0 dy.toNat) (dy * sm (fun z => X z * X z) 0 dy.toNat - sm X 0 dy.toNat * sm X 0 dy.toNat) t))))) (pre ++ cM (iI 0) xw xg xfo xle xto xri xbo xco xro xqu xnt xfi xsg xrk (iI dy) xce xsu xsq :: e22 :: e23 :: e24 :: e25 :: e26 :: e27 :: e28 :: e29 :: e30 :: e31 :: e32 :: aI 40 my :: aI 40 mv :: rest))
set_option maxHeartbeats 4000000 in
set_option maxRecDepth 100000 in
theorem c_M_drift (l : Launch) : rn_Met l y_M_drift wc_M_drift { frames := 2, cells := 0, slots := 0, locals := 29 } G_M_drift := by
  refine rn_in mw_M_drift.1 (by decide +kernel) ?_ ?_
  · intro _ av h K hG
    obtain ⟨e22, e23, e24, e25, e26, e27, e28, e29, e30, e31, e32, pre, rest, xth, xw, xg, xfo, xle, xto, xri, xbo, xco, xro, xqu, xnt, xfi, xsg, xrk, xce, xsu, xsq, my, mv, dy, t, X, Y, rfl, rfl, hp, hc0, hc1, hc2, k1, k2⟩ := hG
    exact Nat.le_of_ble_eq_true rfl
  intro p e s m args below meth c z sa D dA av h K hadm C hG
  obtain ⟨e22, e23, e24, e25, e26, e27, e28, e29, e30, e31, e32, pre, rest, xth, xw, xg, xfo, xle, xto, xri, xbo, xco, xro, xqu, xnt, xfi, xsg, xrk, xce, xsu, xsq, my, mv, dy, t, X, Y, rfl, rfl, hp, hc0, hc1, hc2, k1, k2⟩ := hG
  have hc0a := hc0.1
  have hc0b := hc0.2
  obtain ⟨n, rfl⟩ : ∃ n : Nat, dy = n := ⟨dy.toNat, by omega⟩
  simp only [Int.toNat_natCast] at k2
  obtain ⟨hd1, hd2⟩ := hc2
  have bd := day_bd hd2 (show n ≤ 40 by omega)
  rw [← prs_eq, ← prs_eq] at k2 bd
  have pn := prs_nn X n
  have tail : (t = 0 ∨ t = 1) → ∀ k : Int, Run p l e { frames := 2, cells := 0, slots := 0, locals := 29 } s m args below meth c z sa D dA 0 0 K 12 110 [some (.ref 21), some (.int (iI t)), some (.long (lI (prs X Y n))), none, some (.long (lI (prs X X n))), none, some (.int (iI (k)))] [] (pre ++ cM (iI 0) xw xg xfo xle xto xri xbo xco xro xqu xnt xfi xsg xrk (iI (n : Int)) xce xsu xsq :: e22 :: e23 :: e24 :: e25 :: e26 :: e27 :: e28 :: e29 :: e30 :: e31 :: e32 :: aI 40 my :: aI 40 mv :: rest) 0 0 := by
    intro ht k
    have k2 := k2 ht
    unfold lessI at k2
    by_cases hd : prs X X n = 0
    · have ha := prs_z (Y := Y) hd
      rw [if_pos (by rw [ha, hd]; rfl)] at k2
      refine rn_lload C d_M_drift_110 rfl ?_
      refine rn_lconst C (lI 0) d_M_drift_112 (by decide) ?_
      refine rn_lc_ne C 121 d_M_drift_113 d_M_drift_114 (by decide) (fun q => absurd (by rw [hd]) q) (fun _ => ?_)
      refine rn_lconst C (lI 1) d_M_drift_117 (by decide) ?_
      refine rn_goto C 127 d_M_drift_118 (by decide) ?_
      refine rn_lstore C d_M_drift_127 (by decide) ?_
      refine rn_lload C d_M_drift_129 rfl ?_
      refine rn_lconst C (lI 0) d_M_drift_131 (by decide) ?_
      refine rn_lc_ne C 141 d_M_drift_132 d_M_drift_133 (by decide) (fun q => absurd (by rw [hd]) q) (fun _ => ?_)
      refine rn_iload_n C d_M_drift_136 rfl ?_
      refine rn_i2l C d_M_drift_137 ?_
      rw [iI_toL ⟨by omega, by omega⟩]
      refine rn_goto C 157 d_M_drift_138 (by decide) ?_
      refine rn_lreturn C rfl d_M_drift_157 ⟨by decide, by decide⟩ ?_
      exact k2
    · have g0 : ¬ Int.gcd (prs X Y n) (prs X X n) = 0 := fun q => hd (Int.gcd_eq_zero_iff.mp q).2
      have gs := gcd_small bd.1 bd.2
      rw [if_neg g0] at k2
      have nz : ¬ lI ((Int.gcd (prs X Y n) (prs X X n) : Nat) : Int) = 0 := fun q => absurd ((lI_eq ⟨by omega, by omega⟩ ⟨by omega, by omega⟩).mp (show lI ((Int.gcd (prs X Y n) (prs X X n) : Nat) : Int) = lI 0 from q)) (by omega)
      refine rn_lload C d_M_drift_110 rfl ?_
      refine rn_lconst C (lI 0) d_M_drift_112 (by decide) ?_
      refine rn_lc_ne C 121 d_M_drift_113 d_M_drift_114 (by decide) (fun _ => ?_) (fun q => absurd ((lI_eq ⟨by omega, by omega⟩ ⟨by omega, by omega⟩).mp q) hd)
      refine rn_lload_n C d_M_drift_121 rfl ?_
      refine rn_lload C d_M_drift_122 rfl ?_
      refine rn_cS C (c_M_divisor l) mw_M_divisor k_M_137 d_M_drift_124 (Nat.le_of_ble_eq_true rfl) (Nat.le_of_ble_eq_true rfl) ⟨by decide, by decide⟩ ⟨by decide, by decide⟩ ?_
      refine ⟨_, _, rfl, bd.1, bd.2, ?_⟩
      refine rn_lstore C d_M_drift_127 (by decide) ?_
      refine rn_lload C d_M_drift_129 rfl ?_
      refine rn_lconst C (lI 0) d_M_drift_131 (by decide) ?_
      refine rn_lc_ne C 141 d_M_drift_132 d_M_drift_133 (by decide) (fun _ => ?_) (fun q => absurd ((lI_eq ⟨by omega, by omega⟩ ⟨by omega, by omega⟩).mp q) hd)
      refine rn_iload_n C d_M_drift_141 rfl ?_
      refine rn_if_ne C 152 d_M_drift_142 (by decide) (fun c142 => ?_) (fun c142 => ?_)
      · skip
        refine rn_lload C d_M_drift_152 rfl ?_
        refine rn_lload C d_M_drift_154 rfl ?_
        refine rn_ldiv C d_M_drift_156 nz ?_
        (try rw [lI_tdiv (inL_abs bd.2) ⟨by omega, gs⟩ (inL_td bd.2)])
        refine rn_lreturn C rfl d_M_drift_157 ⟨by decide, by decide⟩ ?_
        rw [iI_eq0 hc0] at c142
        first
          | (rw [if_pos c142] at k2; exact k2)
          | (rw [if_neg c142] at k2; exact k2)
      · skip
        refine rn_lload_n C d_M_drift_145 rfl ?_
        refine rn_lload C d_M_drift_146 rfl ?_
        refine rn_ldiv C d_M_drift_148 nz ?_
        rw [lI_tdiv (inL_abs bd.1) ⟨by omega, gs⟩ (inL_td bd.1)]
        refine rn_goto C 157 d_M_drift_149 (by decide) ?_
        (try rw [lI_tdiv (inL_abs bd.2) ⟨by omega, gs⟩ (inL_td bd.2)])
        refine rn_lreturn C rfl d_M_drift_157 ⟨by decide, by decide⟩ ?_
        rw [iI_eq0 hc0] at c142
        first
          | (rw [if_pos c142] at k2; exact k2)
          | (rw [if_neg c142] at k2; exact k2)
  have inner : ∀ (k A1 D1 : Int), 0 ≤ k → k < n → Run p l e { frames := 2, cells := 0, slots := 0, locals := 29 } s m args below meth c z sa D dA 0 0 K 12 104 [some (.ref 21), some (.int (iI t)), some (.long (lI (A1))), none, some (.long (lI (D1))), none, some (.int (iI (k)))] [] (pre ++ cM (iI 0) xw xg xfo xle xto xri xbo xco xro xqu xnt xfi xsg xrk (iI (n : Int)) xce xsu xsq :: e22 :: e23 :: e24 :: e25 :: e26 :: e27 :: e28 :: e29 :: e30 :: e31 :: e32 :: aI 40 my :: aI 40 mv :: rest) 0 0 → ∀ (j : Nat) (z_ a d : Int), z_ + j = k → 0 ≤ z_ → a + sm (fun z => (X k - X z) * (Y k - Y z)) z_ j = A1 → d + sm (fun z => (X k - X z) * (X k - X z)) z_ j = D1 → Run p l e { frames := 2, cells := 0, slots := 0, locals := 29 } s m args below meth c z sa D dA 0 0 K 12 37 [some (.ref 21), some (.int (iI t)), some (.long (lI (a))), none, some (.long (lI (d))), none, some (.int (iI (k))), some (.int (iI z_))] [] (pre ++ cM (iI 0) xw xg xfo xle xto xri xbo xco xro xqu xnt xfi xsg xrk (iI (n : Int)) xce xsu xsq :: e22 :: e23 :: e24 :: e25 :: e26 :: e27 :: e28 :: e29 :: e30 :: e31 :: e32 :: aI 40 my :: aI 40 mv :: rest) 0 0 := by
    intro k A1 D1 k0 k1 hR j
    induction j with
    | zero =>
      intro z_ a d hz z0 e1 e2
      rw [sm, Int.add_zero] at e1 e2
      subst e1
      subst e2
      refine rn_iload C d_M_drift_37 rfl ?_
      refine rn_iload C d_M_drift_39 rfl ?_
      refine rn_icmp_ge C 104 d_M_drift_41 (by decide) (fun _ => ?_) (fun q_41 => absurd ((iI_le ⟨by omega, by omega⟩ ⟨by omega, by omega⟩).mpr (by omega)) q_41)
      refine rn_weak (lv' := [some (.ref 21), some (.int (iI t)), some (.long (lI (a))), none, some (.long (lI (d))), none, some (.int (iI (k)))]) ⟨rfl, rfl, rfl, rfl, rfl, trivial⟩ ?_
      exact hR
    | succ j ih =>
      intro z_ a d hz z0 e1 e2
      rw [sm, ← Int.add_assoc] at e1 e2
      have xk := (hd2 k).1
      have xz := (hd2 z_).1
      have yk := (hd2 k).2
      have yz := (hd2 z_).2
      have ek := hd1 k k0 k1
      have ez := hd1 z_ z0 (by omega)
      refine rn_iload C d_M_drift_37 rfl ?_
      refine rn_iload C d_M_drift_39 rfl ?_
      refine rn_icmp_ge C 104 d_M_drift_41 (by decide) (fun q_41 => absurd q_41 (fun q => absurd ((iI_le ⟨by omega, by omega⟩ ⟨by omega, by omega⟩).mp q) (by omega))) (fun _ => ?_)
      refine rn_aload_n C d_M_drift_44 rfl ?_
      refine rn_getM C hp f_M_55 d_M_drift_45 rfl ?_
      refine rn_iload C d_M_drift_48 rfl ?_
      refine rn_iaM C hp (j := 12) d_M_drift_50 rfl rfl (iI_vin (by omega) (by omega) (by omega)) ?_
      rw [iI_nat (by omega) (by omega), ek.1]
      refine rn_aload_n C d_M_drift_51 rfl ?_
      refine rn_getM C hp f_M_55 d_M_drift_52 rfl ?_
      refine rn_iload C d_M_drift_55 rfl ?_
      refine rn_iaM C hp (j := 12) d_M_drift_57 rfl rfl (iI_vin (by omega) (by omega) (by omega)) ?_
      rw [iI_nat (by omega) (by omega), ez.1]
      refine rn_isub C d_M_drift_58 ?_
      rw [iI_sub]
      refine rn_i2l C d_M_drift_59 ?_
      rw [iI_toL ⟨by omega, by omega⟩]
      refine rn_lstore C d_M_drift_60 (by decide) ?_
      refine rn_aload_n C d_M_drift_62 rfl ?_
      refine rn_getM C hp f_M_58 d_M_drift_63 rfl ?_
      refine rn_iload C d_M_drift_66 rfl ?_
      refine rn_iaM C hp (j := 13) d_M_drift_68 rfl rfl (iI_vin (by omega) (by omega) (by omega)) ?_
      rw [iI_nat (by omega) (by omega), ek.2]
      refine rn_aload_n C d_M_drift_69 rfl ?_
      refine rn_getM C hp f_M_58 d_M_drift_70 rfl ?_
      refine rn_iload C d_M_drift_73 rfl ?_
      refine rn_iaM C hp (j := 13) d_M_drift_75 rfl rfl (iI_vin (by omega) (by omega) (by omega)) ?_
      rw [iI_nat (by omega) (by omega), ez.2]
      refine rn_isub C d_M_drift_76 ?_
      rw [iI_sub]
      refine rn_i2l C d_M_drift_77 ?_
      rw [iI_toL ⟨by omega, by omega⟩]
      refine rn_lstore C d_M_drift_78 (by decide) ?_
      refine rn_lload_n C d_M_drift_80 rfl ?_
      refine rn_lload C d_M_drift_81 rfl ?_
      refine rn_lload C d_M_drift_83 rfl ?_
      refine rn_lmul C d_M_drift_85 ?_
      refine rn_ladd C d_M_drift_86 ?_
      rw [lI_mul, lI_add]
      refine rn_lstore_n C d_M_drift_87 (by decide) ?_
      refine rn_lload C d_M_drift_88 rfl ?_
      refine rn_lload C d_M_drift_90 rfl ?_
      refine rn_lload C d_M_drift_92 rfl ?_
      refine rn_lmul C d_M_drift_94 ?_
      refine rn_ladd C d_M_drift_95 ?_
      rw [lI_mul, lI_add]
      refine rn_lstore C d_M_drift_96 (by decide) ?_
      refine rn_iinc C _ d_M_drift_98 rfl (iI_inc _) (by decide) ?_
      refine rn_goto C 37 d_M_drift_101 (by decide) ?_
      refine rn_weak (lv' := [some (.ref 21), some (.int (iI t)), some (.long (lI (a + (X k - X z_) * (Y k - Y z_)))), none, some (.long (lI (d + (X k - X z_) * (X k - X z_)))), none, some (.int (iI (k))), some (.int (iI (z_ + 1)))]) ⟨rfl, rfl, rfl, rfl, rfl, rfl, trivial⟩ ?_
      exact ih (z_ + 1) _ _ (by omega) (by omega) e1 e2
  have loop : (t = 0 ∨ t = 1) → ∀ (j : Nat) (k a d : Int), k + j = n → 0 ≤ k → a + sm (fun k => sm (fun z => (X k - X z) * (Y k - Y z)) 0 k.toNat) k j = prs X Y n → d + sm (fun k => sm (fun z => (X k - X z) * (X k - X z)) 0 k.toNat) k j = prs X X n → Run p l e { frames := 2, cells := 0, slots := 0, locals := 29 } s m args below meth c z sa D dA 0 0 K 12 25 [some (.ref 21), some (.int (iI t)), some (.long (lI (a))), none, some (.long (lI (d))), none, some (.int (iI (k)))] [] (pre ++ cM (iI 0) xw xg xfo xle xto xri xbo xco xro xqu xnt xfi xsg xrk (iI (n : Int)) xce xsu xsq :: e22 :: e23 :: e24 :: e25 :: e26 :: e27 :: e28 :: e29 :: e30 :: e31 :: e32 :: aI 40 my :: aI 40 mv :: rest) 0 0 := by
    intro ht j
    induction j with
    | zero =>
      intro k a d hk k0 e1 e2
      rw [sm, Int.add_zero] at e1 e2
      subst e1
      subst e2
      refine rn_iload C d_M_drift_25 rfl ?_
      refine rn_aload_n C d_M_drift_27 rfl ?_
      refine rn_getM C hp f_M_173 d_M_drift_28 rfl ?_
      refine rn_icmp_ge C 110 d_M_drift_31 (by decide) (fun _ => ?_) (fun q_31 => absurd ((iI_le ⟨by omega, by omega⟩ ⟨by omega, by omega⟩).mpr (by omega)) q_31)
      exact tail ht k
    | succ j ih =>
      intro k a d hk k0 e1 e2
      rw [sm, ← Int.add_assoc] at e1 e2
      have hR : Run p l e { frames := 2, cells := 0, slots := 0, locals := 29 } s m args below meth c z sa D dA 0 0 K 12 104 [some (.ref 21), some (.int (iI t)), some (.long (lI (a + sm (fun z => (X k - X z) * (Y k - Y z)) 0 k.toNat))), none, some (.long (lI (d + sm (fun z => (X k - X z) * (X k - X z)) 0 k.toNat))), none, some (.int (iI (k)))] [] (pre ++ cM (iI 0) xw xg xfo xle xto xri xbo xco xro xqu xnt xfi xsg xrk (iI (n : Int)) xce xsu xsq :: e22 :: e23 :: e24 :: e25 :: e26 :: e27 :: e28 :: e29 :: e30 :: e31 :: e32 :: aI 40 my :: aI 40 mv :: rest) 0 0 := by
        refine rn_iinc C _ d_M_drift_104 rfl (iI_inc _) (by decide) ?_
        refine rn_goto C 25 d_M_drift_107 (by decide) ?_
        exact ih (k + 1) _ _ (by omega) (by omega) e1 e2
      refine rn_iload C d_M_drift_25 rfl ?_
      refine rn_aload_n C d_M_drift_27 rfl ?_
      refine rn_getM C hp f_M_173 d_M_drift_28 rfl ?_
      refine rn_icmp_ge C 110 d_M_drift_31 (by decide) (fun q_31 => absurd q_31 (fun q => absurd ((iI_le ⟨by omega, by omega⟩ ⟨by omega, by omega⟩).mp q) (by omega))) (fun _ => ?_)
      refine rn_iconst C (iI 0) d_M_drift_34 (by decide) ?_
      refine rn_istore C d_M_drift_35 (by decide) ?_
      exact inner k _ _ k0 (by omega) hR k.toNat 0 a d (by omega) (by omega) rfl rfl
  refine rn_aload_n C d_M_drift_0 rfl ?_
  refine rn_iload_n C d_M_drift_1 rfl ?_
  refine rn_iconst C (iI 0) d_M_drift_2 (by decide) ?_
  refine rn_iconst C (iI 1) d_M_drift_3 (by decide) ?_
  refine rn_cS C (c2_M_within l) mw_M_within k_M_70 d_M_drift_4 (Nat.le_of_ble_eq_true rfl) (Nat.le_of_ble_eq_true rfl) ⟨by decide, by decide⟩ ⟨by decide, by decide⟩ ?_
  refine ⟨_, _, _, rfl, ⟨by omega, by omega⟩, ⟨by omega, by omega⟩, ⟨by omega, by omega⟩, fun q4 => ?_, fun q4 => ?_⟩
  · skip
    refine rn_iconst C (iI 1) d_M_drift_7 (by decide) ?_
    refine rn_iconst C (iI 1) d_M_drift_8 (by decide) ?_
    refine rn_cV C (c_M_goes l) mw_M_goes k_M_78 d_M_drift_9 rfl (mH 0 hp rfl rfl) rfl (Nat.le_of_ble_eq_true rfl) (Nat.le_of_ble_eq_true rfl) ⟨by decide, by decide⟩ ⟨by decide, by decide⟩ ?_
    refine ⟨_, _, _, _, _, _, _, _, _, _, _, _, _, _, _, _, _, _, _, _, _, _, _, _, rfl, rfl, hp, ?_⟩
    refine rn_if_ne C 17 d_M_drift_12 (by decide) (fun _ => ?_) (fun q => absurd q (by decide))
    refine rn_lconst C (lI 0) d_M_drift_17 (by decide) ?_
    refine rn_lstore_n C d_M_drift_18 (by decide) ?_
    refine rn_lconst C (lI 0) d_M_drift_19 (by decide) ?_
    refine rn_lstore C d_M_drift_20 (by decide) ?_
    refine rn_iconst C (iI 0) d_M_drift_22 (by decide) ?_
    refine rn_istore C d_M_drift_23 (by decide) ?_
    exact loop (by omega) n 0 0 0 (by omega) (by omega) (by unfold prs; omega) (by unfold prs; omega)
  · skip
    refine rn_iconst C (iI 1) d_M_drift_7 (by decide) ?_
    refine rn_iconst C (iI 1) d_M_drift_8 (by decide) ?_
    refine rn_cV C (c_M_goes l) mw_M_goes k_M_78 d_M_drift_9 rfl (mH 0 hp rfl rfl) rfl (Nat.le_of_ble_eq_true rfl) (Nat.le_of_ble_eq_true rfl) ⟨by decide, by decide⟩ ⟨by decide, by decide⟩ ?_
    refine ⟨_, _, _, _, _, _, _, _, _, _, _, _, _, _, _, _, _, _, _, _, _, _, _, _, rfl, rfl, hp, ?_⟩
    refine rn_if_ne C 17 d_M_drift_12 (by decide) (fun q => absurd rfl q) (fun _ => ?_)
    refine rn_lconst C (lI 0) d_M_drift_15 (by decide) ?_
    refine rn_lreturn C rfl d_M_drift_16 ⟨by decide, by decide⟩ ?_
    exact k1 (by omega)

def G_M_find (av : List Value) (h : ah_H) (K : ah_R → ah_H → Prop) : Prop := ∃ (pre rest : ah_H) (xth xfo xle xto xri xbo xco xro xqu xnt xfi xsg xrk xdy xce xsu : Int32) (xsq : Int64) (mp ml : Nat → Int32) (w g : Int) (pic : Int → Int → Int → Int) (lig : Int → Int → Int), av = [.ref 21] ∧ h = pre ++ cM xth (iI w) (iI g) xfo xle xto xri xbo xco xro xqu xnt xfi xsg xrk xdy xce xsu xsq :: aI 2700 mp :: aI 900 ml :: rest ∧ pre.length = 21 ∧ (6 ≤ w ∧ w ≤ 30 ∧ 6 ≤ g ∧ g ≤ 30) ∧ (mpOk mp ml pic lig) ∧ (bok w g 99 99 (allF (dk pic) w.toNat 0 g.toNat (99, 99, -1, -1)) → ∀ f : Int, (f = 1 ∧ fnd (dk pic) (allF (dk pic) w.toNat 0 g.toNat (99, 99, -1, -1))) ∨ (f = 0 ∧ ¬ fnd (dk pic) (allF (dk pic) w.toNat 0 g.toNat (99, 99, -1, -1))) → K (.inl (some (.int (iI f)))) (pre ++ cM (iI 0) (iI w) (iI g) (iI f) (iI (allF (dk pic) w.toNat 0 g.toNat (99, 99, -1, -1)).1) (iI (allF (dk pic) w.toNat 0 g.toNat (99, 99, -1, -1)).2.1) (iI (allF (dk pic) w.toNat 0 g.toNat (99, 99, -1, -1)).2.2.1) (iI (allF (dk pic) w.toNat 0 g.toNat (99, 99, -1, -1)).2.2.2) xco xro xqu xnt xfi xsg xrk xdy xce xsu xsq :: aI 2700 mp :: aI 900 ml :: rest))
set_option maxHeartbeats 4000000 in
set_option maxRecDepth 100000 in
theorem c_M_find (l : Launch) : rn_Met l y_M_find wc_M_find { frames := 2, cells := 0, slots := 0, locals := 23 } G_M_find := by
  refine rn_in mw_M_find.1 (by decide +kernel) ?_ ?_
  · intro _ av h K hG
    obtain ⟨pre, rest, xth, xfo, xle, xto, xri, xbo, xco, xro, xqu, xnt, xfi, xsg, xrk, xdy, xce, xsu, xsq, mp, ml, w, g, pic, lig, rfl, rfl, hp, hc0, hc1, k1⟩ := hG
    exact Nat.le_of_ble_eq_true rfl
  intro p e s m args below meth c z sa D dA av h K hadm C hG
  obtain ⟨pre, rest, xth, xfo, xle, xto, xri, xbo, xco, xro, xqu, xnt, xfi, xsg, xrk, xdy, xce, xsu, xsq, mp, ml, w, g, pic, lig, rfl, rfl, hp, hc0, hc1, k1⟩ := hG
  have mq := mbd (A := 30) (B := 30) (a := w) (b := g) (by omega) (by omega)
  have mw0 : 0 < w * g := Int.mul_pos (by omega) (by omega)
  have es := lin_is (d := dk pic) (w := w) (g := g) (by omega) (by omega) (99, 99, -1, -1)
  obtain ⟨B_, hB⟩ : ∃ B_, (allF (dk pic) w.toNat 0 g.toNat (99, 99, -1, -1)) = B_ := ⟨_, rfl⟩
  rw [hB] at k1 es
  have sb : ∀ s_ : Int × Int × Int × Int, bok w g 99 99 s_ → -1 ≤ s_.1 ∧ s_.1 ≤ 99 ∧ -1 ≤ s_.2.1 ∧ s_.2.1 ≤ 99 ∧ -1 ≤ s_.2.2.1 ∧ s_.2.2.1 ≤ 99 ∧ -1 ≤ s_.2.2.2 ∧ s_.2.2.2 ≤ 99 := by
    intro s_ hs
    rcases hs with rfl | hs
    · (try dsimp only); omega
    · omega
  have nW : ¬ iI w = 0 := fun q => absurd ((iI_eq0 ⟨by omega, by omega⟩).mp q) (by omega)
  have me : iI w * iI g = iI (w * g) := iI_mul _ _
  have loop2 : bok w g 99 99 B_ → ∀ (j : Nat) (i f : Int), i + j = w * g → 0 ≤ i → ((f = 1 ∧ (B_.1 + 5 ≤ B_.2.2.1 ∧ B_.2.1 + 5 ≤ B_.2.2.2) ∧ ∀ q : Int, 0 ≤ q → q < i → okC (dk pic) B_ (q % w) (q / w)) ∨ (f = 0 ∧ ¬ fnd (dk pic) B_)) → Run p l e { frames := 2, cells := 0, slots := 0, locals := 23 } s m args below meth c z sa D dA 0 0 K 6 188 [some (.ref 21), some (.int (iI i))] [] (pre ++ cM (iI 0) (iI w) (iI g) (iI f) (iI B_.1) (iI B_.2.1) (iI B_.2.2.1) (iI B_.2.2.2) xco xro xqu xnt xfi xsg xrk xdy xce xsu xsq :: aI 2700 mp :: aI 900 ml :: rest) 0 0 := by
    intro hb j
    have bb := sb B_ hb
    induction j with
    | zero =>
      intro i f hi i0 hf
      have k1 := k1 hb f (by
        rcases hf with ⟨rfl, hw, h⟩ | hf
        · exact Or.inl ⟨rfl, fnd_of hc0 hb (by omega) hw.1 hw.2 (fun q h1 h2 => h q h1 (by omega))⟩
        · exact Or.inr hf)
      refine rn_iload_n C d_M_find_188 rfl ?_
      refine rn_aload_n C d_M_find_189 rfl ?_
      refine rn_getM C hp f_M_61 d_M_find_190 rfl ?_
      refine rn_aload_n C d_M_find_193 rfl ?_
      refine rn_getM C hp f_M_64 d_M_find_194 rfl ?_
      refine rn_imul C d_M_find_197 ?_
      rw [me]
      refine rn_icmp_ge C 332 d_M_find_198 (by decide) (fun _ => ?_) (fun q_198 => absurd ((iI_le ⟨by omega, by omega⟩ ⟨by omega, by omega⟩).mpr (by omega)) q_198)
      refine rn_aload_n C d_M_find_332 rfl ?_
      refine rn_getM C hp f_M_101 d_M_find_333 rfl ?_
      refine rn_ireturn C rfl (by rcases hf with ⟨rfl, _⟩ | ⟨rfl, _⟩ <;> rfl) d_M_find_336 ⟨by decide, by decide⟩ ?_
      exact k1
    | succ j ih =>
      intro i f hi i0 hf
      have mi := mod_in (p := i) (b := w) (by omega)
      have di := div_in (p := i) (a := g) (b := w) (by omega) i0 (by rw [Int.mul_comm]; omega)
      obtain ⟨x, hx⟩ : ∃ x, i % w = x := ⟨_, rfl⟩
      obtain ⟨y, hy⟩ : ∃ y, i / w = y := ⟨_, rfl⟩
      have go : ∀ f : Int, ((f = 1 ∧ (B_.1 + 5 ≤ B_.2.2.1 ∧ B_.2.1 + 5 ≤ B_.2.2.2) ∧ (∀ q : Int, 0 ≤ q → q < i → okC (dk pic) B_ (q % w) (q / w)) ∧ okC (dk pic) B_ x y) ∨ (f = 0 ∧ ¬ fnd (dk pic) B_)) → Run p l e { frames := 2, cells := 0, slots := 0, locals := 23 } s m args below meth c z sa D dA 0 0 K 6 188 [some (.ref 21), some (.int (iI (i + 1)))] [] (pre ++ cM (iI 0) (iI w) (iI g) (iI f) (iI B_.1) (iI B_.2.1) (iI B_.2.2.1) (iI B_.2.2.2) xco xro xqu xnt xfi xsg xrk xdy xce xsu xsq :: aI 2700 mp :: aI 900 ml :: rest) 0 0 := by
        intro f hf
        refine ih (i + 1) f (by omega) (by omega) ?_
        rcases hf with ⟨rfl, hw, h, ho⟩ | hf
        · refine Or.inl ⟨rfl, hw, fun q h1 h2 => ?_⟩
          by_cases hq : q = i
          · rw [hq, hx, hy]; exact ho
          · exact h q h1 (by omega)
        · exact Or.inr hf
      rw [hx] at mi
      rw [hy] at di
      have s3 : ∀ a b_ : Int, (a = 1 ∧ (B_.1 ≤ x ∧ x ≤ B_.2.2.1 ∧ B_.2.1 ≤ y ∧ y ≤ B_.2.2.2)) ∨ (a = 0 ∧ ¬ (B_.1 ≤ x ∧ x ≤ B_.2.2.1 ∧ B_.2.1 ≤ y ∧ y ≤ B_.2.2.2)) → (b_ = 1 ∧ (x = B_.1 ∨ x = B_.2.2.1 ∨ y = B_.2.1 ∨ y = B_.2.2.2)) ∨ (b_ = 0 ∧ ¬ (x = B_.1 ∨ x = B_.2.2.1 ∨ y = B_.2.1 ∨ y = B_.2.2.2)) → Run p l e { frames := 2, cells := 0, slots := 0, locals := 23 } s m args below meth c z sa D dA 0 0 K 6 291 [some (.ref 21), some (.int (iI i)), some (.int (iI x)), some (.int (iI y)), some (.int (iI a)), some (.int (iI b_))] [] (pre ++ cM (iI 0) (iI w) (iI g) (iI f) (iI B_.1) (iI B_.2.1) (iI B_.2.2.1) (iI B_.2.2.2) xco xro xqu xnt xfi xsg xrk xdy xce xsu xsq :: aI 2700 mp :: aI 900 ml :: rest) 0 0 := by
        intro a b_ ha hb2
        rcases hf with ⟨rfl, hw, hq⟩ | ⟨rfl, hf⟩
        · rcases ha with ⟨rfl, ha⟩ | ⟨rfl, ha⟩ <;> rcases hb2 with ⟨rfl, hb2⟩ | ⟨rfl, hb2⟩
          · skip
            refine rn_aload_n C d_M_find_291 rfl ?_
            refine rn_aload_n C d_M_find_292 rfl ?_
            refine rn_getM C hp f_M_101 d_M_find_293 rfl ?_
            refine rn_if_eq C 322 d_M_find_296 (by decide) (fun q => absurd q (by decide)) (fun _ => ?_)
            refine rn_iload C d_M_find_299 rfl ?_
            refine rn_if_eq C 318 d_M_find_301 (by decide) (fun q => absurd q (by decide)) (fun _ => ?_)
            refine rn_iload C d_M_find_304 rfl ?_
            refine rn_if_eq C 318 d_M_find_306 (by decide) (fun q => absurd q (by decide)) (fun _ => ?_)
            refine rn_aload_n C d_M_find_309 rfl ?_
            refine rn_iload_n C d_M_find_310 rfl ?_
            refine rn_iload_n C d_M_find_311 rfl ?_
            refine rn_cV C (c_M_isDark l) mw_M_isDark k_M_98 d_M_find_312 rfl (mH 0 hp rfl rfl) rfl (Nat.le_of_ble_eq_true rfl) (Nat.le_of_ble_eq_true rfl) ⟨by decide, by decide⟩ ⟨by decide, by decide⟩ ?_
            refine ⟨_, _, _, _, _, _, _, _, _, _, _, _, _, _, _, _, _, _, _, _, _, _, _, _, _, _, _, rfl, rfl, hp, (by assumption), (by omega), fun q312 => ?_, fun q312 => ?_⟩
            · skip
              refine rn_if_eq C 322 d_M_find_315 (by decide) (fun q => absurd q (by decide)) (fun _ => ?_)
              refine rn_iconst C (iI 1) d_M_find_318 (by decide) ?_
              refine rn_goto C 323 d_M_find_319 (by decide) ?_
              refine rn_putM C hp f_M_101 ft_M fn_M_5 d_M_find_323 (Nat.le_of_ble_eq_true rfl) (fun _ _ => ⟨rfl, rfl⟩) rfl ?_
              refine rn_iinc C _ d_M_find_326 rfl (iI_inc _) (by decide) ?_
              refine rn_goto C 188 d_M_find_329 (by decide) ?_
              refine rn_weak (lv' := [some (.ref 21), some (.int (iI (i + 1)))]) ⟨rfl, rfl, trivial⟩ ?_
              first | exact go 1 (Or.inl ⟨rfl, hw, hq, fun h1 h2 => by first | exact q312 | exact absurd h1 ha | exact absurd h2 hb2⟩) | exact go 0 (Or.inr ⟨rfl, fun hn => q312 (fnd_ok hn x y ha hb2)⟩)
            · skip
              refine rn_if_eq C 322 d_M_find_315 (by decide) (fun _ => ?_) (fun q => absurd rfl q)
              refine rn_iconst C (iI 0) d_M_find_322 (by decide) ?_
              refine rn_putM C hp f_M_101 ft_M fn_M_5 d_M_find_323 (Nat.le_of_ble_eq_true rfl) (fun _ _ => ⟨rfl, rfl⟩) rfl ?_
              refine rn_iinc C _ d_M_find_326 rfl (iI_inc _) (by decide) ?_
              refine rn_goto C 188 d_M_find_329 (by decide) ?_
              refine rn_weak (lv' := [some (.ref 21), some (.int (iI (i + 1)))]) ⟨rfl, rfl, trivial⟩ ?_
              first | exact go 1 (Or.inl ⟨rfl, hw, hq, fun h1 h2 => by first | exact q312 | exact absurd h1 ha | exact absurd h2 hb2⟩) | exact go 0 (Or.inr ⟨rfl, fun hn => q312 (fnd_ok hn x y ha hb2)⟩)
          · skip
            refine rn_aload_n C d_M_find_291 rfl ?_
            refine rn_aload_n C d_M_find_292 rfl ?_
            refine rn_getM C hp f_M_101 d_M_find_293 rfl ?_
            refine rn_if_eq C 322 d_M_find_296 (by decide) (fun q => absurd q (by decide)) (fun _ => ?_)
            refine rn_iload C d_M_find_299 rfl ?_
            refine rn_if_eq C 318 d_M_find_301 (by decide) (fun q => absurd q (by decide)) (fun _ => ?_)
            refine rn_iload C d_M_find_304 rfl ?_
            refine rn_if_eq C 318 d_M_find_306 (by decide) (fun _ => ?_) (fun q => absurd rfl q)
            refine rn_iconst C (iI 1) d_M_find_318 (by decide) ?_
            refine rn_goto C 323 d_M_find_319 (by decide) ?_
            refine rn_putM C hp f_M_101 ft_M fn_M_5 d_M_find_323 (Nat.le_of_ble_eq_true rfl) (fun _ _ => ⟨rfl, rfl⟩) rfl ?_
            refine rn_iinc C _ d_M_find_326 rfl (iI_inc _) (by decide) ?_
            refine rn_goto C 188 d_M_find_329 (by decide) ?_
            refine rn_weak (lv' := [some (.ref 21), some (.int (iI (i + 1)))]) ⟨rfl, rfl, trivial⟩ ?_
            first | exact go 1 (Or.inl ⟨rfl, hw, hq, fun h1 h2 => by first | exact q312 | exact absurd h1 ha | exact absurd h2 hb2⟩) | exact go 0 (Or.inr ⟨rfl, fun hn => q312 (fnd_ok hn x y ha hb2)⟩)
          · skip
            refine rn_aload_n C d_M_find_291 rfl ?_
            refine rn_aload_n C d_M_find_292 rfl ?_
            refine rn_getM C hp f_M_101 d_M_find_293 rfl ?_
            refine rn_if_eq C 322 d_M_find_296 (by decide) (fun q => absurd q (by decide)) (fun _ => ?_)
            refine rn_iload C d_M_find_299 rfl ?_
            refine rn_if_eq C 318 d_M_find_301 (by decide) (fun _ => ?_) (fun q => absurd rfl q)
            refine rn_iconst C (iI 1) d_M_find_318 (by decide) ?_
            refine rn_goto C 323 d_M_find_319 (by decide) ?_
            refine rn_putM C hp f_M_101 ft_M fn_M_5 d_M_find_323 (Nat.le_of_ble_eq_true rfl) (fun _ _ => ⟨rfl, rfl⟩) rfl ?_
            refine rn_iinc C _ d_M_find_326 rfl (iI_inc _) (by decide) ?_
            refine rn_goto C 188 d_M_find_329 (by decide) ?_
            refine rn_weak (lv' := [some (.ref 21), some (.int (iI (i + 1)))]) ⟨rfl, rfl, trivial⟩ ?_
            first | exact go 1 (Or.inl ⟨rfl, hw, hq, fun h1 h2 => by first | exact q312 | exact absurd h1 ha | exact absurd h2 hb2⟩) | exact go 0 (Or.inr ⟨rfl, fun hn => q312 (fnd_ok hn x y ha hb2)⟩)
          · skip
            refine rn_aload_n C d_M_find_291 rfl ?_
            refine rn_aload_n C d_M_find_292 rfl ?_
            refine rn_getM C hp f_M_101 d_M_find_293 rfl ?_
            refine rn_if_eq C 322 d_M_find_296 (by decide) (fun q => absurd q (by decide)) (fun _ => ?_)
            refine rn_iload C d_M_find_299 rfl ?_
            refine rn_if_eq C 318 d_M_find_301 (by decide) (fun _ => ?_) (fun q => absurd rfl q)
            refine rn_iconst C (iI 1) d_M_find_318 (by decide) ?_
            refine rn_goto C 323 d_M_find_319 (by decide) ?_
            refine rn_putM C hp f_M_101 ft_M fn_M_5 d_M_find_323 (Nat.le_of_ble_eq_true rfl) (fun _ _ => ⟨rfl, rfl⟩) rfl ?_
            refine rn_iinc C _ d_M_find_326 rfl (iI_inc _) (by decide) ?_
            refine rn_goto C 188 d_M_find_329 (by decide) ?_
            refine rn_weak (lv' := [some (.ref 21), some (.int (iI (i + 1)))]) ⟨rfl, rfl, trivial⟩ ?_
            first | exact go 1 (Or.inl ⟨rfl, hw, hq, fun h1 h2 => by first | exact q312 | exact absurd h1 ha | exact absurd h2 hb2⟩) | exact go 0 (Or.inr ⟨rfl, fun hn => q312 (fnd_ok hn x y ha hb2)⟩)
        · skip
          refine rn_aload_n C d_M_find_291 rfl ?_
          refine rn_aload_n C d_M_find_292 rfl ?_
          refine rn_getM C hp f_M_101 d_M_find_293 rfl ?_
          refine rn_if_eq C 322 d_M_find_296 (by decide) (fun _ => ?_) (fun q => absurd rfl q)
          refine rn_iconst C (iI 0) d_M_find_322 (by decide) ?_
          refine rn_putM C hp f_M_101 ft_M fn_M_5 d_M_find_323 (Nat.le_of_ble_eq_true rfl) (fun _ _ => ⟨rfl, rfl⟩) rfl ?_
          refine rn_iinc C _ d_M_find_326 rfl (iI_inc _) (by decide) ?_
          refine rn_goto C 188 d_M_find_329 (by decide) ?_
          refine rn_weak (lv' := [some (.ref 21), some (.int (iI (i + 1)))]) ⟨rfl, rfl, trivial⟩ ?_
          exact go 0 (Or.inr ⟨rfl, hf⟩)
      have s2 : ∀ a : Int, (a = 1 ∧ (B_.1 ≤ x ∧ x ≤ B_.2.2.1 ∧ B_.2.1 ≤ y ∧ y ≤ B_.2.2.2)) ∨ (a = 0 ∧ ¬ (B_.1 ≤ x ∧ x ≤ B_.2.2.1 ∧ B_.2.1 ≤ y ∧ y ≤ B_.2.2.2)) → Run p l e { frames := 2, cells := 0, slots := 0, locals := 23 } s m args below meth c z sa D dA 0 0 K 6 252 [some (.ref 21), some (.int (iI i)), some (.int (iI x)), some (.int (iI y)), some (.int (iI a))] [] (pre ++ cM (iI 0) (iI w) (iI g) (iI f) (iI B_.1) (iI B_.2.1) (iI B_.2.2.1) (iI B_.2.2.2) xco xro xqu xnt xfi xsg xrk xdy xce xsu xsq :: aI 2700 mp :: aI 900 ml :: rest) 0 0 := by
        intro a ha
        have z1 : (iI x = iI B_.1) ↔ x = B_.1 := iI_eq ⟨by omega, by omega⟩ ⟨by omega, by omega⟩
        have z2 : (iI x = iI B_.2.2.1) ↔ x = B_.2.2.1 := iI_eq ⟨by omega, by omega⟩ ⟨by omega, by omega⟩
        have z3 : (iI y = iI B_.2.1) ↔ y = B_.2.1 := iI_eq ⟨by omega, by omega⟩ ⟨by omega, by omega⟩
        have z4 : (iI y = iI B_.2.2.2) ↔ y = B_.2.2.2 := iI_eq ⟨by omega, by omega⟩ ⟨by omega, by omega⟩
        refine rn_iload_n C d_M_find_252 rfl ?_
        refine rn_aload_n C d_M_find_253 rfl ?_
        refine rn_getM C hp f_M_86 d_M_find_254 rfl ?_
        refine rn_icmp_eq C 284 d_M_find_257 (by decide) (fun c257 => ?_) (fun c257 => ?_)
        · skip
          refine rn_iconst C (iI 1) d_M_find_284 (by decide) ?_
          refine rn_goto C 289 d_M_find_285 (by decide) ?_
          refine rn_istore C d_M_find_289 (by decide) ?_
          (try rw [z1] at c257); (try rw [z2] at c265); (try rw [z3] at c273); (try rw [z4] at c281); first | exact s3 a 1 ha (Or.inl ⟨rfl, by omega⟩) | exact s3 a 0 ha (Or.inr ⟨rfl, by omega⟩)
        · skip
          refine rn_iload_n C d_M_find_260 rfl ?_
          refine rn_aload_n C d_M_find_261 rfl ?_
          refine rn_getM C hp f_M_92 d_M_find_262 rfl ?_
          refine rn_icmp_eq C 284 d_M_find_265 (by decide) (fun c265 => ?_) (fun c265 => ?_)
          · skip
            refine rn_iconst C (iI 1) d_M_find_284 (by decide) ?_
            refine rn_goto C 289 d_M_find_285 (by decide) ?_
            refine rn_istore C d_M_find_289 (by decide) ?_
            (try rw [z1] at c257); (try rw [z2] at c265); (try rw [z3] at c273); (try rw [z4] at c281); first | exact s3 a 1 ha (Or.inl ⟨rfl, by omega⟩) | exact s3 a 0 ha (Or.inr ⟨rfl, by omega⟩)
          · skip
            refine rn_iload_n C d_M_find_268 rfl ?_
            refine rn_aload_n C d_M_find_269 rfl ?_
            refine rn_getM C hp f_M_89 d_M_find_270 rfl ?_
            refine rn_icmp_eq C 284 d_M_find_273 (by decide) (fun c273 => ?_) (fun c273 => ?_)
            · skip
              refine rn_iconst C (iI 1) d_M_find_284 (by decide) ?_
              refine rn_goto C 289 d_M_find_285 (by decide) ?_
              refine rn_istore C d_M_find_289 (by decide) ?_
              (try rw [z1] at c257); (try rw [z2] at c265); (try rw [z3] at c273); (try rw [z4] at c281); first | exact s3 a 1 ha (Or.inl ⟨rfl, by omega⟩) | exact s3 a 0 ha (Or.inr ⟨rfl, by omega⟩)
            · skip
              refine rn_iload_n C d_M_find_276 rfl ?_
              refine rn_aload_n C d_M_find_277 rfl ?_
              refine rn_getM C hp f_M_95 d_M_find_278 rfl ?_
              refine rn_icmp_ne C 288 d_M_find_281 (by decide) (fun c281 => ?_) (fun c281 => ?_)
              · skip
                refine rn_iconst C (iI 0) d_M_find_288 (by decide) ?_
                refine rn_istore C d_M_find_289 (by decide) ?_
                (try rw [z1] at c257); (try rw [z2] at c265); (try rw [z3] at c273); (try rw [z4] at c281); first | exact s3 a 1 ha (Or.inl ⟨rfl, by omega⟩) | exact s3 a 0 ha (Or.inr ⟨rfl, by omega⟩)
              · skip
                refine rn_iconst C (iI 1) d_M_find_284 (by decide) ?_
                refine rn_goto C 289 d_M_find_285 (by decide) ?_
                refine rn_istore C d_M_find_289 (by decide) ?_
                (try rw [z1] at c257); (try rw [z2] at c265); (try rw [z3] at c273); (try rw [z4] at c281); first | exact s3 a 1 ha (Or.inl ⟨rfl, by omega⟩) | exact s3 a 0 ha (Or.inr ⟨rfl, by omega⟩)
      refine rn_iload_n C d_M_find_188 rfl ?_
      refine rn_aload_n C d_M_find_189 rfl ?_
      refine rn_getM C hp f_M_61 d_M_find_190 rfl ?_
      refine rn_aload_n C d_M_find_193 rfl ?_
      refine rn_getM C hp f_M_64 d_M_find_194 rfl ?_
      refine rn_imul C d_M_find_197 ?_
      rw [me]
      refine rn_icmp_ge C 332 d_M_find_198 (by decide) (fun q_198 => absurd q_198 (fun q => absurd ((iI_le ⟨by omega, by omega⟩ ⟨by omega, by omega⟩).mp q) (by omega))) (fun _ => ?_)
      refine rn_iload_n C d_M_find_201 rfl ?_
      refine rn_aload_n C d_M_find_202 rfl ?_
      refine rn_getM C hp f_M_61 d_M_find_203 rfl ?_
      refine rn_irem C d_M_find_206 nW ?_
      rw [iI_rem i0 (by omega) (by omega) (by omega), hx]
      refine rn_istore_n C d_M_find_207 (by decide) ?_
      refine rn_iload_n C d_M_find_208 rfl ?_
      refine rn_aload_n C d_M_find_209 rfl ?_
      refine rn_getM C hp f_M_61 d_M_find_210 rfl ?_
      refine rn_idiv C d_M_find_213 nW ?_
      rw [iI_div (by omega) (by omega) (by omega) (by omega), hy]
      refine rn_istore_n C d_M_find_214 (by decide) ?_
      refine rn_iload_n C d_M_find_215 rfl ?_
      refine rn_aload_n C d_M_find_216 rfl ?_
      refine rn_getM C hp f_M_86 d_M_find_217 rfl ?_
      refine rn_aload_n C d_M_find_220 rfl ?_
      refine rn_getM C hp f_M_92 d_M_find_221 rfl ?_
      refine rn_cS C (c2_M_within l) mw_M_within k_M_70 d_M_find_224 (Nat.le_of_ble_eq_true rfl) (Nat.le_of_ble_eq_true rfl) ⟨by decide, by decide⟩ ⟨by decide, by decide⟩ ?_
      refine ⟨_, _, _, rfl, ⟨by omega, by omega⟩, ⟨by omega, by omega⟩, ⟨by omega, by omega⟩, fun q224 => ?_, fun q224 => ?_⟩
      · skip
        refine rn_if_eq C 249 d_M_find_227 (by decide) (fun q => absurd q (by decide)) (fun _ => ?_)
        refine rn_iload_n C d_M_find_230 rfl ?_
        refine rn_aload_n C d_M_find_231 rfl ?_
        refine rn_getM C hp f_M_89 d_M_find_232 rfl ?_
        refine rn_aload_n C d_M_find_235 rfl ?_
        refine rn_getM C hp f_M_95 d_M_find_236 rfl ?_
        refine rn_cS C (c2_M_within l) mw_M_within k_M_70 d_M_find_239 (Nat.le_of_ble_eq_true rfl) (Nat.le_of_ble_eq_true rfl) ⟨by decide, by decide⟩ ⟨by decide, by decide⟩ ?_
        refine ⟨_, _, _, rfl, ⟨by omega, by omega⟩, ⟨by omega, by omega⟩, ⟨by omega, by omega⟩, fun q239 => ?_, fun q239 => ?_⟩
        · skip
          refine rn_if_eq C 249 d_M_find_242 (by decide) (fun q => absurd q (by decide)) (fun _ => ?_)
          refine rn_iconst C (iI 1) d_M_find_245 (by decide) ?_
          refine rn_goto C 250 d_M_find_246 (by decide) ?_
          refine rn_istore C d_M_find_250 (by decide) ?_
          first | exact s2 1 (Or.inl ⟨rfl, by omega⟩) | exact s2 0 (Or.inr ⟨rfl, by omega⟩)
        · skip
          refine rn_if_eq C 249 d_M_find_242 (by decide) (fun _ => ?_) (fun q => absurd rfl q)
          refine rn_iconst C (iI 0) d_M_find_249 (by decide) ?_
          refine rn_istore C d_M_find_250 (by decide) ?_
          first | exact s2 1 (Or.inl ⟨rfl, by omega⟩) | exact s2 0 (Or.inr ⟨rfl, by omega⟩)
      · skip
        refine rn_if_eq C 249 d_M_find_227 (by decide) (fun _ => ?_) (fun q => absurd rfl q)
        refine rn_iconst C (iI 0) d_M_find_249 (by decide) ?_
        refine rn_istore C d_M_find_250 (by decide) ?_
        first | exact s2 1 (Or.inl ⟨rfl, by omega⟩) | exact s2 0 (Or.inr ⟨rfl, by omega⟩)
  have tail : bok w g 99 99 B_ → ∀ i : Int, Run p l e { frames := 2, cells := 0, slots := 0, locals := 23 } s m args below meth c z sa D dA 0 0 K 6 151 [some (.ref 21), some (.int (iI i))] [] (pre ++ cM (iI 0) (iI w) (iI g) xfo (iI B_.1) (iI B_.2.1) (iI B_.2.2.1) (iI B_.2.2.2) xco xro xqu xnt xfi xsg xrk xdy xce xsu xsq :: aI 2700 mp :: aI 900 ml :: rest) 0 0 := by
    intro hb i
    have bb := sb B_ hb
    have y1 : (iI (B_.2.2.1 - B_.1) < iI 5) ↔ B_.2.2.1 - B_.1 < 5 := iI_lt ⟨by omega, by omega⟩ ⟨by omega, by omega⟩
    have y2 : (iI (B_.2.2.2 - B_.2.1) < iI 5) ↔ B_.2.2.2 - B_.2.1 < 5 := iI_lt ⟨by omega, by omega⟩ ⟨by omega, by omega⟩
    refine rn_aload_n C d_M_find_151 rfl ?_
    refine rn_aload_n C d_M_find_152 rfl ?_
    refine rn_getM C hp f_M_92 d_M_find_153 rfl ?_
    refine rn_aload_n C d_M_find_156 rfl ?_
    refine rn_getM C hp f_M_86 d_M_find_157 rfl ?_
    refine rn_isub C d_M_find_160 ?_
    rw [iI_sub]
    refine rn_iconst C (iI 5) d_M_find_161 (by decide) ?_
    refine rn_icmp_lt C 182 d_M_find_162 (by decide) (fun c162 => ?_) (fun c162 => ?_)
    · skip
      refine rn_iconst C (iI 0) d_M_find_182 (by decide) ?_
      refine rn_putM C hp f_M_101 ft_M fn_M_5 d_M_find_183 (Nat.le_of_ble_eq_true rfl) (fun _ _ => ⟨rfl, rfl⟩) rfl ?_
      refine rn_iconst C (iI 0) d_M_find_186 (by decide) ?_
      refine rn_istore_n C d_M_find_187 (by decide) ?_
      (try rw [y1] at c162); (try rw [y2] at c175); first | exact loop2 hb (w * g).toNat 0 1 (by omega) (by omega) (Or.inl ⟨rfl, ⟨by omega, by omega⟩, fun q h1 h2 => by omega⟩) | exact loop2 hb (w * g).toNat 0 0 (by omega) (by omega) (Or.inr ⟨rfl, fun hn => by have a1 := hn.1; have a2 := hn.2.1; omega⟩)
    · skip
      refine rn_aload_n C d_M_find_165 rfl ?_
      refine rn_getM C hp f_M_95 d_M_find_166 rfl ?_
      refine rn_aload_n C d_M_find_169 rfl ?_
      refine rn_getM C hp f_M_89 d_M_find_170 rfl ?_
      refine rn_isub C d_M_find_173 ?_
      rw [iI_sub]
      refine rn_iconst C (iI 5) d_M_find_174 (by decide) ?_
      refine rn_icmp_lt C 182 d_M_find_175 (by decide) (fun c175 => ?_) (fun c175 => ?_)
      · skip
        refine rn_iconst C (iI 0) d_M_find_182 (by decide) ?_
        refine rn_putM C hp f_M_101 ft_M fn_M_5 d_M_find_183 (Nat.le_of_ble_eq_true rfl) (fun _ _ => ⟨rfl, rfl⟩) rfl ?_
        refine rn_iconst C (iI 0) d_M_find_186 (by decide) ?_
        refine rn_istore_n C d_M_find_187 (by decide) ?_
        (try rw [y1] at c162); (try rw [y2] at c175); first | exact loop2 hb (w * g).toNat 0 1 (by omega) (by omega) (Or.inl ⟨rfl, ⟨by omega, by omega⟩, fun q h1 h2 => by omega⟩) | exact loop2 hb (w * g).toNat 0 0 (by omega) (by omega) (Or.inr ⟨rfl, fun hn => by have a1 := hn.1; have a2 := hn.2.1; omega⟩)
      · skip
        refine rn_iconst C (iI 1) d_M_find_178 (by decide) ?_
        refine rn_goto C 183 d_M_find_179 (by decide) ?_
        refine rn_putM C hp f_M_101 ft_M fn_M_5 d_M_find_183 (Nat.le_of_ble_eq_true rfl) (fun _ _ => ⟨rfl, rfl⟩) rfl ?_
        refine rn_iconst C (iI 0) d_M_find_186 (by decide) ?_
        refine rn_istore_n C d_M_find_187 (by decide) ?_
        (try rw [y1] at c162); (try rw [y2] at c175); first | exact loop2 hb (w * g).toNat 0 1 (by omega) (by omega) (Or.inl ⟨rfl, ⟨by omega, by omega⟩, fun q h1 h2 => by omega⟩) | exact loop2 hb (w * g).toNat 0 0 (by omega) (by omega) (Or.inr ⟨rfl, fun hn => by have a1 := hn.1; have a2 := hn.2.1; omega⟩)
  have loop1 : ∀ (j : Nat) (i : Int) (s_ : Int × Int × Int × Int), i + j = w * g → 0 ≤ i → bok w g 99 99 s_ → linF (dk pic) w i j s_ = B_ → Run p l e { frames := 2, cells := 0, slots := 0, locals := 23 } s m args below meth c z sa D dA 0 0 K 6 29 [some (.ref 21), some (.int (iI i))] [] (pre ++ cM (iI 0) (iI w) (iI g) xfo (iI s_.1) (iI s_.2.1) (iI s_.2.2.1) (iI s_.2.2.2) xco xro xqu xnt xfi xsg xrk xdy xce xsu xsq :: aI 2700 mp :: aI 900 ml :: rest) 0 0 := by
    intro j
    induction j with
    | zero =>
      intro i s_ hi i0 hs hE
      have e2 : s_ = B_ := hE
      subst e2
      refine rn_iload_n C d_M_find_29 rfl ?_
      refine rn_aload_n C d_M_find_30 rfl ?_
      refine rn_getM C hp f_M_61 d_M_find_31 rfl ?_
      refine rn_aload_n C d_M_find_34 rfl ?_
      refine rn_getM C hp f_M_64 d_M_find_35 rfl ?_
      refine rn_imul C d_M_find_38 ?_
      rw [me]
      refine rn_icmp_ge C 151 d_M_find_39 (by decide) (fun _ => ?_) (fun q_39 => absurd ((iI_le ⟨by omega, by omega⟩ ⟨by omega, by omega⟩).mpr (by omega)) q_39)
      exact tail hs i
    | succ j ih =>
      intro i s_ hi i0 hs hE
      have bb := sb s_ hs
      have mi := mod_in (p := i) (b := w) (by omega)
      have di := div_in (p := i) (a := g) (b := w) (by omega) i0 (by rw [Int.mul_comm]; omega)
      rw [linF] at hE
      have hs2 := bok_wd (d := dk pic) (u := 99) (v := 99) (show w ≤ 99 by omega) (show g ≤ 99 by omega) mi.1 mi.2 di.1 di.2 hs
      obtain ⟨x, hx⟩ : ∃ x, i % w = x := ⟨_, rfl⟩
      obtain ⟨y, hy⟩ : ∃ y, i / w = y := ⟨_, rfl⟩
      rw [hx, hy] at hE hs2
      rw [hx] at mi
      rw [hy] at di
      have t5 : dk pic x y = true → Run p l e { frames := 2, cells := 0, slots := 0, locals := 23 } s m args below meth c z sa D dA 0 0 K 6 145 [some (.ref 21), some (.int (iI i)), some (.int (iI x)), some (.int (iI y))] [] (pre ++ cM (iI 0) (iI w) (iI g) xfo (iI (min s_.1 x)) (iI (min s_.2.1 y)) (iI (max s_.2.2.1 x)) (iI (max s_.2.2.2 y)) xco xro xqu xnt xfi xsg xrk xdy xce xsu xsq :: aI 2700 mp :: aI 900 ml :: rest) 0 0 := by
        intro hd
        simp only [wd, hd, if_true] at hE hs2
        refine rn_iinc C _ d_M_find_145 rfl (iI_inc _) (by decide) ?_
        refine rn_goto C 29 d_M_find_148 (by decide) ?_
        refine rn_weak (lv' := [some (.ref 21), some (.int (iI (i + 1)))]) ⟨rfl, rfl, trivial⟩ ?_
        exact ih (i + 1) _ (by omega) (by omega) hs2 hE
      have t4 : dk pic x y = true → Run p l e { frames := 2, cells := 0, slots := 0, locals := 23 } s m args below meth c z sa D dA 0 0 K 6 125 [some (.ref 21), some (.int (iI i)), some (.int (iI x)), some (.int (iI y))] [] (pre ++ cM (iI 0) (iI w) (iI g) xfo (iI (min s_.1 x)) (iI (min s_.2.1 y)) (iI (max s_.2.2.1 x)) (iI s_.2.2.2) xco xro xqu xnt xfi xsg xrk xdy xce xsu xsq :: aI 2700 mp :: aI 900 ml :: rest) 0 0 := by
        intro hd
        have nx := t5 hd
        refine rn_aload_n C d_M_find_125 rfl ?_
        refine rn_iload_n C d_M_find_126 rfl ?_
        refine rn_aload_n C d_M_find_127 rfl ?_
        refine rn_getM C hp f_M_95 d_M_find_128 rfl ?_
        refine rn_icmp_le C 138 d_M_find_131 (by decide) (fun c131 => ?_) (fun c131 => ?_)
        · skip
          refine rn_aload_n C d_M_find_138 rfl ?_
          refine rn_getM C hp f_M_95 d_M_find_139 rfl ?_
          refine rn_putM C hp f_M_95 ft_M fn_M_9 d_M_find_142 (Nat.le_of_ble_eq_true rfl) (fun _ _ => ⟨rfl, rfl⟩) rfl ?_
          rw [iI_le (a := y) (b := s_.2.2.2) ⟨by omega, by omega⟩ ⟨by omega, by omega⟩] at c131
          first
            | (rw [show (max s_.2.2.2 y) = y by omega] at nx; exact nx)
            | (rw [show (max s_.2.2.2 y) = s_.2.2.2 by omega] at nx; exact nx)
        · skip
          refine rn_iload_n C d_M_find_134 rfl ?_
          refine rn_goto C 142 d_M_find_135 (by decide) ?_
          refine rn_putM C hp f_M_95 ft_M fn_M_9 d_M_find_142 (Nat.le_of_ble_eq_true rfl) (fun _ _ => ⟨rfl, rfl⟩) rfl ?_
          rw [iI_le (a := y) (b := s_.2.2.2) ⟨by omega, by omega⟩ ⟨by omega, by omega⟩] at c131
          first
            | (rw [show (max s_.2.2.2 y) = y by omega] at nx; exact nx)
            | (rw [show (max s_.2.2.2 y) = s_.2.2.2 by omega] at nx; exact nx)
      have t3 : dk pic x y = true → Run p l e { frames := 2, cells := 0, slots := 0, locals := 23 } s m args below meth c z sa D dA 0 0 K 6 105 [some (.ref 21), some (.int (iI i)), some (.int (iI x)), some (.int (iI y))] [] (pre ++ cM (iI 0) (iI w) (iI g) xfo (iI (min s_.1 x)) (iI (min s_.2.1 y)) (iI s_.2.2.1) (iI s_.2.2.2) xco xro xqu xnt xfi xsg xrk xdy xce xsu xsq :: aI 2700 mp :: aI 900 ml :: rest) 0 0 := by
        intro hd
        have nx := t4 hd
        refine rn_aload_n C d_M_find_105 rfl ?_
        refine rn_iload_n C d_M_find_106 rfl ?_
        refine rn_aload_n C d_M_find_107 rfl ?_
        refine rn_getM C hp f_M_92 d_M_find_108 rfl ?_
        refine rn_icmp_le C 118 d_M_find_111 (by decide) (fun c111 => ?_) (fun c111 => ?_)
        · skip
          refine rn_aload_n C d_M_find_118 rfl ?_
          refine rn_getM C hp f_M_92 d_M_find_119 rfl ?_
          refine rn_putM C hp f_M_92 ft_M fn_M_8 d_M_find_122 (Nat.le_of_ble_eq_true rfl) (fun _ _ => ⟨rfl, rfl⟩) rfl ?_
          rw [iI_le (a := x) (b := s_.2.2.1) ⟨by omega, by omega⟩ ⟨by omega, by omega⟩] at c111
          first
            | (rw [show (max s_.2.2.1 x) = x by omega] at nx; exact nx)
            | (rw [show (max s_.2.2.1 x) = s_.2.2.1 by omega] at nx; exact nx)
        · skip
          refine rn_iload_n C d_M_find_114 rfl ?_
          refine rn_goto C 122 d_M_find_115 (by decide) ?_
          refine rn_putM C hp f_M_92 ft_M fn_M_8 d_M_find_122 (Nat.le_of_ble_eq_true rfl) (fun _ _ => ⟨rfl, rfl⟩) rfl ?_
          rw [iI_le (a := x) (b := s_.2.2.1) ⟨by omega, by omega⟩ ⟨by omega, by omega⟩] at c111
          first
            | (rw [show (max s_.2.2.1 x) = x by omega] at nx; exact nx)
            | (rw [show (max s_.2.2.1 x) = s_.2.2.1 by omega] at nx; exact nx)
      have t2 : dk pic x y = true → Run p l e { frames := 2, cells := 0, slots := 0, locals := 23 } s m args below meth c z sa D dA 0 0 K 6 85 [some (.ref 21), some (.int (iI i)), some (.int (iI x)), some (.int (iI y))] [] (pre ++ cM (iI 0) (iI w) (iI g) xfo (iI (min s_.1 x)) (iI s_.2.1) (iI s_.2.2.1) (iI s_.2.2.2) xco xro xqu xnt xfi xsg xrk xdy xce xsu xsq :: aI 2700 mp :: aI 900 ml :: rest) 0 0 := by
        intro hd
        have nx := t3 hd
        refine rn_aload_n C d_M_find_85 rfl ?_
        refine rn_iload_n C d_M_find_86 rfl ?_
        refine rn_aload_n C d_M_find_87 rfl ?_
        refine rn_getM C hp f_M_89 d_M_find_88 rfl ?_
        refine rn_icmp_ge C 98 d_M_find_91 (by decide) (fun c91 => ?_) (fun c91 => ?_)
        · skip
          refine rn_aload_n C d_M_find_98 rfl ?_
          refine rn_getM C hp f_M_89 d_M_find_99 rfl ?_
          refine rn_putM C hp f_M_89 ft_M fn_M_7 d_M_find_102 (Nat.le_of_ble_eq_true rfl) (fun _ _ => ⟨rfl, rfl⟩) rfl ?_
          rw [iI_le (a := s_.2.1) (b := y) ⟨by omega, by omega⟩ ⟨by omega, by omega⟩] at c91
          first
            | (rw [show (min s_.2.1 y) = y by omega] at nx; exact nx)
            | (rw [show (min s_.2.1 y) = s_.2.1 by omega] at nx; exact nx)
        · skip
          refine rn_iload_n C d_M_find_94 rfl ?_
          refine rn_goto C 102 d_M_find_95 (by decide) ?_
          refine rn_putM C hp f_M_89 ft_M fn_M_7 d_M_find_102 (Nat.le_of_ble_eq_true rfl) (fun _ _ => ⟨rfl, rfl⟩) rfl ?_
          rw [iI_le (a := s_.2.1) (b := y) ⟨by omega, by omega⟩ ⟨by omega, by omega⟩] at c91
          first
            | (rw [show (min s_.2.1 y) = y by omega] at nx; exact nx)
            | (rw [show (min s_.2.1 y) = s_.2.1 by omega] at nx; exact nx)
      have t1 : dk pic x y = true → Run p l e { frames := 2, cells := 0, slots := 0, locals := 23 } s m args below meth c z sa D dA 0 0 K 6 65 [some (.ref 21), some (.int (iI i)), some (.int (iI x)), some (.int (iI y))] [] (pre ++ cM (iI 0) (iI w) (iI g) xfo (iI s_.1) (iI s_.2.1) (iI s_.2.2.1) (iI s_.2.2.2) xco xro xqu xnt xfi xsg xrk xdy xce xsu xsq :: aI 2700 mp :: aI 900 ml :: rest) 0 0 := by
        intro hd
        have nx := t2 hd
        refine rn_aload_n C d_M_find_65 rfl ?_
        refine rn_iload_n C d_M_find_66 rfl ?_
        refine rn_aload_n C d_M_find_67 rfl ?_
        refine rn_getM C hp f_M_86 d_M_find_68 rfl ?_
        refine rn_icmp_ge C 78 d_M_find_71 (by decide) (fun c71 => ?_) (fun c71 => ?_)
        · skip
          refine rn_aload_n C d_M_find_78 rfl ?_
          refine rn_getM C hp f_M_86 d_M_find_79 rfl ?_
          refine rn_putM C hp f_M_86 ft_M fn_M_6 d_M_find_82 (Nat.le_of_ble_eq_true rfl) (fun _ _ => ⟨rfl, rfl⟩) rfl ?_
          rw [iI_le (a := s_.1) (b := x) ⟨by omega, by omega⟩ ⟨by omega, by omega⟩] at c71
          first
            | (rw [show (min s_.1 x) = x by omega] at nx; exact nx)
            | (rw [show (min s_.1 x) = s_.1 by omega] at nx; exact nx)
        · skip
          refine rn_iload_n C d_M_find_74 rfl ?_
          refine rn_goto C 82 d_M_find_75 (by decide) ?_
          refine rn_putM C hp f_M_86 ft_M fn_M_6 d_M_find_82 (Nat.le_of_ble_eq_true rfl) (fun _ _ => ⟨rfl, rfl⟩) rfl ?_
          rw [iI_le (a := s_.1) (b := x) ⟨by omega, by omega⟩ ⟨by omega, by omega⟩] at c71
          first
            | (rw [show (min s_.1 x) = x by omega] at nx; exact nx)
            | (rw [show (min s_.1 x) = s_.1 by omega] at nx; exact nx)
      refine rn_iload_n C d_M_find_29 rfl ?_
      refine rn_aload_n C d_M_find_30 rfl ?_
      refine rn_getM C hp f_M_61 d_M_find_31 rfl ?_
      refine rn_aload_n C d_M_find_34 rfl ?_
      refine rn_getM C hp f_M_64 d_M_find_35 rfl ?_
      refine rn_imul C d_M_find_38 ?_
      rw [me]
      refine rn_icmp_ge C 151 d_M_find_39 (by decide) (fun q_39 => absurd q_39 (fun q => absurd ((iI_le ⟨by omega, by omega⟩ ⟨by omega, by omega⟩).mp q) (by omega))) (fun _ => ?_)
      refine rn_iload_n C d_M_find_42 rfl ?_
      refine rn_aload_n C d_M_find_43 rfl ?_
      refine rn_getM C hp f_M_61 d_M_find_44 rfl ?_
      refine rn_irem C d_M_find_47 nW ?_
      rw [iI_rem i0 (by omega) (by omega) (by omega), hx]
      refine rn_istore_n C d_M_find_48 (by decide) ?_
      refine rn_iload_n C d_M_find_49 rfl ?_
      refine rn_aload_n C d_M_find_50 rfl ?_
      refine rn_getM C hp f_M_61 d_M_find_51 rfl ?_
      refine rn_idiv C d_M_find_54 nW ?_
      rw [iI_div (by omega) (by omega) (by omega) (by omega), hy]
      refine rn_istore_n C d_M_find_55 (by decide) ?_
      refine rn_aload_n C d_M_find_56 rfl ?_
      refine rn_iload_n C d_M_find_57 rfl ?_
      refine rn_iload_n C d_M_find_58 rfl ?_
      refine rn_cV C (c_M_isDark l) mw_M_isDark k_M_98 d_M_find_59 rfl (mH 0 hp rfl rfl) rfl (Nat.le_of_ble_eq_true rfl) (Nat.le_of_ble_eq_true rfl) ⟨by decide, by decide⟩ ⟨by decide, by decide⟩ ?_
      refine ⟨_, _, _, _, _, _, _, _, _, _, _, _, _, _, _, _, _, _, _, _, _, _, _, _, _, _, _, rfl, rfl, hp, (by assumption), (by omega), fun q59 => ?_, fun q59 => ?_⟩
      · skip
        refine rn_if_eq C 145 d_M_find_62 (by decide) (fun q => absurd q (by decide)) (fun _ => ?_)
        exact t1 q59
      · skip
        refine rn_if_eq C 145 d_M_find_62 (by decide) (fun _ => ?_) (fun q => absurd rfl q)
        refine rn_iinc C _ d_M_find_145 rfl (iI_inc _) (by decide) ?_
        refine rn_goto C 29 d_M_find_148 (by decide) ?_
        refine rn_weak (lv' := [some (.ref 21), some (.int (iI (i + 1)))]) ⟨rfl, rfl, trivial⟩ ?_
        have hd : dk pic x y = false := by cases h : dk pic x y with | false => rfl | true => exact absurd h q59
        simp only [wd, hd] at hE hs2
        exact ih (i + 1) s_ (by omega) (by omega) hs (by simpa using hE)
  refine rn_aload_n C d_M_find_0 rfl ?_
  refine rn_iconst C (iI 0) d_M_find_1 (by decide) ?_
  refine rn_putM C hp f_M_67 ft_M fn_M_0 d_M_find_2 (Nat.le_of_ble_eq_true rfl) (fun _ _ => ⟨rfl, rfl⟩) rfl ?_
  refine rn_aload_n C d_M_find_5 rfl ?_
  refine rn_bipush C (iI 99) d_M_find_6 (by decide) ?_
  refine rn_putM C hp f_M_86 ft_M fn_M_6 d_M_find_8 (Nat.le_of_ble_eq_true rfl) (fun _ _ => ⟨rfl, rfl⟩) rfl ?_
  refine rn_aload_n C d_M_find_11 rfl ?_
  refine rn_bipush C (iI 99) d_M_find_12 (by decide) ?_
  refine rn_putM C hp f_M_89 ft_M fn_M_7 d_M_find_14 (Nat.le_of_ble_eq_true rfl) (fun _ _ => ⟨rfl, rfl⟩) rfl ?_
  refine rn_aload_n C d_M_find_17 rfl ?_
  refine rn_iconst C (iI (-1)) d_M_find_18 (by decide) ?_
  refine rn_putM C hp f_M_92 ft_M fn_M_8 d_M_find_19 (Nat.le_of_ble_eq_true rfl) (fun _ _ => ⟨rfl, rfl⟩) rfl ?_
  refine rn_aload_n C d_M_find_22 rfl ?_
  refine rn_iconst C (iI (-1)) d_M_find_23 (by decide) ?_
  refine rn_putM C hp f_M_95 ft_M fn_M_9 d_M_find_24 (Nat.le_of_ble_eq_true rfl) (fun _ _ => ⟨rfl, rfl⟩) rfl ?_
  refine rn_iconst C (iI 0) d_M_find_27 (by decide) ?_
  refine rn_istore_n C d_M_find_28 (by decide) ?_
  exact loop1 (w * g).toNat 0 (99, 99, -1, -1) (by omega) (by omega) (Or.inl rfl) es

