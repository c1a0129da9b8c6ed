/-! The reference: patches, reads, noise. Laid by wip/whole/gen_m3.py. -/
def G_M_patchAt (av : List Value) (h : ah_H) (K : ah_R → ah_H → Prop) : Prop := ∃ (pre rest : ah_H) (xth xw xg xfo xle xto xri xbo xnt xfi xsg xrk xdy xce xsu : Int32) (xsq : Int64) (co ro qu x y : Int), av = [.ref 21, .int (iI x), .int (iI y)] ∧ h = pre ++ cM xth xw xg xfo xle xto xri xbo (iI co) (iI ro) (iI qu) xnt xfi xsg xrk xdy xce xsu xsq :: rest ∧ pre.length = 21 ∧ (lyOk co ro qu) ∧ (K (.inl (some (.int (iI (pAt co ro qu x y))))) h)
set_option maxHeartbeats 4000000 in
set_option maxRecDepth 100000 in
theorem c_M_patchAt (l : Launch) : rn_Met l y_M_patchAt wc_M_patchAt { frames := 1, cells := 0, slots := 0, locals := 0 } G_M_patchAt := by
  refine rn_in mw_M_patchAt.1 (by decide +kernel) ?_ ?_
  · intro _ av h K hG
    obtain ⟨pre, rest, xth, xw, xg, xfo, xle, xto, xri, xbo, xnt, xfi, xsg, xrk, xdy, xce, xsu, xsq, co, ro, qu, x, y, rfl, rfl, hp, hc0, k1⟩ := hG
    exact Nat.le_of_ble_eq_true rfl
  intro p e s m args below meth c z sa D dA av h K hadm C hG
  obtain ⟨pre, rest, xth, xw, xg, xfo, xle, xto, xri, xbo, xnt, xfi, xsg, xrk, xdy, xce, xsu, xsq, co, ro, qu, x, y, rfl, rfl, hp, hc0, k1⟩ := hG
  unfold lyOk at hc0
  rcases (by omega : qu = 0 ∨ qu = 1 ∨ qu = 2 ∨ qu = 3) with rfl | rfl | rfl | rfl
  · rw [show pAt co ro 0 x y = co * y + x by simp [pAt]] at k1
    refine rn_aload_n C d_M_patchAt_0 rfl ?_
    refine rn_getM C hp f_M_105 d_M_patchAt_1 rfl ?_
    refine rn_iconst C (iI 1) d_M_patchAt_4 (by decide) ?_
    refine rn_icmp_ne C 19 d_M_patchAt_5 (by decide) (fun _ => ?_) (fun q => absurd q (by decide))
    refine rn_iload_n C d_M_patchAt_19 rfl ?_
    refine rn_istore_n C d_M_patchAt_20 (by decide) ?_
    refine rn_aload_n C d_M_patchAt_21 rfl ?_
    refine rn_getM C hp f_M_105 d_M_patchAt_22 rfl ?_
    refine rn_iconst C (iI 2) d_M_patchAt_25 (by decide) ?_
    refine rn_icmp_ne C 40 d_M_patchAt_26 (by decide) (fun _ => ?_) (fun q => absurd q (by decide))
    refine rn_iload_n C d_M_patchAt_40 rfl ?_
    refine rn_istore C d_M_patchAt_41 (by decide) ?_
    refine rn_aload_n C d_M_patchAt_43 rfl ?_
    refine rn_getM C hp f_M_105 d_M_patchAt_44 rfl ?_
    refine rn_iconst C (iI 2) d_M_patchAt_47 (by decide) ?_
    refine rn_irem C d_M_patchAt_48 (by decide) ?_
    refine rn_iconst C (iI 1) d_M_patchAt_49 (by decide) ?_
    refine rn_icmp_ne C 81 d_M_patchAt_50 (by decide) (fun _ => ?_) (fun q => absurd q (by decide))
    refine rn_aload_n C d_M_patchAt_81 rfl ?_
    refine rn_getM C hp f_M_16 d_M_patchAt_82 rfl ?_
    refine rn_iload C d_M_patchAt_85 rfl ?_
    refine rn_imul C d_M_patchAt_87 ?_
    refine rn_aload_n C d_M_patchAt_88 rfl ?_
    refine rn_getM C hp f_M_105 d_M_patchAt_89 rfl ?_
    refine rn_if_ne C 99 d_M_patchAt_92 (by decide) (fun q => absurd rfl q) (fun _ => ?_)
    refine rn_iload_n C d_M_patchAt_95 rfl ?_
    refine rn_goto C 107 d_M_patchAt_96 (by decide) ?_
    refine rn_iadd C d_M_patchAt_107 ?_
    refine rn_ireturn C rfl rfl d_M_patchAt_108 ⟨by decide, by decide⟩ ?_
    simp only [iI_sub, iI_mul, iI_add]
    exact k1
  · rw [show pAt co ro 1 x y = ro * (co - 1 - x) + y by simp [pAt]] at k1
    refine rn_aload_n C d_M_patchAt_0 rfl ?_
    refine rn_getM C hp f_M_105 d_M_patchAt_1 rfl ?_
    refine rn_iconst C (iI 1) d_M_patchAt_4 (by decide) ?_
    refine rn_icmp_ne C 19 d_M_patchAt_5 (by decide) (fun q => absurd (rfl) q) (fun _ => ?_)
    refine rn_aload_n C d_M_patchAt_8 rfl ?_
    refine rn_getM C hp f_M_16 d_M_patchAt_9 rfl ?_
    refine rn_iconst C (iI 1) d_M_patchAt_12 (by decide) ?_
    refine rn_isub C d_M_patchAt_13 ?_
    refine rn_iload_n C d_M_patchAt_14 rfl ?_
    refine rn_isub C d_M_patchAt_15 ?_
    refine rn_goto C 20 d_M_patchAt_16 (by decide) ?_
    refine rn_istore_n C d_M_patchAt_20 (by decide) ?_
    refine rn_aload_n C d_M_patchAt_21 rfl ?_
    refine rn_getM C hp f_M_105 d_M_patchAt_22 rfl ?_
    refine rn_iconst C (iI 2) d_M_patchAt_25 (by decide) ?_
    refine rn_icmp_ne C 40 d_M_patchAt_26 (by decide) (fun _ => ?_) (fun q => absurd q (by decide))
    refine rn_iload_n C d_M_patchAt_40 rfl ?_
    refine rn_istore C d_M_patchAt_41 (by decide) ?_
    refine rn_aload_n C d_M_patchAt_43 rfl ?_
    refine rn_getM C hp f_M_105 d_M_patchAt_44 rfl ?_
    refine rn_iconst C (iI 2) d_M_patchAt_47 (by decide) ?_
    refine rn_irem C d_M_patchAt_48 (by decide) ?_
    refine rn_iconst C (iI 1) d_M_patchAt_49 (by decide) ?_
    refine rn_icmp_ne C 81 d_M_patchAt_50 (by decide) (fun q => absurd (rfl) q) (fun _ => ?_)
    refine rn_aload_n C d_M_patchAt_53 rfl ?_
    refine rn_getM C hp f_M_20 d_M_patchAt_54 rfl ?_
    refine rn_iload_n C d_M_patchAt_57 rfl ?_
    refine rn_imul C d_M_patchAt_58 ?_
    refine rn_aload_n C d_M_patchAt_59 rfl ?_
    refine rn_getM C hp f_M_105 d_M_patchAt_60 rfl ?_
    refine rn_iconst C (iI 1) d_M_patchAt_63 (by decide) ?_
    refine rn_icmp_ne C 71 d_M_patchAt_64 (by decide) (fun q => absurd (rfl) q) (fun _ => ?_)
    refine rn_iload_n C d_M_patchAt_67 rfl ?_
    refine rn_goto C 79 d_M_patchAt_68 (by decide) ?_
    refine rn_iadd C d_M_patchAt_79 ?_
    refine rn_ireturn C rfl rfl d_M_patchAt_80 ⟨by decide, by decide⟩ ?_
    simp only [iI_sub, iI_mul, iI_add]
    exact k1
  · rw [show pAt co ro 2 x y = co * (ro - 1 - y) + (co - 1 - x) by simp [pAt]] at k1
    refine rn_aload_n C d_M_patchAt_0 rfl ?_
    refine rn_getM C hp f_M_105 d_M_patchAt_1 rfl ?_
    refine rn_iconst C (iI 1) d_M_patchAt_4 (by decide) ?_
    refine rn_icmp_ne C 19 d_M_patchAt_5 (by decide) (fun _ => ?_) (fun q => absurd q (by decide))
    refine rn_iload_n C d_M_patchAt_19 rfl ?_
    refine rn_istore_n C d_M_patchAt_20 (by decide) ?_
    refine rn_aload_n C d_M_patchAt_21 rfl ?_
    refine rn_getM C hp f_M_105 d_M_patchAt_22 rfl ?_
    refine rn_iconst C (iI 2) d_M_patchAt_25 (by decide) ?_
    refine rn_icmp_ne C 40 d_M_patchAt_26 (by decide) (fun q => absurd (rfl) q) (fun _ => ?_)
    refine rn_aload_n C d_M_patchAt_29 rfl ?_
    refine rn_getM C hp f_M_20 d_M_patchAt_30 rfl ?_
    refine rn_iconst C (iI 1) d_M_patchAt_33 (by decide) ?_
    refine rn_isub C d_M_patchAt_34 ?_
    refine rn_iload_n C d_M_patchAt_35 rfl ?_
    refine rn_isub C d_M_patchAt_36 ?_
    refine rn_goto C 41 d_M_patchAt_37 (by decide) ?_
    refine rn_istore C d_M_patchAt_41 (by decide) ?_
    refine rn_aload_n C d_M_patchAt_43 rfl ?_
    refine rn_getM C hp f_M_105 d_M_patchAt_44 rfl ?_
    refine rn_iconst C (iI 2) d_M_patchAt_47 (by decide) ?_
    refine rn_irem C d_M_patchAt_48 (by decide) ?_
    refine rn_iconst C (iI 1) d_M_patchAt_49 (by decide) ?_
    refine rn_icmp_ne C 81 d_M_patchAt_50 (by decide) (fun _ => ?_) (fun q => absurd q (by decide))
    refine rn_aload_n C d_M_patchAt_81 rfl ?_
    refine rn_getM C hp f_M_16 d_M_patchAt_82 rfl ?_
    refine rn_iload C d_M_patchAt_85 rfl ?_
    refine rn_imul C d_M_patchAt_87 ?_
    refine rn_aload_n C d_M_patchAt_88 rfl ?_
    refine rn_getM C hp f_M_105 d_M_patchAt_89 rfl ?_
    refine rn_if_ne C 99 d_M_patchAt_92 (by decide) (fun _ => ?_) (fun q => absurd q (by decide))
    refine rn_aload_n C d_M_patchAt_99 rfl ?_
    refine rn_getM C hp f_M_16 d_M_patchAt_100 rfl ?_
    refine rn_iconst C (iI 1) d_M_patchAt_103 (by decide) ?_
    refine rn_isub C d_M_patchAt_104 ?_
    refine rn_iload_n C d_M_patchAt_105 rfl ?_
    refine rn_isub C d_M_patchAt_106 ?_
    refine rn_iadd C d_M_patchAt_107 ?_
    refine rn_ireturn C rfl rfl d_M_patchAt_108 ⟨by decide, by decide⟩ ?_
    simp only [iI_sub, iI_mul, iI_add]
    exact k1
  · rw [show pAt co ro 3 x y = ro * x + (ro - 1 - y) by simp [pAt]] at k1
    refine rn_aload_n C d_M_patchAt_0 rfl ?_
    refine rn_getM C hp f_M_105 d_M_patchAt_1 rfl ?_
    refine rn_iconst C (iI 1) d_M_patchAt_4 (by decide) ?_
    refine rn_icmp_ne C 19 d_M_patchAt_5 (by decide) (fun _ => ?_) (fun q => absurd q (by decide))
    refine rn_iload_n C d_M_patchAt_19 rfl ?_
    refine rn_istore_n C d_M_patchAt_20 (by decide) ?_
    refine rn_aload_n C d_M_patchAt_21 rfl ?_
    refine rn_getM C hp f_M_105 d_M_patchAt_22 rfl ?_
    refine rn_iconst C (iI 2) d_M_patchAt_25 (by decide) ?_
    refine rn_icmp_ne C 40 d_M_patchAt_26 (by decide) (fun _ => ?_) (fun q => absurd q (by decide))
    refine rn_iload_n C d_M_patchAt_40 rfl ?_
    refine rn_istore C d_M_patchAt_41 (by decide) ?_
    refine rn_aload_n C d_M_patchAt_43 rfl ?_
    refine rn_getM C hp f_M_105 d_M_patchAt_44 rfl ?_
    refine rn_iconst C (iI 2) d_M_patchAt_47 (by decide) ?_
    refine rn_irem C d_M_patchAt_48 (by decide) ?_
    refine rn_iconst C (iI 1) d_M_patchAt_49 (by decide) ?_
    refine rn_icmp_ne C 81 d_M_patchAt_50 (by decide) (fun q => absurd (rfl) q) (fun _ => ?_)
    refine rn_aload_n C d_M_patchAt_53 rfl ?_
    refine rn_getM C hp f_M_20 d_M_patchAt_54 rfl ?_
    refine rn_iload_n C d_M_patchAt_57 rfl ?_
    refine rn_imul C d_M_patchAt_58 ?_
    refine rn_aload_n C d_M_patchAt_59 rfl ?_
    refine rn_getM C hp f_M_105 d_M_patchAt_60 rfl ?_
    refine rn_iconst C (iI 1) d_M_patchAt_63 (by decide) ?_
    refine rn_icmp_ne C 71 d_M_patchAt_64 (by decide) (fun _ => ?_) (fun q => absurd q (by decide))
    refine rn_aload_n C d_M_patchAt_71 rfl ?_
    refine rn_getM C hp f_M_20 d_M_patchAt_72 rfl ?_
    refine rn_iconst C (iI 1) d_M_patchAt_75 (by decide) ?_
    refine rn_isub C d_M_patchAt_76 ?_
    refine rn_iload_n C d_M_patchAt_77 rfl ?_
    refine rn_isub C d_M_patchAt_78 ?_
    refine rn_iadd C d_M_patchAt_79 ?_
    refine rn_ireturn C rfl rfl d_M_patchAt_80 ⟨by decide, by decide⟩ ?_
    simp only [iI_sub, iI_mul, iI_add]
    exact k1

def G_M_gather (av : List Value) (h : ah_H) (K : ah_R → ah_H → Prop) : Prop := ∃ (pre rest : ah_H) (xth xw xg xfo xnt xfi xsg xrk xdy xce xsu : Int32) (xsq : Int64) (mp ml : Nat → Int32) (w g le to ri bo co ro qu p k : Int) (pic : Int → Int → Int → Int) (lig : Int → Int → Int), av = [.ref 21, .int (iI p), .int (iI k)] ∧ h = pre ++ cM xth xw xg xfo (iI le) (iI to) (iI ri) (iI bo) (iI co) (iI ro) (iI qu) xnt xfi xsg xrk xdy xce xsu xsq :: aI 2700 mp :: aI 900 ml :: rest ∧ pre.length = 21 ∧ (mpOk mp ml pic lig) ∧ (frOk le to ri bo w g) ∧ (lyOk co ro qu) ∧ (0 ≤ p ∧ p < co * ro) ∧ (0 ≤ k ∧ k < 3) ∧ (K (.inl none) (pre ++ cM xth xw xg xfo (iI le) (iI to) (iI ri) (iI bo) (iI co) (iI ro) (iI qu) xnt xfi xsg xrk xdy (iI (rcN le to ri bo co ro qu p)) (iI (rcS (fun x y => ltI pic lig x y k) le to ri bo co ro qu p)) (lI (rcS (fun x y => ltI pic lig x y k * ltI pic lig x y k) le to ri bo co ro qu p)) :: aI 2700 mp :: aI 900 ml :: rest))
set_option maxHeartbeats 4000000 in
set_option maxRecDepth 100000 in
theorem c_M_gather (l : Launch) : rn_Met l y_M_gather wc_M_gather { frames := 2, cells := 0, slots := 0, locals := 25 } G_M_gather := by
  refine rn_in mw_M_gather.1 (by decide +kernel) ?_ ?_
  · intro _ av h K hG
    obtain ⟨pre, rest, xth, xw, xg, xfo, xnt, xfi, xsg, xrk, xdy, xce, xsu, xsq, mp, ml, w, g, le, to, ri, bo, co, ro, qu, p_, k, pic, lig, rfl, rfl, hp, hc0, hc1, hc2, hc3, hc4, k1⟩ := hG
    exact Nat.le_of_ble_eq_true rfl
  intro p e s m args below meth c z sa D dA av h K hadm C hG
  obtain ⟨pre, rest, xth, xw, xg, xfo, xnt, xfi, xsg, xrk, xdy, xce, xsu, xsq, mp, ml, w, g, le, to, ri, bo, co, ro, qu, p_, k, pic, lig, rfl, rfl, hp, hc0, hc1, hc2, hc3, hc4, k1⟩ := hG
  have hf' := hc1
  have hy' := hc2
  unfold frOk at hf'
  unfold lyOk at hy'
  have mw := mbd (A := 30) (B := 30) (a := (ri - le - 1)) (b := (bo - to - 1)) (by omega) (by omega)
  have mw0 : 0 < (ri - le - 1) * (bo - to - 1) := Int.mul_pos (by omega) (by omega)
  have lb : ltB (ltI pic lig) := fun x y j => ltI_in hc0.2.2.1 hc0.2.2.2 x y j
  have mq := mbd (A := 4) (B := 4) (a := co) (b := ro) (by omega) (by omega)
  have t1 := gat_one hc1 hc2 hc3.1 hc3.2
  have t2 := gat hc1 hc2 hc3.1 hc3.2 (fun x y => ltI pic lig x y k)
  have t3 := gat hc1 hc2 hc3.1 hc3.2 (fun x y => ltI pic lig x y k * ltI pic lig x y k)
  have loop : ∀ (j : Nat) (i ce su sq : Int), i + j = ((ri - le - 1) * (bo - to - 1)) → 0 ≤ i → ce + sh (gB co ro qu (ri - le - 1) (bo - to - 1) p_) (fun _ => 1) i j = rcN le to ri bo co ro qu p_ → su + sh (gB co ro qu (ri - le - 1) (bo - to - 1) p_) (fun j => ltI pic lig (le + 1 + j % (ri - le - 1)) (to + 1 + j / (ri - le - 1)) k) i j = rcS (fun x y => ltI pic lig x y k) le to ri bo co ro qu p_ → sq + sh (gB co ro qu (ri - le - 1) (bo - to - 1) p_) (fun j => ltI pic lig (le + 1 + j % (ri - le - 1)) (to + 1 + j / (ri - le - 1)) k * ltI pic lig (le + 1 + j % (ri - le - 1)) (to + 1 + j / (ri - le - 1)) k) i j = rcS (fun x y => ltI pic lig x y k * ltI pic lig x y k) le to ri bo co ro qu p_ → Run p l e { frames := 2, cells := 0, slots := 0, locals := 25 } s m args below meth c z sa D dA 0 0 K 9 43 [some (.ref 21), some (.int (iI p_)), some (.int (iI k)), some (.int (iI (ri - le - 1))), some (.int (iI (bo - to - 1))), some (.int (iI i))] [] (pre ++ cM xth xw xg xfo (iI le) (iI to) (iI ri) (iI bo) (iI co) (iI ro) (iI qu) xnt xfi xsg xrk xdy (iI ce) (iI su) (lI sq) :: aI 2700 mp :: aI 900 ml :: rest) 0 0 := by
    intro j
    induction j with
    | zero =>
      intro i ce su sq hi i0 e1 e2 e3
      rw [sh_zero, Int.add_zero] at e1 e2 e3
      rw [← e1, ← e2, ← e3] at k1
      refine rn_iload C d_M_gather_43 rfl ?_
      refine rn_iload_n C d_M_gather_45 rfl ?_
      refine rn_iload C d_M_gather_46 rfl ?_
      refine rn_imul C d_M_gather_48 ?_
      rw [iI_mul]
      refine rn_icmp_ge C 158 d_M_gather_49 (by decide) (fun _ => ?_) (fun q_49 => absurd ((iI_le ⟨by omega, by omega⟩ ⟨by omega, by omega⟩).mpr (by omega)) q_49)
      refine rn_return C rfl d_M_gather_158 ⟨by decide, by decide⟩ ?_
      exact k1
    | succ j ih =>
      intro i ce su sq hi i0 e1 e2 e3
      have mi := mod_in (p := i) (b := (ri - le - 1)) (by omega)
      have di := div_in (p := i) (a := (bo - to - 1)) (b := (ri - le - 1)) (by omega) i0 (by rw [Int.mul_comm]; omega)
      have s1 := share_in (c := co) (n := (ri - le - 1)) (i := i % (ri - le - 1)) (by omega) mi.1 mi.2
      have s2 := share_in (c := ro) (n := (bo - to - 1)) (i := i / (ri - le - 1)) (by omega) di.1 di.2
      have pin := pAt_in hc2 s1.1 s1.2 s2.1 s2.2
      have b1 := mbd (A := 30) (B := 4) (a := i % (ri - le - 1)) (b := co) (by omega) (by omega)
      have b2 := mbd (A := 30) (B := 4) (a := i / (ri - le - 1)) (b := ro) (by omega) (by omega)
      have c1 : 0 ≤ i % (ri - le - 1) * co := Int.mul_nonneg mi.1 (by omega)
      have c2 : 0 ≤ i / (ri - le - 1) * ro := Int.mul_nonneg di.1 (by omega)
      have lv := lb (le + 1 + i % (ri - le - 1)) (to + 1 + i / (ri - le - 1)) k
      have nW : ¬ iI (ri - le - 1) = 0 := fun q => absurd ((iI_eq0 ⟨by omega, by omega⟩).mp q) (by omega)
      have nH : ¬ iI (bo - to - 1) = 0 := fun q => absurd ((iI_eq0 ⟨by omega, by omega⟩).mp q) (by omega)
      have ml2 := sq_bd lv.1 lv.2
      refine rn_iload C d_M_gather_43 rfl ?_
      refine rn_iload_n C d_M_gather_45 rfl ?_
      refine rn_iload C d_M_gather_46 rfl ?_
      refine rn_imul C d_M_gather_48 ?_
      rw [iI_mul]
      refine rn_icmp_ge C 158 d_M_gather_49 (by decide) (fun q_49 => absurd q_49 (fun q => absurd ((iI_le ⟨by omega, by omega⟩ ⟨by omega, by omega⟩).mp q) (by omega))) (fun _ => ?_)
      refine rn_iload C d_M_gather_52 rfl ?_
      refine rn_iload_n C d_M_gather_54 rfl ?_
      refine rn_irem C d_M_gather_55 nW ?_
      rw [iI_rem i0 (by omega) (by omega) (by omega)]
      refine rn_istore C d_M_gather_56 (by decide) ?_
      refine rn_iload C d_M_gather_58 rfl ?_
      refine rn_iload_n C d_M_gather_60 rfl ?_
      refine rn_idiv C d_M_gather_61 nW ?_
      rw [iI_div (by omega) (by omega) (by omega) (by omega)]
      refine rn_istore C d_M_gather_62 (by decide) ?_
      refine rn_aload_n C d_M_gather_64 rfl ?_
      refine rn_iload C d_M_gather_65 rfl ?_
      refine rn_aload_n C d_M_gather_67 rfl ?_
      refine rn_getM C hp f_M_16 d_M_gather_68 rfl ?_
      refine rn_imul C d_M_gather_71 ?_
      rw [iI_mul]
      refine rn_iload_n C d_M_gather_72 rfl ?_
      refine rn_idiv C d_M_gather_73 nW ?_
      rw [iI_div (by omega) (by omega) (by omega) (by omega)]
      refine rn_iload C d_M_gather_74 rfl ?_
      refine rn_aload_n C d_M_gather_76 rfl ?_
      refine rn_getM C hp f_M_20 d_M_gather_77 rfl ?_
      refine rn_imul C d_M_gather_80 ?_
      rw [iI_mul]
      refine rn_iload C d_M_gather_81 rfl ?_
      refine rn_idiv C d_M_gather_83 nH ?_
      rw [iI_div (by omega) (by omega) (by omega) (by omega)]
      refine rn_cV C (c_M_patchAt l) mw_M_patchAt k_M_118 d_M_gather_84 rfl (mH 0 hp rfl rfl) rfl (Nat.le_of_ble_eq_true rfl) (Nat.le_of_ble_eq_true rfl) ⟨by decide, by decide⟩ ⟨by decide, by decide⟩ ?_
      refine ⟨_, _, _, _, _, _, _, _, _, _, _, _, _, _, _, _, _, _, _, _, _, _, _, rfl, rfl, hp, hc2, ?_⟩
      refine rn_iload_n C d_M_gather_87 rfl ?_
      refine rn_icmp_ne C 152 d_M_gather_88 (by decide) (fun c88 => ?_) (fun c88 => ?_)
      · skip
        refine rn_iinc C _ d_M_gather_152 rfl (iI_inc _) (by decide) ?_
        refine rn_goto C 43 d_M_gather_155 (by decide) ?_
        refine rn_weak (lv' := [some (.ref 21), some (.int (iI p_)), some (.int (iI k)), some (.int (iI (ri - le - 1))), some (.int (iI (bo - to - 1))), some (.int (iI (i + 1)))]) ⟨rfl, rfl, rfl, rfl, rfl, rfl, trivial⟩ ?_
        first
          | exact ih (i + 1) _ _ _ (by omega) (by omega) e1 e2 e3
          | (have hP : (gB co ro qu (ri - le - 1) (bo - to - 1) p_) i = false := decide_eq_false (fun q => c88 (by rw [q])); rw [sh_f hP] at e1 e2 e3; exact ih (i + 1) _ _ _ (by omega) (by omega) e1 e2 e3)
      · skip
        have hP : (gB co ro qu (ri - le - 1) (bo - to - 1) p_) i = true := decide_eq_true (((iI_eq ⟨by omega, by omega⟩ ⟨by omega, by omega⟩).mp c88))
        rw [sh_t hP, ← Int.add_assoc] at e1 e2 e3
        refine rn_aload_n C d_M_gather_91 rfl ?_
        refine rn_aload_n C d_M_gather_92 rfl ?_
        refine rn_getM C hp f_M_86 d_M_gather_93 rfl ?_
        refine rn_iconst C (iI 1) d_M_gather_96 (by decide) ?_
        refine rn_iadd C d_M_gather_97 ?_
        refine rn_iload C d_M_gather_98 rfl ?_
        refine rn_iadd C d_M_gather_100 ?_
        refine rn_aload_n C d_M_gather_101 rfl ?_
        refine rn_getM C hp f_M_89 d_M_gather_102 rfl ?_
        refine rn_iconst C (iI 1) d_M_gather_105 (by decide) ?_
        refine rn_iadd C d_M_gather_106 ?_
        refine rn_iload C d_M_gather_107 rfl ?_
        refine rn_iadd C d_M_gather_109 ?_
        refine rn_iload_n C d_M_gather_110 rfl ?_
        rw [iI_add, iI_add, iI_add, iI_add]
        refine rn_cV C (c_M_litOf l) mw_M_litOf k_M_82 d_M_gather_111 rfl (mH 0 hp rfl rfl) rfl (Nat.le_of_ble_eq_true rfl) (Nat.le_of_ble_eq_true rfl) ⟨by decide, by decide⟩ ⟨by decide, by decide⟩ ?_
        refine ⟨_, _, _, _, _, _, _, _, _, _, _, _, _, _, _, _, _, _, _, _, _, _, _, _, _, _, _, _, rfl, rfl, hp, hc0, by omega, ?_⟩
        refine rn_istore C d_M_gather_114 (by decide) ?_
        refine rn_aload_n C d_M_gather_116 rfl ?_
        refine rn_dup C d_M_gather_117 rfl ?_
        refine rn_getM C hp f_M_108 d_M_gather_118 rfl ?_
        refine rn_iconst C (iI 1) d_M_gather_121 (by decide) ?_
        refine rn_iadd C d_M_gather_122 ?_
        rw [iI_add]
        refine rn_putM C hp f_M_108 ft_M fn_M_29 d_M_gather_123 (Nat.le_of_ble_eq_true rfl) (fun _ _ => ⟨rfl, rfl⟩) rfl ?_
        refine rn_aload_n C d_M_gather_126 rfl ?_
        refine rn_aload_n C d_M_gather_127 rfl ?_
        refine rn_getM C hp f_M_111 d_M_gather_128 rfl ?_
        refine rn_iload C d_M_gather_131 rfl ?_
        refine rn_iadd C d_M_gather_133 ?_
        rw [iI_add]
        refine rn_putM C hp f_M_111 ft_M fn_M_30 d_M_gather_134 (Nat.le_of_ble_eq_true rfl) (fun _ _ => ⟨rfl, rfl⟩) rfl ?_
        refine rn_aload_n C d_M_gather_137 rfl ?_
        refine rn_aload_n C d_M_gather_138 rfl ?_
        refine rn_getM C hp f_M_114 d_M_gather_139 rfl ?_
        refine rn_iload C d_M_gather_142 rfl ?_
        refine rn_iload C d_M_gather_144 rfl ?_
        refine rn_imul C d_M_gather_146 ?_
        rw [iI_mul]
        refine rn_i2l C d_M_gather_147 ?_
        rw [iI_toL ⟨by omega, by omega⟩]
        refine rn_ladd C d_M_gather_148 ?_
        rw [lI_add]
        refine rn_putM C hp f_M_114 ft_M fn_M_31 d_M_gather_149 (Nat.le_of_ble_eq_true rfl) (fun _ _ => ⟨rfl, rfl⟩) rfl ?_
        refine rn_iinc C _ d_M_gather_152 rfl (iI_inc _) (by decide) ?_
        refine rn_goto C 43 d_M_gather_155 (by decide) ?_
        refine rn_weak (lv' := [some (.ref 21), some (.int (iI p_)), some (.int (iI k)), some (.int (iI (ri - le - 1))), some (.int (iI (bo - to - 1))), some (.int (iI (i + 1)))]) ⟨rfl, rfl, rfl, rfl, rfl, rfl, trivial⟩ ?_
        first
          | exact ih (i + 1) _ _ _ (by omega) (by omega) e1 e2 e3
          | (have hP : (gB co ro qu (ri - le - 1) (bo - to - 1) p_) i = false := decide_eq_false (fun q => c88 (by rw [q])); rw [sh_f hP] at e1 e2 e3; exact ih (i + 1) _ _ _ (by omega) (by omega) e1 e2 e3)
  refine rn_aload_n C d_M_gather_0 rfl ?_
  refine rn_iconst C (iI 0) d_M_gather_1 (by decide) ?_
  refine rn_putM C hp f_M_108 ft_M fn_M_29 d_M_gather_2 (Nat.le_of_ble_eq_true rfl) (fun _ _ => ⟨rfl, rfl⟩) rfl ?_
  refine rn_aload_n C d_M_gather_5 rfl ?_
  refine rn_iconst C (iI 0) d_M_gather_6 (by decide) ?_
  refine rn_putM C hp f_M_111 ft_M fn_M_30 d_M_gather_7 (Nat.le_of_ble_eq_true rfl) (fun _ _ => ⟨rfl, rfl⟩) rfl ?_
  refine rn_aload_n C d_M_gather_10 rfl ?_
  refine rn_lconst C (lI 0) d_M_gather_11 (by decide) ?_
  refine rn_putM C hp f_M_114 ft_M fn_M_31 d_M_gather_12 (Nat.le_of_ble_eq_true rfl) (fun _ _ => ⟨rfl, rfl⟩) rfl ?_
  refine rn_aload_n C d_M_gather_15 rfl ?_
  refine rn_getM C hp f_M_92 d_M_gather_16 rfl ?_
  refine rn_aload_n C d_M_gather_19 rfl ?_
  refine rn_getM C hp f_M_86 d_M_gather_20 rfl ?_
  refine rn_isub C d_M_gather_23 ?_
  refine rn_iconst C (iI 1) d_M_gather_24 (by decide) ?_
  refine rn_isub C d_M_gather_25 ?_
  rw [iI_sub, iI_sub]
  refine rn_istore_n C d_M_gather_26 (by decide) ?_
  refine rn_aload_n C d_M_gather_27 rfl ?_
  refine rn_getM C hp f_M_95 d_M_gather_28 rfl ?_
  refine rn_aload_n C d_M_gather_31 rfl ?_
  refine rn_getM C hp f_M_89 d_M_gather_32 rfl ?_
  refine rn_isub C d_M_gather_35 ?_
  refine rn_iconst C (iI 1) d_M_gather_36 (by decide) ?_
  refine rn_isub C d_M_gather_37 ?_
  rw [iI_sub, iI_sub]
  refine rn_istore C d_M_gather_38 (by decide) ?_
  refine rn_iconst C (iI 0) d_M_gather_40 (by decide) ?_
  refine rn_istore C d_M_gather_41 (by decide) ?_
  exact loop ((ri - le - 1) * (bo - to - 1)).toNat 0 0 0 0 (by omega) (by omega) (by omega) (by omega) (by omega)

def G_M_readOf (av : List Value) (h : ah_H) (K : ah_R → ah_H → Prop) : Prop := ∃ (pre rest : ah_H) (xth xw xg xfo xnt xfi xsg xrk xdy xce xsu : Int32) (xsq : Int64) (mp ml : Nat → Int32) (w g le to ri bo co ro qu p k : Int) (pic : Int → Int → Int → Int) (lig : Int → Int → Int), av = [.ref 21, .int (iI p), .int (iI k)] ∧ h = pre ++ cM xth xw xg xfo (iI le) (iI to) (iI ri) (iI bo) (iI co) (iI ro) (iI qu) xnt xfi xsg xrk xdy xce xsu xsq :: aI 2700 mp :: aI 900 ml :: rest ∧ pre.length = 21 ∧ (mpOk mp ml pic lig) ∧ (frOk le to ri bo w g) ∧ (lyOk co ro qu) ∧ (0 ≤ p ∧ p < co * ro) ∧ (0 ≤ k ∧ k < 3) ∧ (∀ (xce xsu : Int32) (xsq : Int64), K (.inl (some (.int (iI (rdI (ltI pic lig) le to ri bo co ro qu p k))))) (pre ++ cM xth xw xg xfo (iI le) (iI to) (iI ri) (iI bo) (iI co) (iI ro) (iI qu) xnt xfi xsg xrk xdy xce xsu xsq :: aI 2700 mp :: aI 900 ml :: rest))
set_option maxHeartbeats 4000000 in
set_option maxRecDepth 100000 in
theorem c_M_readOf (l : Launch) : rn_Met l y_M_readOf wc_M_readOf { frames := 3, cells := 0, slots := 0, locals := 53 } G_M_readOf := by
  refine rn_in mw_M_readOf.1 (by decide +kernel) ?_ ?_
  · intro _ av h K hG
    obtain ⟨pre, rest, xth, xw, xg, xfo, xnt, xfi, xsg, xrk, xdy, xce, xsu, xsq, mp, ml, w, g, le, to, ri, bo, co, ro, qu, p_, k, pic, lig, rfl, rfl, hp, hc0, hc1, hc2, hc3, hc4, k1⟩ := hG
    exact Nat.le_of_ble_eq_true rfl
  intro p e s m args below meth c z sa D dA av h K hadm C hG
  obtain ⟨pre, rest, xth, xw, xg, xfo, xnt, xfi, xsg, xrk, xdy, xce, xsu, xsq, mp, ml, w, g, le, to, ri, bo, co, ro, qu, p_, k, pic, lig, rfl, rfl, hp, hc0, hc1, hc2, hc3, hc4, k1⟩ := hG
  have lb : ltB (ltI pic lig) := fun x y j => ltI_in hc0.2.2.1 hc0.2.2.2 x y j
  have n1 := rcN_in hc1 hc2 hc3.1 hc3.2
  have s1 := rcS_in (f := fun x y => ltI pic lig x y k) (fun x y => lb x y k) hc1 hc2 hc3.1 hc3.2
  have k1 := fun a b d => k1 a b d
  unfold rdI mnI at k1
  refine rn_aload_n C d_M_readOf_0 rfl ?_
  refine rn_iload_n C d_M_readOf_1 rfl ?_
  refine rn_iload_n C d_M_readOf_2 rfl ?_
  refine rn_cV C (c_M_gather l) mw_M_gather k_M_122 d_M_readOf_3 rfl (mH 0 hp rfl rfl) rfl (Nat.le_of_ble_eq_true rfl) (Nat.le_of_ble_eq_true rfl) ⟨by decide, by decide⟩ ⟨by decide, by decide⟩ ?_
  refine ⟨_, _, _, _, _, _, _, _, _, _, _, _, _, _, _, _, _, _, _, _, _, _, _, _, _, _, _, _, _, rfl, rfl, hp, hc0, hc1, hc2, hc3, hc4, ?_⟩
  refine rn_iconst C (iI 2) d_M_readOf_6 (by decide) ?_
  refine rn_aload_n C d_M_readOf_7 rfl ?_
  refine rn_getM C hp f_M_111 d_M_readOf_8 rfl ?_
  refine rn_imul C d_M_readOf_11 ?_
  refine rn_aload_n C d_M_readOf_12 rfl ?_
  refine rn_getM C hp f_M_108 d_M_readOf_13 rfl ?_
  refine rn_iadd C d_M_readOf_16 ?_
  refine rn_iconst C (iI 2) d_M_readOf_17 (by decide) ?_
  refine rn_aload_n C d_M_readOf_18 rfl ?_
  refine rn_getM C hp f_M_108 d_M_readOf_19 rfl ?_
  refine rn_imul C d_M_readOf_22 ?_
  rw [iI_mul, iI_mul, iI_add]
  refine rn_idiv C d_M_readOf_23 (fun q => absurd ((iI_eq0 ⟨by omega, by omega⟩).mp q) (by omega)) ?_
  rw [iI_div (by omega) (by omega) (by omega) (by omega)]
  refine rn_ireturn C rfl rfl d_M_readOf_24 ⟨by decide, by decide⟩ ?_
  exact k1 _ _ _

def G_M_read (av : List Value) (h : ah_H) (K : ah_R → ah_H → Prop) : Prop := ∃ (pre rest : ah_H) (xth xw xg xnt xfi xsg xrk xdy xce xsu : Int32) (xsq : Int64) (mp ml : Nat → Int32) (w g le to ri bo co ro qu fo p k : Int) (pic : Int → Int → Int → Int) (lig : Int → Int → Int), av = [.ref 21, .int (iI p), .int (iI k)] ∧ h = pre ++ cM xth xw xg (iI fo) (iI le) (iI to) (iI ri) (iI bo) (iI co) (iI ro) (iI qu) xnt xfi xsg xrk xdy xce xsu xsq :: aI 2700 mp :: aI 900 ml :: rest ∧ pre.length = 21 ∧ (inI p) ∧ (inI k) ∧ (fo = 0 ∨ fo = 1) ∧ (mpOk mp ml pic lig) ∧ (lyOk co ro qu) ∧ (fo = 1 → frOk le to ri bo w g) ∧ (¬ (0 ≤ p ∧ p < co * ro ∧ 0 ≤ k ∧ k ≤ 2) → K (.inl (some (.int (iI 0)))) (pre ++ cM (iI 1) xw xg (iI fo) (iI le) (iI to) (iI ri) (iI bo) (iI co) (iI ro) (iI qu) xnt xfi xsg xrk xdy xce xsu xsq :: aI 2700 mp :: aI 900 ml :: rest)) ∧ ((0 ≤ p ∧ p < co * ro ∧ 0 ≤ k ∧ k ≤ 2) → fo = 0 → K (.inl (some (.int (iI 0)))) (pre ++ cM (iI 2) xw xg (iI fo) (iI le) (iI to) (iI ri) (iI bo) (iI co) (iI ro) (iI qu) xnt xfi xsg xrk xdy xce xsu xsq :: aI 2700 mp :: aI 900 ml :: rest)) ∧ ((0 ≤ p ∧ p < co * ro ∧ 0 ≤ k ∧ k ≤ 2) → fo = 1 → ∀ (xce xsu : Int32) (xsq : Int64), K (.inl (some (.int (iI (rdI (ltI pic lig) le to ri bo co ro qu p k))))) (pre ++ cM (iI 0) xw xg (iI fo) (iI le) (iI to) (iI ri) (iI bo) (iI co) (iI ro) (iI qu) xnt xfi xsg xrk xdy xce xsu xsq :: aI 2700 mp :: aI 900 ml :: rest))
set_option maxHeartbeats 4000000 in
set_option maxRecDepth 100000 in
theorem c_M_read (l : Launch) : rn_Met l y_M_read wc_M_read { frames := 4, cells := 0, slots := 0, locals := 75 } G_M_read := by
  refine rn_in mw_M_read.1 (by decide +kernel) ?_ ?_
  · intro _ av h K hG
    obtain ⟨pre, rest, xth, xw, xg, xnt, xfi, xsg, xrk, xdy, xce, xsu, xsq, mp, ml, w, g, le, to, ri, bo, co, ro, qu, fo, p_, k, pic, lig, rfl, rfl, hp, hc0, hc1, hc2, hc3, hc4, hc5, k1, k2, k3⟩ := hG
    exact Nat.le_of_ble_eq_true rfl
  intro p e s m args below meth c z sa D dA av h K hadm C hG
  obtain ⟨pre, rest, xth, xw, xg, xnt, xfi, xsg, xrk, xdy, xce, xsu, xsq, mp, ml, w, g, le, to, ri, bo, co, ro, qu, fo, p_, k, pic, lig, rfl, rfl, hp, hc0, hc1, hc2, hc3, hc4, hc5, k1, k2, k3⟩ := hG
  have hc0a := hc0.1
  have hc0b := hc0.2
  have hc1a := hc1.1
  have hc1b := hc1.2
  rcases hc2 with rfl | rfl
  · skip
    refine rn_aload_n C d_M_read_0 rfl ?_
    refine rn_aload_n C d_M_read_1 rfl ?_
    refine rn_iload_n C d_M_read_2 rfl ?_
    refine rn_cV C (c_M_isPatch l) mw_M_isPatch k_M_126 d_M_read_3 rfl (mH 0 hp rfl rfl) rfl (Nat.le_of_ble_eq_true rfl) (Nat.le_of_ble_eq_true rfl) ⟨by decide, by decide⟩ ⟨by decide, by decide⟩ ?_
    refine ⟨_, _, _, _, _, _, _, _, _, _, _, _, _, _, _, _, _, _, _, _, _, _, rfl, rfl, hp, ⟨by omega, by omega⟩, (by assumption), fun q3 => ?_, fun q3 => ?_⟩
    · skip
      refine rn_if_eq C 22 d_M_read_6 (by decide) (fun q => absurd q (by decide)) (fun _ => ?_)
      refine rn_iload_n C d_M_read_9 rfl ?_
      refine rn_iconst C (iI 0) d_M_read_10 (by decide) ?_
      refine rn_iconst C (iI 2) d_M_read_11 (by decide) ?_
      refine rn_cS C (c2_M_within l) mw_M_within k_M_70 d_M_read_12 (Nat.le_of_ble_eq_true rfl) (Nat.le_of_ble_eq_true rfl) ⟨by decide, by decide⟩ ⟨by decide, by decide⟩ ?_
      refine ⟨_, _, _, rfl, ⟨by omega, by omega⟩, ⟨by omega, by omega⟩, ⟨by omega, by omega⟩, fun q12 => ?_, fun q12 => ?_⟩
      · skip
        refine rn_if_eq C 22 d_M_read_15 (by decide) (fun q => absurd q (by decide)) (fun _ => ?_)
        refine rn_iconst C (iI 1) d_M_read_18 (by decide) ?_
        refine rn_goto C 23 d_M_read_19 (by decide) ?_
        refine rn_aload_n C d_M_read_23 rfl ?_
        refine rn_getM C hp f_M_101 d_M_read_24 rfl ?_
        refine rn_iconst C (iI 1) d_M_read_27 (by decide) ?_
        refine rn_cV C (c_M_goes l) mw_M_goes k_M_78 d_M_read_28 rfl (mH 0 hp rfl rfl) rfl (Nat.le_of_ble_eq_true rfl) (Nat.le_of_ble_eq_true rfl) ⟨by decide, by decide⟩ ⟨by decide, by decide⟩ ?_
        refine ⟨_, _, _, _, _, _, _, _, _, _, _, _, _, _, _, _, _, _, _, _, _, _, _, _, rfl, rfl, hp, ?_⟩
        refine rn_if_eq C 43 d_M_read_31 (by decide) (fun _ => ?_) (fun q => absurd rfl q)
        refine rn_iconst C (iI 0) d_M_read_43 (by decide) ?_
        refine rn_ireturn C rfl rfl d_M_read_44 ⟨by decide, by decide⟩ ?_
        first | exact k1 (by omega) | exact k2 (by omega) rfl | exact k3 (by omega) rfl _ _ _
      · skip
        refine rn_if_eq C 22 d_M_read_15 (by decide) (fun _ => ?_) (fun q => absurd rfl q)
        refine rn_iconst C (iI 0) d_M_read_22 (by decide) ?_
        refine rn_aload_n C d_M_read_23 rfl ?_
        refine rn_getM C hp f_M_101 d_M_read_24 rfl ?_
        refine rn_iconst C (iI 1) d_M_read_27 (by decide) ?_
        refine rn_cV C (c_M_goes l) mw_M_goes k_M_78 d_M_read_28 rfl (mH 0 hp rfl rfl) rfl (Nat.le_of_ble_eq_true rfl) (Nat.le_of_ble_eq_true rfl) ⟨by decide, by decide⟩ ⟨by decide, by decide⟩ ?_
        refine ⟨_, _, _, _, _, _, _, _, _, _, _, _, _, _, _, _, _, _, _, _, _, _, _, _, rfl, rfl, hp, ?_⟩
        refine rn_if_eq C 43 d_M_read_31 (by decide) (fun _ => ?_) (fun q => absurd rfl q)
        refine rn_iconst C (iI 0) d_M_read_43 (by decide) ?_
        refine rn_ireturn C rfl rfl d_M_read_44 ⟨by decide, by decide⟩ ?_
        first | exact k1 (by omega) | exact k2 (by omega) rfl | exact k3 (by omega) rfl _ _ _
    · skip
      refine rn_if_eq C 22 d_M_read_6 (by decide) (fun _ => ?_) (fun q => absurd rfl q)
      refine rn_iconst C (iI 0) d_M_read_22 (by decide) ?_
      refine rn_aload_n C d_M_read_23 rfl ?_
      refine rn_getM C hp f_M_101 d_M_read_24 rfl ?_
      refine rn_iconst C (iI 1) d_M_read_27 (by decide) ?_
      refine rn_cV C (c_M_goes l) mw_M_goes k_M_78 d_M_read_28 rfl (mH 0 hp rfl rfl) rfl (Nat.le_of_ble_eq_true rfl) (Nat.le_of_ble_eq_true rfl) ⟨by decide, by decide⟩ ⟨by decide, by decide⟩ ?_
      refine ⟨_, _, _, _, _, _, _, _, _, _, _, _, _, _, _, _, _, _, _, _, _, _, _, _, rfl, rfl, hp, ?_⟩
      refine rn_if_eq C 43 d_M_read_31 (by decide) (fun _ => ?_) (fun q => absurd rfl q)
      refine rn_iconst C (iI 0) d_M_read_43 (by decide) ?_
      refine rn_ireturn C rfl rfl d_M_read_44 ⟨by decide, by decide⟩ ?_
      first | exact k1 (by omega) | exact k2 (by omega) rfl | exact k3 (by omega) rfl _ _ _
  · skip
    refine rn_aload_n C d_M_read_0 rfl ?_
    refine rn_aload_n C d_M_read_1 rfl ?_
    refine rn_iload_n C d_M_read_2 rfl ?_
    refine rn_cV C (c_M_isPatch l) mw_M_isPatch k_M_126 d_M_read_3 rfl (mH 0 hp rfl rfl) rfl (Nat.le_of_ble_eq_true rfl) (Nat.le_of_ble_eq_true rfl) ⟨by decide, by decide⟩ ⟨by decide, by decide⟩ ?_
    refine ⟨_, _, _, _, _, _, _, _, _, _, _, _, _, _, _, _, _, _, _, _, _, _, rfl, rfl, hp, ⟨by omega, by omega⟩, (by assumption), fun q3 => ?_, fun q3 => ?_⟩
    · skip
      refine rn_if_eq C 22 d_M_read_6 (by decide) (fun q => absurd q (by decide)) (fun _ => ?_)
      refine rn_iload_n C d_M_read_9 rfl ?_
      refine rn_iconst C (iI 0) d_M_read_10 (by decide) ?_
      refine rn_iconst C (iI 2) d_M_read_11 (by decide) ?_
      refine rn_cS C (c2_M_within l) mw_M_within k_M_70 d_M_read_12 (Nat.le_of_ble_eq_true rfl) (Nat.le_of_ble_eq_true rfl) ⟨by decide, by decide⟩ ⟨by decide, by decide⟩ ?_
      refine ⟨_, _, _, rfl, ⟨by omega, by omega⟩, ⟨by omega, by omega⟩, ⟨by omega, by omega⟩, fun q12 => ?_, fun q12 => ?_⟩
      · skip
        refine rn_if_eq C 22 d_M_read_15 (by decide) (fun q => absurd q (by decide)) (fun _ => ?_)
        refine rn_iconst C (iI 1) d_M_read_18 (by decide) ?_
        refine rn_goto C 23 d_M_read_19 (by decide) ?_
        refine rn_aload_n C d_M_read_23 rfl ?_
        refine rn_getM C hp f_M_101 d_M_read_24 rfl ?_
        refine rn_iconst C (iI 1) d_M_read_27 (by decide) ?_
        refine rn_cV C (c_M_goes l) mw_M_goes k_M_78 d_M_read_28 rfl (mH 0 hp rfl rfl) rfl (Nat.le_of_ble_eq_true rfl) (Nat.le_of_ble_eq_true rfl) ⟨by decide, by decide⟩ ⟨by decide, by decide⟩ ?_
        refine ⟨_, _, _, _, _, _, _, _, _, _, _, _, _, _, _, _, _, _, _, _, _, _, _, _, rfl, rfl, hp, ?_⟩
        refine rn_if_eq C 43 d_M_read_31 (by decide) (fun q => absurd q (by decide)) (fun _ => ?_)
        refine rn_aload_n C d_M_read_34 rfl ?_
        refine rn_iload_n C d_M_read_35 rfl ?_
        refine rn_iload_n C d_M_read_36 rfl ?_
        refine rn_cV C (c_M_readOf l) mw_M_readOf k_M_130 d_M_read_37 rfl (mH 0 hp rfl rfl) rfl (Nat.le_of_ble_eq_true rfl) (Nat.le_of_ble_eq_true rfl) ⟨by decide, by decide⟩ ⟨by decide, by decide⟩ ?_
        refine ⟨_, _, _, _, _, _, _, _, _, _, _, _, _, _, _, _, _, _, _, _, _, _, _, _, _, _, _, _, _, rfl, rfl, hp, hc3, hc5 rfl, hc4, by omega, by omega, fun _ _ _ => ?_⟩
        refine rn_goto C 44 d_M_read_40 (by decide) ?_
        refine rn_ireturn C rfl rfl d_M_read_44 ⟨by decide, by decide⟩ ?_
        first | exact k1 (by omega) | exact k2 (by omega) rfl | exact k3 (by omega) rfl _ _ _
      · skip
        refine rn_if_eq C 22 d_M_read_15 (by decide) (fun _ => ?_) (fun q => absurd rfl q)
        refine rn_iconst C (iI 0) d_M_read_22 (by decide) ?_
        refine rn_aload_n C d_M_read_23 rfl ?_
        refine rn_getM C hp f_M_101 d_M_read_24 rfl ?_
        refine rn_iconst C (iI 1) d_M_read_27 (by decide) ?_
        refine rn_cV C (c_M_goes l) mw_M_goes k_M_78 d_M_read_28 rfl (mH 0 hp rfl rfl) rfl (Nat.le_of_ble_eq_true rfl) (Nat.le_of_ble_eq_true rfl) ⟨by decide, by decide⟩ ⟨by decide, by decide⟩ ?_
        refine ⟨_, _, _, _, _, _, _, _, _, _, _, _, _, _, _, _, _, _, _, _, _, _, _, _, rfl, rfl, hp, ?_⟩
        refine rn_if_eq C 43 d_M_read_31 (by decide) (fun _ => ?_) (fun q => absurd rfl q)
        refine rn_iconst C (iI 0) d_M_read_43 (by decide) ?_
        refine rn_ireturn C rfl rfl d_M_read_44 ⟨by decide, by decide⟩ ?_
        first | exact k1 (by omega) | exact k2 (by omega) rfl | exact k3 (by omega) rfl _ _ _
    · skip
      refine rn_if_eq C 22 d_M_read_6 (by decide) (fun _ => ?_) (fun q => absurd rfl q)
      refine rn_iconst C (iI 0) d_M_read_22 (by decide) ?_
      refine rn_aload_n C d_M_read_23 rfl ?_
      refine rn_getM C hp f_M_101 d_M_read_24 rfl ?_
      refine rn_iconst C (iI 1) d_M_read_27 (by decide) ?_
      refine rn_cV C (c_M_goes l) mw_M_goes k_M_78 d_M_read_28 rfl (mH 0 hp rfl rfl) rfl (Nat.le_of_ble_eq_true rfl) (Nat.le_of_ble_eq_true rfl) ⟨by decide, by decide⟩ ⟨by decide, by decide⟩ ?_
      refine ⟨_, _, _, _, _, _, _, _, _, _, _, _, _, _, _, _, _, _, _, _, _, _, _, _, rfl, rfl, hp, ?_⟩
      refine rn_if_eq C 43 d_M_read_31 (by decide) (fun _ => ?_) (fun q => absurd rfl q)
      refine rn_iconst C (iI 0) d_M_read_43 (by decide) ?_
      refine rn_ireturn C rfl rfl d_M_read_44 ⟨by decide, by decide⟩ ?_
      first | exact k1 (by omega) | exact k2 (by omega) rfl | exact k3 (by omega) rfl _ _ _

def G_M_spread (av : List Value) (h : ah_H) (K : ah_R → ah_H → Prop) : Prop := ∃ (pre rest : ah_H) (xth xw xg xfo xnt xfi xsg xrk xdy xce xsu : Int32) (xsq : Int64) (mp ml : Nat → Int32) (w g le to ri bo co ro qu p : Int) (pic : Int → Int → Int → Int) (lig : Int → Int → Int), av = [.ref 21, .int (iI p)] ∧ h = pre ++ cM xth xw xg xfo (iI le) (iI to) (iI ri) (iI bo) (iI co) (iI ro) (iI qu) xnt xfi xsg xrk xdy xce xsu xsq :: aI 2700 mp :: aI 900 ml :: rest ∧ pre.length = 21 ∧ (mpOk mp ml pic lig) ∧ (frOk le to ri bo w g) ∧ (lyOk co ro qu) ∧ (0 ≤ p ∧ p < co * ro) ∧ (∀ (xsu : Int32) (xsq : Int64), K (.inl (some (.long (lI (spI (ltI pic lig) le to ri bo co ro qu p))))) (pre ++ cM xth xw xg xfo (iI le) (iI to) (iI ri) (iI bo) (iI co) (iI ro) (iI qu) xnt xfi xsg xrk xdy (iI (rcN le to ri bo co ro qu p)) xsu xsq :: aI 2700 mp :: aI 900 ml :: rest))
set_option maxHeartbeats 4000000 in
set_option maxRecDepth 100000 in
theorem c_M_spread (l : Launch) : rn_Met l y_M_spread wc_M_spread { frames := 3, cells := 0, slots := 0, locals := 53 } G_M_spread := by
  refine rn_in mw_M_spread.1 (by decide +kernel) ?_ ?_
  · intro _ av h K hG
    obtain ⟨pre, rest, xth, xw, xg, xfo, xnt, xfi, xsg, xrk, xdy, xce, xsu, xsq, mp, ml, w, g, le, to, ri, bo, co, ro, qu, p_, pic, lig, rfl, rfl, hp, hc0, hc1, hc2, hc3, k1⟩ := hG
    exact Nat.le_of_ble_eq_true rfl
  intro p e s m args below meth c z sa D dA av h K hadm C hG
  obtain ⟨pre, rest, xth, xw, xg, xfo, xnt, xfi, xsg, xrk, xdy, xce, xsu, xsq, mp, ml, w, g, le, to, ri, bo, co, ro, qu, p_, pic, lig, rfl, rfl, hp, hc0, hc1, hc2, hc3, k1⟩ := hG
  have lb : ltB (ltI pic lig) := fun x y j => ltI_in hc0.2.2.1 hc0.2.2.2 x y j
  have n1 := rcN_in hc1 hc2 hc3.1 hc3.2
  have s1 := rcS_in (f := fun x y => ltI pic lig x y 1) (fun x y => lb x y 1) hc1 hc2 hc3.1 hc3.2
  unfold spI at k1
  refine rn_aload_n C d_M_spread_0 rfl ?_
  refine rn_iload_n C d_M_spread_1 rfl ?_
  refine rn_iconst C (iI 1) d_M_spread_2 (by decide) ?_
  refine rn_cV C (c_M_gather l) mw_M_gather k_M_122 d_M_spread_3 rfl (mH 0 hp rfl rfl) rfl (Nat.le_of_ble_eq_true rfl) (Nat.le_of_ble_eq_true rfl) ⟨by decide, by decide⟩ ⟨by decide, by decide⟩ ?_
  refine ⟨_, _, _, _, _, _, _, _, _, _, _, _, _, _, _, _, _, _, _, _, _, _, _, _, _, _, _, _, _, rfl, rfl, hp, hc0, hc1, hc2, hc3, by omega, ?_⟩
  refine rn_aload_n C d_M_spread_6 rfl ?_
  refine rn_getM C hp f_M_108 d_M_spread_7 rfl ?_
  refine rn_i2l C d_M_spread_10 ?_
  rw [iI_toL ⟨by omega, by omega⟩]
  refine rn_aload_n C d_M_spread_11 rfl ?_
  refine rn_getM C hp f_M_114 d_M_spread_12 rfl ?_
  refine rn_lmul C d_M_spread_15 ?_
  refine rn_aload_n C d_M_spread_16 rfl ?_
  refine rn_getM C hp f_M_111 d_M_spread_17 rfl ?_
  refine rn_i2l C d_M_spread_20 ?_
  rw [iI_toL ⟨by omega, by omega⟩]
  refine rn_aload_n C d_M_spread_21 rfl ?_
  refine rn_getM C hp f_M_111 d_M_spread_22 rfl ?_
  refine rn_i2l C d_M_spread_25 ?_
  rw [iI_toL ⟨by omega, by omega⟩]
  refine rn_lmul C d_M_spread_26 ?_
  refine rn_lsub C d_M_spread_27 ?_
  rw [lI_mul, lI_mul, lI_sub]
  refine rn_lreturn C rfl d_M_spread_28 ⟨by decide, by decide⟩ ?_
  exact k1 _ _

def G_M_noise (av : List Value) (h : ah_H) (K : ah_R → ah_H → Prop) : Prop := ∃ (pre rest : ah_H) (xth xw xg xnt xfi xsg xrk xdy xce xsu : Int32) (xsq : Int64) (mp ml : Nat → Int32) (w g le to ri bo co ro qu fo p k : Int) (pic : Int → Int → Int → Int) (lig : Int → Int → Int), av = [.ref 21, .int (iI p), .int (iI k)] ∧ h = pre ++ cM xth xw xg (iI fo) (iI le) (iI to) (iI ri) (iI bo) (iI co) (iI ro) (iI qu) xnt xfi xsg xrk xdy xce xsu xsq :: aI 2700 mp :: aI 900 ml :: rest ∧ pre.length = 21 ∧ (inI p) ∧ (inI k) ∧ (fo = 0 ∨ fo = 1) ∧ (mpOk mp ml pic lig) ∧ (lyOk co ro qu) ∧ (fo = 1 → frOk le to ri bo w g) ∧ (¬ (0 ≤ p ∧ p < co * ro ∧ (k = 0 ∨ k = 1)) → K (.inl (some (.long (lI 0)))) (pre ++ cM (iI 1) xw xg (iI fo) (iI le) (iI to) (iI ri) (iI bo) (iI co) (iI ro) (iI qu) xnt xfi xsg xrk xdy xce xsu xsq :: aI 2700 mp :: aI 900 ml :: rest)) ∧ ((0 ≤ p ∧ p < co * ro ∧ (k = 0 ∨ k = 1)) → fo = 0 → K (.inl (some (.long (lI 0)))) (pre ++ cM (iI 2) xw xg (iI fo) (iI le) (iI to) (iI ri) (iI bo) (iI co) (iI ro) (iI qu) xnt xfi xsg xrk xdy xce xsu xsq :: aI 2700 mp :: aI 900 ml :: rest)) ∧ ((0 ≤ p ∧ p < co * ro ∧ (k = 0 ∨ k = 1)) → fo = 1 → ∀ (xce xsu : Int32) (xsq : Int64), K (.inl (some (.long (lI (lessI (spI (ltI pic lig) le to ri bo co ro qu p) (rcN le to ri bo co ro qu p * rcN le to ri bo co ro qu p) k))))) (pre ++ cM (iI 0) xw xg (iI fo) (iI le) (iI to) (iI ri) (iI bo) (iI co) (iI ro) (iI qu) xnt xfi xsg xrk xdy xce xsu xsq :: aI 2700 mp :: aI 900 ml :: rest))
set_option maxHeartbeats 4000000 in
set_option maxRecDepth 100000 in
theorem c_M_noise (l : Launch) : rn_Met l y_M_noise wc_M_noise { frames := 4, cells := 0, slots := 0, locals := 74 } G_M_noise := by
  refine rn_in mw_M_noise.1 (by decide +kernel) ?_ ?_
  · intro _ av h K hG
    obtain ⟨pre, rest, xth, xw, xg, xnt, xfi, xsg, xrk, xdy, xce, xsu, xsq, mp, ml, w, g, le, to, ri, bo, co, ro, qu, fo, p_, k, pic, lig, rfl, rfl, hp, hc0, hc1, hc2, hc3, hc4, hc5, k1, k2, k3⟩ := hG
    exact Nat.le_of_ble_eq_true rfl
  intro p e s m args below meth c z sa D dA av h K hadm C hG
  obtain ⟨pre, rest, xth, xw, xg, xnt, xfi, xsg, xrk, xdy, xce, xsu, xsq, mp, ml, w, g, le, to, ri, bo, co, ro, qu, fo, p_, k, pic, lig, rfl, rfl, hp, hc0, hc1, hc2, hc3, hc4, hc5, k1, k2, k3⟩ := hG
  have hc0a := hc0.1
  have hc0b := hc0.2
  have hc1a := hc1.1
  have hc1b := hc1.2
  rcases hc2 with rfl | rfl
  · skip
    refine rn_aload_n C d_M_noise_0 rfl ?_
    refine rn_aload_n C d_M_noise_1 rfl ?_
    refine rn_iload_n C d_M_noise_2 rfl ?_
    refine rn_cV C (c_M_isPatch l) mw_M_isPatch k_M_126 d_M_noise_3 rfl (mH 0 hp rfl rfl) rfl (Nat.le_of_ble_eq_true rfl) (Nat.le_of_ble_eq_true rfl) ⟨by decide, by decide⟩ ⟨by decide, by decide⟩ ?_
    refine ⟨_, _, _, _, _, _, _, _, _, _, _, _, _, _, _, _, _, _, _, _, _, _, rfl, rfl, hp, ⟨by omega, by omega⟩, (by assumption), fun q3 => ?_, fun q3 => ?_⟩
    · skip
      refine rn_if_eq C 22 d_M_noise_6 (by decide) (fun q => absurd q (by decide)) (fun _ => ?_)
      refine rn_iload_n C d_M_noise_9 rfl ?_
      refine rn_iconst C (iI 0) d_M_noise_10 (by decide) ?_
      refine rn_iconst C (iI 1) d_M_noise_11 (by decide) ?_
      refine rn_cS C (c2_M_within l) mw_M_within k_M_70 d_M_noise_12 (Nat.le_of_ble_eq_true rfl) (Nat.le_of_ble_eq_true rfl) ⟨by decide, by decide⟩ ⟨by decide, by decide⟩ ?_
      refine ⟨_, _, _, rfl, ⟨by omega, by omega⟩, ⟨by omega, by omega⟩, ⟨by omega, by omega⟩, fun q12 => ?_, fun q12 => ?_⟩
      · skip
        refine rn_if_eq C 22 d_M_noise_15 (by decide) (fun q => absurd q (by decide)) (fun _ => ?_)
        refine rn_iconst C (iI 1) d_M_noise_18 (by decide) ?_
        refine rn_goto C 23 d_M_noise_19 (by decide) ?_
        refine rn_aload_n C d_M_noise_23 rfl ?_
        refine rn_getM C hp f_M_101 d_M_noise_24 rfl ?_
        refine rn_iconst C (iI 1) d_M_noise_27 (by decide) ?_
        refine rn_cV C (c_M_goes l) mw_M_goes k_M_78 d_M_noise_28 rfl (mH 0 hp rfl rfl) rfl (Nat.le_of_ble_eq_true rfl) (Nat.le_of_ble_eq_true rfl) ⟨by decide, by decide⟩ ⟨by decide, by decide⟩ ?_
        refine ⟨_, _, _, _, _, _, _, _, _, _, _, _, _, _, _, _, _, _, _, _, _, _, _, _, rfl, rfl, hp, ?_⟩
        refine rn_if_ne C 36 d_M_noise_31 (by decide) (fun q => absurd rfl q) (fun _ => ?_)
        refine rn_lconst C (lI 0) d_M_noise_34 (by decide) ?_
        refine rn_lreturn C rfl d_M_noise_35 ⟨by decide, by decide⟩ ?_
        first | exact k1 (by omega) | exact k2 (by omega) rfl
      · skip
        refine rn_if_eq C 22 d_M_noise_15 (by decide) (fun _ => ?_) (fun q => absurd rfl q)
        refine rn_iconst C (iI 0) d_M_noise_22 (by decide) ?_
        refine rn_aload_n C d_M_noise_23 rfl ?_
        refine rn_getM C hp f_M_101 d_M_noise_24 rfl ?_
        refine rn_iconst C (iI 1) d_M_noise_27 (by decide) ?_
        refine rn_cV C (c_M_goes l) mw_M_goes k_M_78 d_M_noise_28 rfl (mH 0 hp rfl rfl) rfl (Nat.le_of_ble_eq_true rfl) (Nat.le_of_ble_eq_true rfl) ⟨by decide, by decide⟩ ⟨by decide, by decide⟩ ?_
        refine ⟨_, _, _, _, _, _, _, _, _, _, _, _, _, _, _, _, _, _, _, _, _, _, _, _, rfl, rfl, hp, ?_⟩
        refine rn_if_ne C 36 d_M_noise_31 (by decide) (fun q => absurd rfl q) (fun _ => ?_)
        refine rn_lconst C (lI 0) d_M_noise_34 (by decide) ?_
        refine rn_lreturn C rfl d_M_noise_35 ⟨by decide, by decide⟩ ?_
        first | exact k1 (by omega) | exact k2 (by omega) rfl
    · skip
      refine rn_if_eq C 22 d_M_noise_6 (by decide) (fun _ => ?_) (fun q => absurd rfl q)
      refine rn_iconst C (iI 0) d_M_noise_22 (by decide) ?_
      refine rn_aload_n C d_M_noise_23 rfl ?_
      refine rn_getM C hp f_M_101 d_M_noise_24 rfl ?_
      refine rn_iconst C (iI 1) d_M_noise_27 (by decide) ?_
      refine rn_cV C (c_M_goes l) mw_M_goes k_M_78 d_M_noise_28 rfl (mH 0 hp rfl rfl) rfl (Nat.le_of_ble_eq_true rfl) (Nat.le_of_ble_eq_true rfl) ⟨by decide, by decide⟩ ⟨by decide, by decide⟩ ?_
      refine ⟨_, _, _, _, _, _, _, _, _, _, _, _, _, _, _, _, _, _, _, _, _, _, _, _, rfl, rfl, hp, ?_⟩
      refine rn_if_ne C 36 d_M_noise_31 (by decide) (fun q => absurd rfl q) (fun _ => ?_)
      refine rn_lconst C (lI 0) d_M_noise_34 (by decide) ?_
      refine rn_lreturn C rfl d_M_noise_35 ⟨by decide, by decide⟩ ?_
      first | exact k1 (by omega) | exact k2 (by omega) rfl
  · skip
    refine rn_aload_n C d_M_noise_0 rfl ?_
    refine rn_aload_n C d_M_noise_1 rfl ?_
    refine rn_iload_n C d_M_noise_2 rfl ?_
    refine rn_cV C (c_M_isPatch l) mw_M_isPatch k_M_126 d_M_noise_3 rfl (mH 0 hp rfl rfl) rfl (Nat.le_of_ble_eq_true rfl) (Nat.le_of_ble_eq_true rfl) ⟨by decide, by decide⟩ ⟨by decide, by decide⟩ ?_
    refine ⟨_, _, _, _, _, _, _, _, _, _, _, _, _, _, _, _, _, _, _, _, _, _, rfl, rfl, hp, ⟨by omega, by omega⟩, (by assumption), fun q3 => ?_, fun q3 => ?_⟩
    · skip
      refine rn_if_eq C 22 d_M_noise_6 (by decide) (fun q => absurd q (by decide)) (fun _ => ?_)
      refine rn_iload_n C d_M_noise_9 rfl ?_
      refine rn_iconst C (iI 0) d_M_noise_10 (by decide) ?_
      refine rn_iconst C (iI 1) d_M_noise_11 (by decide) ?_
      refine rn_cS C (c2_M_within l) mw_M_within k_M_70 d_M_noise_12 (Nat.le_of_ble_eq_true rfl) (Nat.le_of_ble_eq_true rfl) ⟨by decide, by decide⟩ ⟨by decide, by decide⟩ ?_
      refine ⟨_, _, _, rfl, ⟨by omega, by omega⟩, ⟨by omega, by omega⟩, ⟨by omega, by omega⟩, fun q12 => ?_, fun q12 => ?_⟩
      · skip
        refine rn_if_eq C 22 d_M_noise_15 (by decide) (fun q => absurd q (by decide)) (fun _ => ?_)
        refine rn_iconst C (iI 1) d_M_noise_18 (by decide) ?_
        refine rn_goto C 23 d_M_noise_19 (by decide) ?_
        refine rn_aload_n C d_M_noise_23 rfl ?_
        refine rn_getM C hp f_M_101 d_M_noise_24 rfl ?_
        refine rn_iconst C (iI 1) d_M_noise_27 (by decide) ?_
        refine rn_cV C (c_M_goes l) mw_M_goes k_M_78 d_M_noise_28 rfl (mH 0 hp rfl rfl) rfl (Nat.le_of_ble_eq_true rfl) (Nat.le_of_ble_eq_true rfl) ⟨by decide, by decide⟩ ⟨by decide, by decide⟩ ?_
        refine ⟨_, _, _, _, _, _, _, _, _, _, _, _, _, _, _, _, _, _, _, _, _, _, _, _, rfl, rfl, hp, ?_⟩
        refine rn_if_ne C 36 d_M_noise_31 (by decide) (fun _ => ?_) (fun q => absurd q (by decide))
        have lb : ltB (ltI pic lig) := fun x y j => ltI_in hc3.2.2.1 hc3.2.2.2 x y j
        have fr := hc5 rfl
        have n1 := rcN_in fr hc4 (p := p_) (by omega) (by omega)
        have sp := spI_in lb fr hc4 (p := p_) (by omega) (by omega)
        have ba : (((spI (ltI pic lig) le to ri bo co ro qu p_).natAbs : Nat) : Int) < 9223372036854775808 := by omega
        have bb : ((((rcN le to ri bo co ro qu p_) * (rcN le to ri bo co ro qu p_)).natAbs : Nat) : Int) < 9223372036854775808 := by omega
        have gs := gcd_small ba bb
        have g0 : ¬ Int.gcd (spI (ltI pic lig) le to ri bo co ro qu p_) ((rcN le to ri bo co ro qu p_) * (rcN le to ri bo co ro qu p_)) = 0 := fun q => by have := (Int.gcd_eq_zero_iff.mp q).2; omega
        have nz : ¬ lI ((Int.gcd (spI (ltI pic lig) le to ri bo co ro qu p_) ((rcN le to ri bo co ro qu p_) * (rcN le to ri bo co ro qu p_)) : Nat) : Int) = 0 := fun q => absurd ((lI_eq ⟨by omega, by omega⟩ ⟨by omega, by omega⟩).mp (show lI ((Int.gcd (spI (ltI pic lig) le to ri bo co ro qu p_) ((rcN le to ri bo co ro qu p_) * (rcN le to ri bo co ro qu p_)) : Nat) : Int) = lI 0 from q)) (by omega)
        unfold lessI at k3
        rw [if_neg g0] at k3
        refine rn_aload_n C d_M_noise_36 rfl ?_
        refine rn_iload_n C d_M_noise_37 rfl ?_
        refine rn_cV C (c_M_spread l) mw_M_spread k_M_133 d_M_noise_38 rfl (mH 0 hp rfl rfl) rfl (Nat.le_of_ble_eq_true rfl) (Nat.le_of_ble_eq_true rfl) ⟨by decide, by decide⟩ ⟨by decide, by decide⟩ ?_
        refine ⟨_, _, _, _, _, _, _, _, _, _, _, _, _, _, _, _, _, _, _, _, _, _, _, _, _, _, _, _, rfl, rfl, hp, hc3, fr, hc4, ⟨by omega, by omega⟩, fun _ _ => ?_⟩
        refine rn_lstore_n C d_M_noise_41 (by decide) ?_
        refine rn_aload_n C d_M_noise_42 rfl ?_
        refine rn_getM C hp f_M_108 d_M_noise_43 rfl ?_
        refine rn_i2l C d_M_noise_46 ?_
        rw [iI_toL ⟨by omega, by omega⟩]
        refine rn_aload_n C d_M_noise_47 rfl ?_
        refine rn_getM C hp f_M_108 d_M_noise_48 rfl ?_
        refine rn_i2l C d_M_noise_51 ?_
        rw [iI_toL ⟨by omega, by omega⟩]
        refine rn_lmul C d_M_noise_52 ?_
        rw [lI_mul]
        refine rn_lstore C d_M_noise_53 (by decide) ?_
        refine rn_lload_n C d_M_noise_55 rfl ?_
        refine rn_lload C d_M_noise_56 rfl ?_
        refine rn_cS C (c_M_divisor l) mw_M_divisor k_M_137 d_M_noise_58 (Nat.le_of_ble_eq_true rfl) (Nat.le_of_ble_eq_true rfl) ⟨by decide, by decide⟩ ⟨by decide, by decide⟩ ?_
        refine ⟨_, _, rfl, ba, bb, ?_⟩
        refine rn_lstore C d_M_noise_61 (by decide) ?_
        refine rn_iload_n C d_M_noise_63 rfl ?_
        refine rn_if_ne C 74 d_M_noise_64 (by decide) (fun c64 => ?_) (fun c64 => ?_)
        · skip
          refine rn_lload C d_M_noise_74 rfl ?_
          refine rn_lload C d_M_noise_76 rfl ?_
          refine rn_ldiv C d_M_noise_78 nz ?_
          (try rw [lI_tdiv (inL_abs bb) ⟨by omega, gs⟩ (inL_td bb)])
          refine rn_lreturn C rfl d_M_noise_79 ⟨by decide, by decide⟩ ?_
          have kz := iI_eq0 hc1
          rw [kz] at c64
          first
            | (rw [if_pos c64] at k3; exact k3 (by omega) rfl _ _ _)
            | (rw [if_neg c64] at k3; exact k3 (by omega) rfl _ _ _)
        · skip
          refine rn_lload_n C d_M_noise_67 rfl ?_
          refine rn_lload C d_M_noise_68 rfl ?_
          refine rn_ldiv C d_M_noise_70 nz ?_
          rw [lI_tdiv (inL_abs ba) ⟨by omega, gs⟩ (inL_td ba)]
          refine rn_goto C 79 d_M_noise_71 (by decide) ?_
          (try rw [lI_tdiv (inL_abs bb) ⟨by omega, gs⟩ (inL_td bb)])
          refine rn_lreturn C rfl d_M_noise_79 ⟨by decide, by decide⟩ ?_
          have kz := iI_eq0 hc1
          rw [kz] at c64
          first
            | (rw [if_pos c64] at k3; exact k3 (by omega) rfl _ _ _)
            | (rw [if_neg c64] at k3; exact k3 (by omega) rfl _ _ _)
      · skip
        refine rn_if_eq C 22 d_M_noise_15 (by decide) (fun _ => ?_) (fun q => absurd rfl q)
        refine rn_iconst C (iI 0) d_M_noise_22 (by decide) ?_
        refine rn_aload_n C d_M_noise_23 rfl ?_
        refine rn_getM C hp f_M_101 d_M_noise_24 rfl ?_
        refine rn_iconst C (iI 1) d_M_noise_27 (by decide) ?_
        refine rn_cV C (c_M_goes l) mw_M_goes k_M_78 d_M_noise_28 rfl (mH 0 hp rfl rfl) rfl (Nat.le_of_ble_eq_true rfl) (Nat.le_of_ble_eq_true rfl) ⟨by decide, by decide⟩ ⟨by decide, by decide⟩ ?_
        refine ⟨_, _, _, _, _, _, _, _, _, _, _, _, _, _, _, _, _, _, _, _, _, _, _, _, rfl, rfl, hp, ?_⟩
        refine rn_if_ne C 36 d_M_noise_31 (by decide) (fun q => absurd rfl q) (fun _ => ?_)
        refine rn_lconst C (lI 0) d_M_noise_34 (by decide) ?_
        refine rn_lreturn C rfl d_M_noise_35 ⟨by decide, by decide⟩ ?_
        first | exact k1 (by omega) | exact k2 (by omega) rfl
    · skip
      refine rn_if_eq C 22 d_M_noise_6 (by decide) (fun _ => ?_) (fun q => absurd rfl q)
      refine rn_iconst C (iI 0) d_M_noise_22 (by decide) ?_
      refine rn_aload_n C d_M_noise_23 rfl ?_
      refine rn_getM C hp f_M_101 d_M_noise_24 rfl ?_
      refine rn_iconst C (iI 1) d_M_noise_27 (by decide) ?_
      refine rn_cV C (c_M_goes l) mw_M_goes k_M_78 d_M_noise_28 rfl (mH 0 hp rfl rfl) rfl (Nat.le_of_ble_eq_true rfl) (Nat.le_of_ble_eq_true rfl) ⟨by decide, by decide⟩ ⟨by decide, by decide⟩ ?_
      refine ⟨_, _, _, _, _, _, _, _, _, _, _, _, _, _, _, _, _, _, _, _, _, _, _, _, rfl, rfl, hp, ?_⟩
      refine rn_if_ne C 36 d_M_noise_31 (by decide) (fun q => absurd rfl q) (fun _ => ?_)
      refine rn_lconst C (lI 0) d_M_noise_34 (by decide) ?_
      refine rn_lreturn C rfl d_M_noise_35 ⟨by decide, by decide⟩ ?_
      first | exact k1 (by omega) | exact k2 (by omega) rfl

