/-! The reference: target, neutral, keep, count. Laid by wip/whole/gen_m2.py. -/
def G_M_target (av : List Value) (h : ah_H) (K : ah_R → ah_H → Prop) : Prop := ∃ (e22 e23 : ah_E) (pre rest : ah_H) (xth xw xg xfo xle xto xri xbo xco xro xqu xfi xsg xrk xdy xce xsu : Int32) (xsq : Int64) (mh mt : Nat → Int32) (nt x r g b : Int), av = [.ref 21, .int (iI x), .int (iI r), .int (iI g), .int (iI b)] ∧ h = pre ++ cM xth xw xg xfo xle xto xri xbo xco xro xqu (iI nt) xfi xsg xrk xdy xce xsu xsq :: e22 :: e23 :: aZ 16 mh :: aI 48 mt :: rest ∧ pre.length = 21 ∧ (inI x) ∧ (inI r) ∧ (inI g) ∧ (inI b) ∧ (-1 ≤ nt ∧ nt < 16) ∧ (¬ (0 ≤ x ∧ x ≤ 15) → K (.inl none) (pre ++ cM (iI 1) xw xg xfo xle xto xri xbo xco xro xqu (iI nt) xfi xsg xrk xdy xce xsu xsq :: e22 :: e23 :: aZ 16 mh :: aI 48 mt :: rest)) ∧ ((0 ≤ x ∧ x ≤ 15) → ¬ (r < 0 ∨ (r ≤ 255 ∧ 0 ≤ g ∧ g ≤ 255 ∧ 0 ≤ b ∧ b ≤ 255)) → K (.inl none) (pre ++ cM (iI 2) xw xg xfo xle xto xri xbo xco xro xqu (iI nt) xfi xsg xrk xdy xce xsu xsq :: e22 :: e23 :: aZ 16 mh :: aI 48 mt :: rest)) ∧ ((0 ≤ x ∧ x ≤ 15) → r < 0 → nt = x → K (.inl none) (pre ++ cM (iI 0) xw xg xfo xle xto xri xbo xco xro xqu (iI (-1)) xfi xsg xrk xdy xce xsu xsq :: e22 :: e23 :: aZ 16 (upd mh x.toNat (vp_nar .boolean (iI 0))) :: aI 48 (upd (upd (upd mt (3 * x).toNat (iI r)) (3 * x + 1).toNat (iI g)) (3 * x + 2).toNat (iI b)) :: rest)) ∧ ((0 ≤ x ∧ x ≤ 15) → r < 0 → ¬ nt = x → K (.inl none) (pre ++ cM (iI 0) xw xg xfo xle xto xri xbo xco xro xqu (iI nt) xfi xsg xrk xdy xce xsu xsq :: e22 :: e23 :: aZ 16 (upd mh x.toNat (vp_nar .boolean (iI 0))) :: aI 48 (upd (upd (upd mt (3 * x).toNat (iI r)) (3 * x + 1).toNat (iI g)) (3 * x + 2).toNat (iI b)) :: rest)) ∧ ((0 ≤ x ∧ x ≤ 15) → ¬ r < 0 → (r < 0 ∨ (r ≤ 255 ∧ 0 ≤ g ∧ g ≤ 255 ∧ 0 ≤ b ∧ b ≤ 255)) → K (.inl none) (pre ++ cM (iI 0) xw xg xfo xle xto xri xbo xco xro xqu (iI nt) xfi xsg xrk xdy xce xsu xsq :: e22 :: e23 :: aZ 16 (upd mh x.toNat (vp_nar .boolean (iI 1))) :: aI 48 (upd (upd (upd mt (3 * x).toNat (iI r)) (3 * x + 1).toNat (iI g)) (3 * x + 2).toNat (iI b)) :: rest))
set_option maxHeartbeats 4000000 in
set_option maxRecDepth 100000 in
theorem c_M_target (l : Launch) : rn_Met l y_M_target wc_M_target { frames := 2, cells := 0, slots := 0, locals := 23 } G_M_target := by
  refine rn_in mw_M_target.1 (by decide +kernel) ?_ ?_
  · intro _ av h K hG
    obtain ⟨e22, e23, pre, rest, xth, xw, xg, xfo, xle, xto, xri, xbo, xco, xro, xqu, xfi, xsg, xrk, xdy, xce, xsu, xsq, mh, mt, nt, x, r, g, b, rfl, rfl, hp, hc0, hc1, hc2, hc3, hc4, k1, k2, k3, k4, k5⟩ := hG
    exact Nat.le_of_ble_eq_true rfl
  intro p e s m args below meth c z sa D dA av h K hadm C hG
  obtain ⟨e22, e23, pre, rest, xth, xw, xg, xfo, xle, xto, xri, xbo, xco, xro, xqu, xfi, xsg, xrk, xdy, xce, xsu, xsq, mh, mt, nt, x, r, g, b, rfl, rfl, hp, hc0, hc1, hc2, hc3, hc4, k1, k2, k3, k4, k5⟩ := hG
  have hc0a := hc0.1
  have hc0b := hc0.2
  have hc1a := hc1.1
  have hc1b := hc1.2
  have hc2a := hc2.1
  have hc2b := hc2.2
  have hc3a := hc3.1
  have hc3b := hc3.2
  by_cases hr : r < 0
  · have hr2 := (iI_lt0 hc1).mpr hr
    refine rn_iload_n C d_M_target_0 rfl ?_
    refine rn_if_lt C 38 d_M_target_1 (by decide) (fun _ => ?_) (fun q_1 => absurd (hr2) q_1)
    refine rn_iconst C (iI 1) d_M_target_38 (by decide) ?_
    refine rn_goto C 43 d_M_target_39 (by decide) ?_
    refine rn_istore C d_M_target_43 (by decide) ?_
    refine rn_aload_n C d_M_target_45 rfl ?_
    refine rn_iload_n C d_M_target_46 rfl ?_
    refine rn_iconst C (iI 0) d_M_target_47 (by decide) ?_
    refine rn_bipush C (iI 15) d_M_target_48 (by decide) ?_
    refine rn_cS C (c2_M_within l) mw_M_within k_M_70 d_M_target_50 (Nat.le_of_ble_eq_true rfl) (Nat.le_of_ble_eq_true rfl) ⟨by decide, by decide⟩ ⟨by decide, by decide⟩ ?_
    refine ⟨_, _, _, rfl, ⟨by omega, by omega⟩, ⟨by omega, by omega⟩, ⟨by omega, by omega⟩, fun q50 => ?_, fun q50 => ?_⟩
    · skip
      refine rn_iload C d_M_target_53 rfl ?_
      refine rn_iconst C (iI 1) d_M_target_55 (by decide) ?_
      refine rn_cV C (c_M_goes l) mw_M_goes k_M_78 d_M_target_56 rfl (mH 0 hp rfl rfl) rfl (Nat.le_of_ble_eq_true rfl) (Nat.le_of_ble_eq_true rfl) ⟨by decide, by decide⟩ ⟨by decide, by decide⟩ ?_
      refine ⟨_, _, _, _, _, _, _, _, _, _, _, _, _, _, _, _, _, _, _, _, _, _, _, _, rfl, rfl, hp, ?_⟩
      refine rn_if_eq C 133 d_M_target_59 (by decide) (fun q => absurd q (by decide)) (fun _ => ?_)
      refine rn_aload_n C d_M_target_62 rfl ?_
      refine rn_getM C hp f_M_23 d_M_target_63 rfl ?_
      refine rn_iload_n C d_M_target_66 rfl ?_
      refine rn_iload_n C d_M_target_67 rfl ?_
      refine rn_if_lt C 75 d_M_target_68 (by decide) (fun _ => ?_) (fun q_68 => absurd (hr2) q_68)
      refine rn_iconst C (iI 0) d_M_target_75 (by decide) ?_
      refine rn_zsM C hp (j := 3) d_M_target_76 rfl rfl (iI_vin (by omega) (by omega) (by omega)) rfl ?_
      rw [iI_nat (by omega) (by omega)]
      refine rn_aload_n C d_M_target_77 rfl ?_
      refine rn_getM C hp f_M_27 d_M_target_78 rfl ?_
      refine rn_iconst C (iI 3) d_M_target_81 (by decide) ?_
      refine rn_iload_n C d_M_target_82 rfl ?_
      refine rn_imul C d_M_target_83 ?_
      rw [iI_mul]
      refine rn_iload_n C d_M_target_84 rfl ?_
      refine rn_isM C hp (j := 4) d_M_target_85 rfl rfl (iI_vin (by omega) (by omega) (by omega)) rfl ?_
      rw [iI_nat (by omega) (by omega)]
      refine rn_aload_n C d_M_target_86 rfl ?_
      refine rn_getM C hp f_M_27 d_M_target_87 rfl ?_
      refine rn_iconst C (iI 3) d_M_target_90 (by decide) ?_
      refine rn_iload_n C d_M_target_91 rfl ?_
      refine rn_imul C d_M_target_92 ?_
      refine rn_iconst C (iI 1) d_M_target_93 (by decide) ?_
      refine rn_iadd C d_M_target_94 ?_
      rw [iI_mul, iI_add]
      refine rn_iload_n C d_M_target_95 rfl ?_
      refine rn_isM C hp (j := 4) d_M_target_96 rfl rfl (iI_vin (by omega) (by omega) (by omega)) rfl ?_
      rw [iI_nat (by omega) (by omega)]
      refine rn_aload_n C d_M_target_97 rfl ?_
      refine rn_getM C hp f_M_27 d_M_target_98 rfl ?_
      refine rn_iconst C (iI 3) d_M_target_101 (by decide) ?_
      refine rn_iload_n C d_M_target_102 rfl ?_
      refine rn_imul C d_M_target_103 ?_
      refine rn_iconst C (iI 2) d_M_target_104 (by decide) ?_
      refine rn_iadd C d_M_target_105 ?_
      rw [iI_mul, iI_add]
      refine rn_iload C d_M_target_106 rfl ?_
      refine rn_isM C hp (j := 4) d_M_target_108 rfl rfl (iI_vin (by omega) (by omega) (by omega)) rfl ?_
      rw [iI_nat (by omega) (by omega)]
      refine rn_aload_n C d_M_target_109 rfl ?_
      refine rn_iload_n C d_M_target_110 rfl ?_
      refine rn_if_ge C 126 d_M_target_111 (by decide) (fun q_111 => absurd q_111 (fun q => absurd ((iI_ge0 hc1).mp q) (by omega))) (fun _ => ?_)
      refine rn_aload_n C d_M_target_114 rfl ?_
      refine rn_getM C hp f_M_30 d_M_target_115 rfl ?_
      refine rn_iload_n C d_M_target_118 rfl ?_
      refine rn_icmp_ne C 126 d_M_target_119 (by decide) (fun c119 => ?_) (fun c119 => ?_)
      · skip
        refine rn_aload_n C d_M_target_126 rfl ?_
        refine rn_getM C hp f_M_30 d_M_target_127 rfl ?_
        refine rn_putM C hp f_M_30 ft_M fn_M_15 d_M_target_130 (Nat.le_of_ble_eq_true rfl) (fun _ _ => ⟨rfl, rfl⟩) rfl ?_
        refine rn_return C rfl d_M_target_133 ⟨by decide, by decide⟩ ?_
        (try rw [iI_eq ⟨by omega, by omega⟩ hc0] at c119); first | exact k1 (by omega) | exact k2 (by omega) (by omega) | exact k3 (by omega) (by omega) (by omega) | exact k4 (by omega) (by omega) (by omega) | exact k5 (by omega) (by omega) (by omega)
      · skip
        refine rn_iconst C (iI (-1)) d_M_target_122 (by decide) ?_
        refine rn_goto C 130 d_M_target_123 (by decide) ?_
        refine rn_putM C hp f_M_30 ft_M fn_M_15 d_M_target_130 (Nat.le_of_ble_eq_true rfl) (fun _ _ => ⟨rfl, rfl⟩) rfl ?_
        refine rn_return C rfl d_M_target_133 ⟨by decide, by decide⟩ ?_
        (try rw [iI_eq ⟨by omega, by omega⟩ hc0] at c119); first | exact k1 (by omega) | exact k2 (by omega) (by omega) | exact k3 (by omega) (by omega) (by omega) | exact k4 (by omega) (by omega) (by omega) | exact k5 (by omega) (by omega) (by omega)
    · skip
      refine rn_iload C d_M_target_53 rfl ?_
      refine rn_iconst C (iI 1) d_M_target_55 (by decide) ?_
      refine rn_cV C (c_M_goes l) mw_M_goes k_M_78 d_M_target_56 rfl (mH 0 hp rfl rfl) rfl (Nat.le_of_ble_eq_true rfl) (Nat.le_of_ble_eq_true rfl) ⟨by decide, by decide⟩ ⟨by decide, by decide⟩ ?_
      refine ⟨_, _, _, _, _, _, _, _, _, _, _, _, _, _, _, _, _, _, _, _, _, _, _, _, rfl, rfl, hp, ?_⟩
      refine rn_if_eq C 133 d_M_target_59 (by decide) (fun _ => ?_) (fun q => absurd rfl q)
      refine rn_return C rfl d_M_target_133 ⟨by decide, by decide⟩ ?_
      (try rw [iI_eq ⟨by omega, by omega⟩ hc0] at c119); first | exact k1 (by omega) | exact k2 (by omega) (by omega) | exact k3 (by omega) (by omega) (by omega) | exact k4 (by omega) (by omega) (by omega) | exact k5 (by omega) (by omega) (by omega)
  · have hr2 : ¬ iI r < 0 := fun q => hr ((iI_lt0 hc1).mp q)
    refine rn_iload_n C d_M_target_0 rfl ?_
    refine rn_if_lt C 38 d_M_target_1 (by decide) (fun q_1 => absurd q_1 (hr2)) (fun _ => ?_)
    refine rn_iload_n C d_M_target_4 rfl ?_
    refine rn_iconst C (iI 0) d_M_target_5 (by decide) ?_
    refine rn_sipush C (iI 255) d_M_target_6 (by decide) ?_
    refine rn_cS C (c2_M_within l) mw_M_within k_M_70 d_M_target_9 (Nat.le_of_ble_eq_true rfl) (Nat.le_of_ble_eq_true rfl) ⟨by decide, by decide⟩ ⟨by decide, by decide⟩ ?_
    refine ⟨_, _, _, rfl, ⟨by omega, by omega⟩, ⟨by omega, by omega⟩, ⟨by omega, by omega⟩, fun q9 => ?_, fun q9 => ?_⟩
    · skip
      refine rn_if_eq C 42 d_M_target_12 (by decide) (fun q => absurd q (by decide)) (fun _ => ?_)
      refine rn_iload_n C d_M_target_15 rfl ?_
      refine rn_iconst C (iI 0) d_M_target_16 (by decide) ?_
      refine rn_sipush C (iI 255) d_M_target_17 (by decide) ?_
      refine rn_cS C (c2_M_within l) mw_M_within k_M_70 d_M_target_20 (Nat.le_of_ble_eq_true rfl) (Nat.le_of_ble_eq_true rfl) ⟨by decide, by decide⟩ ⟨by decide, by decide⟩ ?_
      refine ⟨_, _, _, rfl, ⟨by omega, by omega⟩, ⟨by omega, by omega⟩, ⟨by omega, by omega⟩, fun q20 => ?_, fun q20 => ?_⟩
      · skip
        refine rn_if_eq C 42 d_M_target_23 (by decide) (fun q => absurd q (by decide)) (fun _ => ?_)
        refine rn_iload C d_M_target_26 rfl ?_
        refine rn_iconst C (iI 0) d_M_target_28 (by decide) ?_
        refine rn_sipush C (iI 255) d_M_target_29 (by decide) ?_
        refine rn_cS C (c2_M_within l) mw_M_within k_M_70 d_M_target_32 (Nat.le_of_ble_eq_true rfl) (Nat.le_of_ble_eq_true rfl) ⟨by decide, by decide⟩ ⟨by decide, by decide⟩ ?_
        refine ⟨_, _, _, rfl, ⟨by omega, by omega⟩, ⟨by omega, by omega⟩, ⟨by omega, by omega⟩, fun q32 => ?_, fun q32 => ?_⟩
        · skip
          refine rn_if_eq C 42 d_M_target_35 (by decide) (fun q => absurd q (by decide)) (fun _ => ?_)
          refine rn_iconst C (iI 1) d_M_target_38 (by decide) ?_
          refine rn_goto C 43 d_M_target_39 (by decide) ?_
          refine rn_istore C d_M_target_43 (by decide) ?_
          refine rn_aload_n C d_M_target_45 rfl ?_
          refine rn_iload_n C d_M_target_46 rfl ?_
          refine rn_iconst C (iI 0) d_M_target_47 (by decide) ?_
          refine rn_bipush C (iI 15) d_M_target_48 (by decide) ?_
          refine rn_cS C (c2_M_within l) mw_M_within k_M_70 d_M_target_50 (Nat.le_of_ble_eq_true rfl) (Nat.le_of_ble_eq_true rfl) ⟨by decide, by decide⟩ ⟨by decide, by decide⟩ ?_
          refine ⟨_, _, _, rfl, ⟨by omega, by omega⟩, ⟨by omega, by omega⟩, ⟨by omega, by omega⟩, fun q50 => ?_, fun q50 => ?_⟩
          · skip
            refine rn_iload C d_M_target_53 rfl ?_
            refine rn_iconst C (iI 1) d_M_target_55 (by decide) ?_
            refine rn_cV C (c_M_goes l) mw_M_goes k_M_78 d_M_target_56 rfl (mH 0 hp rfl rfl) rfl (Nat.le_of_ble_eq_true rfl) (Nat.le_of_ble_eq_true rfl) ⟨by decide, by decide⟩ ⟨by decide, by decide⟩ ?_
            refine ⟨_, _, _, _, _, _, _, _, _, _, _, _, _, _, _, _, _, _, _, _, _, _, _, _, rfl, rfl, hp, ?_⟩
            refine rn_if_eq C 133 d_M_target_59 (by decide) (fun q => absurd q (by decide)) (fun _ => ?_)
            refine rn_aload_n C d_M_target_62 rfl ?_
            refine rn_getM C hp f_M_23 d_M_target_63 rfl ?_
            refine rn_iload_n C d_M_target_66 rfl ?_
            refine rn_iload_n C d_M_target_67 rfl ?_
            refine rn_if_lt C 75 d_M_target_68 (by decide) (fun q_68 => absurd q_68 (hr2)) (fun _ => ?_)
            refine rn_iconst C (iI 1) d_M_target_71 (by decide) ?_
            refine rn_goto C 76 d_M_target_72 (by decide) ?_
            refine rn_zsM C hp (j := 3) d_M_target_76 rfl rfl (iI_vin (by omega) (by omega) (by omega)) rfl ?_
            rw [iI_nat (by omega) (by omega)]
            refine rn_aload_n C d_M_target_77 rfl ?_
            refine rn_getM C hp f_M_27 d_M_target_78 rfl ?_
            refine rn_iconst C (iI 3) d_M_target_81 (by decide) ?_
            refine rn_iload_n C d_M_target_82 rfl ?_
            refine rn_imul C d_M_target_83 ?_
            rw [iI_mul]
            refine rn_iload_n C d_M_target_84 rfl ?_
            refine rn_isM C hp (j := 4) d_M_target_85 rfl rfl (iI_vin (by omega) (by omega) (by omega)) rfl ?_
            rw [iI_nat (by omega) (by omega)]
            refine rn_aload_n C d_M_target_86 rfl ?_
            refine rn_getM C hp f_M_27 d_M_target_87 rfl ?_
            refine rn_iconst C (iI 3) d_M_target_90 (by decide) ?_
            refine rn_iload_n C d_M_target_91 rfl ?_
            refine rn_imul C d_M_target_92 ?_
            refine rn_iconst C (iI 1) d_M_target_93 (by decide) ?_
            refine rn_iadd C d_M_target_94 ?_
            rw [iI_mul, iI_add]
            refine rn_iload_n C d_M_target_95 rfl ?_
            refine rn_isM C hp (j := 4) d_M_target_96 rfl rfl (iI_vin (by omega) (by omega) (by omega)) rfl ?_
            rw [iI_nat (by omega) (by omega)]
            refine rn_aload_n C d_M_target_97 rfl ?_
            refine rn_getM C hp f_M_27 d_M_target_98 rfl ?_
            refine rn_iconst C (iI 3) d_M_target_101 (by decide) ?_
            refine rn_iload_n C d_M_target_102 rfl ?_
            refine rn_imul C d_M_target_103 ?_
            refine rn_iconst C (iI 2) d_M_target_104 (by decide) ?_
            refine rn_iadd C d_M_target_105 ?_
            rw [iI_mul, iI_add]
            refine rn_iload C d_M_target_106 rfl ?_
            refine rn_isM C hp (j := 4) d_M_target_108 rfl rfl (iI_vin (by omega) (by omega) (by omega)) rfl ?_
            rw [iI_nat (by omega) (by omega)]
            refine rn_aload_n C d_M_target_109 rfl ?_
            refine rn_iload_n C d_M_target_110 rfl ?_
            refine rn_if_ge C 126 d_M_target_111 (by decide) (fun _ => ?_) (fun q_111 => absurd ((iI_ge0 hc1).mpr (by omega)) q_111)
            refine rn_aload_n C d_M_target_126 rfl ?_
            refine rn_getM C hp f_M_30 d_M_target_127 rfl ?_
            refine rn_putM C hp f_M_30 ft_M fn_M_15 d_M_target_130 (Nat.le_of_ble_eq_true rfl) (fun _ _ => ⟨rfl, rfl⟩) rfl ?_
            refine rn_return C rfl d_M_target_133 ⟨by decide, by decide⟩ ?_
            (try rw [iI_eq ⟨by omega, by omega⟩ hc0] at c119); first | exact k1 (by omega) | exact k2 (by omega) (by omega) | exact k3 (by omega) (by omega) (by omega) | exact k4 (by omega) (by omega) (by omega) | exact k5 (by omega) (by omega) (by omega)
          · skip
            refine rn_iload C d_M_target_53 rfl ?_
            refine rn_iconst C (iI 1) d_M_target_55 (by decide) ?_
            refine rn_cV C (c_M_goes l) mw_M_goes k_M_78 d_M_target_56 rfl (mH 0 hp rfl rfl) rfl (Nat.le_of_ble_eq_true rfl) (Nat.le_of_ble_eq_true rfl) ⟨by decide, by decide⟩ ⟨by decide, by decide⟩ ?_
            refine ⟨_, _, _, _, _, _, _, _, _, _, _, _, _, _, _, _, _, _, _, _, _, _, _, _, rfl, rfl, hp, ?_⟩
            refine rn_if_eq C 133 d_M_target_59 (by decide) (fun _ => ?_) (fun q => absurd rfl q)
            refine rn_return C rfl d_M_target_133 ⟨by decide, by decide⟩ ?_
            (try rw [iI_eq ⟨by omega, by omega⟩ hc0] at c119); first | exact k1 (by omega) | exact k2 (by omega) (by omega) | exact k3 (by omega) (by omega) (by omega) | exact k4 (by omega) (by omega) (by omega) | exact k5 (by omega) (by omega) (by omega)
        · skip
          refine rn_if_eq C 42 d_M_target_35 (by decide) (fun _ => ?_) (fun q => absurd rfl q)
          refine rn_iconst C (iI 0) d_M_target_42 (by decide) ?_
          refine rn_istore C d_M_target_43 (by decide) ?_
          refine rn_aload_n C d_M_target_45 rfl ?_
          refine rn_iload_n C d_M_target_46 rfl ?_
          refine rn_iconst C (iI 0) d_M_target_47 (by decide) ?_
          refine rn_bipush C (iI 15) d_M_target_48 (by decide) ?_
          refine rn_cS C (c2_M_within l) mw_M_within k_M_70 d_M_target_50 (Nat.le_of_ble_eq_true rfl) (Nat.le_of_ble_eq_true rfl) ⟨by decide, by decide⟩ ⟨by decide, by decide⟩ ?_
          refine ⟨_, _, _, rfl, ⟨by omega, by omega⟩, ⟨by omega, by omega⟩, ⟨by omega, by omega⟩, fun q50 => ?_, fun q50 => ?_⟩
          · skip
            refine rn_iload C d_M_target_53 rfl ?_
            refine rn_iconst C (iI 1) d_M_target_55 (by decide) ?_
            refine rn_cV C (c_M_goes l) mw_M_goes k_M_78 d_M_target_56 rfl (mH 0 hp rfl rfl) rfl (Nat.le_of_ble_eq_true rfl) (Nat.le_of_ble_eq_true rfl) ⟨by decide, by decide⟩ ⟨by decide, by decide⟩ ?_
            refine ⟨_, _, _, _, _, _, _, _, _, _, _, _, _, _, _, _, _, _, _, _, _, _, _, _, rfl, rfl, hp, ?_⟩
            refine rn_if_eq C 133 d_M_target_59 (by decide) (fun _ => ?_) (fun q => absurd rfl q)
            refine rn_return C rfl d_M_target_133 ⟨by decide, by decide⟩ ?_
            (try rw [iI_eq ⟨by omega, by omega⟩ hc0] at c119); first | exact k1 (by omega) | exact k2 (by omega) (by omega) | exact k3 (by omega) (by omega) (by omega) | exact k4 (by omega) (by omega) (by omega) | exact k5 (by omega) (by omega) (by omega)
          · skip
            refine rn_iload C d_M_target_53 rfl ?_
            refine rn_iconst C (iI 1) d_M_target_55 (by decide) ?_
            refine rn_cV C (c_M_goes l) mw_M_goes k_M_78 d_M_target_56 rfl (mH 0 hp rfl rfl) rfl (Nat.le_of_ble_eq_true rfl) (Nat.le_of_ble_eq_true rfl) ⟨by decide, by decide⟩ ⟨by decide, by decide⟩ ?_
            refine ⟨_, _, _, _, _, _, _, _, _, _, _, _, _, _, _, _, _, _, _, _, _, _, _, _, rfl, rfl, hp, ?_⟩
            refine rn_if_eq C 133 d_M_target_59 (by decide) (fun _ => ?_) (fun q => absurd rfl q)
            refine rn_return C rfl d_M_target_133 ⟨by decide, by decide⟩ ?_
            (try rw [iI_eq ⟨by omega, by omega⟩ hc0] at c119); first | exact k1 (by omega) | exact k2 (by omega) (by omega) | exact k3 (by omega) (by omega) (by omega) | exact k4 (by omega) (by omega) (by omega) | exact k5 (by omega) (by omega) (by omega)
      · skip
        refine rn_if_eq C 42 d_M_target_23 (by decide) (fun _ => ?_) (fun q => absurd rfl q)
        refine rn_iconst C (iI 0) d_M_target_42 (by decide) ?_
        refine rn_istore C d_M_target_43 (by decide) ?_
        refine rn_aload_n C d_M_target_45 rfl ?_
        refine rn_iload_n C d_M_target_46 rfl ?_
        refine rn_iconst C (iI 0) d_M_target_47 (by decide) ?_
        refine rn_bipush C (iI 15) d_M_target_48 (by decide) ?_
        refine rn_cS C (c2_M_within l) mw_M_within k_M_70 d_M_target_50 (Nat.le_of_ble_eq_true rfl) (Nat.le_of_ble_eq_true rfl) ⟨by decide, by decide⟩ ⟨by decide, by decide⟩ ?_
        refine ⟨_, _, _, rfl, ⟨by omega, by omega⟩, ⟨by omega, by omega⟩, ⟨by omega, by omega⟩, fun q50 => ?_, fun q50 => ?_⟩
        · skip
          refine rn_iload C d_M_target_53 rfl ?_
          refine rn_iconst C (iI 1) d_M_target_55 (by decide) ?_
          refine rn_cV C (c_M_goes l) mw_M_goes k_M_78 d_M_target_56 rfl (mH 0 hp rfl rfl) rfl (Nat.le_of_ble_eq_true rfl) (Nat.le_of_ble_eq_true rfl) ⟨by decide, by decide⟩ ⟨by decide, by decide⟩ ?_
          refine ⟨_, _, _, _, _, _, _, _, _, _, _, _, _, _, _, _, _, _, _, _, _, _, _, _, rfl, rfl, hp, ?_⟩
          refine rn_if_eq C 133 d_M_target_59 (by decide) (fun _ => ?_) (fun q => absurd rfl q)
          refine rn_return C rfl d_M_target_133 ⟨by decide, by decide⟩ ?_
          (try rw [iI_eq ⟨by omega, by omega⟩ hc0] at c119); first | exact k1 (by omega) | exact k2 (by omega) (by omega) | exact k3 (by omega) (by omega) (by omega) | exact k4 (by omega) (by omega) (by omega) | exact k5 (by omega) (by omega) (by omega)
        · skip
          refine rn_iload C d_M_target_53 rfl ?_
          refine rn_iconst C (iI 1) d_M_target_55 (by decide) ?_
          refine rn_cV C (c_M_goes l) mw_M_goes k_M_78 d_M_target_56 rfl (mH 0 hp rfl rfl) rfl (Nat.le_of_ble_eq_true rfl) (Nat.le_of_ble_eq_true rfl) ⟨by decide, by decide⟩ ⟨by decide, by decide⟩ ?_
          refine ⟨_, _, _, _, _, _, _, _, _, _, _, _, _, _, _, _, _, _, _, _, _, _, _, _, rfl, rfl, hp, ?_⟩
          refine rn_if_eq C 133 d_M_target_59 (by decide) (fun _ => ?_) (fun q => absurd rfl q)
          refine rn_return C rfl d_M_target_133 ⟨by decide, by decide⟩ ?_
          (try rw [iI_eq ⟨by omega, by omega⟩ hc0] at c119); first | exact k1 (by omega) | exact k2 (by omega) (by omega) | exact k3 (by omega) (by omega) (by omega) | exact k4 (by omega) (by omega) (by omega) | exact k5 (by omega) (by omega) (by omega)
    · skip
      refine rn_if_eq C 42 d_M_target_12 (by decide) (fun _ => ?_) (fun q => absurd rfl q)
      refine rn_iconst C (iI 0) d_M_target_42 (by decide) ?_
      refine rn_istore C d_M_target_43 (by decide) ?_
      refine rn_aload_n C d_M_target_45 rfl ?_
      refine rn_iload_n C d_M_target_46 rfl ?_
      refine rn_iconst C (iI 0) d_M_target_47 (by decide) ?_
      refine rn_bipush C (iI 15) d_M_target_48 (by decide) ?_
      refine rn_cS C (c2_M_within l) mw_M_within k_M_70 d_M_target_50 (Nat.le_of_ble_eq_true rfl) (Nat.le_of_ble_eq_true rfl) ⟨by decide, by decide⟩ ⟨by decide, by decide⟩ ?_
      refine ⟨_, _, _, rfl, ⟨by omega, by omega⟩, ⟨by omega, by omega⟩, ⟨by omega, by omega⟩, fun q50 => ?_, fun q50 => ?_⟩
      · skip
        refine rn_iload C d_M_target_53 rfl ?_
        refine rn_iconst C (iI 1) d_M_target_55 (by decide) ?_
        refine rn_cV C (c_M_goes l) mw_M_goes k_M_78 d_M_target_56 rfl (mH 0 hp rfl rfl) rfl (Nat.le_of_ble_eq_true rfl) (Nat.le_of_ble_eq_true rfl) ⟨by decide, by decide⟩ ⟨by decide, by decide⟩ ?_
        refine ⟨_, _, _, _, _, _, _, _, _, _, _, _, _, _, _, _, _, _, _, _, _, _, _, _, rfl, rfl, hp, ?_⟩
        refine rn_if_eq C 133 d_M_target_59 (by decide) (fun _ => ?_) (fun q => absurd rfl q)
        refine rn_return C rfl d_M_target_133 ⟨by decide, by decide⟩ ?_
        (try rw [iI_eq ⟨by omega, by omega⟩ hc0] at c119); first | exact k1 (by omega) | exact k2 (by omega) (by omega) | exact k3 (by omega) (by omega) (by omega) | exact k4 (by omega) (by omega) (by omega) | exact k5 (by omega) (by omega) (by omega)
      · skip
        refine rn_iload C d_M_target_53 rfl ?_
        refine rn_iconst C (iI 1) d_M_target_55 (by decide) ?_
        refine rn_cV C (c_M_goes l) mw_M_goes k_M_78 d_M_target_56 rfl (mH 0 hp rfl rfl) rfl (Nat.le_of_ble_eq_true rfl) (Nat.le_of_ble_eq_true rfl) ⟨by decide, by decide⟩ ⟨by decide, by decide⟩ ?_
        refine ⟨_, _, _, _, _, _, _, _, _, _, _, _, _, _, _, _, _, _, _, _, _, _, _, _, rfl, rfl, hp, ?_⟩
        refine rn_if_eq C 133 d_M_target_59 (by decide) (fun _ => ?_) (fun q => absurd rfl q)
        refine rn_return C rfl d_M_target_133 ⟨by decide, by decide⟩ ?_
        (try rw [iI_eq ⟨by omega, by omega⟩ hc0] at c119); first | exact k1 (by omega) | exact k2 (by omega) (by omega) | exact k3 (by omega) (by omega) (by omega) | exact k4 (by omega) (by omega) (by omega) | exact k5 (by omega) (by omega) (by omega)

def G_M_neutral (av : List Value) (h : ah_H) (K : ah_R → ah_H → Prop) : Prop := ∃ (e22 e23 : ah_E) (pre rest : ah_H) (xth xw xg xfo xle xto xri xbo xco xro xqu xfi xsg xrk xdy xce xsu : Int32) (xsq : Int64) (mh : Nat → Int32) (nt x : Int) (has : Int → Bool), av = [.ref 21, .int (iI x)] ∧ h = pre ++ cM xth xw xg xfo xle xto xri xbo xco xro xqu (iI nt) xfi xsg xrk xdy xce xsu xsq :: e22 :: e23 :: aZ 16 mh :: rest ∧ pre.length = 21 ∧ (inI x) ∧ (zOk 16 mh has) ∧ (¬ (-1 ≤ x ∧ x ≤ 15) → K (.inl (some (.int (iI 0)))) (pre ++ cM (iI 1) xw xg xfo xle xto xri xbo xco xro xqu (iI nt) xfi xsg xrk xdy xce xsu xsq :: e22 :: e23 :: aZ 16 mh :: rest)) ∧ ((0 ≤ x ∧ x ≤ 15) → has x = false → K (.inl (some (.int (iI 0)))) (pre ++ cM (iI 2) xw xg xfo xle xto xri xbo xco xro xqu (iI nt) xfi xsg xrk xdy xce xsu xsq :: e22 :: e23 :: aZ 16 mh :: rest)) ∧ ((x = -1 ∨ (0 ≤ x ∧ x ≤ 15 ∧ has x = true)) → K (.inl (some (.int (iI nt)))) (pre ++ cM (iI 0) xw xg xfo xle xto xri xbo xco xro xqu (iI x) xfi xsg xrk xdy xce xsu xsq :: e22 :: e23 :: aZ 16 mh :: rest))
set_option maxHeartbeats 4000000 in
set_option maxRecDepth 100000 in
theorem c_M_neutral (l : Launch) : rn_Met l y_M_neutral wc_M_neutral { frames := 2, cells := 0, slots := 0, locals := 23 } G_M_neutral := by
  refine rn_in mw_M_neutral.1 (by decide +kernel) ?_ ?_
  · intro _ av h K hG
    obtain ⟨e22, e23, pre, rest, xth, xw, xg, xfo, xle, xto, xri, xbo, xco, xro, xqu, xfi, xsg, xrk, xdy, xce, xsu, xsq, mh, nt, x, has, rfl, rfl, hp, hc0, hc1, k1, k2, k3⟩ := hG
    exact Nat.le_of_ble_eq_true rfl
  intro p e s m args below meth c z sa D dA av h K hadm C hG
  obtain ⟨e22, e23, pre, rest, xth, xw, xg, xfo, xle, xto, xri, xbo, xco, xro, xqu, xfi, xsg, xrk, xdy, xce, xsu, xsq, mh, nt, x, has, rfl, rfl, hp, hc0, hc1, k1, k2, k3⟩ := hG
  have hc0a := hc0.1
  have hc0b := hc0.2
  refine rn_iload_n C d_M_neutral_0 rfl ?_
  refine rn_iconst C (iI (-1)) d_M_neutral_1 (by decide) ?_
  refine rn_bipush C (iI 15) d_M_neutral_2 (by decide) ?_
  refine rn_cS C (c2_M_within l) mw_M_within k_M_70 d_M_neutral_4 (Nat.le_of_ble_eq_true rfl) (Nat.le_of_ble_eq_true rfl) ⟨by decide, by decide⟩ ⟨by decide, by decide⟩ ?_
  refine ⟨_, _, _, rfl, ⟨by omega, by omega⟩, ⟨by omega, by omega⟩, ⟨by omega, by omega⟩, fun q4 => ?_, fun q4 => ?_⟩
  · skip
    refine rn_istore_n C d_M_neutral_7 (by decide) ?_
    refine rn_aload_n C d_M_neutral_8 rfl ?_
    refine rn_iload_n C d_M_neutral_9 rfl ?_
    refine rn_iload_n C d_M_neutral_10 rfl ?_
    refine rn_if_eq C 41 d_M_neutral_11 (by decide) (fun q => absurd q (by decide)) (fun _ => ?_)
    refine rn_iload_n C d_M_neutral_14 rfl ?_
    refine rn_iconst C (iI (-1)) d_M_neutral_15 (by decide) ?_
    refine rn_icmp_eq C 37 d_M_neutral_16 (by decide) (fun c16 => ?_) (fun c16 => ?_)
    · skip
      (try rw [iI_eq hc0 ⟨by omega, by omega⟩] at c16)
      refine rn_iconst C (iI 1) d_M_neutral_37 (by decide) ?_
      refine rn_goto C 42 d_M_neutral_38 (by decide) ?_
      refine rn_iconst C (iI 1) d_M_neutral_42 (by decide) ?_
      refine rn_cV C (c_M_goes l) mw_M_goes k_M_78 d_M_neutral_43 rfl (mH 0 hp rfl rfl) rfl (Nat.le_of_ble_eq_true rfl) (Nat.le_of_ble_eq_true rfl) ⟨by decide, by decide⟩ ⟨by decide, by decide⟩ ?_
      refine ⟨_, _, _, _, _, _, _, _, _, _, _, _, _, _, _, _, _, _, _, _, _, _, _, _, rfl, rfl, hp, ?_⟩
      refine rn_if_ne C 51 d_M_neutral_46 (by decide) (fun _ => ?_) (fun q => absurd q (by decide))
      refine rn_aload_n C d_M_neutral_51 rfl ?_
      refine rn_getM C hp f_M_30 d_M_neutral_52 rfl ?_
      refine rn_istore_n C d_M_neutral_55 (by decide) ?_
      refine rn_aload_n C d_M_neutral_56 rfl ?_
      refine rn_iload_n C d_M_neutral_57 rfl ?_
      refine rn_putM C hp f_M_30 ft_M fn_M_15 d_M_neutral_58 (Nat.le_of_ble_eq_true rfl) (fun _ _ => ⟨rfl, rfl⟩) rfl ?_
      refine rn_iload_n C d_M_neutral_61 rfl ?_
      refine rn_ireturn C rfl rfl d_M_neutral_62 ⟨by decide, by decide⟩ ?_
      first | exact k3 (Or.inl c16) | exact k3 (Or.inr ⟨by omega, by omega, has1 c34⟩)
    · skip
      rw [iI_eq hc0 ⟨by omega, by omega⟩] at c16
      have hzi := hc1 x (by omega) (by omega)
      refine rn_aload_n C d_M_neutral_19 rfl ?_
      refine rn_getM C hp f_M_23 d_M_neutral_20 rfl ?_
      refine rn_iload_n C d_M_neutral_23 rfl ?_
      refine rn_iconst C (iI (-1)) d_M_neutral_24 (by decide) ?_
      refine rn_icmp_ne C 32 d_M_neutral_25 (by decide) (fun _ => ?_) (fun w => absurd ((iI_eq hc0 ⟨by omega, by omega⟩).mp w) c16)
      refine rn_iload_n C d_M_neutral_32 rfl ?_
      refine rn_zaM C hp (j := 3) d_M_neutral_33 rfl rfl (iI_vin (by omega) (by omega) (by omega)) ?_
      rw [iI_nat (by omega) (by omega), hzi]
      refine rn_if_eq C 41 d_M_neutral_34 (by decide) (fun c34 => ?_) (fun c34 => ?_)
      · skip
        refine rn_iconst C (iI 0) d_M_neutral_41 (by decide) ?_
        refine rn_iconst C (iI 1) d_M_neutral_42 (by decide) ?_
        refine rn_cV C (c_M_goes l) mw_M_goes k_M_78 d_M_neutral_43 rfl (mH 0 hp rfl rfl) rfl (Nat.le_of_ble_eq_true rfl) (Nat.le_of_ble_eq_true rfl) ⟨by decide, by decide⟩ ⟨by decide, by decide⟩ ?_
        refine ⟨_, _, _, _, _, _, _, _, _, _, _, _, _, _, _, _, _, _, _, _, _, _, _, _, rfl, rfl, hp, ?_⟩
        refine rn_if_ne C 51 d_M_neutral_46 (by decide) (fun q => absurd rfl q) (fun _ => ?_)
        refine rn_iconst C (iI 0) d_M_neutral_49 (by decide) ?_
        refine rn_ireturn C rfl rfl d_M_neutral_50 ⟨by decide, by decide⟩ ?_
        first | exact k1 (by omega) | exact k2 (by omega) (has0 c34)
      · skip
        (try rw [iI_eq hc0 ⟨by omega, by omega⟩] at c16)
        refine rn_iconst C (iI 1) d_M_neutral_37 (by decide) ?_
        refine rn_goto C 42 d_M_neutral_38 (by decide) ?_
        refine rn_iconst C (iI 1) d_M_neutral_42 (by decide) ?_
        refine rn_cV C (c_M_goes l) mw_M_goes k_M_78 d_M_neutral_43 rfl (mH 0 hp rfl rfl) rfl (Nat.le_of_ble_eq_true rfl) (Nat.le_of_ble_eq_true rfl) ⟨by decide, by decide⟩ ⟨by decide, by decide⟩ ?_
        refine ⟨_, _, _, _, _, _, _, _, _, _, _, _, _, _, _, _, _, _, _, _, _, _, _, _, rfl, rfl, hp, ?_⟩
        refine rn_if_ne C 51 d_M_neutral_46 (by decide) (fun _ => ?_) (fun q => absurd q (by decide))
        refine rn_aload_n C d_M_neutral_51 rfl ?_
        refine rn_getM C hp f_M_30 d_M_neutral_52 rfl ?_
        refine rn_istore_n C d_M_neutral_55 (by decide) ?_
        refine rn_aload_n C d_M_neutral_56 rfl ?_
        refine rn_iload_n C d_M_neutral_57 rfl ?_
        refine rn_putM C hp f_M_30 ft_M fn_M_15 d_M_neutral_58 (Nat.le_of_ble_eq_true rfl) (fun _ _ => ⟨rfl, rfl⟩) rfl ?_
        refine rn_iload_n C d_M_neutral_61 rfl ?_
        refine rn_ireturn C rfl rfl d_M_neutral_62 ⟨by decide, by decide⟩ ?_
        first | exact k3 (Or.inl c16) | exact k3 (Or.inr ⟨by omega, by omega, has1 c34⟩)
  · skip
    refine rn_istore_n C d_M_neutral_7 (by decide) ?_
    refine rn_aload_n C d_M_neutral_8 rfl ?_
    refine rn_iload_n C d_M_neutral_9 rfl ?_
    refine rn_iload_n C d_M_neutral_10 rfl ?_
    refine rn_if_eq C 41 d_M_neutral_11 (by decide) (fun _ => ?_) (fun q => absurd rfl q)
    refine rn_iconst C (iI 0) d_M_neutral_41 (by decide) ?_
    refine rn_iconst C (iI 1) d_M_neutral_42 (by decide) ?_
    refine rn_cV C (c_M_goes l) mw_M_goes k_M_78 d_M_neutral_43 rfl (mH 0 hp rfl rfl) rfl (Nat.le_of_ble_eq_true rfl) (Nat.le_of_ble_eq_true rfl) ⟨by decide, by decide⟩ ⟨by decide, by decide⟩ ?_
    refine ⟨_, _, _, _, _, _, _, _, _, _, _, _, _, _, _, _, _, _, _, _, _, _, _, _, rfl, rfl, hp, ?_⟩
    refine rn_if_ne C 51 d_M_neutral_46 (by decide) (fun q => absurd rfl q) (fun _ => ?_)
    refine rn_iconst C (iI 0) d_M_neutral_49 (by decide) ?_
    refine rn_ireturn C rfl rfl d_M_neutral_50 ⟨by decide, by decide⟩ ?_
    first | exact k1 (by omega) | exact k2 (by omega) (has0 c34)

def G_M_keep (av : List Value) (h : ah_H) (K : ah_R → ah_H → Prop) : Prop := ∃ (e22 e23 e24 e25 : ah_E) (pre rest : ah_H) (xth xw xg xfo xle xto xri xbo xco xro xqu xnt xfi xsg xrk xdy xce xsu : Int32) (xsq : Int64) (ma mb md : Nat → Int64) (p a b d : Int), av = [.ref 21, .int (iI p), .long (lI a), .long (lI b), .long (lI d)] ∧ h = pre ++ cM xth xw xg xfo xle xto xri xbo xco xro xqu xnt xfi xsg xrk xdy xce xsu xsq :: e22 :: e23 :: e24 :: e25 :: aL 3 ma :: aL 3 mb :: aL 3 md :: rest ∧ pre.length = 21 ∧ (0 ≤ p ∧ p < 3) ∧ (bL a) ∧ (bL b) ∧ (bL d) ∧ (0 < d) ∧ (K (.inl none) (pre ++ cM xth xw xg xfo xle xto xri xbo xco xro xqu xnt xfi xsg xrk xdy xce xsu xsq :: e22 :: e23 :: e24 :: e25 :: aL 3 (vp_updL ma p.toNat (lI (a.tdiv (gcd3 a b d)))) :: aL 3 (vp_updL mb p.toNat (lI (b.tdiv (gcd3 a b d)))) :: aL 3 (vp_updL md p.toNat (lI (d.tdiv (gcd3 a b d)))) :: rest))
set_option maxHeartbeats 4000000 in
set_option maxRecDepth 100000 in
theorem c_M_keep (l : Launch) : rn_Met l y_M_keep wc_M_keep { frames := 2, cells := 0, slots := 0, locals := 29 } G_M_keep := by
  refine rn_in mw_M_keep.1 (by decide +kernel) ?_ ?_
  · intro _ av h K hG
    obtain ⟨e22, e23, e24, e25, pre, rest, xth, xw, xg, xfo, xle, xto, xri, xbo, xco, xro, xqu, xnt, xfi, xsg, xrk, xdy, xce, xsu, xsq, ma, mb, md, p_, a, b, d, rfl, rfl, hp, hc0, hc1, hc2, hc3, hc4, k1⟩ := hG
    exact Nat.le_of_ble_eq_true rfl
  intro p e s m args below meth c z sa D dA av h K hadm C hG
  obtain ⟨e22, e23, e24, e25, pre, rest, xth, xw, xg, xfo, xle, xto, xri, xbo, xco, xro, xqu, xnt, xfi, xsg, xrk, xdy, xce, xsu, xsq, ma, mb, md, p_, a, b, d, rfl, rfl, hp, hc0, hc1, hc2, hc3, hc4, k1⟩ := hG
  have vp : vp_in (iI p_) 3 := iI_vin (by omega) (by omega) (by omega)
  have en : (iI p_).toNatClampNeg = p_.toNat := iI_nat (by omega) (by omega)
  have ga := bL_abs hc1
  have gb := bL_abs hc2
  have gd := bL_abs hc3
  have gg := gcd_small ga gb
  have g3 := gcd3_pos (a := a) (b := b) hc4
  have g4 := gcd3_le (a := a) (b := b) hc4
  have hl : gcd3 a b d < 9223372036854775808 := by omega
  have nz : ¬ lI (gcd3 a b d) = 0 := fun q => absurd ((lI_eq ⟨by omega, by omega⟩ ⟨by omega, by omega⟩).mp (show lI (gcd3 a b d) = lI 0 from q)) (by omega)
  rw [show p_.toNat = (iI p_).toNatClampNeg from en.symm, ← lI_tdiv (inL_abs ga) ⟨by omega, hl⟩ (inL_td ga), ← lI_tdiv (inL_abs gb) ⟨by omega, hl⟩ (inL_td gb), ← lI_tdiv (inL_abs gd) ⟨by omega, hl⟩ (inL_td gd)] at k1
  refine rn_lload_n C d_M_keep_0 rfl ?_
  refine rn_lload C d_M_keep_1 rfl ?_
  refine rn_cS C (c_M_divisor l) mw_M_divisor k_M_137 d_M_keep_3 (Nat.le_of_ble_eq_true rfl) (Nat.le_of_ble_eq_true rfl) ⟨by decide, by decide⟩ ⟨by decide, by decide⟩ ?_
  refine ⟨_, _, rfl, ga, gb, ?_⟩
  refine rn_lload C d_M_keep_6 rfl ?_
  refine rn_cS C (c_M_divisor l) mw_M_divisor k_M_137 d_M_keep_8 (Nat.le_of_ble_eq_true rfl) (Nat.le_of_ble_eq_true rfl) ⟨by decide, by decide⟩ ⟨by decide, by decide⟩ ?_
  refine ⟨_, _, rfl, by simpa using gg, gd, ?_⟩
  show Run p l e _ s m args below meth c z sa D dA _ _ K _ _ _ [.long (lI (gcd3 a b d))] _ _ _
  refine rn_lstore C d_M_keep_11 (by decide) ?_
  refine rn_aload_n C d_M_keep_13 rfl ?_
  refine rn_getM C hp f_M_33 d_M_keep_14 rfl ?_
  refine rn_iload_n C d_M_keep_17 rfl ?_
  refine rn_lload_n C d_M_keep_18 rfl ?_
  refine rn_lload C d_M_keep_19 rfl ?_
  refine rn_ldiv C d_M_keep_21 nz ?_
  refine rn_lsM C hp (j := 5) d_M_keep_22 rfl rfl vp rfl ?_
  refine rn_aload_n C d_M_keep_23 rfl ?_
  refine rn_getM C hp f_M_37 d_M_keep_24 rfl ?_
  refine rn_iload_n C d_M_keep_27 rfl ?_
  refine rn_lload C d_M_keep_28 rfl ?_
  refine rn_lload C d_M_keep_30 rfl ?_
  refine rn_ldiv C d_M_keep_32 nz ?_
  refine rn_lsM C hp (j := 6) d_M_keep_33 rfl rfl vp rfl ?_
  refine rn_aload_n C d_M_keep_34 rfl ?_
  refine rn_getM C hp f_M_40 d_M_keep_35 rfl ?_
  refine rn_iload_n C d_M_keep_38 rfl ?_
  refine rn_lload C d_M_keep_39 rfl ?_
  refine rn_lload C d_M_keep_41 rfl ?_
  refine rn_ldiv C d_M_keep_43 nz ?_
  refine rn_lsM C hp (j := 7) d_M_keep_44 rfl rfl vp rfl ?_
  refine rn_return C rfl d_M_keep_45 ⟨by decide, by decide⟩ ?_
  exact k1

def G_M_count (av : List Value) (h : ah_H) (K : ah_R → ah_H → Prop) : Prop := ∃ (e22 e23 : ah_E) (pre rest : ah_H) (xth xfo xle xto xri xbo xco xro xqu xnt xfi xce xsu : Int32) (xsq : Int64) (mh : Nat → Int32) (w g rk dy sg t : Int) (has : Int → Bool), av = [.ref 21, .int (iI t)] ∧ h = pre ++ cM xth (iI w) (iI g) xfo xle xto xri xbo xco xro xqu xnt xfi (iI sg) (iI rk) (iI dy) xce xsu xsq :: e22 :: e23 :: aZ 16 mh :: rest ∧ pre.length = 21 ∧ (inI t) ∧ (zOk 16 mh has) ∧ (¬ (0 ≤ t ∧ t ≤ 5) → K (.inl (some (.int (iI 0)))) (pre ++ cM (iI 1) (iI w) (iI g) xfo xle xto xri xbo xco xro xqu xnt xfi (iI sg) (iI rk) (iI dy) xce xsu xsq :: e22 :: e23 :: aZ 16 mh :: rest)) ∧ (t = 0 → K (.inl (some (.int (iI (w))))) (pre ++ cM (iI 0) (iI w) (iI g) xfo xle xto xri xbo xco xro xqu xnt xfi (iI sg) (iI rk) (iI dy) xce xsu xsq :: e22 :: e23 :: aZ 16 mh :: rest)) ∧ (t = 1 → K (.inl (some (.int (iI (g))))) (pre ++ cM (iI 0) (iI w) (iI g) xfo xle xto xri xbo xco xro xqu xnt xfi (iI sg) (iI rk) (iI dy) xce xsu xsq :: e22 :: e23 :: aZ 16 mh :: rest)) ∧ (t = 2 → K (.inl (some (.int (iI (sm (fun p => bI (has p)) 0 16))))) (pre ++ cM (iI 0) (iI w) (iI g) xfo xle xto xri xbo xco xro xqu xnt xfi (iI sg) (iI rk) (iI dy) xce xsu xsq :: e22 :: e23 :: aZ 16 mh :: rest)) ∧ (t = 3 → K (.inl (some (.int (iI (rk))))) (pre ++ cM (iI 0) (iI w) (iI g) xfo xle xto xri xbo xco xro xqu xnt xfi (iI sg) (iI rk) (iI dy) xce xsu xsq :: e22 :: e23 :: aZ 16 mh :: rest)) ∧ (t = 4 → K (.inl (some (.int (iI (dy))))) (pre ++ cM (iI 0) (iI w) (iI g) xfo xle xto xri xbo xco xro xqu xnt xfi (iI sg) (iI rk) (iI dy) xce xsu xsq :: e22 :: e23 :: aZ 16 mh :: rest)) ∧ (t = 5 → K (.inl (some (.int (iI (sg))))) (pre ++ cM (iI 0) (iI w) (iI g) xfo xle xto xri xbo xco xro xqu xnt xfi (iI sg) (iI rk) (iI dy) xce xsu xsq :: e22 :: e23 :: aZ 16 mh :: rest))
set_option maxHeartbeats 4000000 in
set_option maxRecDepth 100000 in
theorem c_M_count (l : Launch) : rn_Met l y_M_count wc_M_count { frames := 2, cells := 0, slots := 0, locals := 23 } G_M_count := by
  refine rn_in mw_M_count.1 (by decide +kernel) ?_ ?_
  · intro _ av h K hG
    obtain ⟨e22, e23, pre, rest, xth, xfo, xle, xto, xri, xbo, xco, xro, xqu, xnt, xfi, xce, xsu, xsq, mh, w, g, rk, dy, sg, t, has, rfl, rfl, hp, hc0, hc1, k1, k2, k3, k4, k5, k6, k7⟩ := hG
    exact Nat.le_of_ble_eq_true rfl
  intro p e s m args below meth c z sa D dA av h K hadm C hG
  obtain ⟨e22, e23, pre, rest, xth, xfo, xle, xto, xri, xbo, xco, xro, xqu, xnt, xfi, xce, xsu, xsq, mh, w, g, rk, dy, sg, t, has, rfl, rfl, hp, hc0, hc1, k1, k2, k3, k4, k5, k6, k7⟩ := hG
  have hc0a := hc0.1
  have hc0b := hc0.2
  have loop : (0 ≤ t ∧ t ≤ 5) → ∀ (k : Nat) (i a : Int), i + k = 16 → 0 ≤ i → 0 ≤ a → a ≤ i → a + sm (fun p => bI (has p)) i k = sm (fun p => bI (has p)) 0 16 → Run p l e { frames := 2, cells := 0, slots := 0, locals := 23 } s m args below meth c z sa D dA 0 0 K 4 21 [some (.ref 21), some (.int (iI t)), some (.int (iI (a))), some (.int (iI (i)))] [] (pre ++ cM (iI 0) (iI w) (iI g) xfo xle xto xri xbo xco xro xqu xnt xfi (iI sg) (iI rk) (iI dy) xce xsu xsq :: e22 :: e23 :: aZ 16 mh :: rest) 0 0 := by
    intro ht k
    induction k with
    | zero =>
      intro i a hi h0 ha ha2 hs
      rw [sm, Int.add_zero] at hs
      rw [← hs] at k4
      have ti := iI_toInt hc0
      refine rn_iload_n C d_M_count_21 rfl ?_
      refine rn_bipush C (iI 16) d_M_count_22 (by decide) ?_
      refine rn_icmp_ge C 50 d_M_count_24 (by decide) (fun _ => ?_) (fun q_24 => absurd ((iI_le ⟨by omega, by omega⟩ ⟨by omega, by omega⟩).mpr (by omega)) q_24)
      refine rn_iload_n C d_M_count_50 rfl ?_
      by_cases t51 : (iI t).toInt < 0 ∨ 4 < (iI t).toInt
      · refine rn_tableOut C 106 d_M_count_51 t51 (by decide) ?_
        refine rn_aload_n C d_M_count_106 rfl ?_
        refine rn_getM C hp f_M_163 d_M_count_107 rfl ?_
        refine rn_ireturn C rfl rfl d_M_count_110 ⟨by decide, by decide⟩ ?_
        rw [ti] at t51
        first | exact k2 (by omega) | exact k3 (by omega) | exact k4 (by omega) | exact k5 (by omega) | exact k6 (by omega) | exact k7 (by omega)
      · rcases (by omega : (iI t).toInt = 0 ∨ (iI t).toInt = 1 ∨ (iI t).toInt = 2 ∨ (iI t).toInt = 3 ∨ (iI t).toInt = 4) with s51 | s51 | s51 | s51 | s51
        · refine rn_tableIn C 84 d_M_count_51 (by omega) (by omega) (by rw [s51]; rfl) (by decide) ?_
          refine rn_aload_n C d_M_count_84 rfl ?_
          refine rn_getM C hp f_M_61 d_M_count_85 rfl ?_
          refine rn_ireturn C rfl rfl d_M_count_88 ⟨by decide, by decide⟩ ?_
          rw [ti] at s51
          first | exact k2 (by omega) | exact k3 (by omega) | exact k4 (by omega) | exact k5 (by omega) | exact k6 (by omega) | exact k7 (by omega)
        · refine rn_tableIn C 89 d_M_count_51 (by omega) (by omega) (by rw [s51]; rfl) (by decide) ?_
          refine rn_aload_n C d_M_count_89 rfl ?_
          refine rn_getM C hp f_M_64 d_M_count_90 rfl ?_
          refine rn_ireturn C rfl rfl d_M_count_93 ⟨by decide, by decide⟩ ?_
          rw [ti] at s51
          first | exact k2 (by omega) | exact k3 (by omega) | exact k4 (by omega) | exact k5 (by omega) | exact k6 (by omega) | exact k7 (by omega)
        · refine rn_tableIn C 94 d_M_count_51 (by omega) (by omega) (by rw [s51]; rfl) (by decide) ?_
          refine rn_iload_n C d_M_count_94 rfl ?_
          refine rn_ireturn C rfl rfl d_M_count_95 ⟨by decide, by decide⟩ ?_
          rw [ti] at s51
          first | exact k2 (by omega) | exact k3 (by omega) | exact k4 (by omega) | exact k5 (by omega) | exact k6 (by omega) | exact k7 (by omega)
        · refine rn_tableIn C 96 d_M_count_51 (by omega) (by omega) (by rw [s51]; rfl) (by decide) ?_
          refine rn_aload_n C d_M_count_96 rfl ?_
          refine rn_getM C hp f_M_166 d_M_count_97 rfl ?_
          refine rn_ireturn C rfl rfl d_M_count_100 ⟨by decide, by decide⟩ ?_
          rw [ti] at s51
          first | exact k2 (by omega) | exact k3 (by omega) | exact k4 (by omega) | exact k5 (by omega) | exact k6 (by omega) | exact k7 (by omega)
        · refine rn_tableIn C 101 d_M_count_51 (by omega) (by omega) (by rw [s51]; rfl) (by decide) ?_
          refine rn_aload_n C d_M_count_101 rfl ?_
          refine rn_getM C hp f_M_173 d_M_count_102 rfl ?_
          refine rn_ireturn C rfl rfl d_M_count_105 ⟨by decide, by decide⟩ ?_
          rw [ti] at s51
          first | exact k2 (by omega) | exact k3 (by omega) | exact k4 (by omega) | exact k5 (by omega) | exact k6 (by omega) | exact k7 (by omega)
    | succ k ih =>
      intro i a hi h0 ha ha2 hs
      rw [sm] at hs
      have hzi := hc1 i h0 (by omega)
      refine rn_iload_n C d_M_count_21 rfl ?_
      refine rn_bipush C (iI 16) d_M_count_22 (by decide) ?_
      refine rn_icmp_ge C 50 d_M_count_24 (by decide) (fun q_24 => absurd q_24 (fun q => absurd ((iI_le ⟨by omega, by omega⟩ ⟨by omega, by omega⟩).mp q) (by omega))) (fun _ => ?_)
      refine rn_aload_n C d_M_count_27 rfl ?_
      refine rn_getM C hp f_M_23 d_M_count_28 rfl ?_
      refine rn_iload_n C d_M_count_31 rfl ?_
      refine rn_zaM C hp (j := 3) d_M_count_32 rfl rfl (iI_vin (by omega) (by omega) (by omega)) ?_
      rw [iI_nat h0 (by omega), hzi]
      refine rn_if_eq C 42 d_M_count_33 (by decide) (fun c33 => ?_) (fun c33 => ?_)
      · skip
        refine rn_iload_n C d_M_count_42 rfl ?_
        refine rn_istore_n C d_M_count_43 (by decide) ?_
        refine rn_iinc C _ d_M_count_44 rfl (iI_inc _) (by decide) ?_
        refine rn_goto C 21 d_M_count_47 (by decide) ?_
        first
          | (rw [has1 c33, show bI true = 1 from rfl] at hs; exact ih (i + 1) (a + 1) (by omega) (by omega) (by omega) (by omega) (by omega))
          | (rw [has0 c33, show bI false = 0 from rfl] at hs; exact ih (i + 1) a (by omega) (by omega) (by omega) (by omega) (by omega))
      · skip
        refine rn_iload_n C d_M_count_36 rfl ?_
        refine rn_iconst C (iI 1) d_M_count_37 (by decide) ?_
        refine rn_iadd C d_M_count_38 ?_
        rw [iI_add]
        refine rn_goto C 43 d_M_count_39 (by decide) ?_
        refine rn_istore_n C d_M_count_43 (by decide) ?_
        refine rn_iinc C _ d_M_count_44 rfl (iI_inc _) (by decide) ?_
        refine rn_goto C 21 d_M_count_47 (by decide) ?_
        first
          | (rw [has1 c33, show bI true = 1 from rfl] at hs; exact ih (i + 1) (a + 1) (by omega) (by omega) (by omega) (by omega) (by omega))
          | (rw [has0 c33, show bI false = 0 from rfl] at hs; exact ih (i + 1) a (by omega) (by omega) (by omega) (by omega) (by omega))
  refine rn_aload_n C d_M_count_0 rfl ?_
  refine rn_iload_n C d_M_count_1 rfl ?_
  refine rn_iconst C (iI 0) d_M_count_2 (by decide) ?_
  refine rn_iconst C (iI 5) d_M_count_3 (by decide) ?_
  refine rn_cS C (c2_M_within l) mw_M_within k_M_70 d_M_count_4 (Nat.le_of_ble_eq_true rfl) (Nat.le_of_ble_eq_true rfl) ⟨by decide, by decide⟩ ⟨by decide, by decide⟩ ?_
  refine ⟨_, _, _, rfl, ⟨by omega, by omega⟩, ⟨by omega, by omega⟩, ⟨by omega, by omega⟩, fun q4 => ?_, fun q4 => ?_⟩
  · skip
    refine rn_iconst C (iI 1) d_M_count_7 (by decide) ?_
    refine rn_iconst C (iI 1) d_M_count_8 (by decide) ?_
    refine rn_cV C (c_M_goes l) mw_M_goes k_M_78 d_M_count_9 rfl (mH 0 hp rfl rfl) rfl (Nat.le_of_ble_eq_true rfl) (Nat.le_of_ble_eq_true rfl) ⟨by decide, by decide⟩ ⟨by decide, by decide⟩ ?_
    refine ⟨_, _, _, _, _, _, _, _, _, _, _, _, _, _, _, _, _, _, _, _, _, _, _, _, rfl, rfl, hp, ?_⟩
    refine rn_if_ne C 17 d_M_count_12 (by decide) (fun _ => ?_) (fun q => absurd q (by decide))
    refine rn_iconst C (iI 0) d_M_count_17 (by decide) ?_
    refine rn_istore_n C d_M_count_18 (by decide) ?_
    refine rn_iconst C (iI 0) d_M_count_19 (by decide) ?_
    refine rn_istore_n C d_M_count_20 (by decide) ?_
    exact loop (by omega) 16 0 0 (by omega) (by omega) (by omega) (by omega) (by omega)
  · skip
    refine rn_iconst C (iI 1) d_M_count_7 (by decide) ?_
    refine rn_iconst C (iI 1) d_M_count_8 (by decide) ?_
    refine rn_cV C (c_M_goes l) mw_M_goes k_M_78 d_M_count_9 rfl (mH 0 hp rfl rfl) rfl (Nat.le_of_ble_eq_true rfl) (Nat.le_of_ble_eq_true rfl) ⟨by decide, by decide⟩ ⟨by decide, by decide⟩ ?_
    refine ⟨_, _, _, _, _, _, _, _, _, _, _, _, _, _, _, _, _, _, _, _, _, _, _, _, rfl, rfl, hp, ?_⟩
    refine rn_if_ne C 17 d_M_count_12 (by decide) (fun q => absurd rfl q) (fun _ => ?_)
    refine rn_iconst C (iI 0) d_M_count_15 (by decide) ?_
    refine rn_ireturn C rfl rfl d_M_count_16 ⟨by decide, by decide⟩ ?_
    exact k1 (by omega)

