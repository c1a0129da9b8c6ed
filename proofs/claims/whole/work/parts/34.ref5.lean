/-! The reference: rules, rejects. Laid by wip/whole/gen_m5.py. -/
def G_M_rule (av : List Value) (h : ah_H) (K : ah_R → ah_H → Prop) : Prop := ∃ (e22 e23 e24 e25 e26 e27 e28 : ah_E) (pre rest : ah_H) (xth xw xg xfo xle xto xri xbo xco xro xqu xnt xfi xdy xce xsu : Int32) (xsq : Int64) (mx_ mk mw mi : Nat → Int32) (rk sg : Int) (T : Int → Int), av = [.ref 21] ∧ h = pre ++ cM xth xw xg xfo xle xto xri xbo xco xro xqu xnt xfi (iI sg) (iI rk) xdy xce xsu xsq :: e22 :: e23 :: e24 :: e25 :: e26 :: e27 :: e28 :: aI 20 mx_ :: aI 8 mk :: aI 8 mw :: aI 8 mi :: rest ∧ pre.length = 21 ∧ (txOk mx_ T) ∧ (txB T) ∧ (0 ≤ rk ∧ rk ≤ 8) ∧ (0 ≤ sg ∧ sg ≤ 20) ∧ (rk = 8 → K (.inl (some (.int (iI 0)))) (pre ++ cM (iI 1) xw xg xfo xle xto xri xbo xco xro xqu xnt xfi (iI sg) (iI rk) xdy xce xsu xsq :: e22 :: e23 :: e24 :: e25 :: e26 :: e27 :: e28 :: aI 20 mx_ :: aI 8 mk :: aI 8 mw :: aI 8 mi :: rest)) ∧ (rk < 8 → isRule T sg → K (.inl (some (.int (iI rk)))) (pre ++ cM (iI 0) xw xg xfo xle xto xri xbo xco xro xqu xnt xfi (iI 0) (iI (rk + 1)) xdy xce xsu xsq :: e22 :: e23 :: e24 :: e25 :: e26 :: e27 :: e28 :: aI 20 mx_ :: aI 8 (upd mk rk.toNat (iI (T 0))) :: aI 8 (upd mw rk.toNat (iI (T 1))) :: aI 8 (upd mi rk.toNat (iI (nmF T 2 (sg - 2).toNat 0))) :: rest)) ∧ (rk < 8 → ¬ isRule T sg → K (.inl (some (.int (iI (-1))))) (pre ++ cM (iI 0) xw xg xfo xle xto xri xbo xco xro xqu xnt xfi (iI 0) (iI rk) xdy xce xsu xsq :: e22 :: e23 :: e24 :: e25 :: e26 :: e27 :: e28 :: aI 20 mx_ :: aI 8 mk :: aI 8 mw :: aI 8 mi :: rest))
set_option maxHeartbeats 4000000 in
set_option maxRecDepth 100000 in
theorem c_M_rule (l : Launch) : rn_Met l y_M_rule wc_M_rule { frames := 2, cells := 0, slots := 0, locals := 23 } G_M_rule := by
  refine rn_in mw_M_rule.1 (by decide +kernel) ?_ ?_
  · intro _ av h K hG
    obtain ⟨e22, e23, e24, e25, e26, e27, e28, pre, rest, xth, xw, xg, xfo, xle, xto, xri, xbo, xco, xro, xqu, xnt, xfi, xdy, xce, xsu, xsq, mx_, mk, mw, mi, rk, sg, T, rfl, rfl, hp, hc0, hc1, hc2, hc3, k1, k2, k3⟩ := hG
    exact Nat.le_of_ble_eq_true rfl
  intro p e s m args below meth c z sa D dA av h K hadm C hG
  obtain ⟨e22, e23, e24, e25, e26, e27, e28, pre, rest, xth, xw, xg, xfo, xle, xto, xri, xbo, xco, xro, xqu, xnt, xfi, xdy, xce, xsu, xsq, mx_, mk, mw, mi, rk, sg, T, rfl, rfl, hp, hc0, hc1, hc2, hc3, k1, k2, k3⟩ := hG
  have b0 := hc1 0
  have b1 := hc1 1
  have dead : rk < 8 → ¬ isRule T sg → ∀ v i : Int, inI i → Run p l e { frames := 2, cells := 0, slots := 0, locals := 23 } s m args below meth c z sa D dA 0 0 K 4 103 [some (.ref 21), some (.int (iI 0)), some (.int (iI v)), some (.int (iI i))] [] (pre ++ cM (iI 0) xw xg xfo xle xto xri xbo xco xro xqu xnt xfi (iI sg) (iI rk) xdy xce xsu xsq :: e22 :: e23 :: e24 :: e25 :: e26 :: e27 :: e28 :: aI 20 mx_ :: aI 8 mk :: aI 8 mw :: aI 8 mi :: rest) 0 0 := by
    intro hr hn v i hi
    refine rn_iload_n C d_M_rule_103 rfl ?_
    refine rn_aload_n C d_M_rule_104 rfl ?_
    refine rn_getM C hp f_M_163 d_M_rule_105 rfl ?_
    refine rn_icmp_ge C 150 d_M_rule_108 (by decide) (fun c108 => ?_) (fun c108 => ?_)
    · skip
      refine rn_aload_n C d_M_rule_150 rfl ?_
      refine rn_iconst C (iI 0) d_M_rule_151 (by decide) ?_
      refine rn_putM C hp f_M_163 ft_M fn_M_20 d_M_rule_152 (Nat.le_of_ble_eq_true rfl) (fun _ _ => ⟨rfl, rfl⟩) rfl ?_
      refine rn_iload_n C d_M_rule_155 rfl ?_
      refine rn_if_ne C 161 d_M_rule_156 (by decide) (fun q => absurd rfl q) (fun _ => ?_)
      refine rn_iconst C (iI (-1)) d_M_rule_159 (by decide) ?_
      refine rn_ireturn C rfl rfl d_M_rule_160 ⟨by decide, by decide⟩ ?_
      exact k3 hr hn
    · skip
      refine rn_iload_n C d_M_rule_111 rfl ?_
      refine rn_if_eq C 150 d_M_rule_112 (by decide) (fun _ => ?_) (fun q => absurd rfl q)
      refine rn_aload_n C d_M_rule_150 rfl ?_
      refine rn_iconst C (iI 0) d_M_rule_151 (by decide) ?_
      refine rn_putM C hp f_M_163 ft_M fn_M_20 d_M_rule_152 (Nat.le_of_ble_eq_true rfl) (fun _ _ => ⟨rfl, rfl⟩) rfl ?_
      refine rn_iload_n C d_M_rule_155 rfl ?_
      refine rn_if_ne C 161 d_M_rule_156 (by decide) (fun q => absurd rfl q) (fun _ => ?_)
      refine rn_iconst C (iI (-1)) d_M_rule_159 (by decide) ?_
      refine rn_ireturn C rfl rfl d_M_rule_160 ⟨by decide, by decide⟩ ?_
      exact k3 hr hn
  have loop : rk < 8 → (3 ≤ sg ∧ sg ≤ 8) → (T 0 = 100 ∨ T 0 = 110 ∨ T 0 = 109) → (T 1 = 60 ∨ T 1 = 62) → ∀ (j : Nat) (i v : Int), i + j = sg → 2 ≤ i → (∀ q : Int, 2 ≤ q → q < i → 48 ≤ T q ∧ T q ≤ 57) → nmF T i j v = nmF T 2 (sg - 2).toNat 0 → Run p l e { frames := 2, cells := 0, slots := 0, locals := 23 } s m args below meth c z sa D dA 0 0 K 4 103 [some (.ref 21), some (.int (iI 1)), some (.int (iI v)), some (.int (iI i))] [] (pre ++ cM (iI 0) xw xg xfo xle xto xri xbo xco xro xqu xnt xfi (iI sg) (iI rk) xdy xce xsu xsq :: e22 :: e23 :: e24 :: e25 :: e26 :: e27 :: e28 :: aI 20 mx_ :: aI 8 mk :: aI 8 mw :: aI 8 mi :: rest) 0 0 := by
    intro hr h1 h2 h3 j
    induction j with
    | zero =>
      intro i v hi i0 hd e
      have e2 : v = nmF T 2 (sg - 2).toNat 0 := e
      rw [e2]
      have hu : isRule T sg := ⟨h1, h2, h3, fun q q0 q1 => hd q q0 (by omega)⟩
      refine rn_iload_n C d_M_rule_103 rfl ?_
      refine rn_aload_n C d_M_rule_104 rfl ?_
      refine rn_getM C hp f_M_163 d_M_rule_105 rfl ?_
      refine rn_icmp_ge C 150 d_M_rule_108 (by decide) (fun _ => ?_) (fun q_108 => absurd ((iI_le ⟨by omega, by omega⟩ ⟨by omega, by omega⟩).mpr (by omega)) q_108)
      refine rn_aload_n C d_M_rule_150 rfl ?_
      refine rn_iconst C (iI 0) d_M_rule_151 (by decide) ?_
      refine rn_putM C hp f_M_163 ft_M fn_M_20 d_M_rule_152 (Nat.le_of_ble_eq_true rfl) (fun _ _ => ⟨rfl, rfl⟩) rfl ?_
      refine rn_iload_n C d_M_rule_155 rfl ?_
      refine rn_if_ne C 161 d_M_rule_156 (by decide) (fun _ => ?_) (fun q => absurd q (by decide))
      refine rn_aload_n C d_M_rule_161 rfl ?_
      refine rn_getM C hp f_M_46 d_M_rule_162 rfl ?_
      refine rn_aload_n C d_M_rule_165 rfl ?_
      refine rn_getM C hp f_M_166 d_M_rule_166 rfl ?_
      refine rn_aload_n C d_M_rule_169 rfl ?_
      refine rn_getM C hp f_M_43 d_M_rule_170 rfl ?_
      refine rn_iconst C (iI 0) d_M_rule_173 (by decide) ?_
      refine rn_iaM C hp (j := 8) d_M_rule_174 rfl rfl (iI_vin (by omega) (by omega) (by omega)) ?_
      rw [show (iI 0).toNatClampNeg = (0 : Int).toNat from iI_nat (by omega) (by omega), hc0 0 (by omega) (by omega)]
      refine rn_isM C hp (j := 9) d_M_rule_175 rfl rfl (iI_vin (by omega) (by omega) (by omega)) rfl ?_
      rw [iI_nat (by omega) (by omega)]
      refine rn_aload_n C d_M_rule_176 rfl ?_
      refine rn_getM C hp f_M_49 d_M_rule_177 rfl ?_
      refine rn_aload_n C d_M_rule_180 rfl ?_
      refine rn_getM C hp f_M_166 d_M_rule_181 rfl ?_
      refine rn_aload_n C d_M_rule_184 rfl ?_
      refine rn_getM C hp f_M_43 d_M_rule_185 rfl ?_
      refine rn_iconst C (iI 1) d_M_rule_188 (by decide) ?_
      refine rn_iaM C hp (j := 8) d_M_rule_189 rfl rfl (iI_vin (by omega) (by omega) (by omega)) ?_
      rw [show (iI 1).toNatClampNeg = (1 : Int).toNat from iI_nat (by omega) (by omega), hc0 1 (by omega) (by omega)]
      refine rn_isM C hp (j := 10) d_M_rule_190 rfl rfl (iI_vin (by omega) (by omega) (by omega)) rfl ?_
      rw [iI_nat (by omega) (by omega)]
      refine rn_aload_n C d_M_rule_191 rfl ?_
      refine rn_getM C hp f_M_52 d_M_rule_192 rfl ?_
      refine rn_aload_n C d_M_rule_195 rfl ?_
      refine rn_getM C hp f_M_166 d_M_rule_196 rfl ?_
      refine rn_iload_n C d_M_rule_199 rfl ?_
      refine rn_isM C hp (j := 11) d_M_rule_200 rfl rfl (iI_vin (by omega) (by omega) (by omega)) rfl ?_
      rw [iI_nat (by omega) (by omega)]
      refine rn_aload_n C d_M_rule_201 rfl ?_
      refine rn_dup C d_M_rule_202 rfl ?_
      refine rn_getM C hp f_M_166 d_M_rule_203 rfl ?_
      refine rn_iconst C (iI 1) d_M_rule_206 (by decide) ?_
      refine rn_iadd C d_M_rule_207 ?_
      rw [iI_add]
      refine rn_putM C hp f_M_166 ft_M fn_M_22 d_M_rule_208 (Nat.le_of_ble_eq_true rfl) (fun _ _ => ⟨rfl, rfl⟩) rfl ?_
      refine rn_aload_n C d_M_rule_211 rfl ?_
      refine rn_getM C hp f_M_166 d_M_rule_212 rfl ?_
      refine rn_iconst C (iI 1) d_M_rule_215 (by decide) ?_
      refine rn_isub C d_M_rule_216 ?_
      rw [iI_sub, show rk + 1 - 1 = rk by omega]
      refine rn_ireturn C rfl rfl d_M_rule_217 ⟨by decide, by decide⟩ ?_
      exact k2 hr hu
    | succ j ih =>
      intro i v hi i0 hd e
      have bi := hc1 i
      rw [nmF] at e
      have et := hc0 i (by omega) (by omega)
      refine rn_iload_n C d_M_rule_103 rfl ?_
      refine rn_aload_n C d_M_rule_104 rfl ?_
      refine rn_getM C hp f_M_163 d_M_rule_105 rfl ?_
      refine rn_icmp_ge C 150 d_M_rule_108 (by decide) (fun q_108 => absurd q_108 (fun q => absurd ((iI_le ⟨by omega, by omega⟩ ⟨by omega, by omega⟩).mp q) (by omega))) (fun _ => ?_)
      refine rn_iload_n C d_M_rule_111 rfl ?_
      refine rn_if_eq C 150 d_M_rule_112 (by decide) (fun q => absurd q (by decide)) (fun _ => ?_)
      refine rn_aload_n C d_M_rule_115 rfl ?_
      refine rn_getM C hp f_M_43 d_M_rule_116 rfl ?_
      refine rn_iload_n C d_M_rule_119 rfl ?_
      refine rn_iaM C hp (j := 8) d_M_rule_120 rfl rfl (iI_vin (by omega) (by omega) (by omega)) ?_
      rw [iI_nat (by omega) (by omega), et]
      refine rn_bipush C (iI 48) d_M_rule_121 (by decide) ?_
      refine rn_bipush C (iI 57) d_M_rule_123 (by decide) ?_
      refine rn_cS C (c2_M_within l) mw_M_within k_M_70 d_M_rule_125 (Nat.le_of_ble_eq_true rfl) (Nat.le_of_ble_eq_true rfl) ⟨by decide, by decide⟩ ⟨by decide, by decide⟩ ?_
      refine ⟨_, _, _, rfl, ⟨by omega, by omega⟩, ⟨by omega, by omega⟩, ⟨by omega, by omega⟩, fun q125 => ?_, fun q125 => ?_⟩
      · skip
        refine rn_istore_n C d_M_rule_128 (by decide) ?_
        refine rn_bipush C (iI 10) d_M_rule_129 (by decide) ?_
        refine rn_iload_n C d_M_rule_131 rfl ?_
        refine rn_imul C d_M_rule_132 ?_
        refine rn_aload_n C d_M_rule_133 rfl ?_
        refine rn_getM C hp f_M_43 d_M_rule_134 rfl ?_
        refine rn_iload_n C d_M_rule_137 rfl ?_
        refine rn_iaM C hp (j := 8) d_M_rule_138 rfl rfl (iI_vin (by omega) (by omega) (by omega)) ?_
        rw [iI_nat (by omega) (by omega), et]
        refine rn_iadd C d_M_rule_139 ?_
        refine rn_bipush C (iI 48) d_M_rule_140 (by decide) ?_
        refine rn_isub C d_M_rule_142 ?_
        rw [iI_mul, iI_add, iI_sub]
        refine rn_istore_n C d_M_rule_143 (by decide) ?_
        refine rn_iinc C _ d_M_rule_144 rfl (iI_inc _) (by decide) ?_
        refine rn_goto C 103 d_M_rule_147 (by decide) ?_
        first
          | exact ih (i + 1) _ (by omega) (by omega) (fun q q0 q1 => if hq : q = i then (by subst hq; exact q125) else hd q q0 (by omega)) (by rw [show 10 * v = v * 10 from Int.mul_comm _ _]; exact e)
          | exact dead hr (fun hu => q125 (hu.2.2.2 i i0 (by omega))) _ _ ⟨by omega, by omega⟩
      · skip
        refine rn_istore_n C d_M_rule_128 (by decide) ?_
        refine rn_bipush C (iI 10) d_M_rule_129 (by decide) ?_
        refine rn_iload_n C d_M_rule_131 rfl ?_
        refine rn_imul C d_M_rule_132 ?_
        refine rn_aload_n C d_M_rule_133 rfl ?_
        refine rn_getM C hp f_M_43 d_M_rule_134 rfl ?_
        refine rn_iload_n C d_M_rule_137 rfl ?_
        refine rn_iaM C hp (j := 8) d_M_rule_138 rfl rfl (iI_vin (by omega) (by omega) (by omega)) ?_
        rw [iI_nat (by omega) (by omega), et]
        refine rn_iadd C d_M_rule_139 ?_
        refine rn_bipush C (iI 48) d_M_rule_140 (by decide) ?_
        refine rn_isub C d_M_rule_142 ?_
        rw [iI_mul, iI_add, iI_sub]
        refine rn_istore_n C d_M_rule_143 (by decide) ?_
        refine rn_iinc C _ d_M_rule_144 rfl (iI_inc _) (by decide) ?_
        refine rn_goto C 103 d_M_rule_147 (by decide) ?_
        first
          | exact ih (i + 1) _ (by omega) (by omega) (fun q q0 q1 => if hq : q = i then (by subst hq; exact q125) else hd q q0 (by omega)) (by rw [show 10 * v = v * 10 from Int.mul_comm _ _]; exact e)
          | exact dead hr (fun hu => q125 (hu.2.2.2 i i0 (by omega))) _ _ ⟨by omega, by omega⟩
  have hs8 : (iI 8 ≤ iI rk) ↔ 8 ≤ rk := iI_le ⟨by omega, by omega⟩ ⟨by omega, by omega⟩
  refine rn_aload_n C d_M_rule_0 rfl ?_
  refine rn_aload_n C d_M_rule_1 rfl ?_
  refine rn_getM C hp f_M_166 d_M_rule_2 rfl ?_
  refine rn_bipush C (iI 8) d_M_rule_5 (by decide) ?_
  refine rn_icmp_ge C 14 d_M_rule_7 (by decide) (fun c7 => ?_) (fun c7 => ?_)
  · skip
    refine rn_iconst C (iI 0) d_M_rule_14 (by decide) ?_
    refine rn_iconst C (iI 1) d_M_rule_15 (by decide) ?_
    refine rn_iconst C (iI 1) d_M_rule_16 (by decide) ?_
    refine rn_cV C (c_M_goes l) mw_M_goes k_M_78 d_M_rule_17 rfl (mH 0 hp rfl rfl) rfl (Nat.le_of_ble_eq_true rfl) (Nat.le_of_ble_eq_true rfl) ⟨by decide, by decide⟩ ⟨by decide, by decide⟩ ?_
    refine ⟨_, _, _, _, _, _, _, _, _, _, _, _, _, _, _, _, _, _, _, _, _, _, _, _, rfl, rfl, hp, ?_⟩
    refine rn_if_ne C 25 d_M_rule_20 (by decide) (fun q => absurd rfl q) (fun _ => ?_)
    refine rn_iconst C (iI 0) d_M_rule_23 (by decide) ?_
    refine rn_ireturn C rfl rfl d_M_rule_24 ⟨by decide, by decide⟩ ?_
    rw [hs8] at c7
    exact k1 (by omega)
  · skip
    refine rn_iconst C (iI 1) d_M_rule_10 (by decide) ?_
    refine rn_goto C 15 d_M_rule_11 (by decide) ?_
    refine rn_iconst C (iI 1) d_M_rule_15 (by decide) ?_
    refine rn_iconst C (iI 1) d_M_rule_16 (by decide) ?_
    refine rn_cV C (c_M_goes l) mw_M_goes k_M_78 d_M_rule_17 rfl (mH 0 hp rfl rfl) rfl (Nat.le_of_ble_eq_true rfl) (Nat.le_of_ble_eq_true rfl) ⟨by decide, by decide⟩ ⟨by decide, by decide⟩ ?_
    refine ⟨_, _, _, _, _, _, _, _, _, _, _, _, _, _, _, _, _, _, _, _, _, _, _, _, rfl, rfl, hp, ?_⟩
    refine rn_if_ne C 25 d_M_rule_20 (by decide) (fun _ => ?_) (fun q => absurd q (by decide))
    rw [hs8] at c7
    refine rn_aload_n C d_M_rule_25 rfl ?_
    refine rn_getM C hp f_M_163 d_M_rule_26 rfl ?_
    refine rn_iconst C (iI 3) d_M_rule_29 (by decide) ?_
    refine rn_bipush C (iI 8) d_M_rule_30 (by decide) ?_
    refine rn_cS C (c2_M_within l) mw_M_within k_M_70 d_M_rule_32 (Nat.le_of_ble_eq_true rfl) (Nat.le_of_ble_eq_true rfl) ⟨by decide, by decide⟩ ⟨by decide, by decide⟩ ?_
    refine ⟨_, _, _, rfl, ⟨by omega, by omega⟩, ⟨by omega, by omega⟩, ⟨by omega, by omega⟩, fun q32 => ?_, fun q32 => ?_⟩
    · skip
      refine rn_if_eq C 97 d_M_rule_35 (by decide) (fun q => absurd q (by decide)) (fun _ => ?_)
      refine rn_aload_n C d_M_rule_38 rfl ?_
      refine rn_getM C hp f_M_43 d_M_rule_39 rfl ?_
      refine rn_iconst C (iI 0) d_M_rule_42 (by decide) ?_
      refine rn_iaM C hp (j := 8) d_M_rule_43 rfl rfl (iI_vin (by omega) (by omega) (by omega)) ?_
      rw [show (iI 0).toNatClampNeg = (0 : Int).toNat from iI_nat (by omega) (by omega), hc0 0 (by omega) (by omega)]
      refine rn_bipush C (iI 100) d_M_rule_44 (by decide) ?_
      refine rn_icmp_eq C 71 d_M_rule_46 (by decide) (fun c46 => ?_) (fun c46 => ?_)
      · skip
        refine rn_aload_n C d_M_rule_71 rfl ?_
        refine rn_getM C hp f_M_43 d_M_rule_72 rfl ?_
        refine rn_iconst C (iI 1) d_M_rule_75 (by decide) ?_
        refine rn_iaM C hp (j := 8) d_M_rule_76 rfl rfl (iI_vin (by omega) (by omega) (by omega)) ?_
        rw [show (iI 1).toNatClampNeg = (1 : Int).toNat from iI_nat (by omega) (by omega), hc0 1 (by omega) (by omega)]
        refine rn_bipush C (iI 60) d_M_rule_77 (by decide) ?_
        refine rn_icmp_eq C 93 d_M_rule_79 (by decide) (fun c79 => ?_) (fun c79 => ?_)
        · skip
          refine rn_iconst C (iI 1) d_M_rule_93 (by decide) ?_
          refine rn_goto C 98 d_M_rule_94 (by decide) ?_
          refine rn_istore_n C d_M_rule_98 (by decide) ?_
          refine rn_iconst C (iI 0) d_M_rule_99 (by decide) ?_
          refine rn_istore_n C d_M_rule_100 (by decide) ?_
          refine rn_iconst C (iI 2) d_M_rule_101 (by decide) ?_
          refine rn_istore_n C d_M_rule_102 (by decide) ?_
          (try rw [iI_eq (a := T 0) ⟨by omega, by omega⟩ ⟨by omega, by omega⟩] at c46); (try rw [iI_eq (a := T 0) ⟨by omega, by omega⟩ ⟨by omega, by omega⟩] at c57); (try rw [iI_eq (a := T 0) ⟨by omega, by omega⟩ ⟨by omega, by omega⟩] at c68); (try rw [iI_eq (a := T 1) ⟨by omega, by omega⟩ ⟨by omega, by omega⟩] at c79); (try rw [iI_eq (a := T 1) ⟨by omega, by omega⟩ ⟨by omega, by omega⟩] at c90)
          first
            | exact loop (by omega) q32 (by omega) (by omega) (sg - 2).toNat 2 0 (by omega) (by omega) (fun q q0 q1 => by omega) rfl
            | exact dead (by omega) (fun hu => by have a1 := hu.1; have a2 := hu.2.1; have a3 := hu.2.2.1; omega) 0 2 ⟨by omega, by omega⟩
        · skip
          refine rn_aload_n C d_M_rule_82 rfl ?_
          refine rn_getM C hp f_M_43 d_M_rule_83 rfl ?_
          refine rn_iconst C (iI 1) d_M_rule_86 (by decide) ?_
          refine rn_iaM C hp (j := 8) d_M_rule_87 rfl rfl (iI_vin (by omega) (by omega) (by omega)) ?_
          rw [show (iI 1).toNatClampNeg = (1 : Int).toNat from iI_nat (by omega) (by omega), hc0 1 (by omega) (by omega)]
          refine rn_bipush C (iI 62) d_M_rule_88 (by decide) ?_
          refine rn_icmp_ne C 97 d_M_rule_90 (by decide) (fun c90 => ?_) (fun c90 => ?_)
          · skip
            refine rn_iconst C (iI 0) d_M_rule_97 (by decide) ?_
            refine rn_istore_n C d_M_rule_98 (by decide) ?_
            refine rn_iconst C (iI 0) d_M_rule_99 (by decide) ?_
            refine rn_istore_n C d_M_rule_100 (by decide) ?_
            refine rn_iconst C (iI 2) d_M_rule_101 (by decide) ?_
            refine rn_istore_n C d_M_rule_102 (by decide) ?_
            (try rw [iI_eq (a := T 0) ⟨by omega, by omega⟩ ⟨by omega, by omega⟩] at c46); (try rw [iI_eq (a := T 0) ⟨by omega, by omega⟩ ⟨by omega, by omega⟩] at c57); (try rw [iI_eq (a := T 0) ⟨by omega, by omega⟩ ⟨by omega, by omega⟩] at c68); (try rw [iI_eq (a := T 1) ⟨by omega, by omega⟩ ⟨by omega, by omega⟩] at c79); (try rw [iI_eq (a := T 1) ⟨by omega, by omega⟩ ⟨by omega, by omega⟩] at c90)
            first
              | exact loop (by omega) q32 (by omega) (by omega) (sg - 2).toNat 2 0 (by omega) (by omega) (fun q q0 q1 => by omega) rfl
              | exact dead (by omega) (fun hu => by have a1 := hu.1; have a2 := hu.2.1; have a3 := hu.2.2.1; omega) 0 2 ⟨by omega, by omega⟩
          · skip
            refine rn_iconst C (iI 1) d_M_rule_93 (by decide) ?_
            refine rn_goto C 98 d_M_rule_94 (by decide) ?_
            refine rn_istore_n C d_M_rule_98 (by decide) ?_
            refine rn_iconst C (iI 0) d_M_rule_99 (by decide) ?_
            refine rn_istore_n C d_M_rule_100 (by decide) ?_
            refine rn_iconst C (iI 2) d_M_rule_101 (by decide) ?_
            refine rn_istore_n C d_M_rule_102 (by decide) ?_
            (try rw [iI_eq (a := T 0) ⟨by omega, by omega⟩ ⟨by omega, by omega⟩] at c46); (try rw [iI_eq (a := T 0) ⟨by omega, by omega⟩ ⟨by omega, by omega⟩] at c57); (try rw [iI_eq (a := T 0) ⟨by omega, by omega⟩ ⟨by omega, by omega⟩] at c68); (try rw [iI_eq (a := T 1) ⟨by omega, by omega⟩ ⟨by omega, by omega⟩] at c79); (try rw [iI_eq (a := T 1) ⟨by omega, by omega⟩ ⟨by omega, by omega⟩] at c90)
            first
              | exact loop (by omega) q32 (by omega) (by omega) (sg - 2).toNat 2 0 (by omega) (by omega) (fun q q0 q1 => by omega) rfl
              | exact dead (by omega) (fun hu => by have a1 := hu.1; have a2 := hu.2.1; have a3 := hu.2.2.1; omega) 0 2 ⟨by omega, by omega⟩
      · skip
        refine rn_aload_n C d_M_rule_49 rfl ?_
        refine rn_getM C hp f_M_43 d_M_rule_50 rfl ?_
        refine rn_iconst C (iI 0) d_M_rule_53 (by decide) ?_
        refine rn_iaM C hp (j := 8) d_M_rule_54 rfl rfl (iI_vin (by omega) (by omega) (by omega)) ?_
        rw [show (iI 0).toNatClampNeg = (0 : Int).toNat from iI_nat (by omega) (by omega), hc0 0 (by omega) (by omega)]
        refine rn_bipush C (iI 110) d_M_rule_55 (by decide) ?_
        refine rn_icmp_eq C 71 d_M_rule_57 (by decide) (fun c57 => ?_) (fun c57 => ?_)
        · skip
          refine rn_aload_n C d_M_rule_71 rfl ?_
          refine rn_getM C hp f_M_43 d_M_rule_72 rfl ?_
          refine rn_iconst C (iI 1) d_M_rule_75 (by decide) ?_
          refine rn_iaM C hp (j := 8) d_M_rule_76 rfl rfl (iI_vin (by omega) (by omega) (by omega)) ?_
          rw [show (iI 1).toNatClampNeg = (1 : Int).toNat from iI_nat (by omega) (by omega), hc0 1 (by omega) (by omega)]
          refine rn_bipush C (iI 60) d_M_rule_77 (by decide) ?_
          refine rn_icmp_eq C 93 d_M_rule_79 (by decide) (fun c79 => ?_) (fun c79 => ?_)
          · skip
            refine rn_iconst C (iI 1) d_M_rule_93 (by decide) ?_
            refine rn_goto C 98 d_M_rule_94 (by decide) ?_
            refine rn_istore_n C d_M_rule_98 (by decide) ?_
            refine rn_iconst C (iI 0) d_M_rule_99 (by decide) ?_
            refine rn_istore_n C d_M_rule_100 (by decide) ?_
            refine rn_iconst C (iI 2) d_M_rule_101 (by decide) ?_
            refine rn_istore_n C d_M_rule_102 (by decide) ?_
            (try rw [iI_eq (a := T 0) ⟨by omega, by omega⟩ ⟨by omega, by omega⟩] at c46); (try rw [iI_eq (a := T 0) ⟨by omega, by omega⟩ ⟨by omega, by omega⟩] at c57); (try rw [iI_eq (a := T 0) ⟨by omega, by omega⟩ ⟨by omega, by omega⟩] at c68); (try rw [iI_eq (a := T 1) ⟨by omega, by omega⟩ ⟨by omega, by omega⟩] at c79); (try rw [iI_eq (a := T 1) ⟨by omega, by omega⟩ ⟨by omega, by omega⟩] at c90)
            first
              | exact loop (by omega) q32 (by omega) (by omega) (sg - 2).toNat 2 0 (by omega) (by omega) (fun q q0 q1 => by omega) rfl
              | exact dead (by omega) (fun hu => by have a1 := hu.1; have a2 := hu.2.1; have a3 := hu.2.2.1; omega) 0 2 ⟨by omega, by omega⟩
          · skip
            refine rn_aload_n C d_M_rule_82 rfl ?_
            refine rn_getM C hp f_M_43 d_M_rule_83 rfl ?_
            refine rn_iconst C (iI 1) d_M_rule_86 (by decide) ?_
            refine rn_iaM C hp (j := 8) d_M_rule_87 rfl rfl (iI_vin (by omega) (by omega) (by omega)) ?_
            rw [show (iI 1).toNatClampNeg = (1 : Int).toNat from iI_nat (by omega) (by omega), hc0 1 (by omega) (by omega)]
            refine rn_bipush C (iI 62) d_M_rule_88 (by decide) ?_
            refine rn_icmp_ne C 97 d_M_rule_90 (by decide) (fun c90 => ?_) (fun c90 => ?_)
            · skip
              refine rn_iconst C (iI 0) d_M_rule_97 (by decide) ?_
              refine rn_istore_n C d_M_rule_98 (by decide) ?_
              refine rn_iconst C (iI 0) d_M_rule_99 (by decide) ?_
              refine rn_istore_n C d_M_rule_100 (by decide) ?_
              refine rn_iconst C (iI 2) d_M_rule_101 (by decide) ?_
              refine rn_istore_n C d_M_rule_102 (by decide) ?_
              (try rw [iI_eq (a := T 0) ⟨by omega, by omega⟩ ⟨by omega, by omega⟩] at c46); (try rw [iI_eq (a := T 0) ⟨by omega, by omega⟩ ⟨by omega, by omega⟩] at c57); (try rw [iI_eq (a := T 0) ⟨by omega, by omega⟩ ⟨by omega, by omega⟩] at c68); (try rw [iI_eq (a := T 1) ⟨by omega, by omega⟩ ⟨by omega, by omega⟩] at c79); (try rw [iI_eq (a := T 1) ⟨by omega, by omega⟩ ⟨by omega, by omega⟩] at c90)
              first
                | exact loop (by omega) q32 (by omega) (by omega) (sg - 2).toNat 2 0 (by omega) (by omega) (fun q q0 q1 => by omega) rfl
                | exact dead (by omega) (fun hu => by have a1 := hu.1; have a2 := hu.2.1; have a3 := hu.2.2.1; omega) 0 2 ⟨by omega, by omega⟩
            · skip
              refine rn_iconst C (iI 1) d_M_rule_93 (by decide) ?_
              refine rn_goto C 98 d_M_rule_94 (by decide) ?_
              refine rn_istore_n C d_M_rule_98 (by decide) ?_
              refine rn_iconst C (iI 0) d_M_rule_99 (by decide) ?_
              refine rn_istore_n C d_M_rule_100 (by decide) ?_
              refine rn_iconst C (iI 2) d_M_rule_101 (by decide) ?_
              refine rn_istore_n C d_M_rule_102 (by decide) ?_
              (try rw [iI_eq (a := T 0) ⟨by omega, by omega⟩ ⟨by omega, by omega⟩] at c46); (try rw [iI_eq (a := T 0) ⟨by omega, by omega⟩ ⟨by omega, by omega⟩] at c57); (try rw [iI_eq (a := T 0) ⟨by omega, by omega⟩ ⟨by omega, by omega⟩] at c68); (try rw [iI_eq (a := T 1) ⟨by omega, by omega⟩ ⟨by omega, by omega⟩] at c79); (try rw [iI_eq (a := T 1) ⟨by omega, by omega⟩ ⟨by omega, by omega⟩] at c90)
              first
                | exact loop (by omega) q32 (by omega) (by omega) (sg - 2).toNat 2 0 (by omega) (by omega) (fun q q0 q1 => by omega) rfl
                | exact dead (by omega) (fun hu => by have a1 := hu.1; have a2 := hu.2.1; have a3 := hu.2.2.1; omega) 0 2 ⟨by omega, by omega⟩
        · skip
          refine rn_aload_n C d_M_rule_60 rfl ?_
          refine rn_getM C hp f_M_43 d_M_rule_61 rfl ?_
          refine rn_iconst C (iI 0) d_M_rule_64 (by decide) ?_
          refine rn_iaM C hp (j := 8) d_M_rule_65 rfl rfl (iI_vin (by omega) (by omega) (by omega)) ?_
          rw [show (iI 0).toNatClampNeg = (0 : Int).toNat from iI_nat (by omega) (by omega), hc0 0 (by omega) (by omega)]
          refine rn_bipush C (iI 109) d_M_rule_66 (by decide) ?_
          refine rn_icmp_ne C 97 d_M_rule_68 (by decide) (fun c68 => ?_) (fun c68 => ?_)
          · skip
            refine rn_iconst C (iI 0) d_M_rule_97 (by decide) ?_
            refine rn_istore_n C d_M_rule_98 (by decide) ?_
            refine rn_iconst C (iI 0) d_M_rule_99 (by decide) ?_
            refine rn_istore_n C d_M_rule_100 (by decide) ?_
            refine rn_iconst C (iI 2) d_M_rule_101 (by decide) ?_
            refine rn_istore_n C d_M_rule_102 (by decide) ?_
            (try rw [iI_eq (a := T 0) ⟨by omega, by omega⟩ ⟨by omega, by omega⟩] at c46); (try rw [iI_eq (a := T 0) ⟨by omega, by omega⟩ ⟨by omega, by omega⟩] at c57); (try rw [iI_eq (a := T 0) ⟨by omega, by omega⟩ ⟨by omega, by omega⟩] at c68); (try rw [iI_eq (a := T 1) ⟨by omega, by omega⟩ ⟨by omega, by omega⟩] at c79); (try rw [iI_eq (a := T 1) ⟨by omega, by omega⟩ ⟨by omega, by omega⟩] at c90)
            first
              | exact loop (by omega) q32 (by omega) (by omega) (sg - 2).toNat 2 0 (by omega) (by omega) (fun q q0 q1 => by omega) rfl
              | exact dead (by omega) (fun hu => by have a1 := hu.1; have a2 := hu.2.1; have a3 := hu.2.2.1; omega) 0 2 ⟨by omega, by omega⟩
          · skip
            refine rn_aload_n C d_M_rule_71 rfl ?_
            refine rn_getM C hp f_M_43 d_M_rule_72 rfl ?_
            refine rn_iconst C (iI 1) d_M_rule_75 (by decide) ?_
            refine rn_iaM C hp (j := 8) d_M_rule_76 rfl rfl (iI_vin (by omega) (by omega) (by omega)) ?_
            rw [show (iI 1).toNatClampNeg = (1 : Int).toNat from iI_nat (by omega) (by omega), hc0 1 (by omega) (by omega)]
            refine rn_bipush C (iI 60) d_M_rule_77 (by decide) ?_
            refine rn_icmp_eq C 93 d_M_rule_79 (by decide) (fun c79 => ?_) (fun c79 => ?_)
            · skip
              refine rn_iconst C (iI 1) d_M_rule_93 (by decide) ?_
              refine rn_goto C 98 d_M_rule_94 (by decide) ?_
              refine rn_istore_n C d_M_rule_98 (by decide) ?_
              refine rn_iconst C (iI 0) d_M_rule_99 (by decide) ?_
              refine rn_istore_n C d_M_rule_100 (by decide) ?_
              refine rn_iconst C (iI 2) d_M_rule_101 (by decide) ?_
              refine rn_istore_n C d_M_rule_102 (by decide) ?_
              (try rw [iI_eq (a := T 0) ⟨by omega, by omega⟩ ⟨by omega, by omega⟩] at c46); (try rw [iI_eq (a := T 0) ⟨by omega, by omega⟩ ⟨by omega, by omega⟩] at c57); (try rw [iI_eq (a := T 0) ⟨by omega, by omega⟩ ⟨by omega, by omega⟩] at c68); (try rw [iI_eq (a := T 1) ⟨by omega, by omega⟩ ⟨by omega, by omega⟩] at c79); (try rw [iI_eq (a := T 1) ⟨by omega, by omega⟩ ⟨by omega, by omega⟩] at c90)
              first
                | exact loop (by omega) q32 (by omega) (by omega) (sg - 2).toNat 2 0 (by omega) (by omega) (fun q q0 q1 => by omega) rfl
                | exact dead (by omega) (fun hu => by have a1 := hu.1; have a2 := hu.2.1; have a3 := hu.2.2.1; omega) 0 2 ⟨by omega, by omega⟩
            · skip
              refine rn_aload_n C d_M_rule_82 rfl ?_
              refine rn_getM C hp f_M_43 d_M_rule_83 rfl ?_
              refine rn_iconst C (iI 1) d_M_rule_86 (by decide) ?_
              refine rn_iaM C hp (j := 8) d_M_rule_87 rfl rfl (iI_vin (by omega) (by omega) (by omega)) ?_
              rw [show (iI 1).toNatClampNeg = (1 : Int).toNat from iI_nat (by omega) (by omega), hc0 1 (by omega) (by omega)]
              refine rn_bipush C (iI 62) d_M_rule_88 (by decide) ?_
              refine rn_icmp_ne C 97 d_M_rule_90 (by decide) (fun c90 => ?_) (fun c90 => ?_)
              · skip
                refine rn_iconst C (iI 0) d_M_rule_97 (by decide) ?_
                refine rn_istore_n C d_M_rule_98 (by decide) ?_
                refine rn_iconst C (iI 0) d_M_rule_99 (by decide) ?_
                refine rn_istore_n C d_M_rule_100 (by decide) ?_
                refine rn_iconst C (iI 2) d_M_rule_101 (by decide) ?_
                refine rn_istore_n C d_M_rule_102 (by decide) ?_
                (try rw [iI_eq (a := T 0) ⟨by omega, by omega⟩ ⟨by omega, by omega⟩] at c46); (try rw [iI_eq (a := T 0) ⟨by omega, by omega⟩ ⟨by omega, by omega⟩] at c57); (try rw [iI_eq (a := T 0) ⟨by omega, by omega⟩ ⟨by omega, by omega⟩] at c68); (try rw [iI_eq (a := T 1) ⟨by omega, by omega⟩ ⟨by omega, by omega⟩] at c79); (try rw [iI_eq (a := T 1) ⟨by omega, by omega⟩ ⟨by omega, by omega⟩] at c90)
                first
                  | exact loop (by omega) q32 (by omega) (by omega) (sg - 2).toNat 2 0 (by omega) (by omega) (fun q q0 q1 => by omega) rfl
                  | exact dead (by omega) (fun hu => by have a1 := hu.1; have a2 := hu.2.1; have a3 := hu.2.2.1; omega) 0 2 ⟨by omega, by omega⟩
              · skip
                refine rn_iconst C (iI 1) d_M_rule_93 (by decide) ?_
                refine rn_goto C 98 d_M_rule_94 (by decide) ?_
                refine rn_istore_n C d_M_rule_98 (by decide) ?_
                refine rn_iconst C (iI 0) d_M_rule_99 (by decide) ?_
                refine rn_istore_n C d_M_rule_100 (by decide) ?_
                refine rn_iconst C (iI 2) d_M_rule_101 (by decide) ?_
                refine rn_istore_n C d_M_rule_102 (by decide) ?_
                (try rw [iI_eq (a := T 0) ⟨by omega, by omega⟩ ⟨by omega, by omega⟩] at c46); (try rw [iI_eq (a := T 0) ⟨by omega, by omega⟩ ⟨by omega, by omega⟩] at c57); (try rw [iI_eq (a := T 0) ⟨by omega, by omega⟩ ⟨by omega, by omega⟩] at c68); (try rw [iI_eq (a := T 1) ⟨by omega, by omega⟩ ⟨by omega, by omega⟩] at c79); (try rw [iI_eq (a := T 1) ⟨by omega, by omega⟩ ⟨by omega, by omega⟩] at c90)
                first
                  | exact loop (by omega) q32 (by omega) (by omega) (sg - 2).toNat 2 0 (by omega) (by omega) (fun q q0 q1 => by omega) rfl
                  | exact dead (by omega) (fun hu => by have a1 := hu.1; have a2 := hu.2.1; have a3 := hu.2.2.1; omega) 0 2 ⟨by omega, by omega⟩
    · skip
      refine rn_if_eq C 97 d_M_rule_35 (by decide) (fun _ => ?_) (fun q => absurd rfl q)
      refine rn_iconst C (iI 0) d_M_rule_97 (by decide) ?_
      refine rn_istore_n C d_M_rule_98 (by decide) ?_
      refine rn_iconst C (iI 0) d_M_rule_99 (by decide) ?_
      refine rn_istore_n C d_M_rule_100 (by decide) ?_
      refine rn_iconst C (iI 2) d_M_rule_101 (by decide) ?_
      refine rn_istore_n C d_M_rule_102 (by decide) ?_
      (try rw [iI_eq (a := T 0) ⟨by omega, by omega⟩ ⟨by omega, by omega⟩] at c46); (try rw [iI_eq (a := T 0) ⟨by omega, by omega⟩ ⟨by omega, by omega⟩] at c57); (try rw [iI_eq (a := T 0) ⟨by omega, by omega⟩ ⟨by omega, by omega⟩] at c68); (try rw [iI_eq (a := T 1) ⟨by omega, by omega⟩ ⟨by omega, by omega⟩] at c79); (try rw [iI_eq (a := T 1) ⟨by omega, by omega⟩ ⟨by omega, by omega⟩] at c90)
      first
        | exact loop (by omega) q32 (by omega) (by omega) (sg - 2).toNat 2 0 (by omega) (by omega) (fun q q0 q1 => by omega) rfl
        | exact dead (by omega) (fun hu => by have a1 := hu.1; have a2 := hu.2.1; have a3 := hu.2.2.1; omega) 0 2 ⟨by omega, by omega⟩

def G_M_measure (av : List Value) (h : ah_H) (K : ah_R → ah_H → Prop) : Prop := ∃ (pre rest : ah_H) (xth xw xg xfo xfi xsg xrk xdy xce xsu : Int32) (xsq : Int64) (mp ml mh mt : Nat → Int32) (ma mb md : Nat → Int64) (w g le to ri bo co ro qu nt kd : Int) (pic : Int → Int → Int → Int) (lig : Int → Int → Int) (has : Int → Bool) (tg : Int → Int → Int) (A B D : Int → Int), av = [.ref 21, .int (iI kd)] ∧ h = pre ++ cM xth xw xg xfo (iI le) (iI to) (iI ri) (iI bo) (iI co) (iI ro) (iI qu) (iI nt) xfi xsg xrk xdy xce xsu xsq :: aI 2700 mp :: aI 900 ml :: aZ 16 mh :: aI 48 mt :: aL 3 ma :: aL 3 mb :: aL 3 md :: rest ∧ pre.length = 21 ∧ (mpOk mp ml pic lig) ∧ (frOk le to ri bo w g) ∧ (lyOk co ro qu) ∧ (zOk 16 mh has ∧ tOk mt has tg ∧ tgB tg has ∧ (0 ≤ nt → has nt = true) ∧ -1 ≤ nt ∧ nt < 16) ∧ (lnOk 1 ma mb md A B D) ∧ (0 ≤ kd ∧ kd < 128) ∧ (kd = 109 → ∀ (xce xsu : Int32) (xsq : Int64), K (.inl (some (.int (iI (co * ro - sm (fun p => bI (has p)) 0 (co * ro).toNat))))) (pre ++ cM xth xw xg xfo (iI le) (iI to) (iI ri) (iI bo) (iI co) (iI ro) (iI qu) (iI nt) xfi xsg xrk xdy xce xsu xsq :: aI 2700 mp :: aI 900 ml :: aZ 16 mh :: aI 48 mt :: aL 3 ma :: aL 3 mb :: aL 3 md :: rest)) ∧ (kd = 100 → ∀ (xce xsu : Int32) (xsq : Int64), K (.inl (some (.int (iI (mx (fun p => if has p then difI (rdI (ltI pic lig) le to ri bo co ro qu) tg A B D p else 0) 0 (co * ro).toNat 0))))) (pre ++ cM xth xw xg xfo (iI le) (iI to) (iI ri) (iI bo) (iI co) (iI ro) (iI qu) (iI nt) xfi xsg xrk xdy xce xsu xsq :: aI 2700 mp :: aI 900 ml :: aZ 16 mh :: aI 48 mt :: aL 3 ma :: aL 3 mb :: aL 3 md :: rest)) ∧ (¬ kd = 109 → ¬ kd = 100 → ∀ (xce xsu : Int32) (xsq : Int64), K (.inl (some (.int (iI (mx (nsI (ltI pic lig) le to ri bo co ro qu) 0 (co * ro).toNat 0))))) (pre ++ cM xth xw xg xfo (iI le) (iI to) (iI ri) (iI bo) (iI co) (iI ro) (iI qu) (iI nt) xfi xsg xrk xdy xce xsu xsq :: aI 2700 mp :: aI 900 ml :: aZ 16 mh :: aI 48 mt :: aL 3 ma :: aL 3 mb :: aL 3 md :: rest))
set_option maxHeartbeats 4000000 in
set_option maxRecDepth 100000 in
theorem c_M_measure (l : Launch) : rn_Met l y_M_measure wc_M_measure { frames := 5, cells := 0, slots := 0, locals := 99 } G_M_measure := by
  refine rn_in mw_M_measure.1 (by decide +kernel) ?_ ?_
  · intro _ av h K hG
    obtain ⟨pre, rest, xth, xw, xg, xfo, xfi, xsg, xrk, xdy, xce, xsu, xsq, mp, ml, mh, mt, ma, mb, md, w, g, le, to, ri, bo, co, ro, qu, nt, kd, pic, lig, has, tg, A, B, D_, rfl, rfl, hp, hc0, hc1, hc2, hc3, hc4, hc5, k1, k2, k3⟩ := hG
    exact Nat.le_of_ble_eq_true rfl
  intro p e s m args below meth c z sa D dA av h K hadm C hG
  obtain ⟨pre, rest, xth, xw, xg, xfo, xfi, xsg, xrk, xdy, xce, xsu, xsq, mp, ml, mh, mt, ma, mb, md, w, g, le, to, ri, bo, co, ro, qu, nt, kd, pic, lig, has, tg, A, B, D_, rfl, rfl, hp, hc0, hc1, hc2, hc3, hc4, hc5, k1, k2, k3⟩ := hG
  have hf' := hc1
  have hy' := hc2
  unfold frOk at hf'
  unfold lyOk at hy'
  obtain ⟨hz, ht, htb, hnt, nt0, nt1⟩ := hc3
  have mq := mbd (A := 4) (B := 4) (a := co) (b := ro) (by omega) (by omega)
  have mp0 : 0 < co * ro := Int.mul_pos (by omega) (by omega)
  have me : iI co * iI ro = iI (co * ro) := iI_mul _ _
  have hN : ((co * ro).toNat : Int) = co * ro := by omega
  have lb : ltB (ltI pic lig) := fun x y j => ltI_in hc0.2.2.1 hc0.2.2.2 x y j
  by_cases e109 : kd = 109
  · have kk := k1 e109
    subst e109
    have loop : ∀ (j : Nat) (i a : Int), i + j = co * ro → 0 ≤ i → 0 ≤ a → a ≤ i → a + (j - sm (fun p => bI (has p)) i j) = co * ro - sm (fun p => bI (has p)) 0 (co * ro).toNat → Run p l e { frames := 5, cells := 0, slots := 0, locals := 99 } s m args below meth c z sa D dA 0 0 K 5 4 [some (.ref 21), some (.int (iI 109)), some (.int (iI (a))), some (.int (iI (i)))] [] (pre ++ cM xth xw xg xfo (iI le) (iI to) (iI ri) (iI bo) (iI co) (iI ro) (iI qu) (iI nt) xfi xsg xrk xdy xce xsu xsq :: aI 2700 mp :: aI 900 ml :: aZ 16 mh :: aI 48 mt :: aL 3 ma :: aL 3 mb :: aL 3 md :: rest) 0 0 := by
      intro j
      induction j with
      | zero =>
        intro i a hi i0 a0 a1 e
        rw [sm] at e
        rw [show co * ro - sm (fun p => bI (has p)) 0 (co * ro).toNat = a by omega] at kk
        refine rn_iload_n C d_M_measure_4 rfl ?_
        refine rn_aload_n C d_M_measure_5 rfl ?_
        refine rn_getM C hp f_M_16 d_M_measure_6 rfl ?_
        refine rn_aload_n C d_M_measure_9 rfl ?_
        refine rn_getM C hp f_M_20 d_M_measure_10 rfl ?_
        refine rn_imul C d_M_measure_13 ?_
        rw [me]
        refine rn_icmp_ge C 108 d_M_measure_14 (by decide) (fun _ => ?_) (fun q_14 => absurd ((iI_le ⟨by omega, by omega⟩ ⟨by omega, by omega⟩).mpr (by omega)) q_14)
        refine rn_iload_n C d_M_measure_108 rfl ?_
        refine rn_ireturn C rfl rfl d_M_measure_109 ⟨by decide, by decide⟩ ?_
        exact kk _ _ _
      | succ j ih =>
        intro i a hi i0 a0 a1 e
        rw [sm] at e
        have hzi := hz i i0 (by omega)
        refine rn_iload_n C d_M_measure_4 rfl ?_
        refine rn_aload_n C d_M_measure_5 rfl ?_
        refine rn_getM C hp f_M_16 d_M_measure_6 rfl ?_
        refine rn_aload_n C d_M_measure_9 rfl ?_
        refine rn_getM C hp f_M_20 d_M_measure_10 rfl ?_
        refine rn_imul C d_M_measure_13 ?_
        rw [me]
        refine rn_icmp_ge C 108 d_M_measure_14 (by decide) (fun q_14 => absurd q_14 (fun q => absurd ((iI_le ⟨by omega, by omega⟩ ⟨by omega, by omega⟩).mp q) (by omega))) (fun _ => ?_)
        refine rn_iload_n C d_M_measure_17 rfl ?_
        refine rn_bipush C (iI 109) d_M_measure_18 (by decide) ?_
        refine rn_icmp_ne C 42 d_M_measure_20 (by decide) (fun q => absurd (rfl) q) (fun _ => ?_)
        refine rn_aload_n C d_M_measure_23 rfl ?_
        refine rn_getM C hp f_M_23 d_M_measure_24 rfl ?_
        refine rn_iload_n C d_M_measure_27 rfl ?_
        refine rn_zaM C hp (j := 3) d_M_measure_28 rfl rfl (iI_vin (by omega) (by omega) (by omega)) ?_
        rw [iI_nat i0 (by omega), hzi]
        refine rn_if_eq C 36 d_M_measure_29 (by decide) (fun c29 => ?_) (fun c29 => ?_)
        · skip
          refine rn_iload_n C d_M_measure_36 rfl ?_
          refine rn_iconst C (iI 1) d_M_measure_37 (by decide) ?_
          refine rn_iadd C d_M_measure_38 ?_
          rw [iI_add]
          refine rn_goto C 87 d_M_measure_39 (by decide) ?_
          refine rn_istore C d_M_measure_87 (by decide) ?_
          refine rn_iload C d_M_measure_89 rfl ?_
          refine rn_iload_n C d_M_measure_91 rfl ?_
          refine rn_icmp_le C 100 d_M_measure_92 (by decide) (fun c92 => ?_) (fun c92 => ?_)
          · skip
            refine rn_iload_n C d_M_measure_100 rfl ?_
            refine rn_istore_n C d_M_measure_101 (by decide) ?_
            refine rn_iinc C _ d_M_measure_102 rfl (iI_inc _) (by decide) ?_
            refine rn_goto C 4 d_M_measure_105 (by decide) ?_
            refine rn_weak (lv' := [some (.ref 21), some (.int (iI 109)), some (.int _), some (.int (iI (i + 1)))]) ⟨rfl, rfl, rfl, rfl, trivial⟩ ?_
            first
              | (rw [has1 c29, show bI true = 1 from rfl] at e; exact ih (i + 1) a (by omega) (by omega) (by omega) (by omega) (by omega))
              | (rw [has0 c29, show bI false = 0 from rfl] at e; first | exact ih (i + 1) (a + 1) (by omega) (by omega) (by omega) (by omega) (by omega) | exact absurd ((iI_le ⟨by omega, by omega⟩ ⟨by omega, by omega⟩).mp c92) (by omega))
          · skip
            refine rn_iload C d_M_measure_95 rfl ?_
            refine rn_goto C 101 d_M_measure_97 (by decide) ?_
            refine rn_istore_n C d_M_measure_101 (by decide) ?_
            refine rn_iinc C _ d_M_measure_102 rfl (iI_inc _) (by decide) ?_
            refine rn_goto C 4 d_M_measure_105 (by decide) ?_
            refine rn_weak (lv' := [some (.ref 21), some (.int (iI 109)), some (.int _), some (.int (iI (i + 1)))]) ⟨rfl, rfl, rfl, rfl, trivial⟩ ?_
            first
              | (rw [has1 c29, show bI true = 1 from rfl] at e; exact ih (i + 1) a (by omega) (by omega) (by omega) (by omega) (by omega))
              | (rw [has0 c29, show bI false = 0 from rfl] at e; first | exact ih (i + 1) (a + 1) (by omega) (by omega) (by omega) (by omega) (by omega) | exact absurd ((iI_le ⟨by omega, by omega⟩ ⟨by omega, by omega⟩).mp c92) (by omega))
        · skip
          refine rn_iload_n C d_M_measure_32 rfl ?_
          refine rn_goto C 87 d_M_measure_33 (by decide) ?_
          refine rn_istore C d_M_measure_87 (by decide) ?_
          refine rn_iload C d_M_measure_89 rfl ?_
          refine rn_iload_n C d_M_measure_91 rfl ?_
          refine rn_icmp_le C 100 d_M_measure_92 (by decide) (fun c92 => ?_) (fun c92 => ?_)
          · skip
            refine rn_iload_n C d_M_measure_100 rfl ?_
            refine rn_istore_n C d_M_measure_101 (by decide) ?_
            refine rn_iinc C _ d_M_measure_102 rfl (iI_inc _) (by decide) ?_
            refine rn_goto C 4 d_M_measure_105 (by decide) ?_
            refine rn_weak (lv' := [some (.ref 21), some (.int (iI 109)), some (.int _), some (.int (iI (i + 1)))]) ⟨rfl, rfl, rfl, rfl, trivial⟩ ?_
            first
              | (rw [has1 c29, show bI true = 1 from rfl] at e; exact ih (i + 1) a (by omega) (by omega) (by omega) (by omega) (by omega))
              | (rw [has0 c29, show bI false = 0 from rfl] at e; first | exact ih (i + 1) (a + 1) (by omega) (by omega) (by omega) (by omega) (by omega) | exact absurd ((iI_le ⟨by omega, by omega⟩ ⟨by omega, by omega⟩).mp c92) (by omega))
          · skip
            refine rn_iload C d_M_measure_95 rfl ?_
            refine rn_goto C 101 d_M_measure_97 (by decide) ?_
            refine rn_istore_n C d_M_measure_101 (by decide) ?_
            refine rn_iinc C _ d_M_measure_102 rfl (iI_inc _) (by decide) ?_
            refine rn_goto C 4 d_M_measure_105 (by decide) ?_
            refine rn_weak (lv' := [some (.ref 21), some (.int (iI 109)), some (.int _), some (.int (iI (i + 1)))]) ⟨rfl, rfl, rfl, rfl, trivial⟩ ?_
            first
              | (rw [has1 c29, show bI true = 1 from rfl] at e; exact ih (i + 1) a (by omega) (by omega) (by omega) (by omega) (by omega))
              | (rw [has0 c29, show bI false = 0 from rfl] at e; first | exact ih (i + 1) (a + 1) (by omega) (by omega) (by omega) (by omega) (by omega) | exact absurd ((iI_le ⟨by omega, by omega⟩ ⟨by omega, by omega⟩).mp c92) (by omega))
    refine rn_iconst C (iI 0) d_M_measure_0 (by decide) ?_
    refine rn_istore_n C d_M_measure_1 (by decide) ?_
    refine rn_iconst C (iI 0) d_M_measure_2 (by decide) ?_
    refine rn_istore_n C d_M_measure_3 (by decide) ?_
    exact loop (co * ro).toNat 0 0 (by omega) (by omega) (by omega) (by omega) (by omega)
  by_cases e100 : kd = 100
  · have kk := k2 e100
    subst e100
    have loop : ∀ (j : Nat) (i a : Int) (xce xsu : Int32) (xsq : Int64), i + j = co * ro → 0 ≤ i → 0 ≤ a → a ≤ 780300 → mx (fun p => if has p then difI (rdI (ltI pic lig) le to ri bo co ro qu) tg A B D_ p else 0) i j a = mx (fun p => if has p then difI (rdI (ltI pic lig) le to ri bo co ro qu) tg A B D_ p else 0) 0 (co * ro).toNat 0 → Run p l e { frames := 5, cells := 0, slots := 0, locals := 99 } s m args below meth c z sa D dA 0 0 K 5 4 [some (.ref 21), some (.int (iI 100)), some (.int (iI (a))), some (.int (iI (i)))] [] (pre ++ cM xth xw xg xfo (iI le) (iI to) (iI ri) (iI bo) (iI co) (iI ro) (iI qu) (iI nt) xfi xsg xrk xdy xce xsu xsq :: aI 2700 mp :: aI 900 ml :: aZ 16 mh :: aI 48 mt :: aL 3 ma :: aL 3 mb :: aL 3 md :: rest) 0 0 := by
      intro j
      induction j with
      | zero =>
        intro i a xce xsu xsq hi i0 a0 a1 e
        have e2 : a = mx (fun p => if has p then difI (rdI (ltI pic lig) le to ri bo co ro qu) tg A B D_ p else 0) 0 (co * ro).toNat 0 := e
        rw [← e2] at kk
        refine rn_iload_n C d_M_measure_4 rfl ?_
        refine rn_aload_n C d_M_measure_5 rfl ?_
        refine rn_getM C hp f_M_16 d_M_measure_6 rfl ?_
        refine rn_aload_n C d_M_measure_9 rfl ?_
        refine rn_getM C hp f_M_20 d_M_measure_10 rfl ?_
        refine rn_imul C d_M_measure_13 ?_
        rw [me]
        refine rn_icmp_ge C 108 d_M_measure_14 (by decide) (fun _ => ?_) (fun q_14 => absurd ((iI_le ⟨by omega, by omega⟩ ⟨by omega, by omega⟩).mpr (by omega)) q_14)
        refine rn_iload_n C d_M_measure_108 rfl ?_
        refine rn_ireturn C rfl rfl d_M_measure_109 ⟨by decide, by decide⟩ ?_
        exact kk _ _ _
      | succ j ih =>
        intro i a xce xsu xsq hi i0 a0 a1 e
        rw [mx] at e
        have hzi := hz i i0 (by omega)
        refine rn_iload_n C d_M_measure_4 rfl ?_
        refine rn_aload_n C d_M_measure_5 rfl ?_
        refine rn_getM C hp f_M_16 d_M_measure_6 rfl ?_
        refine rn_aload_n C d_M_measure_9 rfl ?_
        refine rn_getM C hp f_M_20 d_M_measure_10 rfl ?_
        refine rn_imul C d_M_measure_13 ?_
        rw [me]
        refine rn_icmp_ge C 108 d_M_measure_14 (by decide) (fun q_14 => absurd q_14 (fun q => absurd ((iI_le ⟨by omega, by omega⟩ ⟨by omega, by omega⟩).mp q) (by omega))) (fun _ => ?_)
        refine rn_iload_n C d_M_measure_17 rfl ?_
        refine rn_bipush C (iI 109) d_M_measure_18 (by decide) ?_
        refine rn_icmp_ne C 42 d_M_measure_20 (by decide) (fun _ => ?_) (fun q => absurd q (by decide))
        refine rn_iload_n C d_M_measure_42 rfl ?_
        refine rn_bipush C (iI 100) d_M_measure_43 (by decide) ?_
        refine rn_icmp_ne C 69 d_M_measure_45 (by decide) (fun q => absurd (rfl) q) (fun _ => ?_)
        refine rn_aload_n C d_M_measure_48 rfl ?_
        refine rn_getM C hp f_M_23 d_M_measure_49 rfl ?_
        refine rn_iload_n C d_M_measure_52 rfl ?_
        refine rn_zaM C hp (j := 3) d_M_measure_53 rfl rfl (iI_vin (by omega) (by omega) (by omega)) ?_
        rw [iI_nat i0 (by omega), hzi]
        refine rn_if_eq C 65 d_M_measure_54 (by decide) (fun c54 => ?_) (fun c54 => ?_)
        · skip
          refine rn_iconst C (iI 0) d_M_measure_65 (by decide) ?_
          refine rn_goto C 87 d_M_measure_66 (by decide) ?_
          refine rn_istore C d_M_measure_87 (by decide) ?_
          refine rn_iload C d_M_measure_89 rfl ?_
          refine rn_iload_n C d_M_measure_91 rfl ?_
          refine rn_icmp_le C 100 d_M_measure_92 (by decide) (fun c92 => ?_) (fun c92 => ?_)
          · skip
            refine rn_iload_n C d_M_measure_100 rfl ?_
            refine rn_istore_n C d_M_measure_101 (by decide) ?_
            refine rn_iinc C _ d_M_measure_102 rfl (iI_inc _) (by decide) ?_
            refine rn_goto C 4 d_M_measure_105 (by decide) ?_
            refine rn_weak (lv' := [some (.ref 21), some (.int (iI 100)), some (.int _), some (.int (iI (i + 1)))]) ⟨rfl, rfl, rfl, rfl, trivial⟩ ?_
            first
              | (have hi1 := has1 c54; have dv := difI_in (rd := (rdI (ltI pic lig) le to ri bo co ro qu)) (A := A) (B := B) (D := D_) (p := i) (fun k h3 h4 => htb i k i0 (by omega) h3 h4 hi1)
                 rw [if_pos hi1] at e
                 have cmp : (iI (difI (rdI (ltI pic lig) le to ri bo co ro qu) tg A B D_ i) ≤ iI a) ↔ difI (rdI (ltI pic lig) le to ri bo co ro qu) tg A B D_ i ≤ a := iI_le ⟨by omega, by omega⟩ ⟨by omega, by omega⟩
                 rw [cmp] at c92
                 first
                   | exact ih (i + 1) a _ _ _ (by omega) (by omega) (by omega) (by omega) (by rw [show max a (difI (rdI (ltI pic lig) le to ri bo co ro qu) tg A B D_ i) = a by omega] at e; exact e)
                   | exact ih (i + 1) (difI (rdI (ltI pic lig) le to ri bo co ro qu) tg A B D_ i) _ _ _ (by omega) (by omega) (by omega) (by omega) (by rw [show max a (difI (rdI (ltI pic lig) le to ri bo co ro qu) tg A B D_ i) = difI (rdI (ltI pic lig) le to ri bo co ro qu) tg A B D_ i by omega] at e; exact e))
              | (have hi1 := has0 c54; rw [hi1, if_neg (by decide)] at e; rw [show max a 0 = a by omega] at e
                 first
                   | exact ih (i + 1) a _ _ _ (by omega) (by omega) (by omega) (by omega) e
                   | exact absurd ((iI_le ⟨by omega, by omega⟩ ⟨by omega, by omega⟩).mpr (by omega)) c92)
          · skip
            refine rn_iload C d_M_measure_95 rfl ?_
            refine rn_goto C 101 d_M_measure_97 (by decide) ?_
            refine rn_istore_n C d_M_measure_101 (by decide) ?_
            refine rn_iinc C _ d_M_measure_102 rfl (iI_inc _) (by decide) ?_
            refine rn_goto C 4 d_M_measure_105 (by decide) ?_
            refine rn_weak (lv' := [some (.ref 21), some (.int (iI 100)), some (.int _), some (.int (iI (i + 1)))]) ⟨rfl, rfl, rfl, rfl, trivial⟩ ?_
            first
              | (have hi1 := has1 c54; have dv := difI_in (rd := (rdI (ltI pic lig) le to ri bo co ro qu)) (A := A) (B := B) (D := D_) (p := i) (fun k h3 h4 => htb i k i0 (by omega) h3 h4 hi1)
                 rw [if_pos hi1] at e
                 have cmp : (iI (difI (rdI (ltI pic lig) le to ri bo co ro qu) tg A B D_ i) ≤ iI a) ↔ difI (rdI (ltI pic lig) le to ri bo co ro qu) tg A B D_ i ≤ a := iI_le ⟨by omega, by omega⟩ ⟨by omega, by omega⟩
                 rw [cmp] at c92
                 first
                   | exact ih (i + 1) a _ _ _ (by omega) (by omega) (by omega) (by omega) (by rw [show max a (difI (rdI (ltI pic lig) le to ri bo co ro qu) tg A B D_ i) = a by omega] at e; exact e)
                   | exact ih (i + 1) (difI (rdI (ltI pic lig) le to ri bo co ro qu) tg A B D_ i) _ _ _ (by omega) (by omega) (by omega) (by omega) (by rw [show max a (difI (rdI (ltI pic lig) le to ri bo co ro qu) tg A B D_ i) = difI (rdI (ltI pic lig) le to ri bo co ro qu) tg A B D_ i by omega] at e; exact e))
              | (have hi1 := has0 c54; rw [hi1, if_neg (by decide)] at e; rw [show max a 0 = a by omega] at e
                 first
                   | exact ih (i + 1) a _ _ _ (by omega) (by omega) (by omega) (by omega) e
                   | exact absurd ((iI_le ⟨by omega, by omega⟩ ⟨by omega, by omega⟩).mpr (by omega)) c92)
        · skip
          refine rn_aload_n C d_M_measure_57 rfl ?_
          refine rn_iload_n C d_M_measure_58 rfl ?_
          refine rn_cV C (c_M_differs l) mw_M_differs k_M_159 d_M_measure_59 rfl (mH 0 hp rfl rfl) rfl (Nat.le_of_ble_eq_true rfl) (Nat.le_of_ble_eq_true rfl) ⟨by decide, by decide⟩ ⟨by decide, by decide⟩ ?_
          refine ⟨_, _, _, _, _, _, _, _, _, _, _, _, _, _, _, _, _, _, _, _, _, _, _, _, _, _, _, _, _, _, _, _, _, _, _, _, _, _, rfl, rfl, hp, hc0, hc1, hc2, ⟨ht, htb⟩, hc4, ⟨i0, by omega⟩, has1 c54, fun _ _ _ => ?_⟩
          refine rn_goto C 87 d_M_measure_62 (by decide) ?_
          refine rn_istore C d_M_measure_87 (by decide) ?_
          refine rn_iload C d_M_measure_89 rfl ?_
          refine rn_iload_n C d_M_measure_91 rfl ?_
          refine rn_icmp_le C 100 d_M_measure_92 (by decide) (fun c92 => ?_) (fun c92 => ?_)
          · skip
            refine rn_iload_n C d_M_measure_100 rfl ?_
            refine rn_istore_n C d_M_measure_101 (by decide) ?_
            refine rn_iinc C _ d_M_measure_102 rfl (iI_inc _) (by decide) ?_
            refine rn_goto C 4 d_M_measure_105 (by decide) ?_
            refine rn_weak (lv' := [some (.ref 21), some (.int (iI 100)), some (.int _), some (.int (iI (i + 1)))]) ⟨rfl, rfl, rfl, rfl, trivial⟩ ?_
            first
              | (have hi1 := has1 c54; have dv := difI_in (rd := (rdI (ltI pic lig) le to ri bo co ro qu)) (A := A) (B := B) (D := D_) (p := i) (fun k h3 h4 => htb i k i0 (by omega) h3 h4 hi1)
                 rw [if_pos hi1] at e
                 have cmp : (iI (difI (rdI (ltI pic lig) le to ri bo co ro qu) tg A B D_ i) ≤ iI a) ↔ difI (rdI (ltI pic lig) le to ri bo co ro qu) tg A B D_ i ≤ a := iI_le ⟨by omega, by omega⟩ ⟨by omega, by omega⟩
                 rw [cmp] at c92
                 first
                   | exact ih (i + 1) a _ _ _ (by omega) (by omega) (by omega) (by omega) (by rw [show max a (difI (rdI (ltI pic lig) le to ri bo co ro qu) tg A B D_ i) = a by omega] at e; exact e)
                   | exact ih (i + 1) (difI (rdI (ltI pic lig) le to ri bo co ro qu) tg A B D_ i) _ _ _ (by omega) (by omega) (by omega) (by omega) (by rw [show max a (difI (rdI (ltI pic lig) le to ri bo co ro qu) tg A B D_ i) = difI (rdI (ltI pic lig) le to ri bo co ro qu) tg A B D_ i by omega] at e; exact e))
              | (have hi1 := has0 c54; rw [hi1, if_neg (by decide)] at e; rw [show max a 0 = a by omega] at e
                 first
                   | exact ih (i + 1) a _ _ _ (by omega) (by omega) (by omega) (by omega) e
                   | exact absurd ((iI_le ⟨by omega, by omega⟩ ⟨by omega, by omega⟩).mpr (by omega)) c92)
          · skip
            refine rn_iload C d_M_measure_95 rfl ?_
            refine rn_goto C 101 d_M_measure_97 (by decide) ?_
            refine rn_istore_n C d_M_measure_101 (by decide) ?_
            refine rn_iinc C _ d_M_measure_102 rfl (iI_inc _) (by decide) ?_
            refine rn_goto C 4 d_M_measure_105 (by decide) ?_
            refine rn_weak (lv' := [some (.ref 21), some (.int (iI 100)), some (.int _), some (.int (iI (i + 1)))]) ⟨rfl, rfl, rfl, rfl, trivial⟩ ?_
            first
              | (have hi1 := has1 c54; have dv := difI_in (rd := (rdI (ltI pic lig) le to ri bo co ro qu)) (A := A) (B := B) (D := D_) (p := i) (fun k h3 h4 => htb i k i0 (by omega) h3 h4 hi1)
                 rw [if_pos hi1] at e
                 have cmp : (iI (difI (rdI (ltI pic lig) le to ri bo co ro qu) tg A B D_ i) ≤ iI a) ↔ difI (rdI (ltI pic lig) le to ri bo co ro qu) tg A B D_ i ≤ a := iI_le ⟨by omega, by omega⟩ ⟨by omega, by omega⟩
                 rw [cmp] at c92
                 first
                   | exact ih (i + 1) a _ _ _ (by omega) (by omega) (by omega) (by omega) (by rw [show max a (difI (rdI (ltI pic lig) le to ri bo co ro qu) tg A B D_ i) = a by omega] at e; exact e)
                   | exact ih (i + 1) (difI (rdI (ltI pic lig) le to ri bo co ro qu) tg A B D_ i) _ _ _ (by omega) (by omega) (by omega) (by omega) (by rw [show max a (difI (rdI (ltI pic lig) le to ri bo co ro qu) tg A B D_ i) = difI (rdI (ltI pic lig) le to ri bo co ro qu) tg A B D_ i by omega] at e; exact e))
              | (have hi1 := has0 c54; rw [hi1, if_neg (by decide)] at e; rw [show max a 0 = a by omega] at e
                 first
                   | exact ih (i + 1) a _ _ _ (by omega) (by omega) (by omega) (by omega) e
                   | exact absurd ((iI_le ⟨by omega, by omega⟩ ⟨by omega, by omega⟩).mpr (by omega)) c92)
    refine rn_iconst C (iI 0) d_M_measure_0 (by decide) ?_
    refine rn_istore_n C d_M_measure_1 (by decide) ?_
    refine rn_iconst C (iI 0) d_M_measure_2 (by decide) ?_
    refine rn_istore_n C d_M_measure_3 (by decide) ?_
    exact loop (co * ro).toNat 0 0 _ _ _ (by omega) (by omega) (by omega) (by omega) rfl
  have kk := k3 e109 e100
  have loop : ∀ (j : Nat) (i a : Int) (xce xsu : Int32) (xsq : Int64), i + j = co * ro → 0 ≤ i → 0 ≤ a → a ≤ 65025 → mx (nsI (ltI pic lig) le to ri bo co ro qu) i j a = mx (nsI (ltI pic lig) le to ri bo co ro qu) 0 (co * ro).toNat 0 → Run p l e { frames := 5, cells := 0, slots := 0, locals := 99 } s m args below meth c z sa D dA 0 0 K 5 4 [some (.ref 21), some (.int (iI kd)), some (.int (iI (a))), some (.int (iI (i)))] [] (pre ++ cM xth xw xg xfo (iI le) (iI to) (iI ri) (iI bo) (iI co) (iI ro) (iI qu) (iI nt) xfi xsg xrk xdy xce xsu xsq :: aI 2700 mp :: aI 900 ml :: aZ 16 mh :: aI 48 mt :: aL 3 ma :: aL 3 mb :: aL 3 md :: rest) 0 0 := by
    intro j
    induction j with
    | zero =>
      intro i a xce xsu xsq hi i0 a0 a1 e
      have e2 : a = mx (nsI (ltI pic lig) le to ri bo co ro qu) 0 (co * ro).toNat 0 := e
      rw [← e2] at kk
      refine rn_iload_n C d_M_measure_4 rfl ?_
      refine rn_aload_n C d_M_measure_5 rfl ?_
      refine rn_getM C hp f_M_16 d_M_measure_6 rfl ?_
      refine rn_aload_n C d_M_measure_9 rfl ?_
      refine rn_getM C hp f_M_20 d_M_measure_10 rfl ?_
      refine rn_imul C d_M_measure_13 ?_
      rw [me]
      refine rn_icmp_ge C 108 d_M_measure_14 (by decide) (fun _ => ?_) (fun q_14 => absurd ((iI_le ⟨by omega, by omega⟩ ⟨by omega, by omega⟩).mpr (by omega)) q_14)
      refine rn_iload_n C d_M_measure_108 rfl ?_
      refine rn_ireturn C rfl rfl d_M_measure_109 ⟨by decide, by decide⟩ ?_
      exact kk _ _ _
    | succ j ih =>
      intro i a xce xsu xsq hi i0 a0 a1 e
      rw [mx] at e
      have hzi := hz i i0 (by omega)
      have fr := nsI_in lb hc1 hc2 i0 (show i < co * ro by omega)
      have sp := spI_in lb hc1 hc2 i0 (show i < co * ro by omega)
      have rn := rcN_in hc1 hc2 i0 (show i < co * ro by omega)
      have ens : (nsI (ltI pic lig) le to ri bo co ro qu) i = (spI (ltI pic lig) le to ri bo co ro qu i).tdiv (rcN le to ri bo co ro qu i * rcN le to ri bo co ro qu i) := rfl
      refine rn_iload_n C d_M_measure_4 rfl ?_
      refine rn_aload_n C d_M_measure_5 rfl ?_
      refine rn_getM C hp f_M_16 d_M_measure_6 rfl ?_
      refine rn_aload_n C d_M_measure_9 rfl ?_
      refine rn_getM C hp f_M_20 d_M_measure_10 rfl ?_
      refine rn_imul C d_M_measure_13 ?_
      rw [me]
      refine rn_icmp_ge C 108 d_M_measure_14 (by decide) (fun q_14 => absurd q_14 (fun q => absurd ((iI_le ⟨by omega, by omega⟩ ⟨by omega, by omega⟩).mp q) (by omega))) (fun _ => ?_)
      refine rn_iload_n C d_M_measure_17 rfl ?_
      refine rn_bipush C (iI 109) d_M_measure_18 (by decide) ?_
      refine rn_icmp_ne C 42 d_M_measure_20 (by decide) (fun _ => ?_) (fun q => absurd q (fun q => e109 ((iI_eq ⟨by omega, by omega⟩ ⟨by omega, by omega⟩).mp q)))
      refine rn_iload_n C d_M_measure_42 rfl ?_
      refine rn_bipush C (iI 100) d_M_measure_43 (by decide) ?_
      refine rn_icmp_ne C 69 d_M_measure_45 (by decide) (fun _ => ?_) (fun q => absurd q (fun q => e100 ((iI_eq ⟨by omega, by omega⟩ ⟨by omega, by omega⟩).mp q)))
      refine rn_aload_n C d_M_measure_69 rfl ?_
      refine rn_iload_n C d_M_measure_70 rfl ?_
      refine rn_cV C (c_M_spread l) mw_M_spread k_M_133 d_M_measure_71 rfl (mH 0 hp rfl rfl) rfl (Nat.le_of_ble_eq_true rfl) (Nat.le_of_ble_eq_true rfl) ⟨by decide, by decide⟩ ⟨by decide, by decide⟩ ?_
      refine ⟨_, _, _, _, _, _, _, _, _, _, _, _, _, _, _, _, _, _, _, _, _, _, _, _, _, _, _, _, rfl, rfl, hp, hc0, hc1, hc2, ⟨i0, by omega⟩, fun _ _ => ?_⟩
      refine rn_aload_n C d_M_measure_74 rfl ?_
      refine rn_getM C hp f_M_108 d_M_measure_75 rfl ?_
      refine rn_i2l C d_M_measure_78 ?_
      rw [iI_toL ⟨by omega, by omega⟩]
      refine rn_aload_n C d_M_measure_79 rfl ?_
      refine rn_getM C hp f_M_108 d_M_measure_80 rfl ?_
      refine rn_i2l C d_M_measure_83 ?_
      rw [iI_toL ⟨by omega, by omega⟩]
      refine rn_lmul C d_M_measure_84 ?_
      rw [lI_mul]
      refine rn_ldiv C d_M_measure_85 (fun q => absurd ((lI_eq ⟨by omega, by omega⟩ ⟨by omega, by omega⟩).mp (show lI (rcN le to ri bo co ro qu i * rcN le to ri bo co ro qu i) = lI 0 from q)) (by omega)) ?_
      rw [lI_tdiv ⟨by omega, by omega⟩ ⟨by omega, by omega⟩ ⟨by omega, by omega⟩, ← ens]
      refine rn_l2i C d_M_measure_86 ?_
      rw [lI_toI ⟨by omega, by omega⟩]
      refine rn_istore C d_M_measure_87 (by decide) ?_
      refine rn_iload C d_M_measure_89 rfl ?_
      refine rn_iload_n C d_M_measure_91 rfl ?_
      refine rn_icmp_le C 100 d_M_measure_92 (by decide) (fun c92 => ?_) (fun c92 => ?_)
      · skip
        refine rn_iload_n C d_M_measure_100 rfl ?_
        refine rn_istore_n C d_M_measure_101 (by decide) ?_
        refine rn_iinc C _ d_M_measure_102 rfl (iI_inc _) (by decide) ?_
        refine rn_goto C 4 d_M_measure_105 (by decide) ?_
        refine rn_weak (lv' := [some (.ref 21), some (.int (iI kd)), some (.int _), some (.int (iI (i + 1)))]) ⟨rfl, rfl, rfl, rfl, trivial⟩ ?_
        have cmp : (iI ((nsI (ltI pic lig) le to ri bo co ro qu) i) ≤ iI a) ↔ (nsI (ltI pic lig) le to ri bo co ro qu) i ≤ a := iI_le ⟨by omega, by omega⟩ ⟨by omega, by omega⟩
        rw [cmp] at c92
        first
          | exact ih (i + 1) a _ _ _ (by omega) (by omega) (by omega) (by omega) (by rw [show max a ((nsI (ltI pic lig) le to ri bo co ro qu) i) = a by omega] at e; exact e)
          | exact ih (i + 1) ((nsI (ltI pic lig) le to ri bo co ro qu) i) _ _ _ (by omega) (by omega) (by omega) (by omega) (by rw [show max a ((nsI (ltI pic lig) le to ri bo co ro qu) i) = (nsI (ltI pic lig) le to ri bo co ro qu) i by omega] at e; exact e)
      · skip
        refine rn_iload C d_M_measure_95 rfl ?_
        refine rn_goto C 101 d_M_measure_97 (by decide) ?_
        refine rn_istore_n C d_M_measure_101 (by decide) ?_
        refine rn_iinc C _ d_M_measure_102 rfl (iI_inc _) (by decide) ?_
        refine rn_goto C 4 d_M_measure_105 (by decide) ?_
        refine rn_weak (lv' := [some (.ref 21), some (.int (iI kd)), some (.int _), some (.int (iI (i + 1)))]) ⟨rfl, rfl, rfl, rfl, trivial⟩ ?_
        have cmp : (iI ((nsI (ltI pic lig) le to ri bo co ro qu) i) ≤ iI a) ↔ (nsI (ltI pic lig) le to ri bo co ro qu) i ≤ a := iI_le ⟨by omega, by omega⟩ ⟨by omega, by omega⟩
        rw [cmp] at c92
        first
          | exact ih (i + 1) a _ _ _ (by omega) (by omega) (by omega) (by omega) (by rw [show max a ((nsI (ltI pic lig) le to ri bo co ro qu) i) = a by omega] at e; exact e)
          | exact ih (i + 1) ((nsI (ltI pic lig) le to ri bo co ro qu) i) _ _ _ (by omega) (by omega) (by omega) (by omega) (by rw [show max a ((nsI (ltI pic lig) le to ri bo co ro qu) i) = (nsI (ltI pic lig) le to ri bo co ro qu) i by omega] at e; exact e)
  refine rn_iconst C (iI 0) d_M_measure_0 (by decide) ?_
  refine rn_istore_n C d_M_measure_1 (by decide) ?_
  refine rn_iconst C (iI 0) d_M_measure_2 (by decide) ?_
  refine rn_istore_n C d_M_measure_3 (by decide) ?_
  exact loop (co * ro).toNat 0 0 _ _ _ (by omega) (by omega) (by omega) (by omega) rfl

def G_M_reject (av : List Value) (h : ah_H) (K : ah_R → ah_H → Prop) : Prop := ∃ (e29 : ah_E) (pre rest : ah_H) (xth xw xg xsg xdy xce xsu : Int32) (xsq : Int64) (mp ml mh mt mk mw mi : Nat → Int32) (ma mb md : Nat → Int64) (w g le to ri bo co ro qu nt fo fi rk : Int) (pic : Int → Int → Int → Int) (lig : Int → Int → Int) (has : Int → Bool) (tg : Int → Int → Int) (A B D kd wy lm : Int → Int), av = [.ref 21] ∧ h = pre ++ cM xth xw xg (iI fo) (iI le) (iI to) (iI ri) (iI bo) (iI co) (iI ro) (iI qu) (iI nt) (iI fi) xsg (iI rk) xdy xce xsu xsq :: aI 2700 mp :: aI 900 ml :: aZ 16 mh :: aI 48 mt :: aL 3 ma :: aL 3 mb :: aL 3 md :: e29 :: aI 8 mk :: aI 8 mw :: aI 8 mi :: rest ∧ pre.length = 21 ∧ (fo = 0 ∨ fo = 1) ∧ (fi = 0 ∨ fi = 1) ∧ (mpOk mp ml pic lig) ∧ (lyOk co ro qu) ∧ (fo = 1 → frOk le to ri bo w g) ∧ (zOk 16 mh has ∧ tOk mt has tg ∧ tgB tg has ∧ (0 ≤ nt → has nt = true) ∧ -1 ≤ nt ∧ nt < 16) ∧ (lnOk fi ma mb md A B D) ∧ (ruOk rk mk mw mi kd wy lm) ∧ (0 ≤ rk ∧ rk ≤ 8) ∧ (∀ j : Int, 0 ≤ j → j < rk → (kd j = 100 ∨ kd j = 110 ∨ kd j = 109)) ∧ ((fo = 0 ∨ fi = 0) → K (.inl (some (.int (iI 0)))) (pre ++ cM (iI 1) xw xg (iI fo) (iI le) (iI to) (iI ri) (iI bo) (iI co) (iI ro) (iI qu) (iI nt) (iI fi) xsg (iI rk) xdy xce xsu xsq :: aI 2700 mp :: aI 900 ml :: aZ 16 mh :: aI 48 mt :: aL 3 ma :: aL 3 mb :: aL 3 md :: e29 :: aI 8 mk :: aI 8 mw :: aI 8 mi :: rest)) ∧ (fo = 1 → fi = 1 → ∀ (a : Int) (xce xsu : Int32) (xsq : Int64), rjA kd wy lm (mx (fun p => if has p then difI (rdI (ltI pic lig) le to ri bo co ro qu) tg A B D p else 0) 0 (co * ro).toNat 0) (mx (nsI (ltI pic lig) le to ri bo co ro qu) 0 (co * ro).toNat 0) (co * ro - sm (fun p => bI (has p)) 0 (co * ro).toNat) rk a → K (.inl (some (.int (iI a)))) (pre ++ cM (iI 0) xw xg (iI fo) (iI le) (iI to) (iI ri) (iI bo) (iI co) (iI ro) (iI qu) (iI nt) (iI fi) xsg (iI rk) xdy xce xsu xsq :: aI 2700 mp :: aI 900 ml :: aZ 16 mh :: aI 48 mt :: aL 3 ma :: aL 3 mb :: aL 3 md :: e29 :: aI 8 mk :: aI 8 mw :: aI 8 mi :: rest))
set_option maxHeartbeats 4000000 in
set_option maxRecDepth 100000 in
theorem c_M_reject (l : Launch) : rn_Met l y_M_reject wc_M_reject { frames := 6, cells := 0, slots := 0, locals := 123 } G_M_reject := by
  refine rn_in mw_M_reject.1 (by decide +kernel) ?_ ?_
  · intro _ av h K hG
    obtain ⟨e29, pre, rest, xth, xw, xg, xsg, xdy, xce, xsu, xsq, mp, ml, mh, mt, mk, mw, mi, ma, mb, md, w, g, le, to, ri, bo, co, ro, qu, nt, fo, fi, rk, pic, lig, has, tg, A, B, D_, kd, wy, lm, rfl, rfl, hp, hc0, hc1, hc2, hc3, hc4, hc5, hc6, hc7, hc8, hc9, k1, k2⟩ := hG
    exact Nat.le_of_ble_eq_true rfl
  intro p e s m args below meth c z sa D dA av h K hadm C hG
  obtain ⟨e29, pre, rest, xth, xw, xg, xsg, xdy, xce, xsu, xsq, mp, ml, mh, mt, mk, mw, mi, ma, mb, md, w, g, le, to, ri, bo, co, ro, qu, nt, fo, fi, rk, pic, lig, has, tg, A, B, D_, kd, wy, lm, rfl, rfl, hp, hc0, hc1, hc2, hc3, hc4, hc5, hc6, hc7, hc8, hc9, k1, k2⟩ := hG
  have hy' := hc3
  unfold lyOk at hy'
  have mq := mbd (A := 4) (B := 4) (a := co) (b := ro) (by omega) (by omega)
  have mp0 : 0 < co * ro := Int.mul_pos (by omega) (by omega)
  have hN : ((co * ro).toNat : Int) = co * ro := by omega
  rcases hc0 with rfl | rfl <;> rcases hc1 with rfl | rfl
  · skip
    refine rn_aload_n C d_M_reject_0 rfl ?_
    refine rn_aload_n C d_M_reject_1 rfl ?_
    refine rn_getM C hp f_M_101 d_M_reject_2 rfl ?_
    refine rn_if_eq C 19 d_M_reject_5 (by decide) (fun _ => ?_) (fun q => absurd rfl q)
    refine rn_iconst C (iI 0) d_M_reject_19 (by decide) ?_
    refine rn_iconst C (iI 1) d_M_reject_20 (by decide) ?_
    refine rn_iconst C (iI 1) d_M_reject_21 (by decide) ?_
    refine rn_cV C (c_M_goes l) mw_M_goes k_M_78 d_M_reject_22 rfl (mH 0 hp rfl rfl) rfl (Nat.le_of_ble_eq_true rfl) (Nat.le_of_ble_eq_true rfl) ⟨by decide, by decide⟩ ⟨by decide, by decide⟩ ?_
    refine ⟨_, _, _, _, _, _, _, _, _, _, _, _, _, _, _, _, _, _, _, _, _, _, _, _, rfl, rfl, hp, ?_⟩
    refine rn_if_ne C 30 d_M_reject_25 (by decide) (fun q => absurd rfl q) (fun _ => ?_)
    refine rn_iconst C (iI 0) d_M_reject_28 (by decide) ?_
    refine rn_ireturn C rfl rfl d_M_reject_29 ⟨by decide, by decide⟩ ?_
    exact k1 (by omega)
  · skip
    refine rn_aload_n C d_M_reject_0 rfl ?_
    refine rn_aload_n C d_M_reject_1 rfl ?_
    refine rn_getM C hp f_M_101 d_M_reject_2 rfl ?_
    refine rn_if_eq C 19 d_M_reject_5 (by decide) (fun _ => ?_) (fun q => absurd rfl q)
    refine rn_iconst C (iI 0) d_M_reject_19 (by decide) ?_
    refine rn_iconst C (iI 1) d_M_reject_20 (by decide) ?_
    refine rn_iconst C (iI 1) d_M_reject_21 (by decide) ?_
    refine rn_cV C (c_M_goes l) mw_M_goes k_M_78 d_M_reject_22 rfl (mH 0 hp rfl rfl) rfl (Nat.le_of_ble_eq_true rfl) (Nat.le_of_ble_eq_true rfl) ⟨by decide, by decide⟩ ⟨by decide, by decide⟩ ?_
    refine ⟨_, _, _, _, _, _, _, _, _, _, _, _, _, _, _, _, _, _, _, _, _, _, _, _, rfl, rfl, hp, ?_⟩
    refine rn_if_ne C 30 d_M_reject_25 (by decide) (fun q => absurd rfl q) (fun _ => ?_)
    refine rn_iconst C (iI 0) d_M_reject_28 (by decide) ?_
    refine rn_ireturn C rfl rfl d_M_reject_29 ⟨by decide, by decide⟩ ?_
    exact k1 (by omega)
  · skip
    refine rn_aload_n C d_M_reject_0 rfl ?_
    refine rn_aload_n C d_M_reject_1 rfl ?_
    refine rn_getM C hp f_M_101 d_M_reject_2 rfl ?_
    refine rn_if_eq C 19 d_M_reject_5 (by decide) (fun q => absurd q (by decide)) (fun _ => ?_)
    refine rn_aload_n C d_M_reject_8 rfl ?_
    refine rn_getM C hp f_M_149 d_M_reject_9 rfl ?_
    refine rn_if_eq C 19 d_M_reject_12 (by decide) (fun _ => ?_) (fun q => absurd rfl q)
    refine rn_iconst C (iI 0) d_M_reject_19 (by decide) ?_
    refine rn_iconst C (iI 1) d_M_reject_20 (by decide) ?_
    refine rn_iconst C (iI 1) d_M_reject_21 (by decide) ?_
    refine rn_cV C (c_M_goes l) mw_M_goes k_M_78 d_M_reject_22 rfl (mH 0 hp rfl rfl) rfl (Nat.le_of_ble_eq_true rfl) (Nat.le_of_ble_eq_true rfl) ⟨by decide, by decide⟩ ⟨by decide, by decide⟩ ?_
    refine ⟨_, _, _, _, _, _, _, _, _, _, _, _, _, _, _, _, _, _, _, _, _, _, _, _, rfl, rfl, hp, ?_⟩
    refine rn_if_ne C 30 d_M_reject_25 (by decide) (fun q => absurd rfl q) (fun _ => ?_)
    refine rn_iconst C (iI 0) d_M_reject_28 (by decide) ?_
    refine rn_ireturn C rfl rfl d_M_reject_29 ⟨by decide, by decide⟩ ?_
    exact k1 (by omega)
  · have fr := hc4 rfl
    have k2 := k2 rfl rfl
    have lb : ltB (ltI pic lig) := fun x y j => ltI_in hc2.2.2.1 hc2.2.2.2 x y j
    have m1 := mx_in (f := (fun p => if has p then difI (rdI (ltI pic lig) le to ri bo co ro qu) tg A B D_ p else 0)) (M := 780300) (co * ro).toNat 0 0 (by omega) (by omega) (fun j h1 h2 => by
      cases hj : has j with
      | false => simp
      | true => rw [if_pos rfl]; exact (difI_in (fun k h3 h4 => hc5.2.2.1 j k h1 (by omega) h3 h4 hj)).2)
    have m2 := mx_in (f := (nsI (ltI pic lig) le to ri bo co ro qu)) (M := 65025) (co * ro).toNat 0 0 (by omega) (by omega) (fun j h1 h2 => (nsI_in lb fr hc3 h1 (by omega)).2)
    have hsn := sm_has_le has (co * ro).toNat 0
    have loop : ∀ (j : Nat) (i : Int) (xce xsu : Int32) (xsq : Int64), i + j = rk → 0 ≤ i → (∀ j : Int, 0 ≤ j → j < i → ¬ rjT kd wy lm (mx (fun p => if has p then difI (rdI (ltI pic lig) le to ri bo co ro qu) tg A B D_ p else 0) 0 (co * ro).toNat 0) (mx (nsI (ltI pic lig) le to ri bo co ro qu) 0 (co * ro).toNat 0) (co * ro - sm (fun p => bI (has p)) 0 (co * ro).toNat) j) → Run p l e { frames := 6, cells := 0, slots := 0, locals := 123 } s m args below meth c z sa D dA 0 0 K 3 32 [some (.ref 21), some (.int (iI i))] [] (pre ++ cM (iI 0) xw xg (iI 1) (iI le) (iI to) (iI ri) (iI bo) (iI co) (iI ro) (iI qu) (iI nt) (iI 1) xsg (iI rk) xdy xce xsu xsq :: aI 2700 mp :: aI 900 ml :: aZ 16 mh :: aI 48 mt :: aL 3 ma :: aL 3 mb :: aL 3 md :: e29 :: aI 8 mk :: aI 8 mw :: aI 8 mi :: rest) 0 0 := by
      intro j
      induction j with
      | zero =>
        intro i xce xsu xsq hi i0 hd
        refine rn_iload_n C d_M_reject_32 rfl ?_
        refine rn_aload_n C d_M_reject_33 rfl ?_
        refine rn_getM C hp f_M_166 d_M_reject_34 rfl ?_
        refine rn_icmp_ge C 93 d_M_reject_37 (by decide) (fun _ => ?_) (fun q_37 => absurd ((iI_le ⟨by omega, by omega⟩ ⟨by omega, by omega⟩).mpr (by omega)) q_37)
        refine rn_iconst C (iI (-1)) d_M_reject_93 (by decide) ?_
        refine rn_ireturn C rfl rfl d_M_reject_94 ⟨by decide, by decide⟩ ?_
        exact k2 _ _ _ _ (Or.inr ⟨rfl, fun j h1 h2 => hd j h1 (by omega)⟩)
      | succ j ih =>
        intro i xce xsu xsq hi i0 hd
        obtain ⟨g1, g2, g3, g4, g5, g6⟩ := hc7 i i0 (by omega)
        have g6a := g6.1
        have g6b := g6.2
        have gk := hc9 i i0 (by omega)
        have e3 : (iI (wy i) = iI 60) ↔ wy i = 60 := iI_eq ⟨by omega, by omega⟩ ⟨by omega, by omega⟩
        refine rn_iload_n C d_M_reject_32 rfl ?_
        refine rn_aload_n C d_M_reject_33 rfl ?_
        refine rn_getM C hp f_M_166 d_M_reject_34 rfl ?_
        refine rn_icmp_ge C 93 d_M_reject_37 (by decide) (fun q_37 => absurd q_37 (fun q => absurd ((iI_le ⟨by omega, by omega⟩ ⟨by omega, by omega⟩).mp q) (by omega))) (fun _ => ?_)
        refine rn_aload_n C d_M_reject_40 rfl ?_
        refine rn_aload_n C d_M_reject_41 rfl ?_
        refine rn_getM C hp f_M_46 d_M_reject_42 rfl ?_
        refine rn_iload_n C d_M_reject_45 rfl ?_
        refine rn_iaM C hp (j := 9) d_M_reject_46 rfl rfl (iI_vin (by omega) (by omega) (by omega)) ?_
        rw [iI_nat i0 (by omega), g1]
        refine rn_cV C (c_M_measure l) mw_M_measure k_M_169 d_M_reject_47 rfl (mH 0 hp rfl rfl) rfl (Nat.le_of_ble_eq_true rfl) (Nat.le_of_ble_eq_true rfl) ⟨by decide, by decide⟩ ⟨by decide, by decide⟩ ?_
        refine ⟨_, _, _, _, _, _, _, _, _, _, _, _, _, _, _, _, _, _, _, _, _, _, _, _, _, _, _, _, _, _, _, _, _, _, _, _, _, _, rfl, rfl, hp, hc2, fr, hc3, hc5, hc6, g4, fun ek _ _ _ => ?_, fun ek _ _ _ => ?_, fun ek ek2 _ _ _ => ?_⟩
        · have em : (if kd i = 100 then mx (fun p => if has p then difI (rdI (ltI pic lig) le to ri bo co ro qu) tg A B D_ p else 0) 0 (co * ro).toNat 0 else if kd i = 110 then mx (nsI (ltI pic lig) le to ri bo co ro qu) 0 (co * ro).toNat 0 else co * ro - sm (fun p => bI (has p)) 0 (co * ro).toNat) = co * ro - sm (fun p => bI (has p)) 0 (co * ro).toNat := by rw [if_neg (by omega), if_neg (by omega)]
          refine rn_istore_n C d_M_reject_50 (by decide) ?_
          refine rn_aload_n C d_M_reject_51 rfl ?_
          refine rn_getM C hp f_M_49 d_M_reject_52 rfl ?_
          refine rn_iload_n C d_M_reject_55 rfl ?_
          refine rn_iaM C hp (j := 10) d_M_reject_56 rfl rfl (iI_vin (by omega) (by omega) (by omega)) ?_
          rw [iI_nat i0 (by omega), g2]
          refine rn_bipush C (iI 60) d_M_reject_57 (by decide) ?_
          refine rn_icmp_ne C 75 d_M_reject_59 (by decide) (fun c59 => ?_) (fun c59 => ?_)
          · skip
            refine rn_iload_n C d_M_reject_75 rfl ?_
            refine rn_aload_n C d_M_reject_76 rfl ?_
            refine rn_getM C hp f_M_52 d_M_reject_77 rfl ?_
            refine rn_iload_n C d_M_reject_80 rfl ?_
            refine rn_iaM C hp (j := 11) d_M_reject_81 rfl rfl (iI_vin (by omega) (by omega) (by omega)) ?_
            rw [iI_nat i0 (by omega), g3]
            refine rn_icmp_le C 87 d_M_reject_82 (by decide) (fun c82 => ?_) (fun c82 => ?_)
            · skip
              refine rn_iinc C _ d_M_reject_87 rfl (iI_inc _) (by decide) ?_
              refine rn_goto C 32 d_M_reject_90 (by decide) ?_
              (try simp only [e3] at c59); (try rw [iI_le (a := lm i) ⟨by omega, by omega⟩ ⟨by omega, by omega⟩] at c69); (try rw [iI_le (b := lm i) ⟨by omega, by omega⟩ ⟨by omega, by omega⟩] at c82)
              refine rn_weak (lv' := [some (.ref 21), some (.int (iI (i + 1)))]) ⟨rfl, rfl, trivial⟩ ?_
              exact ih (i + 1) _ _ _ (by omega) (by omega) (fun q h1 h2 => if hq : q = i then (by subst hq; unfold rjT mvI; rw [em]; omega) else hd q h1 (by omega))
            · skip
              refine rn_iload_n C d_M_reject_85 rfl ?_
              refine rn_ireturn C rfl rfl d_M_reject_86 ⟨by decide, by decide⟩ ?_
              (try simp only [e3] at c59); (try rw [iI_le (a := lm i) ⟨by omega, by omega⟩ ⟨by omega, by omega⟩] at c69); (try rw [iI_le (b := lm i) ⟨by omega, by omega⟩ ⟨by omega, by omega⟩] at c82)
              exact k2 _ _ _ _ (Or.inl ⟨i0, by omega, by (unfold rjT mvI; rw [em]; omega), hd⟩)
          · skip
            refine rn_iload_n C d_M_reject_62 rfl ?_
            refine rn_aload_n C d_M_reject_63 rfl ?_
            refine rn_getM C hp f_M_52 d_M_reject_64 rfl ?_
            refine rn_iload_n C d_M_reject_67 rfl ?_
            refine rn_iaM C hp (j := 11) d_M_reject_68 rfl rfl (iI_vin (by omega) (by omega) (by omega)) ?_
            rw [iI_nat i0 (by omega), g3]
            refine rn_icmp_ge C 87 d_M_reject_69 (by decide) (fun c69 => ?_) (fun c69 => ?_)
            · skip
              refine rn_iinc C _ d_M_reject_87 rfl (iI_inc _) (by decide) ?_
              refine rn_goto C 32 d_M_reject_90 (by decide) ?_
              (try simp only [e3] at c59); (try rw [iI_le (a := lm i) ⟨by omega, by omega⟩ ⟨by omega, by omega⟩] at c69); (try rw [iI_le (b := lm i) ⟨by omega, by omega⟩ ⟨by omega, by omega⟩] at c82)
              refine rn_weak (lv' := [some (.ref 21), some (.int (iI (i + 1)))]) ⟨rfl, rfl, trivial⟩ ?_
              exact ih (i + 1) _ _ _ (by omega) (by omega) (fun q h1 h2 => if hq : q = i then (by subst hq; unfold rjT mvI; rw [em]; omega) else hd q h1 (by omega))
            · skip
              refine rn_goto C 85 d_M_reject_72 (by decide) ?_
              refine rn_iload_n C d_M_reject_85 rfl ?_
              refine rn_ireturn C rfl rfl d_M_reject_86 ⟨by decide, by decide⟩ ?_
              (try simp only [e3] at c59); (try rw [iI_le (a := lm i) ⟨by omega, by omega⟩ ⟨by omega, by omega⟩] at c69); (try rw [iI_le (b := lm i) ⟨by omega, by omega⟩ ⟨by omega, by omega⟩] at c82)
              exact k2 _ _ _ _ (Or.inl ⟨i0, by omega, by (unfold rjT mvI; rw [em]; omega), hd⟩)
        · have em : (if kd i = 100 then mx (fun p => if has p then difI (rdI (ltI pic lig) le to ri bo co ro qu) tg A B D_ p else 0) 0 (co * ro).toNat 0 else if kd i = 110 then mx (nsI (ltI pic lig) le to ri bo co ro qu) 0 (co * ro).toNat 0 else co * ro - sm (fun p => bI (has p)) 0 (co * ro).toNat) = mx (fun p => if has p then difI (rdI (ltI pic lig) le to ri bo co ro qu) tg A B D_ p else 0) 0 (co * ro).toNat 0 := by rw [if_pos ek]
          refine rn_istore_n C d_M_reject_50 (by decide) ?_
          refine rn_aload_n C d_M_reject_51 rfl ?_
          refine rn_getM C hp f_M_49 d_M_reject_52 rfl ?_
          refine rn_iload_n C d_M_reject_55 rfl ?_
          refine rn_iaM C hp (j := 10) d_M_reject_56 rfl rfl (iI_vin (by omega) (by omega) (by omega)) ?_
          rw [iI_nat i0 (by omega), g2]
          refine rn_bipush C (iI 60) d_M_reject_57 (by decide) ?_
          refine rn_icmp_ne C 75 d_M_reject_59 (by decide) (fun c59 => ?_) (fun c59 => ?_)
          · skip
            refine rn_iload_n C d_M_reject_75 rfl ?_
            refine rn_aload_n C d_M_reject_76 rfl ?_
            refine rn_getM C hp f_M_52 d_M_reject_77 rfl ?_
            refine rn_iload_n C d_M_reject_80 rfl ?_
            refine rn_iaM C hp (j := 11) d_M_reject_81 rfl rfl (iI_vin (by omega) (by omega) (by omega)) ?_
            rw [iI_nat i0 (by omega), g3]
            refine rn_icmp_le C 87 d_M_reject_82 (by decide) (fun c82 => ?_) (fun c82 => ?_)
            · skip
              refine rn_iinc C _ d_M_reject_87 rfl (iI_inc _) (by decide) ?_
              refine rn_goto C 32 d_M_reject_90 (by decide) ?_
              (try simp only [e3] at c59); (try rw [iI_le (a := lm i) ⟨by omega, by omega⟩ ⟨by omega, by omega⟩] at c69); (try rw [iI_le (b := lm i) ⟨by omega, by omega⟩ ⟨by omega, by omega⟩] at c82)
              refine rn_weak (lv' := [some (.ref 21), some (.int (iI (i + 1)))]) ⟨rfl, rfl, trivial⟩ ?_
              exact ih (i + 1) _ _ _ (by omega) (by omega) (fun q h1 h2 => if hq : q = i then (by subst hq; unfold rjT mvI; rw [em]; omega) else hd q h1 (by omega))
            · skip
              refine rn_iload_n C d_M_reject_85 rfl ?_
              refine rn_ireturn C rfl rfl d_M_reject_86 ⟨by decide, by decide⟩ ?_
              (try simp only [e3] at c59); (try rw [iI_le (a := lm i) ⟨by omega, by omega⟩ ⟨by omega, by omega⟩] at c69); (try rw [iI_le (b := lm i) ⟨by omega, by omega⟩ ⟨by omega, by omega⟩] at c82)
              exact k2 _ _ _ _ (Or.inl ⟨i0, by omega, by (unfold rjT mvI; rw [em]; omega), hd⟩)
          · skip
            refine rn_iload_n C d_M_reject_62 rfl ?_
            refine rn_aload_n C d_M_reject_63 rfl ?_
            refine rn_getM C hp f_M_52 d_M_reject_64 rfl ?_
            refine rn_iload_n C d_M_reject_67 rfl ?_
            refine rn_iaM C hp (j := 11) d_M_reject_68 rfl rfl (iI_vin (by omega) (by omega) (by omega)) ?_
            rw [iI_nat i0 (by omega), g3]
            refine rn_icmp_ge C 87 d_M_reject_69 (by decide) (fun c69 => ?_) (fun c69 => ?_)
            · skip
              refine rn_iinc C _ d_M_reject_87 rfl (iI_inc _) (by decide) ?_
              refine rn_goto C 32 d_M_reject_90 (by decide) ?_
              (try simp only [e3] at c59); (try rw [iI_le (a := lm i) ⟨by omega, by omega⟩ ⟨by omega, by omega⟩] at c69); (try rw [iI_le (b := lm i) ⟨by omega, by omega⟩ ⟨by omega, by omega⟩] at c82)
              refine rn_weak (lv' := [some (.ref 21), some (.int (iI (i + 1)))]) ⟨rfl, rfl, trivial⟩ ?_
              exact ih (i + 1) _ _ _ (by omega) (by omega) (fun q h1 h2 => if hq : q = i then (by subst hq; unfold rjT mvI; rw [em]; omega) else hd q h1 (by omega))
            · skip
              refine rn_goto C 85 d_M_reject_72 (by decide) ?_
              refine rn_iload_n C d_M_reject_85 rfl ?_
              refine rn_ireturn C rfl rfl d_M_reject_86 ⟨by decide, by decide⟩ ?_
              (try simp only [e3] at c59); (try rw [iI_le (a := lm i) ⟨by omega, by omega⟩ ⟨by omega, by omega⟩] at c69); (try rw [iI_le (b := lm i) ⟨by omega, by omega⟩ ⟨by omega, by omega⟩] at c82)
              exact k2 _ _ _ _ (Or.inl ⟨i0, by omega, by (unfold rjT mvI; rw [em]; omega), hd⟩)
        · have em : (if kd i = 100 then mx (fun p => if has p then difI (rdI (ltI pic lig) le to ri bo co ro qu) tg A B D_ p else 0) 0 (co * ro).toNat 0 else if kd i = 110 then mx (nsI (ltI pic lig) le to ri bo co ro qu) 0 (co * ro).toNat 0 else co * ro - sm (fun p => bI (has p)) 0 (co * ro).toNat) = mx (nsI (ltI pic lig) le to ri bo co ro qu) 0 (co * ro).toNat 0 := by rw [if_neg ek2, if_pos (by omega)]
          refine rn_istore_n C d_M_reject_50 (by decide) ?_
          refine rn_aload_n C d_M_reject_51 rfl ?_
          refine rn_getM C hp f_M_49 d_M_reject_52 rfl ?_
          refine rn_iload_n C d_M_reject_55 rfl ?_
          refine rn_iaM C hp (j := 10) d_M_reject_56 rfl rfl (iI_vin (by omega) (by omega) (by omega)) ?_
          rw [iI_nat i0 (by omega), g2]
          refine rn_bipush C (iI 60) d_M_reject_57 (by decide) ?_
          refine rn_icmp_ne C 75 d_M_reject_59 (by decide) (fun c59 => ?_) (fun c59 => ?_)
          · skip
            refine rn_iload_n C d_M_reject_75 rfl ?_
            refine rn_aload_n C d_M_reject_76 rfl ?_
            refine rn_getM C hp f_M_52 d_M_reject_77 rfl ?_
            refine rn_iload_n C d_M_reject_80 rfl ?_
            refine rn_iaM C hp (j := 11) d_M_reject_81 rfl rfl (iI_vin (by omega) (by omega) (by omega)) ?_
            rw [iI_nat i0 (by omega), g3]
            refine rn_icmp_le C 87 d_M_reject_82 (by decide) (fun c82 => ?_) (fun c82 => ?_)
            · skip
              refine rn_iinc C _ d_M_reject_87 rfl (iI_inc _) (by decide) ?_
              refine rn_goto C 32 d_M_reject_90 (by decide) ?_
              (try simp only [e3] at c59); (try rw [iI_le (a := lm i) ⟨by omega, by omega⟩ ⟨by omega, by omega⟩] at c69); (try rw [iI_le (b := lm i) ⟨by omega, by omega⟩ ⟨by omega, by omega⟩] at c82)
              refine rn_weak (lv' := [some (.ref 21), some (.int (iI (i + 1)))]) ⟨rfl, rfl, trivial⟩ ?_
              exact ih (i + 1) _ _ _ (by omega) (by omega) (fun q h1 h2 => if hq : q = i then (by subst hq; unfold rjT mvI; rw [em]; omega) else hd q h1 (by omega))
            · skip
              refine rn_iload_n C d_M_reject_85 rfl ?_
              refine rn_ireturn C rfl rfl d_M_reject_86 ⟨by decide, by decide⟩ ?_
              (try simp only [e3] at c59); (try rw [iI_le (a := lm i) ⟨by omega, by omega⟩ ⟨by omega, by omega⟩] at c69); (try rw [iI_le (b := lm i) ⟨by omega, by omega⟩ ⟨by omega, by omega⟩] at c82)
              exact k2 _ _ _ _ (Or.inl ⟨i0, by omega, by (unfold rjT mvI; rw [em]; omega), hd⟩)
          · skip
            refine rn_iload_n C d_M_reject_62 rfl ?_
            refine rn_aload_n C d_M_reject_63 rfl ?_
            refine rn_getM C hp f_M_52 d_M_reject_64 rfl ?_
            refine rn_iload_n C d_M_reject_67 rfl ?_
            refine rn_iaM C hp (j := 11) d_M_reject_68 rfl rfl (iI_vin (by omega) (by omega) (by omega)) ?_
            rw [iI_nat i0 (by omega), g3]
            refine rn_icmp_ge C 87 d_M_reject_69 (by decide) (fun c69 => ?_) (fun c69 => ?_)
            · skip
              refine rn_iinc C _ d_M_reject_87 rfl (iI_inc _) (by decide) ?_
              refine rn_goto C 32 d_M_reject_90 (by decide) ?_
              (try simp only [e3] at c59); (try rw [iI_le (a := lm i) ⟨by omega, by omega⟩ ⟨by omega, by omega⟩] at c69); (try rw [iI_le (b := lm i) ⟨by omega, by omega⟩ ⟨by omega, by omega⟩] at c82)
              refine rn_weak (lv' := [some (.ref 21), some (.int (iI (i + 1)))]) ⟨rfl, rfl, trivial⟩ ?_
              exact ih (i + 1) _ _ _ (by omega) (by omega) (fun q h1 h2 => if hq : q = i then (by subst hq; unfold rjT mvI; rw [em]; omega) else hd q h1 (by omega))
            · skip
              refine rn_goto C 85 d_M_reject_72 (by decide) ?_
              refine rn_iload_n C d_M_reject_85 rfl ?_
              refine rn_ireturn C rfl rfl d_M_reject_86 ⟨by decide, by decide⟩ ?_
              (try simp only [e3] at c59); (try rw [iI_le (a := lm i) ⟨by omega, by omega⟩ ⟨by omega, by omega⟩] at c69); (try rw [iI_le (b := lm i) ⟨by omega, by omega⟩ ⟨by omega, by omega⟩] at c82)
              exact k2 _ _ _ _ (Or.inl ⟨i0, by omega, by (unfold rjT mvI; rw [em]; omega), hd⟩)
    refine rn_aload_n C d_M_reject_0 rfl ?_
    refine rn_aload_n C d_M_reject_1 rfl ?_
    refine rn_getM C hp f_M_101 d_M_reject_2 rfl ?_
    refine rn_if_eq C 19 d_M_reject_5 (by decide) (fun q => absurd q (by decide)) (fun _ => ?_)
    refine rn_aload_n C d_M_reject_8 rfl ?_
    refine rn_getM C hp f_M_149 d_M_reject_9 rfl ?_
    refine rn_if_eq C 19 d_M_reject_12 (by decide) (fun q => absurd q (by decide)) (fun _ => ?_)
    refine rn_iconst C (iI 1) d_M_reject_15 (by decide) ?_
    refine rn_goto C 20 d_M_reject_16 (by decide) ?_
    refine rn_iconst C (iI 1) d_M_reject_20 (by decide) ?_
    refine rn_iconst C (iI 1) d_M_reject_21 (by decide) ?_
    refine rn_cV C (c_M_goes l) mw_M_goes k_M_78 d_M_reject_22 rfl (mH 0 hp rfl rfl) rfl (Nat.le_of_ble_eq_true rfl) (Nat.le_of_ble_eq_true rfl) ⟨by decide, by decide⟩ ⟨by decide, by decide⟩ ?_
    refine ⟨_, _, _, _, _, _, _, _, _, _, _, _, _, _, _, _, _, _, _, _, _, _, _, _, rfl, rfl, hp, ?_⟩
    refine rn_if_ne C 30 d_M_reject_25 (by decide) (fun _ => ?_) (fun q => absurd q (by decide))
    refine rn_iconst C (iI 0) d_M_reject_30 (by decide) ?_
    refine rn_istore_n C d_M_reject_31 (by decide) ?_
    exact loop rk.toNat 0 _ _ _ (by omega) (by omega) (fun j h1 h2 => by omega)

