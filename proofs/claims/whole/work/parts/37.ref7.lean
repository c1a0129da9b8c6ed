/-! The reference, its making. Laid by wip/whole/gen_m7.py. -/
def G_M_init (av : List Value) (h : ah_H) (K : ah_R → ah_H → Prop) : Prop := ∃ (pre : ah_H) (x y : Int), av = [.ref 21, .int (iI x), .int (iI y)] ∧ h = pre ++ .inr (9, z_M) :: [] ∧ pre.length = 21 ∧ inI x ∧ inI y ∧ ∀ (mp ml : Nat → Int32), (∀ k, k < 2700 → mp k = iI 255) → (∀ k, k < 900 → ml k = iI 200) → K (.inl none) (pre ++ cM 0 (iI (max 6 (min 30 x))) (iI (max 6 (min 30 y))) 0 0 0 0 0 (iI 2) (iI 2) 0 (iI (-1)) 0 0 0 0 0 0 0 :: aI 2700 mp :: aI 900 ml :: aZ 16 (fun _ => 0) :: aI 48 (fun _ => 0) :: aL 3 (fun _ => 0) :: aL 3 (fun _ => 0) :: aL 3 (fun _ => 0) :: aI 20 (fun _ => 0) :: aI 8 (fun _ => 0) :: aI 8 (fun _ => 0) :: aI 8 (fun _ => 0) :: aI 40 (fun _ => 0) :: aI 40 (fun _ => 0) :: [])
set_option maxHeartbeats 4000000 in
set_option maxRecDepth 100000 in
theorem c_M_init (l : Launch) : rn_Met l y_M_init wc_M_init { frames := 2, cells := 13, slots := 3797, locals := 20 } G_M_init := by
  refine rn_in mw_M_init.1 (by decide +kernel) ?_ ?_
  · intro _ av h K hG
    obtain ⟨pre, x, y, rfl, rfl, hp, hx, hy, hK⟩ := hG
    exact Nat.le_of_ble_eq_true rfl
  intro p e s m args below meth c z sa D dA av h K hadm C hG
  obtain ⟨pre, x, y, rfl, rfl, hp, hx, hy, hK⟩ := hG
  have hx1 := hx.1
  have hx2 := hx.2
  have hy1 := hy.1
  have hy2 := hy.2
  have loop : ∀ (j : Nat) (i : Int) (mp ml : Nat → Int32), i + j = 2700 → 0 ≤ i → (∀ k : Nat, (k : Int) < i → mp k = iI 255) → (∀ k : Nat, 3 * (k : Int) < i → ml k = iI 200) → Run p l e { frames := 2, cells := 13, slots := 3797, locals := 20 } s m args below meth c z sa D dA 13 3797 K 4 178 [some (.ref 21), some (.int (iI x)), some (.int (iI y)), some (.int (iI i))] [] (pre ++ cM 0 (iI (max 6 (min 30 x))) (iI (max 6 (min 30 y))) 0 0 0 0 0 (iI 2) (iI 2) 0 (iI (-1)) 0 0 0 0 0 0 0 :: aI 2700 mp :: aI 900 ml :: aZ 16 (fun _ => 0) :: aI 48 (fun _ => 0) :: aL 3 (fun _ => 0) :: aL 3 (fun _ => 0) :: aL 3 (fun _ => 0) :: aI 20 (fun _ => 0) :: aI 8 (fun _ => 0) :: aI 8 (fun _ => 0) :: aI 8 (fun _ => 0) :: aI 40 (fun _ => 0) :: aI 40 (fun _ => 0) :: []) 13 3797 := by
    intro j
    induction j with
    | zero =>
      intro i mp ml hi i0 h1 h2
      refine rn_iload_n C d_M_init_178 rfl ?_
      refine rn_sipush C (iI 2700) d_M_init_179 (by decide) ?_
      refine rn_icmp_ge C 211 d_M_init_182 (by decide) (fun _ => ?_) (fun q_182 => absurd ((iI_le ⟨by omega, by omega⟩ ⟨by omega, by omega⟩).mpr (by omega)) q_182)
      refine rn_return C rfl d_M_init_211 ⟨Nat.le_of_ble_eq_true rfl, Nat.le_of_ble_eq_true rfl⟩ ?_
      exact hK mp ml (fun k hk => h1 k (by omega)) (fun k hk => h2 k (by omega))
    | succ j ih =>
      intro i mp ml hi i0 h1 h2
      have d3 : 0 ≤ i / 3 ∧ 3 * (i / 3) ≤ i ∧ i < 3 * (i / 3) + 3 := by omega
      refine rn_iload_n C d_M_init_178 rfl ?_
      refine rn_sipush C (iI 2700) d_M_init_179 (by decide) ?_
      refine rn_icmp_ge C 211 d_M_init_182 (by decide) (fun q_182 => absurd q_182 (fun q => absurd ((iI_le ⟨by omega, by omega⟩ ⟨by omega, by omega⟩).mp q) (by omega))) (fun _ => ?_)
      refine rn_aload_n C d_M_init_185 rfl ?_
      refine rn_getM C hp f_M_7 d_M_init_186 rfl ?_
      refine rn_iload_n C d_M_init_189 rfl ?_
      refine rn_sipush C (iI 255) d_M_init_190 (by decide) ?_
      refine rn_isM C hp (j := 1) d_M_init_193 rfl rfl (iI_vin (by omega) (by omega) (by omega)) rfl ?_
      rw [iI_nat (by omega) (by omega)]
      refine rn_aload_n C d_M_init_194 rfl ?_
      refine rn_getM C hp f_M_13 d_M_init_195 rfl ?_
      refine rn_iload_n C d_M_init_198 rfl ?_
      refine rn_iconst C (iI 3) d_M_init_199 (by decide) ?_
      refine rn_idiv C d_M_init_200 (by decide) ?_
      rw [iI_div (by omega) (by omega) (by omega) (by omega)]
      refine rn_sipush C (iI 200) d_M_init_201 (by decide) ?_
      refine rn_isM C hp (j := 2) d_M_init_204 rfl rfl (iI_vin (by omega) (by omega) (by omega)) rfl ?_
      rw [iI_nat (by omega) (by omega)]
      refine rn_iinc C _ d_M_init_205 rfl (iI_inc _) (by decide) ?_
      refine rn_goto C 178 d_M_init_208 (by decide) ?_
      refine ih (i + 1) _ _ (by omega) (by omega) (fun k hk => ?_) (fun k hk => ?_)
      · by_cases hq : k = i.toNat
        · simp [upd, hq]
        · simp only [upd, if_neg hq]; exact h1 k (by omega)
      · by_cases hq : k = (i / 3).toNat
        · simp [upd, hq]
        · simp only [upd, if_neg hq]; exact h2 k (by omega)
  have s2 : Run p l e { frames := 2, cells := 13, slots := 3797, locals := 20 } s m args below meth c z sa D dA 13 3797 K 4 149 [some (.ref 21), some (.int (iI x)), some (.int (iI y))] [] (pre ++ cM 0 (iI (max 6 (min 30 x))) 0 0 0 0 0 0 (iI 2) (iI 2) 0 (iI (-1)) 0 0 0 0 0 0 0 :: aI 2700 (fun _ => 0) :: aI 900 (fun _ => 0) :: aZ 16 (fun _ => 0) :: aI 48 (fun _ => 0) :: aL 3 (fun _ => 0) :: aL 3 (fun _ => 0) :: aL 3 (fun _ => 0) :: aI 20 (fun _ => 0) :: aI 8 (fun _ => 0) :: aI 8 (fun _ => 0) :: aI 8 (fun _ => 0) :: aI 40 (fun _ => 0) :: aI 40 (fun _ => 0) :: []) 13 3797 := by
    have nx : Run p l e { frames := 2, cells := 13, slots := 3797, locals := 20 } s m args below meth c z sa D dA 13 3797 K 4 176 [some (.ref 21), some (.int (iI x)), some (.int (iI y))] [] (pre ++ cM 0 (iI (max 6 (min 30 x))) (iI (max 6 (min 30 y))) 0 0 0 0 0 (iI 2) (iI 2) 0 (iI (-1)) 0 0 0 0 0 0 0 :: aI 2700 (fun _ => 0) :: aI 900 (fun _ => 0) :: aZ 16 (fun _ => 0) :: aI 48 (fun _ => 0) :: aL 3 (fun _ => 0) :: aL 3 (fun _ => 0) :: aL 3 (fun _ => 0) :: aI 20 (fun _ => 0) :: aI 8 (fun _ => 0) :: aI 8 (fun _ => 0) :: aI 8 (fun _ => 0) :: aI 40 (fun _ => 0) :: aI 40 (fun _ => 0) :: []) 13 3797 := by
      refine rn_iconst C (iI 0) d_M_init_176 (by decide) ?_
      refine rn_istore_n C d_M_init_177 (by decide) ?_
      exact loop 2700 0 _ _ (by omega) (by omega) (fun k hk => by omega) (fun k hk => by omega)
    refine rn_aload_n C d_M_init_149 rfl ?_
    refine rn_iload_n C d_M_init_150 rfl ?_
    refine rn_bipush C (iI 6) d_M_init_151 (by decide) ?_
    refine rn_icmp_ge C 161 d_M_init_153 (by decide) (fun c153 => ?_) (fun c153 => ?_)
    · skip
      refine rn_iload_n C d_M_init_161 rfl ?_
      refine rn_bipush C (iI 30) d_M_init_162 (by decide) ?_
      refine rn_icmp_le C 172 d_M_init_164 (by decide) (fun c164 => ?_) (fun c164 => ?_)
      · skip
        refine rn_iload_n C d_M_init_172 rfl ?_
        refine rn_putFM C hp fo_M_64 ft_M fn_M_2 d_M_init_173 (Nat.le_of_ble_eq_true rfl) (fun _ _ => ⟨rfl, rfl⟩) rfl ?_
        (try rw [iI_le (a := 6) (b := y) ⟨by omega, by omega⟩ ⟨by omega, by omega⟩] at c153); (try rw [iI_le (a := y) (b := 30) ⟨by omega, by omega⟩ ⟨by omega, by omega⟩] at c164)
        first
          | (rw [show (max 6 (min 30 y)) = 6 by omega] at nx; exact nx)
          | (rw [show (max 6 (min 30 y)) = 30 by omega] at nx; exact nx)
          | (rw [show (max 6 (min 30 y)) = y by omega] at nx; exact nx)
      · skip
        refine rn_bipush C (iI 30) d_M_init_167 (by decide) ?_
        refine rn_goto C 173 d_M_init_169 (by decide) ?_
        refine rn_putFM C hp fo_M_64 ft_M fn_M_2 d_M_init_173 (Nat.le_of_ble_eq_true rfl) (fun _ _ => ⟨rfl, rfl⟩) rfl ?_
        (try rw [iI_le (a := 6) (b := y) ⟨by omega, by omega⟩ ⟨by omega, by omega⟩] at c153); (try rw [iI_le (a := y) (b := 30) ⟨by omega, by omega⟩ ⟨by omega, by omega⟩] at c164)
        first
          | (rw [show (max 6 (min 30 y)) = 6 by omega] at nx; exact nx)
          | (rw [show (max 6 (min 30 y)) = 30 by omega] at nx; exact nx)
          | (rw [show (max 6 (min 30 y)) = y by omega] at nx; exact nx)
    · skip
      refine rn_bipush C (iI 6) d_M_init_156 (by decide) ?_
      refine rn_goto C 173 d_M_init_158 (by decide) ?_
      refine rn_putFM C hp fo_M_64 ft_M fn_M_2 d_M_init_173 (Nat.le_of_ble_eq_true rfl) (fun _ _ => ⟨rfl, rfl⟩) rfl ?_
      (try rw [iI_le (a := 6) (b := y) ⟨by omega, by omega⟩ ⟨by omega, by omega⟩] at c153); (try rw [iI_le (a := y) (b := 30) ⟨by omega, by omega⟩ ⟨by omega, by omega⟩] at c164)
      first
        | (rw [show (max 6 (min 30 y)) = 6 by omega] at nx; exact nx)
        | (rw [show (max 6 (min 30 y)) = 30 by omega] at nx; exact nx)
        | (rw [show (max 6 (min 30 y)) = y by omega] at nx; exact nx)
  have nx := s2
  refine rn_aload_n C d_M_init_0 rfl ?_
  refine rn_obj C o_M_1 o_inst o_code d_M_init_1 (by decide) (by decide) ?_
  refine rn_aload_n C d_M_init_4 rfl ?_
  refine rn_sipush C (iI 2700) d_M_init_5 (by decide) ?_
  refine rn_naM_int C hp (N := 2700) (by decide) rfl (Nat.le_of_ble_eq_true rfl) d_M_init_8 (Nat.le_of_ble_eq_true rfl) (Nat.le_of_ble_eq_true rfl) rfl rfl ?_
  refine rn_putFM C hp fo_M_7 ft_M fn_M_3 d_M_init_10 (Nat.le_of_ble_eq_true rfl) (fun _ _ => ⟨rfl, rfl⟩) rfl ?_
  refine rn_aload_n C d_M_init_13 rfl ?_
  refine rn_sipush C (iI 900) d_M_init_14 (by decide) ?_
  refine rn_naM_int C hp (N := 900) (by decide) rfl (Nat.le_of_ble_eq_true rfl) d_M_init_17 (Nat.le_of_ble_eq_true rfl) (Nat.le_of_ble_eq_true rfl) rfl rfl ?_
  refine rn_putFM C hp fo_M_13 ft_M fn_M_4 d_M_init_19 (Nat.le_of_ble_eq_true rfl) (fun _ _ => ⟨rfl, rfl⟩) rfl ?_
  refine rn_aload_n C d_M_init_22 rfl ?_
  refine rn_iconst C (iI 2) d_M_init_23 (by decide) ?_
  refine rn_putM C hp f_M_16 ft_M fn_M_10 d_M_init_24 (Nat.le_of_ble_eq_true rfl) (fun _ _ => ⟨rfl, rfl⟩) rfl ?_
  refine rn_aload_n C d_M_init_27 rfl ?_
  refine rn_iconst C (iI 2) d_M_init_28 (by decide) ?_
  refine rn_putM C hp f_M_20 ft_M fn_M_11 d_M_init_29 (Nat.le_of_ble_eq_true rfl) (fun _ _ => ⟨rfl, rfl⟩) rfl ?_
  refine rn_aload_n C d_M_init_32 rfl ?_
  refine rn_bipush C (iI 16) d_M_init_33 (by decide) ?_
  refine rn_naM_boolean C hp (N := 16) (by decide) rfl (Nat.le_of_ble_eq_true rfl) d_M_init_35 (Nat.le_of_ble_eq_true rfl) (Nat.le_of_ble_eq_true rfl) rfl rfl ?_
  refine rn_putFM C hp fo_M_23 ft_M fn_M_13 d_M_init_37 (Nat.le_of_ble_eq_true rfl) (fun _ _ => ⟨rfl, rfl⟩) rfl ?_
  refine rn_aload_n C d_M_init_40 rfl ?_
  refine rn_bipush C (iI 48) d_M_init_41 (by decide) ?_
  refine rn_naM_int C hp (N := 48) (by decide) rfl (Nat.le_of_ble_eq_true rfl) d_M_init_43 (Nat.le_of_ble_eq_true rfl) (Nat.le_of_ble_eq_true rfl) rfl rfl ?_
  refine rn_putFM C hp fo_M_27 ft_M fn_M_14 d_M_init_45 (Nat.le_of_ble_eq_true rfl) (fun _ _ => ⟨rfl, rfl⟩) rfl ?_
  refine rn_aload_n C d_M_init_48 rfl ?_
  refine rn_iconst C (iI (-1)) d_M_init_49 (by decide) ?_
  refine rn_putM C hp f_M_30 ft_M fn_M_15 d_M_init_50 (Nat.le_of_ble_eq_true rfl) (fun _ _ => ⟨rfl, rfl⟩) rfl ?_
  refine rn_aload_n C d_M_init_53 rfl ?_
  refine rn_iconst C (iI 3) d_M_init_54 (by decide) ?_
  refine rn_naM_long C hp (N := 3) (by decide) rfl (Nat.le_of_ble_eq_true rfl) d_M_init_55 (Nat.le_of_ble_eq_true rfl) (Nat.le_of_ble_eq_true rfl) rfl rfl ?_
  refine rn_putFM C hp fo_M_33 ft_M fn_M_17 d_M_init_57 (Nat.le_of_ble_eq_true rfl) (fun _ _ => ⟨rfl, rfl⟩) rfl ?_
  refine rn_aload_n C d_M_init_60 rfl ?_
  refine rn_iconst C (iI 3) d_M_init_61 (by decide) ?_
  refine rn_naM_long C hp (N := 3) (by decide) rfl (Nat.le_of_ble_eq_true rfl) d_M_init_62 (Nat.le_of_ble_eq_true rfl) (Nat.le_of_ble_eq_true rfl) rfl rfl ?_
  refine rn_putFM C hp fo_M_37 ft_M fn_M_18 d_M_init_64 (Nat.le_of_ble_eq_true rfl) (fun _ _ => ⟨rfl, rfl⟩) rfl ?_
  refine rn_aload_n C d_M_init_67 rfl ?_
  refine rn_iconst C (iI 3) d_M_init_68 (by decide) ?_
  refine rn_naM_long C hp (N := 3) (by decide) rfl (Nat.le_of_ble_eq_true rfl) d_M_init_69 (Nat.le_of_ble_eq_true rfl) (Nat.le_of_ble_eq_true rfl) rfl rfl ?_
  refine rn_putFM C hp fo_M_40 ft_M fn_M_19 d_M_init_71 (Nat.le_of_ble_eq_true rfl) (fun _ _ => ⟨rfl, rfl⟩) rfl ?_
  refine rn_aload_n C d_M_init_74 rfl ?_
  refine rn_bipush C (iI 20) d_M_init_75 (by decide) ?_
  refine rn_naM_int C hp (N := 20) (by decide) rfl (Nat.le_of_ble_eq_true rfl) d_M_init_77 (Nat.le_of_ble_eq_true rfl) (Nat.le_of_ble_eq_true rfl) rfl rfl ?_
  refine rn_putFM C hp fo_M_43 ft_M fn_M_21 d_M_init_79 (Nat.le_of_ble_eq_true rfl) (fun _ _ => ⟨rfl, rfl⟩) rfl ?_
  refine rn_aload_n C d_M_init_82 rfl ?_
  refine rn_bipush C (iI 8) d_M_init_83 (by decide) ?_
  refine rn_naM_int C hp (N := 8) (by decide) rfl (Nat.le_of_ble_eq_true rfl) d_M_init_85 (Nat.le_of_ble_eq_true rfl) (Nat.le_of_ble_eq_true rfl) rfl rfl ?_
  refine rn_putFM C hp fo_M_46 ft_M fn_M_23 d_M_init_87 (Nat.le_of_ble_eq_true rfl) (fun _ _ => ⟨rfl, rfl⟩) rfl ?_
  refine rn_aload_n C d_M_init_90 rfl ?_
  refine rn_bipush C (iI 8) d_M_init_91 (by decide) ?_
  refine rn_naM_int C hp (N := 8) (by decide) rfl (Nat.le_of_ble_eq_true rfl) d_M_init_93 (Nat.le_of_ble_eq_true rfl) (Nat.le_of_ble_eq_true rfl) rfl rfl ?_
  refine rn_putFM C hp fo_M_49 ft_M fn_M_24 d_M_init_95 (Nat.le_of_ble_eq_true rfl) (fun _ _ => ⟨rfl, rfl⟩) rfl ?_
  refine rn_aload_n C d_M_init_98 rfl ?_
  refine rn_bipush C (iI 8) d_M_init_99 (by decide) ?_
  refine rn_naM_int C hp (N := 8) (by decide) rfl (Nat.le_of_ble_eq_true rfl) d_M_init_101 (Nat.le_of_ble_eq_true rfl) (Nat.le_of_ble_eq_true rfl) rfl rfl ?_
  refine rn_putFM C hp fo_M_52 ft_M fn_M_25 d_M_init_103 (Nat.le_of_ble_eq_true rfl) (fun _ _ => ⟨rfl, rfl⟩) rfl ?_
  refine rn_aload_n C d_M_init_106 rfl ?_
  refine rn_bipush C (iI 40) d_M_init_107 (by decide) ?_
  refine rn_naM_int C hp (N := 40) (by decide) rfl (Nat.le_of_ble_eq_true rfl) d_M_init_109 (Nat.le_of_ble_eq_true rfl) (Nat.le_of_ble_eq_true rfl) rfl rfl ?_
  refine rn_putFM C hp fo_M_55 ft_M fn_M_27 d_M_init_111 (Nat.le_of_ble_eq_true rfl) (fun _ _ => ⟨rfl, rfl⟩) rfl ?_
  refine rn_aload_n C d_M_init_114 rfl ?_
  refine rn_bipush C (iI 40) d_M_init_115 (by decide) ?_
  refine rn_naM_int C hp (N := 40) (by decide) rfl (Nat.le_of_ble_eq_true rfl) d_M_init_117 (Nat.le_of_ble_eq_true rfl) (Nat.le_of_ble_eq_true rfl) rfl rfl ?_
  refine rn_putFM C hp fo_M_58 ft_M fn_M_28 d_M_init_119 (Nat.le_of_ble_eq_true rfl) (fun _ _ => ⟨rfl, rfl⟩) rfl ?_
  refine rn_aload_n C d_M_init_122 rfl ?_
  refine rn_iload_n C d_M_init_123 rfl ?_
  refine rn_bipush C (iI 6) d_M_init_124 (by decide) ?_
  refine rn_icmp_ge C 134 d_M_init_126 (by decide) (fun c126 => ?_) (fun c126 => ?_)
  · skip
    refine rn_iload_n C d_M_init_134 rfl ?_
    refine rn_bipush C (iI 30) d_M_init_135 (by decide) ?_
    refine rn_icmp_le C 145 d_M_init_137 (by decide) (fun c137 => ?_) (fun c137 => ?_)
    · skip
      refine rn_iload_n C d_M_init_145 rfl ?_
      refine rn_putFM C hp fo_M_61 ft_M fn_M_1 d_M_init_146 (Nat.le_of_ble_eq_true rfl) (fun _ _ => ⟨rfl, rfl⟩) rfl ?_
      (try rw [iI_le (a := 6) (b := x) ⟨by omega, by omega⟩ ⟨by omega, by omega⟩] at c126); (try rw [iI_le (a := x) (b := 30) ⟨by omega, by omega⟩ ⟨by omega, by omega⟩] at c137)
      first
        | (rw [show (max 6 (min 30 x)) = 6 by omega] at nx; exact nx)
        | (rw [show (max 6 (min 30 x)) = 30 by omega] at nx; exact nx)
        | (rw [show (max 6 (min 30 x)) = x by omega] at nx; exact nx)
    · skip
      refine rn_bipush C (iI 30) d_M_init_140 (by decide) ?_
      refine rn_goto C 146 d_M_init_142 (by decide) ?_
      refine rn_putFM C hp fo_M_61 ft_M fn_M_1 d_M_init_146 (Nat.le_of_ble_eq_true rfl) (fun _ _ => ⟨rfl, rfl⟩) rfl ?_
      (try rw [iI_le (a := 6) (b := x) ⟨by omega, by omega⟩ ⟨by omega, by omega⟩] at c126); (try rw [iI_le (a := x) (b := 30) ⟨by omega, by omega⟩ ⟨by omega, by omega⟩] at c137)
      first
        | (rw [show (max 6 (min 30 x)) = 6 by omega] at nx; exact nx)
        | (rw [show (max 6 (min 30 x)) = 30 by omega] at nx; exact nx)
        | (rw [show (max 6 (min 30 x)) = x by omega] at nx; exact nx)
  · skip
    refine rn_bipush C (iI 6) d_M_init_129 (by decide) ?_
    refine rn_goto C 146 d_M_init_131 (by decide) ?_
    refine rn_putFM C hp fo_M_61 ft_M fn_M_1 d_M_init_146 (Nat.le_of_ble_eq_true rfl) (fun _ _ => ⟨rfl, rfl⟩) rfl ?_
    (try rw [iI_le (a := 6) (b := x) ⟨by omega, by omega⟩ ⟨by omega, by omega⟩] at c126); (try rw [iI_le (a := x) (b := 30) ⟨by omega, by omega⟩ ⟨by omega, by omega⟩] at c137)
    first
      | (rw [show (max 6 (min 30 x)) = 6 by omega] at nx; exact nx)
      | (rw [show (max 6 (min 30 x)) = 30 by omega] at nx; exact nx)
      | (rw [show (max 6 (min 30 x)) = x by omega] at nx; exact nx)

