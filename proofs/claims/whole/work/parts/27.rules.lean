/-! Rules told as texts, rejects. Laid by wip/whole/gen_c12.py. -/
def txOk (tx : Nat → Int32) (T : Int → Int) : Prop := ∀ j : Int, 0 ≤ j → j < 20 → tx j.toNat = iI (T j)
def txB (T : Int → Int) : Prop := ∀ j : Int, 0 ≤ T j ∧ T j < 128
def isRule (T : Int → Int) (sg : Int) : Prop := (3 ≤ sg ∧ sg ≤ 8) ∧ (T 0 = 100 ∨ T 0 = 110 ∨ T 0 = 109) ∧ (T 1 = 60 ∨ T 1 = 62) ∧ ∀ j : Int, 2 ≤ j → j < sg → 48 ≤ T j ∧ T j ≤ 57
def nmF (T : Int → Int) : Int → Nat → Int → Int
  | _, 0, a => a
  | i, k + 1, a => nmF T (i + 1) k (a * 10 + T i - 48)
/-- the rules kept -/
def ruOk (rk : Int) (kf wf lf : Nat → Int32) (kd wy lm : Int → Int) : Prop := ∀ j : Int, 0 ≤ j → j < rk → kf j.toNat = iI (kd j) ∧ wf j.toNat = iI (wy j) ∧ lf j.toNat = iI (lm j) ∧ (0 ≤ kd j ∧ kd j < 128) ∧ (0 ≤ wy j ∧ wy j < 128) ∧ inI (lm j)
def mvI (vd vn vm k : Int) : Int := if k = 100 then vd else if k = 110 then vn else vm
def rjT (kd wy lm : Int → Int) (vd vn vm i : Int) : Prop := (wy i = 60 ∧ mvI vd vn vm (kd i) < lm i) ∨ (¬ wy i = 60 ∧ lm i < mvI vd vn vm (kd i))
/-- the answer: the first rule that rejects, or none -/
def rjA (kd wy lm : Int → Int) (vd vn vm rk a : Int) : Prop := (0 ≤ a ∧ a < rk ∧ rjT kd wy lm vd vn vm a ∧ ∀ j : Int, 0 ≤ j → j < a → ¬ rjT kd wy lm vd vn vm j) ∨ (a = -1 ∧ ∀ j : Int, 0 ≤ j → j < rk → ¬ rjT kd wy lm vd vn vm j)
theorem char_I {x : Int} (h0 : 0 ≤ x) (h1 : x < 128) : vp_nar .char (iI x) = iI x := by
  obtain ⟨n, rfl⟩ := Int.eq_ofNat_of_zero_le h0
  have hn : n < 128 := by omega
  have hd : ∀ n : Fin 128, vp_nar .char (Int32.ofNat n.val) = Int32.ofNat n.val := by decide +kernel
  rw [show iI (n : Int) = Int32.ofNat n from (iI_lit n).symm]
  exact hd ⟨n, hn⟩
def G_R_textIsRule (av : List Value) (h : ah_H) (K : ah_R → ah_H → Prop) : Prop := ∃ (q qt : Nat) (rk : Int32) (v2 v3 v4 : Value) (sg : Int) (tx : Nat → Int32) (T : Int → Int), av = [.ref q] ∧ h[q]? = some (.inr (8, [.int rk, .int (iI sg), .ref qt, v2, v3, v4])) ∧ h[qt]? = some (aC 20 tx) ∧ txOk tx T ∧ txB T ∧ 0 ≤ sg ∧ sg ≤ 20 ∧ (isRule T sg → K (.inl (some (.int 1))) h) ∧ (¬ isRule T sg → K (.inl (some (.int 0))) h)
set_option maxHeartbeats 4000000 in
set_option maxRecDepth 100000 in
theorem c_R_textIsRule (l : Launch) : rn_Met l y_R_textIsRule wc_R_textIsRule { frames := 1, cells := 0, slots := 0, locals := 0 } G_R_textIsRule := by
  refine rn_in mw_R_textIsRule.1 (by decide +kernel) ?_ ?_
  · intro _ av h K hG
    obtain ⟨q, qt, rk, v2, v3, v4, sg, tx, T, rfl, h1, h2, htx, htb, s0, s1, k1, k2⟩ := hG
    exact Nat.le_of_ble_eq_true rfl
  intro p e s m args below meth c z sa D dA av h K hadm C hG
  obtain ⟨q, qt, rk, v2, v3, v4, sg, tx, T, rfl, h1, h2, htx, htb, s0, s1, k1, k2⟩ := hG
  have t0 := htb 0
  have t1 := htb 1
  have e0_100 : (iI (T 0) = iI 100) ↔ T 0 = 100 := iI_eq ⟨by omega, by omega⟩ ⟨by omega, by omega⟩
  have e0_110 : (iI (T 0) = iI 110) ↔ T 0 = 110 := iI_eq ⟨by omega, by omega⟩ ⟨by omega, by omega⟩
  have e0_109 : (iI (T 0) = iI 109) ↔ T 0 = 109 := iI_eq ⟨by omega, by omega⟩ ⟨by omega, by omega⟩
  have e1_60 : (iI (T 1) = iI 60) ↔ T 1 = 60 := iI_eq ⟨by omega, by omega⟩ ⟨by omega, by omega⟩
  have e1_62 : (iI (T 1) = iI 62) ↔ T 1 = 62 := iI_eq ⟨by omega, by omega⟩ ⟨by omega, by omega⟩
  have fin : 3 ≤ sg → sg ≤ 8 → (∀ j : Int, 2 ≤ j → j < sg → 48 ≤ T j ∧ T j ≤ 57) → Run p l e { frames := 1, cells := 0, slots := 0, locals := 0 } s m args below meth c z sa D dA 0 0 K 2 59 [some (.ref q)] [] h 0 0 := by
    intro s3 s8 hd
    refine rn_aload_n C d_R_textIsRule_59 rfl ?_
    refine rn_get C f_R_11 d_R_textIsRule_60 (by assumption) (by rfl) ?_
    refine rn_iconst C (iI 0) d_R_textIsRule_63 (by decide) ?_
    refine rn_caload C d_R_textIsRule_64 (by assumption) (iI_vin (by omega) (by omega) (by omega)) ?_
    rw [show (iI 0).toNatClampNeg = (0 : Int).toNat from rfl, htx 0 (by omega) (by omega)]
    refine rn_bipush C (iI 100) d_R_textIsRule_65 (by decide) ?_
    refine rn_icmp_eq C 92 d_R_textIsRule_67 (by decide) (fun c67 => ?_) (fun c67 => ?_)
    · skip
      refine rn_iconst C (iI 1) d_R_textIsRule_92 (by decide) ?_
      refine rn_goto C 97 d_R_textIsRule_93 (by decide) ?_
      refine rn_istore_n C d_R_textIsRule_97 (by decide) ?_
      refine rn_iload_n C d_R_textIsRule_98 rfl ?_
      refine rn_if_eq C 128 d_R_textIsRule_99 (by decide) (fun q => absurd q (by decide)) (fun _ => ?_)
      refine rn_aload_n C d_R_textIsRule_102 rfl ?_
      refine rn_get C f_R_11 d_R_textIsRule_103 (by assumption) (by rfl) ?_
      refine rn_iconst C (iI 1) d_R_textIsRule_106 (by decide) ?_
      refine rn_caload C d_R_textIsRule_107 (by assumption) (iI_vin (by omega) (by omega) (by omega)) ?_
      rw [show (iI 1).toNatClampNeg = (1 : Int).toNat from rfl, htx 1 (by omega) (by omega)]
      refine rn_bipush C (iI 60) d_R_textIsRule_108 (by decide) ?_
      refine rn_icmp_eq C 124 d_R_textIsRule_110 (by decide) (fun c110 => ?_) (fun c110 => ?_)
      · skip
        refine rn_iconst C (iI 1) d_R_textIsRule_124 (by decide) ?_
        refine rn_goto C 129 d_R_textIsRule_125 (by decide) ?_
        refine rn_ireturn C rfl rfl d_R_textIsRule_129 ⟨by decide, by decide⟩ ?_
        first | exact absurd rfl c99 | exact absurd c99 (by decide) | ((try simp only [e0_100] at c67); (try simp only [e0_110] at c78); (try simp only [e0_109] at c89); (try simp only [e1_60] at c110); (try simp only [e1_62] at c121); first | exact k1 ⟨by omega, by omega, by omega, hd⟩ | exact k2 (fun hh => by obtain ⟨-, g2, g3, -⟩ := hh; omega))
      · skip
        refine rn_aload_n C d_R_textIsRule_113 rfl ?_
        refine rn_get C f_R_11 d_R_textIsRule_114 (by assumption) (by rfl) ?_
        refine rn_iconst C (iI 1) d_R_textIsRule_117 (by decide) ?_
        refine rn_caload C d_R_textIsRule_118 (by assumption) (iI_vin (by omega) (by omega) (by omega)) ?_
        rw [show (iI 1).toNatClampNeg = (1 : Int).toNat from rfl, htx 1 (by omega) (by omega)]
        refine rn_bipush C (iI 62) d_R_textIsRule_119 (by decide) ?_
        refine rn_icmp_ne C 128 d_R_textIsRule_121 (by decide) (fun c121 => ?_) (fun c121 => ?_)
        · skip
          refine rn_iconst C (iI 0) d_R_textIsRule_128 (by decide) ?_
          refine rn_ireturn C rfl rfl d_R_textIsRule_129 ⟨by decide, by decide⟩ ?_
          first | exact absurd rfl c99 | exact absurd c99 (by decide) | ((try simp only [e0_100] at c67); (try simp only [e0_110] at c78); (try simp only [e0_109] at c89); (try simp only [e1_60] at c110); (try simp only [e1_62] at c121); first | exact k1 ⟨by omega, by omega, by omega, hd⟩ | exact k2 (fun hh => by obtain ⟨-, g2, g3, -⟩ := hh; omega))
        · skip
          refine rn_iconst C (iI 1) d_R_textIsRule_124 (by decide) ?_
          refine rn_goto C 129 d_R_textIsRule_125 (by decide) ?_
          refine rn_ireturn C rfl rfl d_R_textIsRule_129 ⟨by decide, by decide⟩ ?_
          first | exact absurd rfl c99 | exact absurd c99 (by decide) | ((try simp only [e0_100] at c67); (try simp only [e0_110] at c78); (try simp only [e0_109] at c89); (try simp only [e1_60] at c110); (try simp only [e1_62] at c121); first | exact k1 ⟨by omega, by omega, by omega, hd⟩ | exact k2 (fun hh => by obtain ⟨-, g2, g3, -⟩ := hh; omega))
    · skip
      refine rn_aload_n C d_R_textIsRule_70 rfl ?_
      refine rn_get C f_R_11 d_R_textIsRule_71 (by assumption) (by rfl) ?_
      refine rn_iconst C (iI 0) d_R_textIsRule_74 (by decide) ?_
      refine rn_caload C d_R_textIsRule_75 (by assumption) (iI_vin (by omega) (by omega) (by omega)) ?_
      rw [show (iI 0).toNatClampNeg = (0 : Int).toNat from rfl, htx 0 (by omega) (by omega)]
      refine rn_bipush C (iI 110) d_R_textIsRule_76 (by decide) ?_
      refine rn_icmp_eq C 92 d_R_textIsRule_78 (by decide) (fun c78 => ?_) (fun c78 => ?_)
      · skip
        refine rn_iconst C (iI 1) d_R_textIsRule_92 (by decide) ?_
        refine rn_goto C 97 d_R_textIsRule_93 (by decide) ?_
        refine rn_istore_n C d_R_textIsRule_97 (by decide) ?_
        refine rn_iload_n C d_R_textIsRule_98 rfl ?_
        refine rn_if_eq C 128 d_R_textIsRule_99 (by decide) (fun q => absurd q (by decide)) (fun _ => ?_)
        refine rn_aload_n C d_R_textIsRule_102 rfl ?_
        refine rn_get C f_R_11 d_R_textIsRule_103 (by assumption) (by rfl) ?_
        refine rn_iconst C (iI 1) d_R_textIsRule_106 (by decide) ?_
        refine rn_caload C d_R_textIsRule_107 (by assumption) (iI_vin (by omega) (by omega) (by omega)) ?_
        rw [show (iI 1).toNatClampNeg = (1 : Int).toNat from rfl, htx 1 (by omega) (by omega)]
        refine rn_bipush C (iI 60) d_R_textIsRule_108 (by decide) ?_
        refine rn_icmp_eq C 124 d_R_textIsRule_110 (by decide) (fun c110 => ?_) (fun c110 => ?_)
        · skip
          refine rn_iconst C (iI 1) d_R_textIsRule_124 (by decide) ?_
          refine rn_goto C 129 d_R_textIsRule_125 (by decide) ?_
          refine rn_ireturn C rfl rfl d_R_textIsRule_129 ⟨by decide, by decide⟩ ?_
          first | exact absurd rfl c99 | exact absurd c99 (by decide) | ((try simp only [e0_100] at c67); (try simp only [e0_110] at c78); (try simp only [e0_109] at c89); (try simp only [e1_60] at c110); (try simp only [e1_62] at c121); first | exact k1 ⟨by omega, by omega, by omega, hd⟩ | exact k2 (fun hh => by obtain ⟨-, g2, g3, -⟩ := hh; omega))
        · skip
          refine rn_aload_n C d_R_textIsRule_113 rfl ?_
          refine rn_get C f_R_11 d_R_textIsRule_114 (by assumption) (by rfl) ?_
          refine rn_iconst C (iI 1) d_R_textIsRule_117 (by decide) ?_
          refine rn_caload C d_R_textIsRule_118 (by assumption) (iI_vin (by omega) (by omega) (by omega)) ?_
          rw [show (iI 1).toNatClampNeg = (1 : Int).toNat from rfl, htx 1 (by omega) (by omega)]
          refine rn_bipush C (iI 62) d_R_textIsRule_119 (by decide) ?_
          refine rn_icmp_ne C 128 d_R_textIsRule_121 (by decide) (fun c121 => ?_) (fun c121 => ?_)
          · skip
            refine rn_iconst C (iI 0) d_R_textIsRule_128 (by decide) ?_
            refine rn_ireturn C rfl rfl d_R_textIsRule_129 ⟨by decide, by decide⟩ ?_
            first | exact absurd rfl c99 | exact absurd c99 (by decide) | ((try simp only [e0_100] at c67); (try simp only [e0_110] at c78); (try simp only [e0_109] at c89); (try simp only [e1_60] at c110); (try simp only [e1_62] at c121); first | exact k1 ⟨by omega, by omega, by omega, hd⟩ | exact k2 (fun hh => by obtain ⟨-, g2, g3, -⟩ := hh; omega))
          · skip
            refine rn_iconst C (iI 1) d_R_textIsRule_124 (by decide) ?_
            refine rn_goto C 129 d_R_textIsRule_125 (by decide) ?_
            refine rn_ireturn C rfl rfl d_R_textIsRule_129 ⟨by decide, by decide⟩ ?_
            first | exact absurd rfl c99 | exact absurd c99 (by decide) | ((try simp only [e0_100] at c67); (try simp only [e0_110] at c78); (try simp only [e0_109] at c89); (try simp only [e1_60] at c110); (try simp only [e1_62] at c121); first | exact k1 ⟨by omega, by omega, by omega, hd⟩ | exact k2 (fun hh => by obtain ⟨-, g2, g3, -⟩ := hh; omega))
      · skip
        refine rn_aload_n C d_R_textIsRule_81 rfl ?_
        refine rn_get C f_R_11 d_R_textIsRule_82 (by assumption) (by rfl) ?_
        refine rn_iconst C (iI 0) d_R_textIsRule_85 (by decide) ?_
        refine rn_caload C d_R_textIsRule_86 (by assumption) (iI_vin (by omega) (by omega) (by omega)) ?_
        rw [show (iI 0).toNatClampNeg = (0 : Int).toNat from rfl, htx 0 (by omega) (by omega)]
        refine rn_bipush C (iI 109) d_R_textIsRule_87 (by decide) ?_
        refine rn_icmp_ne C 96 d_R_textIsRule_89 (by decide) (fun c89 => ?_) (fun c89 => ?_)
        · skip
          refine rn_iconst C (iI 0) d_R_textIsRule_96 (by decide) ?_
          refine rn_istore_n C d_R_textIsRule_97 (by decide) ?_
          refine rn_iload_n C d_R_textIsRule_98 rfl ?_
          refine rn_if_eq C 128 d_R_textIsRule_99 (by decide) (fun _ => ?_) (fun q => absurd rfl q)
          refine rn_iconst C (iI 0) d_R_textIsRule_128 (by decide) ?_
          refine rn_ireturn C rfl rfl d_R_textIsRule_129 ⟨by decide, by decide⟩ ?_
          first | exact absurd rfl c99 | exact absurd c99 (by decide) | ((try simp only [e0_100] at c67); (try simp only [e0_110] at c78); (try simp only [e0_109] at c89); (try simp only [e1_60] at c110); (try simp only [e1_62] at c121); first | exact k1 ⟨by omega, by omega, by omega, hd⟩ | exact k2 (fun hh => by obtain ⟨-, g2, g3, -⟩ := hh; omega))
        · skip
          refine rn_iconst C (iI 1) d_R_textIsRule_92 (by decide) ?_
          refine rn_goto C 97 d_R_textIsRule_93 (by decide) ?_
          refine rn_istore_n C d_R_textIsRule_97 (by decide) ?_
          refine rn_iload_n C d_R_textIsRule_98 rfl ?_
          refine rn_if_eq C 128 d_R_textIsRule_99 (by decide) (fun q => absurd q (by decide)) (fun _ => ?_)
          refine rn_aload_n C d_R_textIsRule_102 rfl ?_
          refine rn_get C f_R_11 d_R_textIsRule_103 (by assumption) (by rfl) ?_
          refine rn_iconst C (iI 1) d_R_textIsRule_106 (by decide) ?_
          refine rn_caload C d_R_textIsRule_107 (by assumption) (iI_vin (by omega) (by omega) (by omega)) ?_
          rw [show (iI 1).toNatClampNeg = (1 : Int).toNat from rfl, htx 1 (by omega) (by omega)]
          refine rn_bipush C (iI 60) d_R_textIsRule_108 (by decide) ?_
          refine rn_icmp_eq C 124 d_R_textIsRule_110 (by decide) (fun c110 => ?_) (fun c110 => ?_)
          · skip
            refine rn_iconst C (iI 1) d_R_textIsRule_124 (by decide) ?_
            refine rn_goto C 129 d_R_textIsRule_125 (by decide) ?_
            refine rn_ireturn C rfl rfl d_R_textIsRule_129 ⟨by decide, by decide⟩ ?_
            first | exact absurd rfl c99 | exact absurd c99 (by decide) | ((try simp only [e0_100] at c67); (try simp only [e0_110] at c78); (try simp only [e0_109] at c89); (try simp only [e1_60] at c110); (try simp only [e1_62] at c121); first | exact k1 ⟨by omega, by omega, by omega, hd⟩ | exact k2 (fun hh => by obtain ⟨-, g2, g3, -⟩ := hh; omega))
          · skip
            refine rn_aload_n C d_R_textIsRule_113 rfl ?_
            refine rn_get C f_R_11 d_R_textIsRule_114 (by assumption) (by rfl) ?_
            refine rn_iconst C (iI 1) d_R_textIsRule_117 (by decide) ?_
            refine rn_caload C d_R_textIsRule_118 (by assumption) (iI_vin (by omega) (by omega) (by omega)) ?_
            rw [show (iI 1).toNatClampNeg = (1 : Int).toNat from rfl, htx 1 (by omega) (by omega)]
            refine rn_bipush C (iI 62) d_R_textIsRule_119 (by decide) ?_
            refine rn_icmp_ne C 128 d_R_textIsRule_121 (by decide) (fun c121 => ?_) (fun c121 => ?_)
            · skip
              refine rn_iconst C (iI 0) d_R_textIsRule_128 (by decide) ?_
              refine rn_ireturn C rfl rfl d_R_textIsRule_129 ⟨by decide, by decide⟩ ?_
              first | exact absurd rfl c99 | exact absurd c99 (by decide) | ((try simp only [e0_100] at c67); (try simp only [e0_110] at c78); (try simp only [e0_109] at c89); (try simp only [e1_60] at c110); (try simp only [e1_62] at c121); first | exact k1 ⟨by omega, by omega, by omega, hd⟩ | exact k2 (fun hh => by obtain ⟨-, g2, g3, -⟩ := hh; omega))
            · skip
              refine rn_iconst C (iI 1) d_R_textIsRule_124 (by decide) ?_
              refine rn_goto C 129 d_R_textIsRule_125 (by decide) ?_
              refine rn_ireturn C rfl rfl d_R_textIsRule_129 ⟨by decide, by decide⟩ ?_
              first | exact absurd rfl c99 | exact absurd c99 (by decide) | ((try simp only [e0_100] at c67); (try simp only [e0_110] at c78); (try simp only [e0_109] at c89); (try simp only [e1_60] at c110); (try simp only [e1_62] at c121); first | exact k1 ⟨by omega, by omega, by omega, hd⟩ | exact k2 (fun hh => by obtain ⟨-, g2, g3, -⟩ := hh; omega))
  have loop : 3 ≤ sg → sg ≤ 8 → ∀ (j : Nat) (i : Int), i + j = sg → 2 ≤ i → (∀ j : Int, 2 ≤ j → j < i → 48 ≤ T j ∧ T j ≤ 57) → Run p l e { frames := 1, cells := 0, slots := 0, locals := 0 } s m args below meth c z sa D dA 0 0 K 2 21 [some (.ref q), some (.int (iI i))] [] h 0 0 := by
    intro s3 s8 j
    induction j with
    | zero =>
      intro i hi i0 hd
      refine rn_iload_n C d_R_textIsRule_21 rfl ?_
      refine rn_aload_n C d_R_textIsRule_22 rfl ?_
      refine rn_get C f_R_25 d_R_textIsRule_23 (by assumption) (by rfl) ?_
      refine rn_icmp_ge C 59 d_R_textIsRule_26 (by decide) (fun _ => ?_) (fun q_26 => absurd ((iI_le ⟨by omega, by omega⟩ ⟨by omega, by omega⟩).mpr (by omega)) q_26)
      refine rn_weak (lv' := [some (.ref q)]) ⟨rfl, trivial⟩ ?_
      exact fin s3 s8 (fun j h1 h2 => hd j h1 (by omega))
    | succ j ih =>
      intro i hi i0 hd
      have ti := htb i
      refine rn_iload_n C d_R_textIsRule_21 rfl ?_
      refine rn_aload_n C d_R_textIsRule_22 rfl ?_
      refine rn_get C f_R_25 d_R_textIsRule_23 (by assumption) (by rfl) ?_
      refine rn_icmp_ge C 59 d_R_textIsRule_26 (by decide) (fun q_26 => absurd q_26 (fun q => absurd ((iI_le ⟨by omega, by omega⟩ ⟨by omega, by omega⟩).mp q) (by omega))) (fun _ => ?_)
      refine rn_aload_n C d_R_textIsRule_29 rfl ?_
      refine rn_get C f_R_11 d_R_textIsRule_30 (by assumption) (by rfl) ?_
      refine rn_iload_n C d_R_textIsRule_33 rfl ?_
      refine rn_caload C d_R_textIsRule_34 (by assumption) (iI_vin (by omega) (by omega) (by omega)) ?_
      rw [iI_nat (by omega) (by omega), htx i (by omega) (by omega)]
      refine rn_bipush C (iI 48) d_R_textIsRule_35 (by decide) ?_
      refine rn_icmp_lt C 51 d_R_textIsRule_37 (by decide) (fun c37 => ?_) (fun c37 => ?_)
      · skip
        refine rn_iconst C (iI 0) d_R_textIsRule_51 (by decide) ?_
        refine rn_ireturn C rfl rfl d_R_textIsRule_52 ⟨by decide, by decide⟩ ?_
        refine k2 (fun hh => ?_)
        have hi2 := hh.2.2.2 i i0 (by omega)
        first | exact absurd ((iI_lt ⟨by omega, by omega⟩ ⟨by omega, by omega⟩).mp c37) (by omega) | exact c48 ((iI_le ⟨by omega, by omega⟩ ⟨by omega, by omega⟩).mpr (by omega))
      · skip
        refine rn_aload_n C d_R_textIsRule_40 rfl ?_
        refine rn_get C f_R_11 d_R_textIsRule_41 (by assumption) (by rfl) ?_
        refine rn_iload_n C d_R_textIsRule_44 rfl ?_
        refine rn_caload C d_R_textIsRule_45 (by assumption) (iI_vin (by omega) (by omega) (by omega)) ?_
        rw [iI_nat (by omega) (by omega), htx i (by omega) (by omega)]
        refine rn_bipush C (iI 57) d_R_textIsRule_46 (by decide) ?_
        refine rn_icmp_le C 53 d_R_textIsRule_48 (by decide) (fun c48 => ?_) (fun c48 => ?_)
        · skip
          refine rn_iinc C _ d_R_textIsRule_53 rfl (iI_inc _) (by decide) ?_
          refine rn_goto C 21 d_R_textIsRule_56 (by decide) ?_
          have g1 : ¬ T i < 48 := fun q => c37 ((iI_lt ⟨by omega, by omega⟩ ⟨by omega, by omega⟩).mpr q)
          have g2 := (iI_le ⟨by omega, by omega⟩ ⟨by omega, by omega⟩).mp c48
          refine ih (i + 1) (by omega) (by omega) (fun q h1 h2 => ?_)
          by_cases hq : q = i
          · subst hq; exact ⟨by omega, g2⟩
          · exact hd q h1 (by omega)
        · skip
          refine rn_iconst C (iI 0) d_R_textIsRule_51 (by decide) ?_
          refine rn_ireturn C rfl rfl d_R_textIsRule_52 ⟨by decide, by decide⟩ ?_
          refine k2 (fun hh => ?_)
          have hi2 := hh.2.2.2 i i0 (by omega)
          first | exact absurd ((iI_lt ⟨by omega, by omega⟩ ⟨by omega, by omega⟩).mp c37) (by omega) | exact c48 ((iI_le ⟨by omega, by omega⟩ ⟨by omega, by omega⟩).mpr (by omega))
  refine rn_aload_n C d_R_textIsRule_0 rfl ?_
  refine rn_get C f_R_25 d_R_textIsRule_1 (by assumption) (by rfl) ?_
  refine rn_iconst C (iI 2) d_R_textIsRule_4 (by decide) ?_
  refine rn_icmp_le C 17 d_R_textIsRule_5 (by decide) (fun c5 => ?_) (fun c5 => ?_)
  · skip
    refine rn_iconst C (iI 0) d_R_textIsRule_17 (by decide) ?_
    refine rn_ireturn C rfl rfl d_R_textIsRule_18 ⟨by decide, by decide⟩ ?_
    refine k2 (fun hh => ?_)
    have hh1 := hh.1
    first | exact absurd ((iI_le ⟨by omega, by omega⟩ ⟨by omega, by omega⟩).mp c5) (by omega) | exact c14 ((iI_le ⟨by omega, by omega⟩ ⟨by omega, by omega⟩).mpr (by omega))
  · skip
    refine rn_aload_n C d_R_textIsRule_8 rfl ?_
    refine rn_get C f_R_25 d_R_textIsRule_9 (by assumption) (by rfl) ?_
    refine rn_bipush C (iI 8) d_R_textIsRule_12 (by decide) ?_
    refine rn_icmp_le C 19 d_R_textIsRule_14 (by decide) (fun c14 => ?_) (fun c14 => ?_)
    · skip
      refine rn_iconst C (iI 2) d_R_textIsRule_19 (by decide) ?_
      refine rn_istore_n C d_R_textIsRule_20 (by decide) ?_
      have g1 : ¬ sg ≤ 2 := fun q => c5 ((iI_le ⟨by omega, by omega⟩ ⟨by omega, by omega⟩).mpr q)
      have g2 := (iI_le ⟨by omega, by omega⟩ ⟨by omega, by omega⟩).mp c14
      exact loop (by omega) g2 (sg - 2).toNat 2 (by omega) (by omega) (fun j h1 h2 => by omega)
    · skip
      refine rn_iconst C (iI 0) d_R_textIsRule_17 (by decide) ?_
      refine rn_ireturn C rfl rfl d_R_textIsRule_18 ⟨by decide, by decide⟩ ?_
      refine k2 (fun hh => ?_)
      have hh1 := hh.1
      first | exact absurd ((iI_le ⟨by omega, by omega⟩ ⟨by omega, by omega⟩).mp c5) (by omega) | exact c14 ((iI_le ⟨by omega, by omega⟩ ⟨by omega, by omega⟩).mpr (by omega))

def G_R_numberInText (av : List Value) (h : ah_H) (K : ah_R → ah_H → Prop) : Prop := ∃ (q qt : Nat) (rk : Int32) (v2 v3 v4 : Value) (sg : Int) (tx : Nat → Int32) (T : Int → Int), av = [.ref q] ∧ h[q]? = some (.inr (8, [.int rk, .int (iI sg), .ref qt, v2, v3, v4])) ∧ h[qt]? = some (aC 20 tx) ∧ txOk tx T ∧ txB T ∧ 2 ≤ sg ∧ sg ≤ 20 ∧ K (.inl (some (.int (iI (nmF T 2 (sg - 2).toNat 0))))) h
set_option maxHeartbeats 4000000 in
set_option maxRecDepth 100000 in
theorem c_R_numberInText (l : Launch) : rn_Met l y_R_numberInText wc_R_numberInText { frames := 1, cells := 0, slots := 0, locals := 0 } G_R_numberInText := by
  refine rn_in mw_R_numberInText.1 (by decide +kernel) ?_ ?_
  · intro _ av h K hG
    obtain ⟨q, qt, rk, v2, v3, v4, sg, tx, T, rfl, h1, h2, htx, htb, s0, s1, hK⟩ := hG
    exact Nat.le_of_ble_eq_true rfl
  intro p e s m args below meth c z sa D dA av h K hadm C hG
  obtain ⟨q, qt, rk, v2, v3, v4, sg, tx, T, rfl, h1, h2, htx, htb, s0, s1, hK⟩ := hG
  have loop : ∀ (j : Nat) (i a : Int), i + j = sg → 2 ≤ i → nmF T i j a = nmF T 2 (sg - 2).toNat 0 → Run p l e { frames := 1, cells := 0, slots := 0, locals := 0 } s m args below meth c z sa D dA 0 0 K 3 4 [some (.ref q), some (.int (iI (a))), some (.int (iI (i)))] [] h 0 0 := by
    intro j
    induction j with
    | zero =>
      intro i a hi i0 he
      rw [nmF] at he
      refine rn_iload_n C d_R_numberInText_4 rfl ?_
      refine rn_aload_n C d_R_numberInText_5 rfl ?_
      refine rn_get C f_R_25 d_R_numberInText_6 (by assumption) (by rfl) ?_
      refine rn_icmp_ge C 33 d_R_numberInText_9 (by decide) (fun _ => ?_) (fun q_9 => absurd ((iI_le ⟨by omega, by omega⟩ ⟨by omega, by omega⟩).mpr (by omega)) q_9)
      refine rn_iload_n C d_R_numberInText_33 rfl ?_
      refine rn_ireturn C rfl rfl d_R_numberInText_34 ⟨by decide, by decide⟩ ?_
      rw [he]
      exact hK
    | succ j ih =>
      intro i a hi i0 he
      rw [nmF] at he
      refine rn_iload_n C d_R_numberInText_4 rfl ?_
      refine rn_aload_n C d_R_numberInText_5 rfl ?_
      refine rn_get C f_R_25 d_R_numberInText_6 (by assumption) (by rfl) ?_
      refine rn_icmp_ge C 33 d_R_numberInText_9 (by decide) (fun q_9 => absurd q_9 (fun q => absurd ((iI_le ⟨by omega, by omega⟩ ⟨by omega, by omega⟩).mp q) (by omega))) (fun _ => ?_)
      refine rn_iload_n C d_R_numberInText_12 rfl ?_
      refine rn_bipush C (iI 10) d_R_numberInText_13 (by decide) ?_
      refine rn_imul C d_R_numberInText_15 ?_
      refine rn_aload_n C d_R_numberInText_16 rfl ?_
      refine rn_get C f_R_11 d_R_numberInText_17 (by assumption) (by rfl) ?_
      refine rn_iload_n C d_R_numberInText_20 rfl ?_
      refine rn_caload C d_R_numberInText_21 (by assumption) (iI_vin (by omega) (by omega) (by omega)) ?_
      rw [iI_nat (by omega) (by omega), htx i (by omega) (by omega)]
      refine rn_iadd C d_R_numberInText_22 ?_
      refine rn_bipush C (iI 48) d_R_numberInText_23 (by decide) ?_
      refine rn_isub C d_R_numberInText_25 ?_
      rw [iI_mul, iI_add, iI_sub]
      refine rn_istore_n C d_R_numberInText_26 (by decide) ?_
      refine rn_iinc C _ d_R_numberInText_27 rfl (iI_inc _) (by decide) ?_
      refine rn_goto C 4 d_R_numberInText_30 (by decide) ?_
      exact ih (i + 1) _ (by omega) (by omega) he
  refine rn_iconst C (iI 0) d_R_numberInText_0 (by decide) ?_
  refine rn_istore_n C d_R_numberInText_1 (by decide) ?_
  refine rn_iconst C (iI 2) d_R_numberInText_2 (by decide) ?_
  refine rn_istore_n C d_R_numberInText_3 (by decide) ?_
  exact loop (sg - 2).toNat 2 0 (by omega) (by omega) rfl

def G_R_takeText (av : List Value) (h : ah_H) (K : ah_R → ah_H → Prop) : Prop := ∃ (e0 e1 e2 e3 e4 e5 e6 e7 e8 e9 e10 e11 e12 e13 e14 : ah_E) (rest : ah_H) (rk sg : Int) (tx kf wf lf : Nat → Int32) (T : Int → Int), av = [.ref 15] ∧ h = e0 :: e1 :: e2 :: e3 :: e4 :: e5 :: e6 :: e7 :: e8 :: e9 :: e10 :: e11 :: e12 :: e13 :: e14 :: cR (iI rk) (iI sg) :: aC 20 tx :: aC 8 kf :: aC 8 wf :: aI 8 lf :: rest ∧ txOk tx T ∧ txB T ∧ 0 ≤ rk ∧ rk < 8 ∧ 0 ≤ sg ∧ sg ≤ 20 ∧ (isRule T sg → K (.inl (some (.int (iI rk)))) (e0 :: e1 :: e2 :: e3 :: e4 :: e5 :: e6 :: e7 :: e8 :: e9 :: e10 :: e11 :: e12 :: e13 :: e14 :: cR (iI (rk + 1)) (iI 0) :: aC 20 tx :: aC 8 (upd kf rk.toNat (iI (T 0))) :: aC 8 (upd wf rk.toNat (iI (T 1))) :: aI 8 (upd lf rk.toNat (iI (nmF T 2 (sg - 2).toNat 0))) :: rest)) ∧ (¬ isRule T sg → K (.inl (some (.int (iI (-1))))) (e0 :: e1 :: e2 :: e3 :: e4 :: e5 :: e6 :: e7 :: e8 :: e9 :: e10 :: e11 :: e12 :: e13 :: e14 :: cR (iI rk) (iI 0) :: aC 20 tx :: aC 8 kf :: aC 8 wf :: aI 8 lf :: rest))
set_option maxHeartbeats 4000000 in
set_option maxRecDepth 100000 in
theorem c_R_takeText (l : Launch) : rn_Met l y_R_takeText wc_R_takeText { frames := 2, cells := 0, slots := 0, locals := 22 } G_R_takeText := by
  refine rn_in mw_R_takeText.1 (by decide +kernel) ?_ ?_
  · intro _ av h K hG
    obtain ⟨e0, e1, e2, e3, e4, e5, e6, e7, e8, e9, e10, e11, e12, e13, e14, rest, rk, sg, tx, kf, wf, lf, T, rfl, rfl, htx, htb, r0, r1, s0, s1, k1, k2⟩ := hG
    exact Nat.le_of_ble_eq_true rfl
  intro p e s m args below meth c z sa D dA av h K hadm C hG
  obtain ⟨e0, e1, e2, e3, e4, e5, e6, e7, e8, e9, e10, e11, e12, e13, e14, rest, rk, sg, tx, kf, wf, lf, T, rfl, rfl, htx, htb, r0, r1, s0, s1, k1, k2⟩ := hG
  refine rn_aload_n C d_R_takeText_0 rfl ?_
  refine rn_cV C (c_R_textIsRule l) mw_R_textIsRule k_R_32 d_R_takeText_1 rfl rfl rfl (Nat.le_of_ble_eq_true rfl) (Nat.le_of_ble_eq_true rfl) ⟨by decide, by decide⟩ ⟨by decide, by decide⟩ ?_
  refine ⟨15, 16, _, _, _, _, _, tx, T, rfl, rfl, rfl, htx, htb, s0, s1, fun hh => ?_, fun hh => ?_⟩
  · skip
    refine rn_istore_n C d_R_takeText_4 (by decide) ?_
    refine rn_iload_n C d_R_takeText_5 rfl ?_
    refine rn_if_eq C 62 d_R_takeText_6 (by decide) (fun q_6 => absurd q_6 (by decide)) (fun _ => ?_)
    refine rn_aload_n C d_R_takeText_9 rfl ?_
    refine rn_get C f_R_15 d_R_takeText_10 rfl rfl ?_
    refine rn_aload_n C d_R_takeText_13 rfl ?_
    refine rn_get C f_R_29 d_R_takeText_14 rfl rfl ?_
    refine rn_aload_n C d_R_takeText_17 rfl ?_
    refine rn_get C f_R_11 d_R_takeText_18 rfl rfl ?_
    refine rn_iconst C (iI 0) d_R_takeText_21 (by decide) ?_
    refine rn_caload C d_R_takeText_22 rfl (iI_vin (by omega) (by omega) (by omega)) ?_
    rw [show (iI 0).toNatClampNeg = (0 : Int).toNat from rfl, htx 0 (by omega) (by omega)]
    refine rn_castore C d_R_takeText_23 rfl (iI_vin r0 (by omega) (by omega)) ?_
    rw [iI_nat r0 (by omega), char_I (htb 0).1 (htb 0).2]
    refine rn_aload_n C d_R_takeText_24 rfl ?_
    refine rn_get C f_R_18 d_R_takeText_25 rfl rfl ?_
    refine rn_aload_n C d_R_takeText_28 rfl ?_
    refine rn_get C f_R_29 d_R_takeText_29 rfl rfl ?_
    refine rn_aload_n C d_R_takeText_32 rfl ?_
    refine rn_get C f_R_11 d_R_takeText_33 rfl rfl ?_
    refine rn_iconst C (iI 1) d_R_takeText_36 (by decide) ?_
    refine rn_caload C d_R_takeText_37 rfl (iI_vin (by omega) (by omega) (by omega)) ?_
    rw [show (iI 1).toNatClampNeg = (1 : Int).toNat from rfl, htx 1 (by omega) (by omega)]
    refine rn_castore C d_R_takeText_38 rfl (iI_vin r0 (by omega) (by omega)) ?_
    rw [iI_nat r0 (by omega), char_I (htb 1).1 (htb 1).2]
    refine rn_aload_n C d_R_takeText_39 rfl ?_
    refine rn_get C f_R_21 d_R_takeText_40 rfl rfl ?_
    refine rn_aload_n C d_R_takeText_43 rfl ?_
    refine rn_get C f_R_29 d_R_takeText_44 rfl rfl ?_
    refine rn_aload_n C d_R_takeText_47 rfl ?_
    refine rn_cV C (c_R_numberInText l) mw_R_numberInText k_R_36 d_R_takeText_48 rfl rfl rfl (Nat.le_of_ble_eq_true rfl) (Nat.le_of_ble_eq_true rfl) ⟨by decide, by decide⟩ ⟨by decide, by decide⟩ ?_
    refine ⟨15, 16, _, _, _, _, _, tx, T, rfl, rfl, rfl, htx, htb, by have := hh.1; omega, s1, ?_⟩
    refine rn_iastore C d_R_takeText_51 rfl (iI_vin r0 (by omega) (by omega)) ?_
    rw [iI_nat r0 (by omega)]
    refine rn_aload_n C d_R_takeText_52 rfl ?_
    refine rn_dup C d_R_takeText_53 rfl ?_
    refine rn_get C f_R_29 d_R_takeText_54 rfl rfl ?_
    refine rn_iconst C (iI 1) d_R_takeText_57 (by decide) ?_
    refine rn_iadd C d_R_takeText_58 ?_
    rw [iI_add]
    refine rn_put C f_R_29 ft_R fn_R_0 d_R_takeText_59 rfl (Nat.le_of_ble_eq_true rfl) (fun _ _ => ⟨rfl, rfl⟩) ?_
    refine rn_aload_n C d_R_takeText_62 rfl ?_
    refine rn_iconst C (iI 0) d_R_takeText_63 (by decide) ?_
    refine rn_put C f_R_25 ft_R fn_R_1 d_R_takeText_64 rfl (Nat.le_of_ble_eq_true rfl) (fun _ _ => ⟨rfl, rfl⟩) ?_
    refine rn_iload_n C d_R_takeText_67 rfl ?_
    refine rn_if_eq C 80 d_R_takeText_68 (by decide) (fun q_68 => absurd q_68 (by decide)) (fun _ => ?_)
    refine rn_aload_n C d_R_takeText_71 rfl ?_
    refine rn_get C f_R_29 d_R_takeText_72 rfl rfl ?_
    refine rn_iconst C (iI 1) d_R_takeText_75 (by decide) ?_
    refine rn_isub C d_R_takeText_76 ?_
    refine rn_goto C 81 d_R_takeText_77 (by decide) ?_
    rw [iI_sub, show rk + 1 - 1 = rk by omega]
    refine rn_ireturn C rfl rfl d_R_takeText_81 ⟨by decide, by decide⟩ ?_
    exact k1 hh
  · skip
    refine rn_istore_n C d_R_takeText_4 (by decide) ?_
    refine rn_iload_n C d_R_takeText_5 rfl ?_
    refine rn_if_eq C 62 d_R_takeText_6 (by decide) (fun _ => ?_) (fun q_6 => absurd (rfl) q_6)
    refine rn_aload_n C d_R_takeText_62 rfl ?_
    refine rn_iconst C (iI 0) d_R_takeText_63 (by decide) ?_
    refine rn_put C f_R_25 ft_R fn_R_1 d_R_takeText_64 rfl (Nat.le_of_ble_eq_true rfl) (fun _ _ => ⟨rfl, rfl⟩) ?_
    refine rn_iload_n C d_R_takeText_67 rfl ?_
    refine rn_if_eq C 80 d_R_takeText_68 (by decide) (fun _ => ?_) (fun q_68 => absurd (rfl) q_68)
    refine rn_iconst C (iI (-1)) d_R_takeText_80 (by decide) ?_
    refine rn_ireturn C rfl rfl d_R_takeText_81 ⟨by decide, by decide⟩ ?_
    exact k2 hh

def G_C_rule (av : List Value) (h : ah_H) (K : ah_R → ah_H → Prop) : Prop := ∃ (e1 e2 e3 e4 e5 e6 e7 e8 e9 e10 e11 e12 e13 e14 : ah_E) (rest : ah_H) (rk sg : Int) (tx kf wf lf : Nat → Int32) (T : Int → Int), av = [.ref 0] ∧ h = cC :: e1 :: e2 :: e3 :: e4 :: e5 :: e6 :: e7 :: e8 :: e9 :: e10 :: e11 :: e12 :: e13 :: e14 :: cR (iI rk) (iI sg) :: aC 20 tx :: aC 8 kf :: aC 8 wf :: aI 8 lf :: rest ∧ (txOk tx T) ∧ (txB T) ∧ (0 ≤ rk ∧ rk ≤ 8) ∧ (0 ≤ sg ∧ sg ≤ 20) ∧ (rk = 8 → K (.inr h.length) (h ++ [xS])) ∧ (rk < 8 → isRule T sg → K (.inl (some (.int (iI rk)))) (cC :: e1 :: e2 :: e3 :: e4 :: e5 :: e6 :: e7 :: e8 :: e9 :: e10 :: e11 :: e12 :: e13 :: e14 :: cR (iI (rk + 1)) (iI 0) :: aC 20 tx :: aC 8 (upd kf rk.toNat (iI (T 0))) :: aC 8 (upd wf rk.toNat (iI (T 1))) :: aI 8 (upd lf rk.toNat (iI (nmF T 2 (sg - 2).toNat 0))) :: rest)) ∧ (rk < 8 → ¬ isRule T sg → K (.inl (some (.int (iI (-1))))) (cC :: e1 :: e2 :: e3 :: e4 :: e5 :: e6 :: e7 :: e8 :: e9 :: e10 :: e11 :: e12 :: e13 :: e14 :: cR (iI rk) (iI 0) :: aC 20 tx :: aC 8 kf :: aC 8 wf :: aI 8 lf :: rest))
set_option maxHeartbeats 4000000 in
set_option maxRecDepth 100000 in
theorem c_C_rule (l : Launch) (hl : l.flags = flags0) : rn_Met l y_C_rule wc_C_rule rmC G_C_rule := by
  refine rn_in mw_C_rule.1 (by decide +kernel) ?_ ?_
  · intro _ av h K hG
    obtain ⟨e1, e2, e3, e4, e5, e6, e7, e8, e9, e10, e11, e12, e13, e14, rest, rk, sg, tx, kf, wf, lf, T, rfl, rfl, hc0, hc1, hc2, hc3, k1, k2, k3⟩ := hG
    exact Nat.le_of_ble_eq_true rfl
  intro p e s m args below meth c z sa D dA av h K hadm C hG
  have htr := Launch.traces_off hl hadm
  obtain ⟨e1, e2, e3, e4, e5, e6, e7, e8, e9, e10, e11, e12, e13, e14, rest, rk, sg, tx, kf, wf, lf, T, rfl, rfl, hc0, hc1, hc2, hc3, k1, k2, k3⟩ := hG
  refine rn_aload_n C d_C_rule_0 rfl ?_
  refine rn_get C f_C_63 d_C_rule_1 rfl rfl ?_
  refine rn_cV C (c_R_areFull l) mw_R_areFull k_C_241 d_C_rule_4 rfl rfl rfl (Nat.le_of_ble_eq_true rfl) (Nat.le_of_ble_eq_true rfl) ⟨by decide, by decide⟩ ⟨by decide, by decide⟩ ?_
  refine ⟨_, _, _, _, _, _, _, rfl, rfl, fun q4 => ?_, fun q4 => ?_⟩
  · skip
    refine rn_if_eq C 20 d_C_rule_7 (by decide) (fun q => absurd q (by decide)) (fun _ => ?_)
    refine rn_throw C htr tw_3 (tx := "there are eight rules") (by decide +kernel) d_C_rule_10 d_C_rule_13 d_C_rule_14 d_C_rule_16 d_C_rule_19 (by decide) (Nat.le_of_ble_eq_true rfl) ⟨by decide, by decide⟩ ⟨by decide, by decide⟩ ?_
    rw [iI_toInt ⟨by omega, by omega⟩] at q4
    exact k1 (by omega)
  · skip
    refine rn_if_eq C 20 d_C_rule_7 (by decide) (fun _ => ?_) (fun q => absurd rfl q)
    refine rn_aload_n C d_C_rule_20 rfl ?_
    refine rn_get C f_C_63 d_C_rule_21 rfl rfl ?_
    rw [iI_toInt ⟨by omega, by omega⟩] at q4
    refine rn_cV C (c_R_takeText l) mw_R_takeText k_C_246 d_C_rule_24 rfl rfl rfl (Nat.le_of_ble_eq_true rfl) (Nat.le_of_ble_eq_true rfl) ⟨by decide, by decide⟩ ⟨by decide, by decide⟩ ?_
    refine ⟨_, _, _, _, _, _, _, _, _, _, _, _, _, _, _, _, _, _, _, _, _, _, _, rfl, rfl, hc0, hc1, hc2.1, by omega, hc3.1, hc3.2, fun hh => ?_, fun hh => ?_⟩
    · exact rn_ireturn C rfl rfl d_C_rule_27 ⟨by decide, by decide⟩ (k2 (by omega) hh)
    · exact rn_ireturn C rfl rfl d_C_rule_27 ⟨by decide, by decide⟩ (k3 (by omega) hh)

def G_R_firstRejecting (av : List Value) (h : ah_H) (K : ah_R → ah_H → Prop) : Prop := ∃ (q q2 q3 q4 : Nat) (v1 v2 : Value) (rk vd vn vm : Int) (kf wf lf : Nat → Int32) (kd wy lm : Int → Int), av = [.ref q, .long (lI vd), .long (lI vn), .long (lI vm)] ∧ h[q]? = some (.inr (8, [.int (iI rk), v1, v2, .ref q2, .ref q3, .ref q4])) ∧ h[q2]? = some (aC 8 kf) ∧ h[q3]? = some (aC 8 wf) ∧ h[q4]? = some (aI 8 lf) ∧ ruOk rk kf wf lf kd wy lm ∧ 0 ≤ rk ∧ rk ≤ 8 ∧ inL vd ∧ inL vn ∧ inL vm ∧ (∀ a : Int, rjA kd wy lm vd vn vm rk a → K (.inl (some (.int (iI a)))) h)
set_option maxHeartbeats 4000000 in
set_option maxRecDepth 100000 in
theorem c_R_firstRejecting (l : Launch) : rn_Met l y_R_firstRejecting wc_R_firstRejecting { frames := 1, cells := 0, slots := 0, locals := 0 } G_R_firstRejecting := by
  refine rn_in mw_R_firstRejecting.1 (by decide +kernel) ?_ ?_
  · intro _ av h K hG
    obtain ⟨q, q2, q3, q4, v1, v2, rk, vd, vn, vm, kf, wf, lf, kd, wy, lm, rfl, h1, h2, h3, h4, hru, r0, r1, bd1, bn1, bm1, hK⟩ := hG
    exact Nat.le_of_ble_eq_true rfl
  intro p e s m args below meth c z sa D dA av h K hadm C hG
  obtain ⟨q, q2, q3, q4, v1, v2, rk, vd, vn, vm, kf, wf, lf, kd, wy, lm, rfl, h1, h2, h3, h4, hru, r0, r1, bd1, bn1, bm1, hK⟩ := hG
  have loop : ∀ (j : Nat) (i : Int), i + j = rk → 0 ≤ i → (∀ j : Int, 0 ≤ j → j < i → ¬ rjT kd wy lm vd vn vm j) → Run p l e { frames := 1, cells := 0, slots := 0, locals := 0 } s m args below meth c z sa D dA 0 0 K 11 3 [some (.ref q), some (.long (lI vd)), none, some (.long (lI vn)), none, some (.long (lI vm)), none, some (.int (iI i))] [] h 0 0 := by
    intro j
    induction j with
    | zero =>
      intro i hi i0 hd
      refine rn_iload C d_R_firstRejecting_3 rfl ?_
      refine rn_aload_n C d_R_firstRejecting_5 rfl ?_
      refine rn_get C f_R_29 d_R_firstRejecting_6 (by assumption) (by rfl) ?_
      refine rn_icmp_ge C 117 d_R_firstRejecting_9 (by decide) (fun _ => ?_) (fun q_9 => absurd ((iI_le ⟨by omega, by omega⟩ ⟨by omega, by omega⟩).mpr (by omega)) q_9)
      refine rn_iconst C (iI (-1)) d_R_firstRejecting_117 (by decide) ?_
      refine rn_ireturn C rfl rfl d_R_firstRejecting_118 ⟨by decide, by decide⟩ ?_
      exact hK _ (Or.inr ⟨rfl, fun j h1 h2 => hd j h1 (by omega)⟩)
    | succ j ih =>
      intro i hi i0 hd
      obtain ⟨g1, g2, g3, g4, g5, g6⟩ := hru i i0 (by omega)
      have g6b : inL (lm i) := ⟨by have := g6.1; omega, by have := g6.2; omega⟩
      have e1 : (iI (kd i) = iI 100) ↔ kd i = 100 := iI_eq ⟨by omega, by omega⟩ ⟨by omega, by omega⟩
      have e2 : (iI (kd i) = iI 110) ↔ kd i = 110 := iI_eq ⟨by omega, by omega⟩ ⟨by omega, by omega⟩
      have e3 : (iI (wy i) = iI 60) ↔ wy i = 60 := iI_eq ⟨by omega, by omega⟩ ⟨by omega, by omega⟩
      have f1 : (lI (lm i) ≤ lI vd) ↔ lm i ≤ vd := lI_le g6b bd1
      have f2 : (lI (lm i) ≤ lI vn) ↔ lm i ≤ vn := lI_le g6b bn1
      have f3 : (lI (lm i) ≤ lI vm) ↔ lm i ≤ vm := lI_le g6b bm1
      have f4 : (lI vd ≤ lI (lm i)) ↔ vd ≤ lm i := lI_le bd1 g6b
      have f5 : (lI vn ≤ lI (lm i)) ↔ vn ≤ lm i := lI_le bn1 g6b
      have f6 : (lI vm ≤ lI (lm i)) ↔ vm ≤ lm i := lI_le bm1 g6b
      refine rn_iload C d_R_firstRejecting_3 rfl ?_
      refine rn_aload_n C d_R_firstRejecting_5 rfl ?_
      refine rn_get C f_R_29 d_R_firstRejecting_6 (by assumption) (by rfl) ?_
      refine rn_icmp_ge C 117 d_R_firstRejecting_9 (by decide) (fun q_9 => absurd q_9 (fun q => absurd ((iI_le ⟨by omega, by omega⟩ ⟨by omega, by omega⟩).mp q) (by omega))) (fun _ => ?_)
      refine rn_aload_n C d_R_firstRejecting_12 rfl ?_
      refine rn_get C f_R_15 d_R_firstRejecting_13 (by assumption) (by rfl) ?_
      refine rn_iload C d_R_firstRejecting_16 rfl ?_
      refine rn_caload C d_R_firstRejecting_18 (by assumption) (iI_vin i0 (by omega) (by omega)) ?_
      rw [iI_nat i0 (by omega), g1]
      refine rn_bipush C (iI 100) d_R_firstRejecting_19 (by decide) ?_
      refine rn_icmp_ne C 28 d_R_firstRejecting_21 (by decide) (fun c21 => ?_) (fun c21 => ?_)
      · skip
        refine rn_aload_n C d_R_firstRejecting_28 rfl ?_
        refine rn_get C f_R_15 d_R_firstRejecting_29 (by assumption) (by rfl) ?_
        refine rn_iload C d_R_firstRejecting_32 rfl ?_
        refine rn_caload C d_R_firstRejecting_34 (by assumption) (iI_vin i0 (by omega) (by omega)) ?_
        rw [iI_nat i0 (by omega), g1]
        refine rn_bipush C (iI 110) d_R_firstRejecting_35 (by decide) ?_
        refine rn_icmp_ne C 44 d_R_firstRejecting_37 (by decide) (fun c37 => ?_) (fun c37 => ?_)
        · skip
          refine rn_lload C d_R_firstRejecting_44 rfl ?_
          refine rn_lstore C d_R_firstRejecting_46 (by decide) ?_
          refine rn_aload_n C d_R_firstRejecting_48 rfl ?_
          refine rn_get C f_R_18 d_R_firstRejecting_49 (by assumption) (by rfl) ?_
          refine rn_iload C d_R_firstRejecting_52 rfl ?_
          refine rn_caload C d_R_firstRejecting_54 (by assumption) (iI_vin i0 (by omega) (by omega)) ?_
          rw [iI_nat i0 (by omega), g2]
          refine rn_bipush C (iI 60) d_R_firstRejecting_55 (by decide) ?_
          refine rn_icmp_ne C 82 d_R_firstRejecting_57 (by decide) (fun c57 => ?_) (fun c57 => ?_)
          · skip
            refine rn_lload C d_R_firstRejecting_82 rfl ?_
            refine rn_aload_n C d_R_firstRejecting_84 rfl ?_
            refine rn_get C f_R_21 d_R_firstRejecting_85 (by assumption) (by rfl) ?_
            refine rn_iload C d_R_firstRejecting_88 rfl ?_
            refine rn_iaload C d_R_firstRejecting_90 (by assumption) (iI_vin i0 (by omega) (by omega)) ?_
            rw [iI_nat i0 (by omega), g3]
            refine rn_i2l C d_R_firstRejecting_91 ?_
            rw [iI_toL g6]
            refine rn_lc_le C 100 d_R_firstRejecting_92 d_R_firstRejecting_93 (by decide) (fun c92 => ?_) (fun c92 => ?_)
            · skip
              refine rn_iconst C (iI 0) d_R_firstRejecting_100 (by decide) ?_
              refine rn_istore C d_R_firstRejecting_101 (by decide) ?_
              refine rn_iload C d_R_firstRejecting_103 rfl ?_
              refine rn_if_eq C 111 d_R_firstRejecting_105 (by decide) (fun _ => ?_) (fun q => absurd rfl q)
              refine rn_iinc C _ d_R_firstRejecting_111 rfl (iI_inc _) (by decide) ?_
              refine rn_goto C 3 d_R_firstRejecting_114 (by decide) ?_
              first | exact absurd c105 (by decide) | ((try simp only [e1] at c21); (try simp only [e2] at c37); (try simp only [e3] at c57); (try simp only [f1, f2, f3] at c70); (try simp only [f4, f5, f6] at c92); refine rn_weak (lv' := [some (.ref q), some (.long (lI vd)), none, some (.long (lI vn)), none, some (.long (lI vm)), none, some (.int (iI (i + 1)))]) ⟨rfl, rfl, rfl, rfl, rfl, trivial⟩ ?_; exact ih (i + 1) (by omega) (by omega) (fun q h1 h2 => if hq : q = i then (by subst hq; unfold rjT mvI; split <;> (try split) <;> omega) else hd q h1 (by omega)))
            · skip
              refine rn_iconst C (iI 1) d_R_firstRejecting_96 (by decide) ?_
              refine rn_goto C 101 d_R_firstRejecting_97 (by decide) ?_
              refine rn_istore C d_R_firstRejecting_101 (by decide) ?_
              refine rn_iload C d_R_firstRejecting_103 rfl ?_
              refine rn_if_eq C 111 d_R_firstRejecting_105 (by decide) (fun q => absurd q (by decide)) (fun _ => ?_)
              refine rn_iload C d_R_firstRejecting_108 rfl ?_
              refine rn_ireturn C rfl rfl d_R_firstRejecting_110 ⟨by decide, by decide⟩ ?_
              first | exact absurd rfl c105 | ((try simp only [e1] at c21); (try simp only [e2] at c37); (try simp only [e3] at c57); (try simp only [f1, f2, f3] at c70); (try simp only [f4, f5, f6] at c92); exact hK _ (Or.inl ⟨i0, by omega, by (unfold rjT mvI; split <;> (try split) <;> omega), hd⟩))
          · skip
            refine rn_lload C d_R_firstRejecting_60 rfl ?_
            refine rn_aload_n C d_R_firstRejecting_62 rfl ?_
            refine rn_get C f_R_21 d_R_firstRejecting_63 (by assumption) (by rfl) ?_
            refine rn_iload C d_R_firstRejecting_66 rfl ?_
            refine rn_iaload C d_R_firstRejecting_68 (by assumption) (iI_vin i0 (by omega) (by omega)) ?_
            rw [iI_nat i0 (by omega), g3]
            refine rn_i2l C d_R_firstRejecting_69 ?_
            rw [iI_toL g6]
            refine rn_lc_ge C 78 d_R_firstRejecting_70 d_R_firstRejecting_71 (by decide) (fun c70 => ?_) (fun c70 => ?_)
            · skip
              refine rn_iconst C (iI 0) d_R_firstRejecting_78 (by decide) ?_
              refine rn_goto C 101 d_R_firstRejecting_79 (by decide) ?_
              refine rn_istore C d_R_firstRejecting_101 (by decide) ?_
              refine rn_iload C d_R_firstRejecting_103 rfl ?_
              refine rn_if_eq C 111 d_R_firstRejecting_105 (by decide) (fun _ => ?_) (fun q => absurd rfl q)
              refine rn_iinc C _ d_R_firstRejecting_111 rfl (iI_inc _) (by decide) ?_
              refine rn_goto C 3 d_R_firstRejecting_114 (by decide) ?_
              first | exact absurd c105 (by decide) | ((try simp only [e1] at c21); (try simp only [e2] at c37); (try simp only [e3] at c57); (try simp only [f1, f2, f3] at c70); (try simp only [f4, f5, f6] at c92); refine rn_weak (lv' := [some (.ref q), some (.long (lI vd)), none, some (.long (lI vn)), none, some (.long (lI vm)), none, some (.int (iI (i + 1)))]) ⟨rfl, rfl, rfl, rfl, rfl, trivial⟩ ?_; exact ih (i + 1) (by omega) (by omega) (fun q h1 h2 => if hq : q = i then (by subst hq; unfold rjT mvI; split <;> (try split) <;> omega) else hd q h1 (by omega)))
            · skip
              refine rn_iconst C (iI 1) d_R_firstRejecting_74 (by decide) ?_
              refine rn_goto C 101 d_R_firstRejecting_75 (by decide) ?_
              refine rn_istore C d_R_firstRejecting_101 (by decide) ?_
              refine rn_iload C d_R_firstRejecting_103 rfl ?_
              refine rn_if_eq C 111 d_R_firstRejecting_105 (by decide) (fun q => absurd q (by decide)) (fun _ => ?_)
              refine rn_iload C d_R_firstRejecting_108 rfl ?_
              refine rn_ireturn C rfl rfl d_R_firstRejecting_110 ⟨by decide, by decide⟩ ?_
              first | exact absurd rfl c105 | ((try simp only [e1] at c21); (try simp only [e2] at c37); (try simp only [e3] at c57); (try simp only [f1, f2, f3] at c70); (try simp only [f4, f5, f6] at c92); exact hK _ (Or.inl ⟨i0, by omega, by (unfold rjT mvI; split <;> (try split) <;> omega), hd⟩))
        · skip
          refine rn_lload_n C d_R_firstRejecting_40 rfl ?_
          refine rn_goto C 46 d_R_firstRejecting_41 (by decide) ?_
          refine rn_lstore C d_R_firstRejecting_46 (by decide) ?_
          refine rn_aload_n C d_R_firstRejecting_48 rfl ?_
          refine rn_get C f_R_18 d_R_firstRejecting_49 (by assumption) (by rfl) ?_
          refine rn_iload C d_R_firstRejecting_52 rfl ?_
          refine rn_caload C d_R_firstRejecting_54 (by assumption) (iI_vin i0 (by omega) (by omega)) ?_
          rw [iI_nat i0 (by omega), g2]
          refine rn_bipush C (iI 60) d_R_firstRejecting_55 (by decide) ?_
          refine rn_icmp_ne C 82 d_R_firstRejecting_57 (by decide) (fun c57 => ?_) (fun c57 => ?_)
          · skip
            refine rn_lload C d_R_firstRejecting_82 rfl ?_
            refine rn_aload_n C d_R_firstRejecting_84 rfl ?_
            refine rn_get C f_R_21 d_R_firstRejecting_85 (by assumption) (by rfl) ?_
            refine rn_iload C d_R_firstRejecting_88 rfl ?_
            refine rn_iaload C d_R_firstRejecting_90 (by assumption) (iI_vin i0 (by omega) (by omega)) ?_
            rw [iI_nat i0 (by omega), g3]
            refine rn_i2l C d_R_firstRejecting_91 ?_
            rw [iI_toL g6]
            refine rn_lc_le C 100 d_R_firstRejecting_92 d_R_firstRejecting_93 (by decide) (fun c92 => ?_) (fun c92 => ?_)
            · skip
              refine rn_iconst C (iI 0) d_R_firstRejecting_100 (by decide) ?_
              refine rn_istore C d_R_firstRejecting_101 (by decide) ?_
              refine rn_iload C d_R_firstRejecting_103 rfl ?_
              refine rn_if_eq C 111 d_R_firstRejecting_105 (by decide) (fun _ => ?_) (fun q => absurd rfl q)
              refine rn_iinc C _ d_R_firstRejecting_111 rfl (iI_inc _) (by decide) ?_
              refine rn_goto C 3 d_R_firstRejecting_114 (by decide) ?_
              first | exact absurd c105 (by decide) | ((try simp only [e1] at c21); (try simp only [e2] at c37); (try simp only [e3] at c57); (try simp only [f1, f2, f3] at c70); (try simp only [f4, f5, f6] at c92); refine rn_weak (lv' := [some (.ref q), some (.long (lI vd)), none, some (.long (lI vn)), none, some (.long (lI vm)), none, some (.int (iI (i + 1)))]) ⟨rfl, rfl, rfl, rfl, rfl, trivial⟩ ?_; exact ih (i + 1) (by omega) (by omega) (fun q h1 h2 => if hq : q = i then (by subst hq; unfold rjT mvI; split <;> (try split) <;> omega) else hd q h1 (by omega)))
            · skip
              refine rn_iconst C (iI 1) d_R_firstRejecting_96 (by decide) ?_
              refine rn_goto C 101 d_R_firstRejecting_97 (by decide) ?_
              refine rn_istore C d_R_firstRejecting_101 (by decide) ?_
              refine rn_iload C d_R_firstRejecting_103 rfl ?_
              refine rn_if_eq C 111 d_R_firstRejecting_105 (by decide) (fun q => absurd q (by decide)) (fun _ => ?_)
              refine rn_iload C d_R_firstRejecting_108 rfl ?_
              refine rn_ireturn C rfl rfl d_R_firstRejecting_110 ⟨by decide, by decide⟩ ?_
              first | exact absurd rfl c105 | ((try simp only [e1] at c21); (try simp only [e2] at c37); (try simp only [e3] at c57); (try simp only [f1, f2, f3] at c70); (try simp only [f4, f5, f6] at c92); exact hK _ (Or.inl ⟨i0, by omega, by (unfold rjT mvI; split <;> (try split) <;> omega), hd⟩))
          · skip
            refine rn_lload C d_R_firstRejecting_60 rfl ?_
            refine rn_aload_n C d_R_firstRejecting_62 rfl ?_
            refine rn_get C f_R_21 d_R_firstRejecting_63 (by assumption) (by rfl) ?_
            refine rn_iload C d_R_firstRejecting_66 rfl ?_
            refine rn_iaload C d_R_firstRejecting_68 (by assumption) (iI_vin i0 (by omega) (by omega)) ?_
            rw [iI_nat i0 (by omega), g3]
            refine rn_i2l C d_R_firstRejecting_69 ?_
            rw [iI_toL g6]
            refine rn_lc_ge C 78 d_R_firstRejecting_70 d_R_firstRejecting_71 (by decide) (fun c70 => ?_) (fun c70 => ?_)
            · skip
              refine rn_iconst C (iI 0) d_R_firstRejecting_78 (by decide) ?_
              refine rn_goto C 101 d_R_firstRejecting_79 (by decide) ?_
              refine rn_istore C d_R_firstRejecting_101 (by decide) ?_
              refine rn_iload C d_R_firstRejecting_103 rfl ?_
              refine rn_if_eq C 111 d_R_firstRejecting_105 (by decide) (fun _ => ?_) (fun q => absurd rfl q)
              refine rn_iinc C _ d_R_firstRejecting_111 rfl (iI_inc _) (by decide) ?_
              refine rn_goto C 3 d_R_firstRejecting_114 (by decide) ?_
              first | exact absurd c105 (by decide) | ((try simp only [e1] at c21); (try simp only [e2] at c37); (try simp only [e3] at c57); (try simp only [f1, f2, f3] at c70); (try simp only [f4, f5, f6] at c92); refine rn_weak (lv' := [some (.ref q), some (.long (lI vd)), none, some (.long (lI vn)), none, some (.long (lI vm)), none, some (.int (iI (i + 1)))]) ⟨rfl, rfl, rfl, rfl, rfl, trivial⟩ ?_; exact ih (i + 1) (by omega) (by omega) (fun q h1 h2 => if hq : q = i then (by subst hq; unfold rjT mvI; split <;> (try split) <;> omega) else hd q h1 (by omega)))
            · skip
              refine rn_iconst C (iI 1) d_R_firstRejecting_74 (by decide) ?_
              refine rn_goto C 101 d_R_firstRejecting_75 (by decide) ?_
              refine rn_istore C d_R_firstRejecting_101 (by decide) ?_
              refine rn_iload C d_R_firstRejecting_103 rfl ?_
              refine rn_if_eq C 111 d_R_firstRejecting_105 (by decide) (fun q => absurd q (by decide)) (fun _ => ?_)
              refine rn_iload C d_R_firstRejecting_108 rfl ?_
              refine rn_ireturn C rfl rfl d_R_firstRejecting_110 ⟨by decide, by decide⟩ ?_
              first | exact absurd rfl c105 | ((try simp only [e1] at c21); (try simp only [e2] at c37); (try simp only [e3] at c57); (try simp only [f1, f2, f3] at c70); (try simp only [f4, f5, f6] at c92); exact hK _ (Or.inl ⟨i0, by omega, by (unfold rjT mvI; split <;> (try split) <;> omega), hd⟩))
      · skip
        refine rn_lload_n C d_R_firstRejecting_24 rfl ?_
        refine rn_goto C 46 d_R_firstRejecting_25 (by decide) ?_
        refine rn_lstore C d_R_firstRejecting_46 (by decide) ?_
        refine rn_aload_n C d_R_firstRejecting_48 rfl ?_
        refine rn_get C f_R_18 d_R_firstRejecting_49 (by assumption) (by rfl) ?_
        refine rn_iload C d_R_firstRejecting_52 rfl ?_
        refine rn_caload C d_R_firstRejecting_54 (by assumption) (iI_vin i0 (by omega) (by omega)) ?_
        rw [iI_nat i0 (by omega), g2]
        refine rn_bipush C (iI 60) d_R_firstRejecting_55 (by decide) ?_
        refine rn_icmp_ne C 82 d_R_firstRejecting_57 (by decide) (fun c57 => ?_) (fun c57 => ?_)
        · skip
          refine rn_lload C d_R_firstRejecting_82 rfl ?_
          refine rn_aload_n C d_R_firstRejecting_84 rfl ?_
          refine rn_get C f_R_21 d_R_firstRejecting_85 (by assumption) (by rfl) ?_
          refine rn_iload C d_R_firstRejecting_88 rfl ?_
          refine rn_iaload C d_R_firstRejecting_90 (by assumption) (iI_vin i0 (by omega) (by omega)) ?_
          rw [iI_nat i0 (by omega), g3]
          refine rn_i2l C d_R_firstRejecting_91 ?_
          rw [iI_toL g6]
          refine rn_lc_le C 100 d_R_firstRejecting_92 d_R_firstRejecting_93 (by decide) (fun c92 => ?_) (fun c92 => ?_)
          · skip
            refine rn_iconst C (iI 0) d_R_firstRejecting_100 (by decide) ?_
            refine rn_istore C d_R_firstRejecting_101 (by decide) ?_
            refine rn_iload C d_R_firstRejecting_103 rfl ?_
            refine rn_if_eq C 111 d_R_firstRejecting_105 (by decide) (fun _ => ?_) (fun q => absurd rfl q)
            refine rn_iinc C _ d_R_firstRejecting_111 rfl (iI_inc _) (by decide) ?_
            refine rn_goto C 3 d_R_firstRejecting_114 (by decide) ?_
            first | exact absurd c105 (by decide) | ((try simp only [e1] at c21); (try simp only [e2] at c37); (try simp only [e3] at c57); (try simp only [f1, f2, f3] at c70); (try simp only [f4, f5, f6] at c92); refine rn_weak (lv' := [some (.ref q), some (.long (lI vd)), none, some (.long (lI vn)), none, some (.long (lI vm)), none, some (.int (iI (i + 1)))]) ⟨rfl, rfl, rfl, rfl, rfl, trivial⟩ ?_; exact ih (i + 1) (by omega) (by omega) (fun q h1 h2 => if hq : q = i then (by subst hq; unfold rjT mvI; split <;> (try split) <;> omega) else hd q h1 (by omega)))
          · skip
            refine rn_iconst C (iI 1) d_R_firstRejecting_96 (by decide) ?_
            refine rn_goto C 101 d_R_firstRejecting_97 (by decide) ?_
            refine rn_istore C d_R_firstRejecting_101 (by decide) ?_
            refine rn_iload C d_R_firstRejecting_103 rfl ?_
            refine rn_if_eq C 111 d_R_firstRejecting_105 (by decide) (fun q => absurd q (by decide)) (fun _ => ?_)
            refine rn_iload C d_R_firstRejecting_108 rfl ?_
            refine rn_ireturn C rfl rfl d_R_firstRejecting_110 ⟨by decide, by decide⟩ ?_
            first | exact absurd rfl c105 | ((try simp only [e1] at c21); (try simp only [e2] at c37); (try simp only [e3] at c57); (try simp only [f1, f2, f3] at c70); (try simp only [f4, f5, f6] at c92); exact hK _ (Or.inl ⟨i0, by omega, by (unfold rjT mvI; split <;> (try split) <;> omega), hd⟩))
        · skip
          refine rn_lload C d_R_firstRejecting_60 rfl ?_
          refine rn_aload_n C d_R_firstRejecting_62 rfl ?_
          refine rn_get C f_R_21 d_R_firstRejecting_63 (by assumption) (by rfl) ?_
          refine rn_iload C d_R_firstRejecting_66 rfl ?_
          refine rn_iaload C d_R_firstRejecting_68 (by assumption) (iI_vin i0 (by omega) (by omega)) ?_
          rw [iI_nat i0 (by omega), g3]
          refine rn_i2l C d_R_firstRejecting_69 ?_
          rw [iI_toL g6]
          refine rn_lc_ge C 78 d_R_firstRejecting_70 d_R_firstRejecting_71 (by decide) (fun c70 => ?_) (fun c70 => ?_)
          · skip
            refine rn_iconst C (iI 0) d_R_firstRejecting_78 (by decide) ?_
            refine rn_goto C 101 d_R_firstRejecting_79 (by decide) ?_
            refine rn_istore C d_R_firstRejecting_101 (by decide) ?_
            refine rn_iload C d_R_firstRejecting_103 rfl ?_
            refine rn_if_eq C 111 d_R_firstRejecting_105 (by decide) (fun _ => ?_) (fun q => absurd rfl q)
            refine rn_iinc C _ d_R_firstRejecting_111 rfl (iI_inc _) (by decide) ?_
            refine rn_goto C 3 d_R_firstRejecting_114 (by decide) ?_
            first | exact absurd c105 (by decide) | ((try simp only [e1] at c21); (try simp only [e2] at c37); (try simp only [e3] at c57); (try simp only [f1, f2, f3] at c70); (try simp only [f4, f5, f6] at c92); refine rn_weak (lv' := [some (.ref q), some (.long (lI vd)), none, some (.long (lI vn)), none, some (.long (lI vm)), none, some (.int (iI (i + 1)))]) ⟨rfl, rfl, rfl, rfl, rfl, trivial⟩ ?_; exact ih (i + 1) (by omega) (by omega) (fun q h1 h2 => if hq : q = i then (by subst hq; unfold rjT mvI; split <;> (try split) <;> omega) else hd q h1 (by omega)))
          · skip
            refine rn_iconst C (iI 1) d_R_firstRejecting_74 (by decide) ?_
            refine rn_goto C 101 d_R_firstRejecting_75 (by decide) ?_
            refine rn_istore C d_R_firstRejecting_101 (by decide) ?_
            refine rn_iload C d_R_firstRejecting_103 rfl ?_
            refine rn_if_eq C 111 d_R_firstRejecting_105 (by decide) (fun q => absurd q (by decide)) (fun _ => ?_)
            refine rn_iload C d_R_firstRejecting_108 rfl ?_
            refine rn_ireturn C rfl rfl d_R_firstRejecting_110 ⟨by decide, by decide⟩ ?_
            first | exact absurd rfl c105 | ((try simp only [e1] at c21); (try simp only [e2] at c37); (try simp only [e3] at c57); (try simp only [f1, f2, f3] at c70); (try simp only [f4, f5, f6] at c92); exact hK _ (Or.inl ⟨i0, by omega, by (unfold rjT mvI; split <;> (try split) <;> omega), hd⟩))
  refine rn_iconst C (iI 0) d_R_firstRejecting_0 (by decide) ?_
  refine rn_istore C d_R_firstRejecting_1 (by decide) ?_
  exact loop rk.toNat 0 (by omega) (by omega) (fun j h1 h2 => by omega)

theorem mx_in {f : Int → Int} {M : Int} : ∀ (k : Nat) (i a : Int), 0 ≤ a → a ≤ M → (∀ j, i ≤ j → j < i + k → f j ≤ M) → 0 ≤ mx f i k a ∧ mx f i k a ≤ M
  | 0, _, _, h0, h1, _ => ⟨h0, h1⟩
  | k + 1, i, a, h0, h1, h => by
    have hi := h i (by omega) (by omega)
    exact mx_in k (i + 1) (max a (f i)) (by omega) (by omega) (fun j h2 h3 => h j (by omega) (by omega))
def G_C_reject (av : List Value) (h : ah_H) (K : ah_R → ah_H → Prop) : Prop := ∃ (e14 e16 : ah_E) (rest : ah_H) (np nl : Nat) (w g le to ri bo c r t : Int) (pf lf : Nat → Int32) (pic : Int → Int → Int → Int) (lig : Int → Int → Int) (a1 a2 a3 a4 : Int32) (nt : Int) (to_ tp : Nat → Int32) (has : Int → Bool) (tg : Int → Int → Int) (fa fb fd : Nat → Int64) (A B D : Int → Int) (fo fi rk sg : Int) (kf wf ll : Nat → Int32) (kd wy lm : Int → Int), av = [.ref 0] ∧ h = cC :: cI (iI w) (iI g) :: aI np pf :: aI nl lf :: cF (iI fo) (iI le) (iI to) (iI ri) (iI bo) :: cY (iI c) (iI r) (iI t) :: cP a1 a2 a3 a4 :: cT (iI nt) :: aZ 16 to_ :: aI 48 tp :: cN (iI fi) :: aL 3 fa :: aL 3 fb :: aL 3 fd :: e14 :: cR (iI rk) (iI sg) :: e16 :: aC 8 kf :: aC 8 wf :: aI 8 ll :: rest ∧ (fo = 0 ∨ fo = 1) ∧ (fi = 0 ∨ fi = 1) ∧ (picOk w g np nl pf lf pic lig) ∧ (lyOk c r t) ∧ (fo = 1 → frOk le to ri bo w g) ∧ (zOk 16 to_ has ∧ tOk tp has tg ∧ tgB tg has ∧ (0 ≤ nt → has nt = true) ∧ -1 ≤ nt ∧ nt < 16) ∧ (lnOk fi fa fb fd A B D) ∧ (ruOk rk kf wf ll kd wy lm) ∧ (0 ≤ rk ∧ rk ≤ 8) ∧ ((fo = 0 ∨ fi = 0) → K (.inr h.length) (h ++ [xS])) ∧ (fo = 1 → fi = 1 → ∀ (a : Int) (a1 a2 a3 a4 : Int32), rjA kd wy lm (mx (fun p => if has p then difI (rdI (ltI pic lig) le to ri bo c r t) tg A B D p else 0) 0 (c * r).toNat 0) (mx (nsI (ltI pic lig) le to ri bo c r t) 0 (c * r).toNat 0) (c * r - sm (fun p => bI (has p)) 0 (c * r).toNat) rk a → K (.inl (some (.int (iI a)))) (cC :: cI (iI w) (iI g) :: aI np pf :: aI nl lf :: cF (iI fo) (iI le) (iI to) (iI ri) (iI bo) :: cY (iI c) (iI r) (iI t) :: cP a1 a2 a3 a4 :: cT (iI nt) :: aZ 16 to_ :: aI 48 tp :: cN (iI fi) :: aL 3 fa :: aL 3 fb :: aL 3 fd :: e14 :: cR (iI rk) (iI sg) :: e16 :: aC 8 kf :: aC 8 wf :: aI 8 ll :: rest))
set_option maxHeartbeats 4000000 in
set_option maxRecDepth 100000 in
theorem c_C_reject (l : Launch) (hl : l.flags = flags0) : rn_Met l y_C_reject wc_C_reject rmC G_C_reject := by
  refine rn_in mw_C_reject.1 (by decide +kernel) ?_ ?_
  · intro _ av h K hG
    obtain ⟨e14, e16, rest, np, nl, w, g, le, to, ri, bo, c_, r, t, pf, lf, pic, lig, a1, a2, a3, a4, nt, to_, tp, has, tg, fa, fb, fd, A, B, D_, fo, fi, rk, sg, kf, wf, ll, kd, wy, lm, rfl, rfl, hc0, hc1, hc2, hc3, hc4, hc5, hc6, hc7, hc8, k1, k2⟩ := hG
    exact Nat.le_of_ble_eq_true rfl
  intro p e s m args below meth c z sa D dA av h K hadm C hG
  have htr := Launch.traces_off hl hadm
  obtain ⟨e14, e16, rest, np, nl, w, g, le, to, ri, bo, c_, r, t, pf, lf, pic, lig, a1, a2, a3, a4, nt, to_, tp, has, tg, fa, fb, fd, A, B, D_, fo, fi, rk, sg, kf, wf, ll, kd, wy, lm, rfl, rfl, hc0, hc1, hc2, hc3, hc4, hc5, hc6, hc7, hc8, k1, k2⟩ := hG
  have hyb := hc3
  unfold lyOk at hyb
  have mq := mbd (A := 4) (B := 4) (a := c_) (b := r) (by omega) (by omega)
  have mp : 0 < c_ * r := Int.mul_pos (by omega) (by omega)
  have me : iI c_ * iI r = iI (c_ * r) := iI_mul _ _
  have hN : ((c_ * r).toNat : Int) = c_ * r := by omega
  have hsn := sm_has_le has (c_ * r).toNat 0
  refine rn_aload_n C d_C_reject_0 rfl ?_
  refine rn_get C f_C_21 d_C_reject_1 rfl rfl ?_
  refine rn_get C f_C_112 d_C_reject_4 rfl rfl ?_
  refine rn_if_eq C 20 d_C_reject_7 (by decide) (fun c7 => ?_) (fun c7 => ?_)
  · skip
    refine rn_throw C htr tw_3 (tx := "no frame is found, or nothing was fitted") (by decide +kernel) d_C_reject_20 d_C_reject_23 d_C_reject_24 d_C_reject_26 d_C_reject_29 (by decide) (Nat.le_of_ble_eq_true rfl) ⟨by decide, by decide⟩ ⟨by decide, by decide⟩ ?_
    first | exact k1 (Or.inl (flag0 hc0 c7)) | exact k1 (Or.inr (flag0 hc1 c17))
  · skip
    refine rn_aload_n C d_C_reject_10 rfl ?_
    refine rn_get C f_C_49 d_C_reject_11 rfl rfl ?_
    refine rn_get C f_C_208 d_C_reject_14 rfl rfl ?_
    refine rn_if_ne C 30 d_C_reject_17 (by decide) (fun c17 => ?_) (fun c17 => ?_)
    · skip
      have z1 := flag1 hc0 c7
      have z2 := flag1 hc1 c17
      have kk := k2 z1 z2
      subst z2
      have hf := hc4 z1
      have lb : ltB (ltI pic lig) := fun x y j => ltI_in hc2.2.2.2.2.1 hc2.2.2.2.2.2 x y j
      have m1 := mx_in (f := (fun p => if has p then difI (rdI (ltI pic lig) le to ri bo c_ r t) tg A B D_ p else 0)) (M := 780300) (c_ * r).toNat 0 0 (by omega) (by omega) (fun j h1 h2 => by
    cases hj : has j with
    | false => simp
    | true => rw [if_pos rfl]; exact (difI_in (fun k h3 h4 => hc5.2.2.1 j k h1 (by omega) h3 h4 hj)).2)
      have m2 := mx_in (f := (nsI (ltI pic lig) le to ri bo c_ r t)) (M := 65025) (c_ * r).toNat 0 0 (by omega) (by omega) (fun j h1 h2 => (nsI_in lb hf hc3 h1 (by omega)).2)
      refine rn_aload_n C d_C_reject_30 rfl ?_
      refine rn_get C f_C_28 d_C_reject_31 rfl rfl ?_
      refine rn_cV C (c_Y_patches l) mw_Y_patches k_C_198 d_C_reject_34 rfl rfl rfl (Nat.le_of_ble_eq_true rfl) (Nat.le_of_ble_eq_true rfl) ⟨by decide, by decide⟩ ⟨by decide, by decide⟩ ?_
      refine ⟨5, _, _, _, rfl, rfl, ?_⟩
      rw [me]
      refine rn_aload_n C d_C_reject_37 rfl ?_
      refine rn_get C f_C_42 d_C_reject_38 rfl rfl ?_
      refine rn_aload_n C d_C_reject_41 rfl ?_
      refine rn_get C f_C_28 d_C_reject_42 rfl rfl ?_
      refine rn_cV C (c_Y_patches l) mw_Y_patches k_C_198 d_C_reject_45 rfl rfl rfl (Nat.le_of_ble_eq_true rfl) (Nat.le_of_ble_eq_true rfl) ⟨by decide, by decide⟩ ⟨by decide, by decide⟩ ?_
      refine ⟨5, _, _, _, rfl, rfl, ?_⟩
      rw [me]
      refine rn_cV C (c_T_countBelow l) mw_T_countBelow k_C_202 d_C_reject_48 rfl rfl rfl (Nat.le_of_ble_eq_true rfl) (Nat.le_of_ble_eq_true rfl) ⟨by decide, by decide⟩ ⟨by decide, by decide⟩ ?_
      refine ⟨7, 8, _, _, to_, has, (c_ * r).toNat, by rw [hN]; rfl, rfl, rfl, hc5.1, by omega, ?_⟩
      refine rn_isub C d_C_reject_51 ?_
      rw [iI_sub]
      refine rn_istore_n C d_C_reject_52 (by decide) ?_
      refine rn_aload_n C d_C_reject_53 rfl ?_
      refine rn_get C f_C_63 d_C_reject_54 rfl rfl ?_
      refine rn_aload_n C d_C_reject_57 rfl ?_
      refine rn_cV C (c_C_greatestDifference l) mw_C_greatestDifference k_C_249 d_C_reject_58 rfl rfl rfl (Nat.le_of_ble_eq_true rfl) (Nat.le_of_ble_eq_true rfl) ⟨by decide, by decide⟩ ⟨by decide, by decide⟩ ?_
      refine ⟨_, _, _, _, _, _, _, _, _, _, _, _, _, _, _, _, _, _, _, _, _, _, _, _, _, _, _, _, _, _, _, _, rfl, rfl, hc2, hf, hc3, hc5.1, hc5.2.1, hc5.2.2.1, hc5.2.2.2.1, hc5.2.2.2.2.1, hc5.2.2.2.2.2, hc6, fun a1 a2 a3 a4 => ?_⟩
      refine rn_i2l C d_C_reject_61 ?_
      refine rn_aload_n C d_C_reject_62 rfl ?_
      rw [iI_toL ⟨by omega, by omega⟩]
      refine rn_cV C (c_C_greatestNoise l) mw_C_greatestNoise k_C_252 d_C_reject_63 rfl rfl rfl (Nat.le_of_ble_eq_true rfl) (Nat.le_of_ble_eq_true rfl) ⟨by decide, by decide⟩ ⟨by decide, by decide⟩ ?_
      refine ⟨_, _, _, _, _, _, _, _, _, _, _, _, _, _, _, _, _, _, _, _, _, rfl, rfl, hc2, hf, hc3, fun a1 a2 a3 a4 => ?_⟩
      refine rn_iload_n C d_C_reject_66 rfl ?_
      refine rn_i2l C d_C_reject_67 ?_
      rw [iI_toL ⟨by omega, by omega⟩]
      refine rn_cV C (c_R_firstRejecting l) mw_R_firstRejecting k_C_255 d_C_reject_68 rfl rfl rfl (Nat.le_of_ble_eq_true rfl) (Nat.le_of_ble_eq_true rfl) ⟨by decide, by decide⟩ ⟨by decide, by decide⟩ ?_
      refine ⟨15, 17, 18, 19, _, _, _, _, _, _, kf, wf, ll, kd, wy, lm, rfl, rfl, rfl, rfl, rfl, hc7, hc8.1, hc8.2, ⟨by omega, by omega⟩, ⟨by omega, by omega⟩, ⟨by omega, by omega⟩, fun a ha => ?_⟩
      refine rn_ireturn C rfl rfl d_C_reject_71 ⟨by decide, by decide⟩ ?_
      exact kk _ _ _ _ _ ha
    · skip
      refine rn_throw C htr tw_3 (tx := "no frame is found, or nothing was fitted") (by decide +kernel) d_C_reject_20 d_C_reject_23 d_C_reject_24 d_C_reject_26 d_C_reject_29 (by decide) (Nat.le_of_ble_eq_true rfl) ⟨by decide, by decide⟩ ⟨by decide, by decide⟩ ?_
      first | exact k1 (Or.inl (flag0 hc0 c7)) | exact k1 (Or.inr (flag0 hc1 c17))

