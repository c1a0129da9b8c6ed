/-! The law's loop, and its start. Laid by wip/whole/gen_l3.py. -/
set_option maxHeartbeats 4000000 in
set_option maxRecDepth 100000 in
theorem law_loop {p : Program} {l : Launch} {e : Env} {s : State} {m : MethodId} {args : Array Value} {below : List Frame} {meth : Method} {c : Code} {z : Nat} {sa : Nat → Nat} {D : va_G} {dA : Nat → ClassId} {K : ah_R → ah_H → Prop} (C : rn_Ok p l e s m args meth c z sa D dA code "ColourChartsLaw" "law" 8 (some .boolean) []) (hl : l.flags = flags0) (hL : sa 2 ≤ 2562) (hK : ∀ h : ah_H, K (.inl (some (.int 1))) h) : ∀ (j : Nat) (i : Int) (h : ah_H) (k : Int) (n1 n2 : Nat), InvT k h → 2 ≤ i → i ≤ 2562 → (sa 2 : Int) ≤ i + 5 * j → n1 + j ≤ 600000 → n2 + 6 * j ≤ 7000000 → Run p l e room_1 s m args below meth c z sa D dA 601024 7292999 K 8 43 [some (.retAddr 1), some (.ref 0), some (.ref 21), some (.ref 35), some (.int (iI i))] [] h n1 n2 := by
  intro j
  induction j with
  | zero =>
    intro i h k n1 n2 hI i0 i1 hs b1 b2
    refine rn_iload C d_L_law_43 rfl ?_
    refine rn_tload_n C d_L_law_45 rfl ?_
    refine rn_slen C d_L_law_46 ?_
    refine rn_iconst C (iI 5) d_L_law_47 (by decide) ?_
    refine rn_isub C d_L_law_48 ?_
    rw [ofN, iI_sub]
    refine rn_icmp_gt C 1408 d_L_law_49 (by decide) (fun _ => ?_) (fun q => absurd ((iI_lt ⟨by omega, by omega⟩ ⟨by omega, by omega⟩).mpr (by omega)) q)
    refine rn_iconst C 1 d_L_law_1408 (by decide) ?_
    exact rn_ireturn C rfl rfl d_L_law_1409 ⟨by omega, by omega⟩ (hK _)
  | succ j ih =>
    intro i h k n1 n2 hI i0 i1 hs b1 b2
    by_cases hx : i + 5 ≤ sa 2
    · skip
      refine rn_iload C d_L_law_43 rfl ?_
      refine rn_tload_n C d_L_law_45 rfl ?_
      refine rn_slen C d_L_law_46 ?_
      refine rn_iconst C (iI 5) d_L_law_47 (by decide) ?_
      refine rn_isub C d_L_law_48 ?_
      rw [ofN, iI_sub]
      refine rn_icmp_gt C 1408 d_L_law_49 (by decide) (fun q => absurd q (fun w => absurd ((iI_lt ⟨by omega, by omega⟩ ⟨by omega, by omega⟩).mp w) (by omega))) (fun _ => ?_)
      refine rn_tload_n C d_L_law_52 rfl ?_
      refine rn_iload C d_L_law_53 rfl ?_
      refine rn_sld C d_L_law_55 (iI_vin (by omega) (by omega) (by omega)) ?_
      refine rn_bipush C (iI 31) d_L_law_56 (by decide) ?_
      refine rn_iand C d_L_law_58 ?_
      obtain ⟨sw, hsw⟩ : ∃ sw : Int32, Int32.ofNat (sa (3 + (iI i).toNatClampNeg)) &&& iI 31 = sw := ⟨_, rfl⟩
      rw [hsw]
      obtain ⟨s1, e1, h1⟩ : ∃ a : Int, Int32.ofNat (sa (3 + (iI (i + 1)).toNatClampNeg)) = iI a ∧ inI a := ⟨_, (iI_of _).symm, iI_in _⟩
      obtain ⟨s2, e2, h2⟩ : ∃ a : Int, Int32.ofNat (sa (3 + (iI (i + 2)).toNatClampNeg)) = iI a ∧ inI a := ⟨_, (iI_of _).symm, iI_in _⟩
      obtain ⟨s3, e3, h3⟩ : ∃ a : Int, Int32.ofNat (sa (3 + (iI (i + 3)).toNatClampNeg)) = iI a ∧ inI a := ⟨_, (iI_of _).symm, iI_in _⟩
      obtain ⟨s4, e4, h4⟩ : ∃ a : Int, Int32.ofNat (sa (3 + (iI (i + 4)).toNatClampNeg)) = iI a ∧ inI a := ⟨_, (iI_of _).symm, iI_in _⟩
      have back : ∀ (h2 : ah_H) (k2 : Int) (a b : Nat), InvT k2 h2 → a ≤ n1 + 1 → b ≤ n2 + 6 → Run p l e room_1 s m args below meth c z sa D dA 601024 7292999 K 8 1402 [some (.retAddr 1), some (.ref 0), some (.ref 21), some (.ref 35), some (.int (iI i))] [] h2 a b := by
        intro h2 k2 a b hI2 ha hb
        refine rn_iinc C _ d_L_law_1402 rfl (iI_add i 5) (by decide) ?_
        refine rn_goto C 43 d_L_law_1405 (by decide) ?_
        exact ih (i + 5) h2 k2 a b hI2 (by omega) (by omega) (by omega) (by omega) (by omega)
      by_cases t59 : (sw).toInt < 0 ∨ 20 < (sw).toInt
      · refine rn_tableOut C 1402 d_L_law_59 t59 (by decide) ?_
        exact back h k n1 n2 hI (by omega) (by omega)
      · rcases (by omega : (sw).toInt = 0 ∨ (sw).toInt = 1 ∨ (sw).toInt = 2 ∨ (sw).toInt = 3 ∨ (sw).toInt = 4 ∨ (sw).toInt = 5 ∨ (sw).toInt = 6 ∨ (sw).toInt = 7 ∨ (sw).toInt = 8 ∨ (sw).toInt = 9 ∨ (sw).toInt = 10 ∨ (sw).toInt = 11 ∨ (sw).toInt = 12 ∨ (sw).toInt = 13 ∨ (sw).toInt = 14 ∨ (sw).toInt = 15 ∨ (sw).toInt = 16 ∨ (sw).toInt = 17 ∨ (sw).toInt = 18 ∨ (sw).toInt = 19 ∨ (sw).toInt = 20) with s59 | s59 | s59 | s59 | s59 | s59 | s59 | s59 | s59 | s59 | s59 | s59 | s59 | s59 | s59 | s59 | s59 | s59 | s59 | s59 | s59
        · refine rn_tableIn C 156 d_L_law_59 (by omega) (by omega) (by rw [s59]; rfl) (by decide) ?_
          exact lc_pixel C hl hI i0 hx hL (by omega) (by omega) e1 h1 e2 h2 e3 h3 e4 h4 back
        · refine rn_tableIn C 248 d_L_law_59 (by omega) (by omega) (by rw [s59]; rfl) (by decide) ?_
          exact lc_light C hl hI i0 hx hL (by omega) (by omega) e1 h1 e2 h2 e3 h3 back
        · refine rn_tableIn C 328 d_L_law_59 (by omega) (by omega) (by rw [s59]; rfl) (by decide) ?_
          exact lc_lit C hl hI i0 hx hL (by omega) (by omega) e1 h1 e2 h2 e3 h3 back
        · refine rn_tableIn C 408 d_L_law_59 (by omega) (by omega) (by rw [s59]; rfl) (by decide) ?_
          exact lc_find C hl hI i0 hx hL (by omega) (by omega) back
        · refine rn_tableIn C 421 d_L_law_59 (by omega) (by omega) (by rw [s59]; rfl) (by decide) ?_
          exact lc_box C hl hI i0 hx hL (by omega) (by omega) e1 h1 back
        · refine rn_tableIn C 477 d_L_law_59 (by omega) (by omega) (by rw [s59]; rfl) (by decide) ?_
          exact lc_grid C hl hI i0 hx hL (by omega) (by omega) e1 h1 e2 h2 back
        · refine rn_tableIn C 525 d_L_law_59 (by omega) (by omega) (by rw [s59]; rfl) (by decide) ?_
          exact lc_turn C hl hI i0 hx hL (by omega) (by omega) e1 h1 back
        · refine rn_tableIn C 581 d_L_law_59 (by omega) (by omega) (by rw [s59]; rfl) (by decide) ?_
          exact lc_read C hl hI i0 hx hL (by omega) (by omega) e1 h1 e2 h2 back
        · refine rn_tableIn C 649 d_L_law_59 (by omega) (by omega) (by rw [s59]; rfl) (by decide) ?_
          exact lc_noise C hl hI i0 hx hL (by omega) (by omega) e1 h1 e2 h2 back
        · refine rn_tableIn C 716 d_L_law_59 (by omega) (by omega) (by rw [s59]; rfl) (by decide) ?_
          exact lc_target C hl hI i0 hx hL (by omega) (by omega) e1 h1 e2 h2 e3 h3 e4 h4 back
        · refine rn_tableIn C 788 d_L_law_59 (by omega) (by omega) (by rw [s59]; rfl) (by decide) ?_
          exact lc_neutral C hl hI i0 hx hL (by omega) (by omega) e1 h1 back
        · refine rn_tableIn C 844 d_L_law_59 (by omega) (by omega) (by rw [s59]; rfl) (by decide) ?_
          exact lc_fit C hl hI i0 hx hL (by omega) (by omega) back
        · refine rn_tableIn C 888 d_L_law_59 (by omega) (by omega) (by rw [s59]; rfl) (by decide) ?_
          exact lc_line C hl hI i0 hx hL (by omega) (by omega) e1 h1 e2 h2 back
        · refine rn_tableIn C 955 d_L_law_59 (by omega) (by omega) (by rw [s59]; rfl) (by decide) ?_
          exact lc_colour C hl hI i0 hx hL (by omega) (by omega) e1 h1 e2 h2 back
        · refine rn_tableIn C 1023 d_L_law_59 (by omega) (by omega) (by rw [s59]; rfl) (by decide) ?_
          exact lc_difference C hl hI i0 hx hL (by omega) (by omega) e1 h1 back
        · refine rn_tableIn C 1079 d_L_law_59 (by omega) (by omega) (by rw [s59]; rfl) (by decide) ?_
          exact lc_unit C hl hI i0 hx hL (by omega) (by omega) e1 h1 back
        · refine rn_tableIn C 1135 d_L_law_59 (by omega) (by omega) (by rw [s59]; rfl) (by decide) ?_
          exact lc_rule C hl hI i0 hx hL (by omega) (by omega) back
        · refine rn_tableIn C 1179 d_L_law_59 (by omega) (by omega) (by rw [s59]; rfl) (by decide) ?_
          exact lc_reject C hl hI i0 hx hL (by omega) (by omega) back
        · refine rn_tableIn C 1223 d_L_law_59 (by omega) (by omega) (by rw [s59]; rfl) (by decide) ?_
          exact lc_day C hl hI i0 hx hL (by omega) (by omega) e1 h1 e2 h2 back
        · refine rn_tableIn C 1291 d_L_law_59 (by omega) (by omega) (by rw [s59]; rfl) (by decide) ?_
          exact lc_drift C hl hI i0 hx hL (by omega) (by omega) e1 h1 back
        · refine rn_tableIn C 1346 d_L_law_59 (by omega) (by omega) (by rw [s59]; rfl) (by decide) ?_
          exact lc_count C hl hI i0 hx hL (by omega) (by omega) e1 h1 back
    · skip
      refine rn_iload C d_L_law_43 rfl ?_
      refine rn_tload_n C d_L_law_45 rfl ?_
      refine rn_slen C d_L_law_46 ?_
      refine rn_iconst C (iI 5) d_L_law_47 (by decide) ?_
      refine rn_isub C d_L_law_48 ?_
      rw [ofN, iI_sub]
      refine rn_icmp_gt C 1408 d_L_law_49 (by decide) (fun _ => ?_) (fun q => absurd ((iI_lt ⟨by omega, by omega⟩ ⟨by omega, by omega⟩).mpr (by omega)) q)
      refine rn_iconst C 1 d_L_law_1408 (by decide) ?_
      exact rn_ireturn C rfl rfl d_L_law_1409 ⟨by omega, by omega⟩ (hK _)
set_option maxHeartbeats 4000000 in
set_option maxRecDepth 100000 in
theorem inv_init {x y : Int} {pf lf mp ml : Nat → Int32} (h1 : ∀ k, k < ((max 6 (min 30 x)) * (max 6 (min 30 y)) * 3).toNat → pf k = iI 255) (h2 : ∀ k, k < ((max 6 (min 30 x)) * (max 6 (min 30 y))).toNat → lf k = iI 200) (h3 : ∀ k, k < 2700 → mp k = iI 255) (h4 : ∀ k, k < 900 → ml k = iI 200) : InvT 0 (cC :: cI (iI (max 6 (min 30 x))) (iI (max 6 (min 30 y))) :: aI ((max 6 (min 30 x)) * (max 6 (min 30 y)) * 3).toNat pf :: aI ((max 6 (min 30 x)) * (max 6 (min 30 y))).toNat lf :: cF 0 0 0 0 0 :: cY (iI 2) (iI 2) (iI 0) :: cP 0 0 0 0 :: cT (iI (-1)) :: aZ 16 (fun _ => 0) :: aI 48 (fun _ => 0) :: cN 0 :: aL 3 (fun _ => 0) :: aL 3 (fun _ => 0) :: aL 3 (fun _ => 0) :: cS 0 0 0 0 0 :: cR 0 0 :: aC 20 (fun _ => 0) :: aC 8 (fun _ => 0) :: aC 8 (fun _ => 0) :: aI 8 (fun _ => 0) :: cS 0 0 0 0 0 :: cM 0 (iI (max 6 (min 30 x))) (iI (max 6 (min 30 y))) 0 0 0 0 0 (iI 2) (iI 2) 0 (iI (-1)) 0 0 0 0 0 0 0 :: aI 2700 mp :: aI 900 ml :: aZ 16 (fun _ => 0) :: aI 48 (fun _ => 0) :: aL 3 (fun _ => 0) :: aL 3 (fun _ => 0) :: aL 3 (fun _ => 0) :: aI 20 (fun _ => 0) :: aI 8 (fun _ => 0) :: aI 8 (fun _ => 0) :: aI 8 (fun _ => 0) :: aI 40 (fun _ => 0) :: aI 40 (fun _ => 0) :: aL 1 (fun _ => 0) :: []) := by
  have hw : 6 ≤ (max 6 (min 30 x)) ∧ (max 6 (min 30 x)) ≤ 30 ∧ 6 ≤ (max 6 (min 30 y)) ∧ (max 6 (min 30 y)) ≤ 30 := by omega
  refine ⟨(max 6 (min 30 x)), (max 6 (min 30 y)), ((max 6 (min 30 x)) * (max 6 (min 30 y)) * 3).toNat, ((max 6 (min 30 x)) * (max 6 (min 30 y))).toNat, pf, lf, 0, 0, 0, 0, 0, 2, 2, 0, 0, 0, 0, 0, (-1), (fun _ => 0), (fun _ => 0), 0, (fun _ => 0), (fun _ => 0), (fun _ => 0), 0, 0, 0, 0, 0, 0, 0, (fun _ => 0), (fun _ => 0), (fun _ => 0), (fun _ => 0), 0, 0, 0, 0, 0, 0, 0, 0, 0, 0, 0, 0, mp, ml, (fun _ => 0), (fun _ => 0), (fun _ => 0), (fun _ => 0), (fun _ => 0), (fun _ => 0), (fun _ => 0), (fun _ => 0), (fun _ => 0), (fun _ => 0), (fun _ => 0), (fun _ => 0), [], (fun _ _ _ => 255), (fun _ _ => 200), (fun _ => false), (fun _ _ => 0), (fun _ => 0), (fun _ => 0), (fun _ => 0), (fun _ => 0), (fun _ => 0), (fun _ => 0), (fun _ => 0), (fun _ => 0), (fun _ => 0), rfl, ⟨⟨hw, ⟨rfl, rfl⟩, fun a b c a0 a1 b0 b1 c0 c1 => ?_, fun a b a0 a1 b0 b1 => ?_, fun _ _ _ => ?_, fun _ _ => ?_⟩, fun a b c a0 a1 b0 b1 c0 c1 => ?_, fun a b a0 a1 b0 b1 => ?_, fun _ _ _ => ?_, fun _ _ => ?_⟩, ⟨Or.inl rfl, fun q => absurd q (by decide)⟩, ⟨by decide, by decide, by decide, by decide, by decide, by decide⟩, ⟨⟨fun _ _ _ => rfl, fun _ _ _ _ _ _ q => (by cases q), fun _ _ _ _ _ _ q => (by cases q), fun q => absurd q (by decide), by decide, by decide⟩, fun _ _ _ => rfl, fun _ _ _ _ _ _ q => (by cases q)⟩, ⟨Or.inl rfl, fun q => absurd q (by decide), fun q => absurd q (by decide)⟩, ⟨⟨by decide, by decide⟩, ⟨by decide, by decide⟩, fun _ _ _ => rfl, fun _ _ _ => rfl, fun _ => ⟨show (0 : Int) ≤ 0 by omega, show (0 : Int) < 128 by omega⟩, fun j j0 j1 => absurd j1 (by omega), fun j j0 j1 => absurd j1 (by omega), fun j j0 j1 => absurd j1 (by omega)⟩, ⟨⟨by decide, by decide⟩, ⟨fun j j0 j1 => absurd j1 (by omega), fun _ => ⟨⟨show (0 : Int) ≤ 0 by omega, show (0 : Int) ≤ 100000 by omega⟩, show (0 : Int) ≤ 0 by omega, show (0 : Int) ≤ 1000 by omega⟩⟩, rfl, rfl, rfl, rfl⟩⟩
  · have ci := cell_in hw a0 a1 b0 b1
    exact h1 _ (by omega)
  · have ci := cell_in hw a0 a1 b0 b1
    exact h2 _ (by omega)
  · (try dsimp only); omega
  · (try dsimp only); omega
  · exact h3 _ (by omega)
  · exact h4 _ (by omega)
  · (try dsimp only); omega
  · (try dsimp only); omega
set_option maxHeartbeats 4000000 in
set_option maxRecDepth 100000 in
theorem law_all {p : Program} {l : Launch} {e : Env} {s : State} {m : MethodId} {args : Array Value} {below : List Frame} {meth : Method} {c : Code} {z : Nat} {sa : Nat → Nat} {D : va_G} {dA : Nat → ClassId} {K : ah_R → ah_H → Prop} (C : rn_Ok p l e s m args meth c z sa D dA code "ColourChartsLaw" "law" 8 (some .boolean) []) (hl : l.flags = flags0) (hL : sa 2 ≤ 2562) (hK : ∀ h : ah_H, K (.inl (some (.int 1))) h) : Run p l e room_1 s m args below meth c z sa D dA 601024 7292999 K 8 0 [some (.retAddr 1)] [] [] 0 0 := by
  obtain ⟨x, ex, hx⟩ : ∃ a : Int, cellV sa 0 = iI a ∧ inI a := ⟨_, (iI_of _).symm, iI_in _⟩
  obtain ⟨y, ey, hy⟩ : ∃ a : Int, cellV sa 1 = iI a ∧ inI a := ⟨_, (iI_of _).symm, iI_in _⟩
  refine rn_new C c_L_8 d_L_law_0 (Nat.le_of_ble_eq_true rfl) (Nat.le_of_ble_eq_true rfl) ?_
  refine rn_dup C d_L_law_3 rfl ?_
  refine rn_tload_n C d_L_law_4 rfl ?_
  refine rn_iconst C (iI 0) d_L_law_5 (by decide) ?_
  refine rn_cS C (c_L_cell l) mw_L_cell k_L_84 d_L_law_6 (Nat.le_of_ble_eq_true rfl) (Nat.le_of_ble_eq_true rfl) ⟨by decide, by decide⟩ ⟨Nat.le_of_ble_eq_true rfl, Nat.le_of_ble_eq_true rfl⟩ ⟨0, rfl, by decide, by decide, hL, ?_⟩
  rw [ex]
  refine rn_tload_n C d_L_law_9 rfl ?_
  refine rn_iconst C (iI 1) d_L_law_10 (by decide) ?_
  refine rn_cS C (c_L_cell l) mw_L_cell k_L_84 d_L_law_11 (Nat.le_of_ble_eq_true rfl) (Nat.le_of_ble_eq_true rfl) ⟨by decide, by decide⟩ ⟨Nat.le_of_ble_eq_true rfl, Nat.le_of_ble_eq_true rfl⟩ ⟨1, rfl, by decide, by decide, hL, ?_⟩
  rw [ey]
  refine rn_cI C (c_C_init l) mw_C_init k_L_90 d_L_law_14 rfl (Nat.le_of_ble_eq_true rfl) (Nat.le_of_ble_eq_true rfl) ⟨by decide, by decide⟩ ⟨Nat.le_of_ble_eq_true rfl, Nat.le_of_ble_eq_true rfl⟩ ⟨x, y, rfl, rfl, hx, hy, fun pf lf hp hl_ => ?_⟩
  refine rn_astore_n C d_L_law_17 (by decide) ?_
  refine rn_new C c_L_92 d_L_law_18 (Nat.le_of_ble_eq_true rfl) (Nat.le_of_ble_eq_true rfl) ?_
  refine rn_dup C d_L_law_21 rfl ?_
  refine rn_tload_n C d_L_law_22 rfl ?_
  refine rn_iconst C (iI 0) d_L_law_23 (by decide) ?_
  refine rn_cS C (c_L_cell l) mw_L_cell k_L_84 d_L_law_24 (Nat.le_of_ble_eq_true rfl) (Nat.le_of_ble_eq_true rfl) ⟨by decide, by decide⟩ ⟨Nat.le_of_ble_eq_true rfl, Nat.le_of_ble_eq_true rfl⟩ ⟨0, rfl, by decide, by decide, hL, ?_⟩
  rw [ex]
  refine rn_tload_n C d_L_law_27 rfl ?_
  refine rn_iconst C (iI 1) d_L_law_28 (by decide) ?_
  refine rn_cS C (c_L_cell l) mw_L_cell k_L_84 d_L_law_29 (Nat.le_of_ble_eq_true rfl) (Nat.le_of_ble_eq_true rfl) ⟨by decide, by decide⟩ ⟨Nat.le_of_ble_eq_true rfl, Nat.le_of_ble_eq_true rfl⟩ ⟨1, rfl, by decide, by decide, hL, ?_⟩
  rw [ey]
  refine rn_cI C (c_M_init l) mw_M_init k_L_94 d_L_law_32 rfl (Nat.le_of_ble_eq_true rfl) (Nat.le_of_ble_eq_true rfl) ⟨by decide, by decide⟩ ⟨Nat.le_of_ble_eq_true rfl, Nat.le_of_ble_eq_true rfl⟩ ⟨_, x, y, rfl, rfl, rfl, hx, hy, fun mp ml h3 h4 => ?_⟩
  refine rn_astore_n C d_L_law_35 (by decide) ?_
  refine rn_iconst C 1 d_L_law_36 (by decide) ?_
  refine rn_na_long C (N := 1) (by decide) rfl (Nat.le_of_ble_eq_true rfl) d_L_law_37 (Nat.le_of_ble_eq_true rfl) (Nat.le_of_ble_eq_true rfl) ?_
  refine rn_astore_n C d_L_law_39 (by decide) ?_
  refine rn_iconst C (iI 2) d_L_law_40 (by decide) ?_
  refine rn_istore C d_L_law_41 (by decide) ?_
  refine rn_weak (lv' := [some (.retAddr 1), some (.ref 0), some (.ref 21), some (.ref 35), some (.int (iI 2))]) ⟨rfl, rfl, rfl, rfl, rfl, trivial⟩ ?_
  exact law_loop C hl hL hK 513 2 _ 0 _ _ (inv_init hp hl_ h3 h4) (by omega) (by omega) (by omega) (Nat.le_of_ble_eq_true rfl) (Nat.le_of_ble_eq_true rfl)
