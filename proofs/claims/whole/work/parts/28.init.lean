/-! Constructors. Laid by wip/whole/gen_c13.py. -/
section NEWA
variable {p : Program} {l : Launch} {e : Env} {R : Room} {s : State} {m : MethodId} {args : Array Value} {below : List Frame} {meth : Method} {c : Code} {z : Nat} {sa : Nat → Nat} {D : va_G} {dA : Nat → ClassId} {mc ms : Nat} {K : ah_R → ah_H → Prop}
variable {cc : ByteArray} {own nm : String} {nL : Nat} {ret : Option FieldType} {hh : List (Nat × Nat × Nat × Nat)} {pc : Nat} {lv : List (Option Value)} {st : List Value} {h : ah_H} {n1 n2 : Nat}
theorem rn_na_int (C : rn_Ok p l e s m args meth c z sa D dA cc own nm nL ret hh) {n : Int32} {N : Nat} (hn : ¬ n < 0) (hN : n.toNatClampNeg = N) (hb : N * 4 ≤ 536870912) (d : decode cc pc = .ok (.newarray .int, 2)) (hcells : n1 + 1 ≤ R.cells) (hslots : n2 + N ≤ R.slots) (kk : Run p l e R s m args below meth c z sa D dA mc ms K nL (pc + 2) lv (.ref h.length :: st) (h ++ [.inl (0, N, .inl (fun _ => 0))]) (n1 + 1) (n2 + N)) : Run p l e R s m args below meth c z sa D dA mc ms K nL pc lv (.int n :: st) h n1 n2 :=
  rn_newarray C (at' := .int) (t := 0) (ty := .int) (a0 := (N, .inl (fun _ => 0))) rfl rfl a_int (fun q => q) (fun _ => rfl) hn hN hb d hcells hslots kk
theorem rn_na_long (C : rn_Ok p l e s m args meth c z sa D dA cc own nm nL ret hh) {n : Int32} {N : Nat} (hn : ¬ n < 0) (hN : n.toNatClampNeg = N) (hb : N * 8 ≤ 536870912) (d : decode cc pc = .ok (.newarray .long, 2)) (hcells : n1 + 1 ≤ R.cells) (hslots : n2 + N ≤ R.slots) (kk : Run p l e R s m args below meth c z sa D dA mc ms K nL (pc + 2) lv (.ref h.length :: st) (h ++ [.inl (1, N, .inr (.inl (fun _ => 0)))]) (n1 + 1) (n2 + N)) : Run p l e R s m args below meth c z sa D dA mc ms K nL pc lv (.int n :: st) h n1 n2 :=
  rn_newarray C (at' := .long) (t := 1) (ty := .long) (a0 := (N, .inr (.inl (fun _ => 0)))) rfl rfl a_long (fun q => q) (fun _ => rfl) hn hN hb d hcells hslots kk
theorem rn_na_boolean (C : rn_Ok p l e s m args meth c z sa D dA cc own nm nL ret hh) {n : Int32} {N : Nat} (hn : ¬ n < 0) (hN : n.toNatClampNeg = N) (hb : N * 1 ≤ 536870912) (d : decode cc pc = .ok (.newarray .boolean, 2)) (hcells : n1 + 1 ≤ R.cells) (hslots : n2 + N ≤ R.slots) (kk : Run p l e R s m args below meth c z sa D dA mc ms K nL (pc + 2) lv (.ref h.length :: st) (h ++ [.inl (2, N, .inl (fun _ => 0))]) (n1 + 1) (n2 + N)) : Run p l e R s m args below meth c z sa D dA mc ms K nL pc lv (.int n :: st) h n1 n2 :=
  rn_newarray C (at' := .boolean) (t := 2) (ty := .boolean) (a0 := (N, .inl (fun _ => 0))) rfl rfl a_boolean (fun q => q) (fun _ => rfl) hn hN hb d hcells hslots kk
theorem rn_na_char (C : rn_Ok p l e s m args meth c z sa D dA cc own nm nL ret hh) {n : Int32} {N : Nat} (hn : ¬ n < 0) (hN : n.toNatClampNeg = N) (hb : N * 2 ≤ 536870912) (d : decode cc pc = .ok (.newarray .char, 2)) (hcells : n1 + 1 ≤ R.cells) (hslots : n2 + N ≤ R.slots) (kk : Run p l e R s m args below meth c z sa D dA mc ms K nL (pc + 2) lv (.ref h.length :: st) (h ++ [.inl (3, N, .inl (fun _ => 0))]) (n1 + 1) (n2 + N)) : Run p l e R s m args below meth c z sa D dA mc ms K nL pc lv (.int n :: st) h n1 n2 :=
  rn_newarray C (at' := .char) (t := 3) (ty := .char) (a0 := (N, .inl (fun _ => 0))) rfl rfl a_char (fun q => q) (fun _ => rfl) hn hN hb d hcells hslots kk
end NEWA
def G_F_init (av : List Value) (h : ah_H) (K : ah_R → ah_H → Prop) : Prop := ∃ (q : Nat), av = [.ref q] ∧ K (.inl none) h
set_option maxHeartbeats 4000000 in
set_option maxRecDepth 100000 in
theorem c_F_init (l : Launch) : rn_Met l y_F_init wc_F_init { frames := 2, cells := 0, slots := 0, locals := 20 } G_F_init := by
  refine rn_in mw_F_init.1 (by decide +kernel) ?_ ?_
  · intro _ av h K hG
    obtain ⟨q, rfl, hK⟩ := hG
    exact Nat.le_of_ble_eq_true rfl
  intro p e s m args below meth c z sa D dA av h K hadm C hG
  obtain ⟨q, rfl, hK⟩ := hG
  refine rn_aload_n C d_F_init_0 rfl ?_
  refine rn_obj C o_F_3 o_inst o_code d_F_init_1 (by decide) (by decide) ?_
  refine rn_return C rfl d_F_init_4 ⟨by decide, by decide⟩ ?_
  exact hK

def G_P_init (av : List Value) (h : ah_H) (K : ah_R → ah_H → Prop) : Prop := ∃ (q : Nat), av = [.ref q] ∧ K (.inl none) h
set_option maxHeartbeats 4000000 in
set_option maxRecDepth 100000 in
theorem c_P_init (l : Launch) : rn_Met l y_P_init wc_P_init { frames := 2, cells := 0, slots := 0, locals := 20 } G_P_init := by
  refine rn_in mw_P_init.1 (by decide +kernel) ?_ ?_
  · intro _ av h K hG
    obtain ⟨q, rfl, hK⟩ := hG
    exact Nat.le_of_ble_eq_true rfl
  intro p e s m args below meth c z sa D dA av h K hadm C hG
  obtain ⟨q, rfl, hK⟩ := hG
  refine rn_aload_n C d_P_init_0 rfl ?_
  refine rn_obj C o_P_3 o_inst o_code d_P_init_1 (by decide) (by decide) ?_
  refine rn_return C rfl d_P_init_4 ⟨by decide, by decide⟩ ?_
  exact hK

def G_S_init (av : List Value) (h : ah_H) (K : ah_R → ah_H → Prop) : Prop := ∃ (q : Nat), av = [.ref q] ∧ K (.inl none) h
set_option maxHeartbeats 4000000 in
set_option maxRecDepth 100000 in
theorem c_S_init (l : Launch) : rn_Met l y_S_init wc_S_init { frames := 2, cells := 0, slots := 0, locals := 20 } G_S_init := by
  refine rn_in mw_S_init.1 (by decide +kernel) ?_ ?_
  · intro _ av h K hG
    obtain ⟨q, rfl, hK⟩ := hG
    exact Nat.le_of_ble_eq_true rfl
  intro p e s m args below meth c z sa D dA av h K hadm C hG
  obtain ⟨q, rfl, hK⟩ := hG
  refine rn_aload_n C d_S_init_0 rfl ?_
  refine rn_obj C o_S_1 o_inst o_code d_S_init_1 (by decide) (by decide) ?_
  refine rn_return C rfl d_S_init_4 ⟨by decide, by decide⟩ ?_
  exact hK

def G_Y_init (av : List Value) (h : ah_H) (K : ah_R → ah_H → Prop) : Prop := ∃ (e0 e1 e2 e3 e4 : ah_E), av = [.ref 5] ∧ h = [e0, e1, e2, e3, e4, .inr (3, z_Y)] ∧ K (.inl none) ([e0, e1, e2, e3, e4, cY (iI 2) (iI 2) (iI 0)])
set_option maxHeartbeats 4000000 in
set_option maxRecDepth 100000 in
theorem c_Y_init (l : Launch) : rn_Met l y_Y_init wc_Y_init { frames := 2, cells := 0, slots := 0, locals := 20 } G_Y_init := by
  refine rn_in mw_Y_init.1 (by decide +kernel) ?_ ?_
  · intro _ av h K hG
    obtain ⟨e0, e1, e2, e3, e4, rfl, rfl, hK⟩ := hG
    exact Nat.le_of_ble_eq_true rfl
  intro p e s m args below meth c z sa D dA av h K hadm C hG
  obtain ⟨e0, e1, e2, e3, e4, rfl, rfl, hK⟩ := hG
  refine rn_aload_n C d_Y_init_0 rfl ?_
  refine rn_obj C o_Y_1 o_inst o_code d_Y_init_1 (by decide) (by decide) ?_
  refine rn_aload_n C d_Y_init_4 rfl ?_
  refine rn_iconst C (iI 2) d_Y_init_5 (by decide) ?_
  refine rn_put C f_Y_7 ft_Y fn_Y_0 d_Y_init_6 rfl (Nat.le_of_ble_eq_true rfl) (fun _ _ => ⟨rfl, rfl⟩) ?_
  refine rn_aload_n C d_Y_init_9 rfl ?_
  refine rn_iconst C (iI 2) d_Y_init_10 (by decide) ?_
  refine rn_put C f_Y_13 ft_Y fn_Y_1 d_Y_init_11 rfl (Nat.le_of_ble_eq_true rfl) (fun _ _ => ⟨rfl, rfl⟩) ?_
  refine rn_aload_n C d_Y_init_14 rfl ?_
  refine rn_iconst C (iI 0) d_Y_init_15 (by decide) ?_
  refine rn_put C f_Y_16 ft_Y fn_Y_2 d_Y_init_16 rfl (Nat.le_of_ble_eq_true rfl) (fun _ _ => ⟨rfl, rfl⟩) ?_
  refine rn_return C rfl d_Y_init_19 ⟨by decide, by decide⟩ ?_
  exact hK

def G_T_init (av : List Value) (h : ah_H) (K : ah_R → ah_H → Prop) : Prop := ∃ (e0 e1 e2 e3 e4 e5 e6 : ah_E), av = [.ref 7] ∧ h = [e0, e1, e2, e3, e4, e5, e6, .inr (5, z_T)] ∧ K (.inl none) ([e0, e1, e2, e3, e4, e5, e6, cT (iI (-1)), aZ 16 (fun _ => 0), aI 48 (fun _ => 0)])
set_option maxHeartbeats 4000000 in
set_option maxRecDepth 100000 in
theorem c_T_init (l : Launch) : rn_Met l y_T_init wc_T_init { frames := 2, cells := 2, slots := 64, locals := 20 } G_T_init := by
  refine rn_in mw_T_init.1 (by decide +kernel) ?_ ?_
  · intro _ av h K hG
    obtain ⟨e0, e1, e2, e3, e4, e5, e6, rfl, rfl, hK⟩ := hG
    exact Nat.le_of_ble_eq_true rfl
  intro p e s m args below meth c z sa D dA av h K hadm C hG
  obtain ⟨e0, e1, e2, e3, e4, e5, e6, rfl, rfl, hK⟩ := hG
  refine rn_aload_n C d_T_init_0 rfl ?_
  refine rn_obj C o_T_3 o_inst o_code d_T_init_1 (by decide) (by decide) ?_
  refine rn_aload_n C d_T_init_4 rfl ?_
  refine rn_bipush C (iI 16) d_T_init_5 (by decide) ?_
  refine rn_na_boolean C (N := 16) (by decide) rfl (Nat.le_of_ble_eq_true rfl) d_T_init_7 (Nat.le_of_ble_eq_true rfl) (Nat.le_of_ble_eq_true rfl) ?_
  refine rn_putF C fo_T_9 ft_T fn_T_0 d_T_init_9 rfl (Nat.le_of_ble_eq_true rfl) (fun _ _ => ⟨rfl, rfl⟩) ?_
  refine rn_aload_n C d_T_init_12 rfl ?_
  refine rn_bipush C (iI 48) d_T_init_13 (by decide) ?_
  refine rn_na_int C (N := 48) (by decide) rfl (Nat.le_of_ble_eq_true rfl) d_T_init_15 (Nat.le_of_ble_eq_true rfl) (Nat.le_of_ble_eq_true rfl) ?_
  refine rn_putF C fo_T_15 ft_T fn_T_1 d_T_init_17 rfl (Nat.le_of_ble_eq_true rfl) (fun _ _ => ⟨rfl, rfl⟩) ?_
  refine rn_aload_n C d_T_init_20 rfl ?_
  refine rn_iconst C (iI (-1)) d_T_init_21 (by decide) ?_
  refine rn_put C f_T_19 ft_T fn_T_2 d_T_init_22 rfl (Nat.le_of_ble_eq_true rfl) (fun _ _ => ⟨rfl, rfl⟩) ?_
  refine rn_return C rfl d_T_init_25 ⟨by decide, by decide⟩ ?_
  exact hK

def G_N_init (av : List Value) (h : ah_H) (K : ah_R → ah_H → Prop) : Prop := ∃ (e0 e1 e2 e3 e4 e5 e6 e7 e8 e9 : ah_E), av = [.ref 10] ∧ h = [e0, e1, e2, e3, e4, e5, e6, e7, e8, e9, .inr (6, z_N)] ∧ K (.inl none) ([e0, e1, e2, e3, e4, e5, e6, e7, e8, e9, cN 0, aL 3 (fun _ => 0), aL 3 (fun _ => 0), aL 3 (fun _ => 0)])
set_option maxHeartbeats 4000000 in
set_option maxRecDepth 100000 in
theorem c_N_init (l : Launch) : rn_Met l y_N_init wc_N_init { frames := 2, cells := 3, slots := 9, locals := 20 } G_N_init := by
  refine rn_in mw_N_init.1 (by decide +kernel) ?_ ?_
  · intro _ av h K hG
    obtain ⟨e0, e1, e2, e3, e4, e5, e6, e7, e8, e9, rfl, rfl, hK⟩ := hG
    exact Nat.le_of_ble_eq_true rfl
  intro p e s m args below meth c z sa D dA av h K hadm C hG
  obtain ⟨e0, e1, e2, e3, e4, e5, e6, e7, e8, e9, rfl, rfl, hK⟩ := hG
  refine rn_aload_n C d_N_init_0 rfl ?_
  refine rn_obj C o_N_3 o_inst o_code d_N_init_1 (by decide) (by decide) ?_
  refine rn_aload_n C d_N_init_4 rfl ?_
  refine rn_iconst C (iI 3) d_N_init_5 (by decide) ?_
  refine rn_na_long C (N := 3) (by decide) rfl (Nat.le_of_ble_eq_true rfl) d_N_init_6 (Nat.le_of_ble_eq_true rfl) (Nat.le_of_ble_eq_true rfl) ?_
  refine rn_putF C fo_N_9 ft_N fn_N_1 d_N_init_8 rfl (Nat.le_of_ble_eq_true rfl) (fun _ _ => ⟨rfl, rfl⟩) ?_
  refine rn_aload_n C d_N_init_11 rfl ?_
  refine rn_iconst C (iI 3) d_N_init_12 (by decide) ?_
  refine rn_na_long C (N := 3) (by decide) rfl (Nat.le_of_ble_eq_true rfl) d_N_init_13 (Nat.le_of_ble_eq_true rfl) (Nat.le_of_ble_eq_true rfl) ?_
  refine rn_putF C fo_N_15 ft_N fn_N_2 d_N_init_15 rfl (Nat.le_of_ble_eq_true rfl) (fun _ _ => ⟨rfl, rfl⟩) ?_
  refine rn_aload_n C d_N_init_18 rfl ?_
  refine rn_iconst C (iI 3) d_N_init_19 (by decide) ?_
  refine rn_na_long C (N := 3) (by decide) rfl (Nat.le_of_ble_eq_true rfl) d_N_init_20 (Nat.le_of_ble_eq_true rfl) (Nat.le_of_ble_eq_true rfl) ?_
  refine rn_putF C fo_N_18 ft_N fn_N_3 d_N_init_22 rfl (Nat.le_of_ble_eq_true rfl) (fun _ _ => ⟨rfl, rfl⟩) ?_
  refine rn_return C rfl d_N_init_25 ⟨by decide, by decide⟩ ?_
  exact hK

def G_R_init (av : List Value) (h : ah_H) (K : ah_R → ah_H → Prop) : Prop := ∃ (e0 e1 e2 e3 e4 e5 e6 e7 e8 e9 e10 e11 e12 e13 e14 : ah_E), av = [.ref 15] ∧ h = [e0, e1, e2, e3, e4, e5, e6, e7, e8, e9, e10, e11, e12, e13, e14, .inr (8, z_R)] ∧ K (.inl none) ([e0, e1, e2, e3, e4, e5, e6, e7, e8, e9, e10, e11, e12, e13, e14, cR 0 0, aC 20 (fun _ => 0), aC 8 (fun _ => 0), aC 8 (fun _ => 0), aI 8 (fun _ => 0)])
set_option maxHeartbeats 4000000 in
set_option maxRecDepth 100000 in
theorem c_R_init (l : Launch) : rn_Met l y_R_init wc_R_init { frames := 2, cells := 4, slots := 44, locals := 20 } G_R_init := by
  refine rn_in mw_R_init.1 (by decide +kernel) ?_ ?_
  · intro _ av h K hG
    obtain ⟨e0, e1, e2, e3, e4, e5, e6, e7, e8, e9, e10, e11, e12, e13, e14, rfl, rfl, hK⟩ := hG
    exact Nat.le_of_ble_eq_true rfl
  intro p e s m args below meth c z sa D dA av h K hadm C hG
  obtain ⟨e0, e1, e2, e3, e4, e5, e6, e7, e8, e9, e10, e11, e12, e13, e14, rfl, rfl, hK⟩ := hG
  refine rn_aload_n C d_R_init_0 rfl ?_
  refine rn_obj C o_R_3 o_inst o_code d_R_init_1 (by decide) (by decide) ?_
  refine rn_aload_n C d_R_init_4 rfl ?_
  refine rn_bipush C (iI 20) d_R_init_5 (by decide) ?_
  refine rn_na_char C (N := 20) (by decide) rfl (Nat.le_of_ble_eq_true rfl) d_R_init_7 (Nat.le_of_ble_eq_true rfl) (Nat.le_of_ble_eq_true rfl) ?_
  refine rn_putF C fo_R_11 ft_R fn_R_2 d_R_init_9 rfl (Nat.le_of_ble_eq_true rfl) (fun _ _ => ⟨rfl, rfl⟩) ?_
  refine rn_aload_n C d_R_init_12 rfl ?_
  refine rn_bipush C (iI 8) d_R_init_13 (by decide) ?_
  refine rn_na_char C (N := 8) (by decide) rfl (Nat.le_of_ble_eq_true rfl) d_R_init_15 (Nat.le_of_ble_eq_true rfl) (Nat.le_of_ble_eq_true rfl) ?_
  refine rn_putF C fo_R_15 ft_R fn_R_3 d_R_init_17 rfl (Nat.le_of_ble_eq_true rfl) (fun _ _ => ⟨rfl, rfl⟩) ?_
  refine rn_aload_n C d_R_init_20 rfl ?_
  refine rn_bipush C (iI 8) d_R_init_21 (by decide) ?_
  refine rn_na_char C (N := 8) (by decide) rfl (Nat.le_of_ble_eq_true rfl) d_R_init_23 (Nat.le_of_ble_eq_true rfl) (Nat.le_of_ble_eq_true rfl) ?_
  refine rn_putF C fo_R_18 ft_R fn_R_4 d_R_init_25 rfl (Nat.le_of_ble_eq_true rfl) (fun _ _ => ⟨rfl, rfl⟩) ?_
  refine rn_aload_n C d_R_init_28 rfl ?_
  refine rn_bipush C (iI 8) d_R_init_29 (by decide) ?_
  refine rn_na_int C (N := 8) (by decide) rfl (Nat.le_of_ble_eq_true rfl) d_R_init_31 (Nat.le_of_ble_eq_true rfl) (Nat.le_of_ble_eq_true rfl) ?_
  refine rn_putF C fo_R_21 ft_R fn_R_5 d_R_init_33 rfl (Nat.le_of_ble_eq_true rfl) (fun _ _ => ⟨rfl, rfl⟩) ?_
  refine rn_return C rfl d_R_init_36 ⟨by decide, by decide⟩ ?_
  exact hK

def G_I_init (av : List Value) (h : ah_H) (K : ah_R → ah_H → Prop) : Prop := ∃ (e0 : ah_E) (x y : Int), av = [.ref 1, .int (iI x), .int (iI y)] ∧ h = [e0, .inr (1, z_I)] ∧ inI x ∧ inI y ∧ ∀ (pf lf : Nat → Int32), (∀ k, k < ((max 6 (min 30 x)) * (max 6 (min 30 y)) * 3).toNat → pf k = iI 255) → (∀ k, k < ((max 6 (min 30 x)) * (max 6 (min 30 y))).toNat → lf k = iI 200) → K (.inl none) [e0, cI (iI (max 6 (min 30 x))) (iI (max 6 (min 30 y))), aI ((max 6 (min 30 x)) * (max 6 (min 30 y)) * 3).toNat pf, aI ((max 6 (min 30 x)) * (max 6 (min 30 y))).toNat lf]
set_option maxHeartbeats 4000000 in
set_option maxRecDepth 100000 in
theorem c_I_init (l : Launch) : rn_Met l y_I_init wc_I_init { frames := 3, cells := 2, slots := 3600, locals := 21 } G_I_init := by
  refine rn_in mw_I_init.1 (by decide +kernel) ?_ ?_
  · intro _ av h K hG
    obtain ⟨e0, x, y, rfl, rfl, hx, hy, hK⟩ := hG
    exact Nat.le_of_ble_eq_true rfl
  intro p e s m args below meth c z sa D dA av h K hadm C hG
  obtain ⟨e0, x, y, rfl, rfl, hx, hy, hK⟩ := hG
  have hx1 := hx.1
  have hx2 := hx.2
  have hy1 := hy.1
  have hy2 := hy.2
  obtain ⟨w, hw⟩ : ∃ w, (max 6 (min 30 x)) = w := ⟨_, rfl⟩
  obtain ⟨g, hg⟩ : ∃ g, (max 6 (min 30 y)) = g := ⟨_, rfl⟩
  rw [hw, hg] at hK
  have w6 : 6 ≤ w ∧ w ≤ 30 := by omega
  have g6 : 6 ≤ g ∧ g ≤ 30 := by omega
  have mq := mbd (A := 30) (B := 30) (a := w) (b := g) (by omega) (by omega)
  have m0 : 0 ≤ w * g := Int.mul_nonneg (by omega) (by omega)
  have cw : ∀ v : Int, inI v → jMax (iI 6) (jMin (iI 30) (iI v)) = iI (max 6 (min 30 v)) := fun v hv => by
    have h1 := hv.1
    have h2 := hv.2
    rw [jMin_I ⟨by omega, by omega⟩ hv, jMax_I ⟨by omega, by omega⟩ ⟨by omega, by omega⟩]
  have e1 : ∀ n : Nat, Int32.ofNat n = iI (n : Int) := fun n => iI_lit n
  have loop2 : ∀ (j : Nat) (i : Int) (pf lf : Nat → Int32), i + j = w * g → 0 ≤ i → (∀ k, k < (w * g * 3).toNat → pf k = iI 255) → (∀ k : Nat, (k : Int) < i → lf k = iI 200) → Run p l e { frames := 3, cells := 2, slots := 3600, locals := 21 } s m args below meth c z sa D dA 2 3600 K 4 94 [some (.ref 1), some (.int (iI x)), some (.int (iI y)), some (.int (iI i))] [] [e0, cI (iI w) (iI g), aI (w * g * 3).toNat pf, aI (w * g).toNat lf] (0 + 1 + 1) (0 + (w * g * 3).toNat + (w * g).toNat) := by
    intro j
    induction j with
    | zero =>
      intro i pf lf hi i0 hp hl
      refine rn_iload_n C d_I_init_94 rfl ?_
      refine rn_aload_n C d_I_init_95 rfl ?_
      refine rn_get C f_I_31 d_I_init_96 rfl rfl ?_
      refine rn_alen C (a := (0, .inl lf)) d_I_init_99 rfl rfl ?_
      rw [e1]
      refine rn_icmp_ge C 118 d_I_init_100 (by decide) (fun _ => ?_) (fun q_100 => absurd ((iI_le ⟨by omega, by omega⟩ ⟨by omega, by omega⟩).mpr (by omega)) q_100)
      refine rn_return C rfl d_I_init_118 ⟨by decide, show 0 + (w * g * 3).toNat + (w * g).toNat ≤ 3600 by omega⟩ ?_
      exact hK pf lf hp (fun k hk => hl k (by omega))
    | succ j ih =>
      intro i pf lf hi i0 hp hl
      refine rn_iload_n C d_I_init_94 rfl ?_
      refine rn_aload_n C d_I_init_95 rfl ?_
      refine rn_get C f_I_31 d_I_init_96 rfl rfl ?_
      refine rn_alen C (a := (0, .inl lf)) d_I_init_99 rfl rfl ?_
      rw [e1]
      refine rn_icmp_ge C 118 d_I_init_100 (by decide) (fun q_100 => absurd q_100 (fun q => absurd ((iI_le ⟨by omega, by omega⟩ ⟨by omega, by omega⟩).mp q) (by omega))) (fun _ => ?_)
      refine rn_aload_n C d_I_init_103 rfl ?_
      refine rn_get C f_I_31 d_I_init_104 rfl rfl ?_
      refine rn_iload_n C d_I_init_107 rfl ?_
      refine rn_sipush C (iI 200) d_I_init_108 (by decide) ?_
      refine rn_iastore C d_I_init_111 rfl (iI_vin i0 (by omega) (by omega)) ?_
      refine rn_iinc C _ d_I_init_112 rfl (iI_inc _) (by decide) ?_
      refine rn_goto C 94 d_I_init_115 (by decide) ?_
      rw [iI_nat i0 (by omega)]
      refine ih (i + 1) _ _ (by omega) (by omega) hp (fun k hk => ?_)
      by_cases hq : k = i.toNat
      · simp [upd, hq]
      · simp only [upd, if_neg hq]; exact hl k (by omega)
  have loop1 : ∀ (j : Nat) (i : Int) (pf lf : Nat → Int32), i + j = w * g * 3 → 0 ≤ i → (∀ k : Nat, (k : Int) < i → pf k = iI 255) → Run p l e { frames := 3, cells := 2, slots := 3600, locals := 21 } s m args below meth c z sa D dA 2 3600 K 4 68 [some (.ref 1), some (.int (iI x)), some (.int (iI y)), some (.int (iI i))] [] [e0, cI (iI w) (iI g), aI (w * g * 3).toNat pf, aI (w * g).toNat lf] (0 + 1 + 1) (0 + (w * g * 3).toNat + (w * g).toNat) := by
    intro j
    induction j with
    | zero =>
      intro i pf lf hi i0 hp
      refine rn_iload_n C d_I_init_68 rfl ?_
      refine rn_aload_n C d_I_init_69 rfl ?_
      refine rn_get C f_I_27 d_I_init_70 rfl rfl ?_
      refine rn_alen C (a := (0, .inl pf)) d_I_init_73 rfl rfl ?_
      rw [e1]
      refine rn_icmp_ge C 92 d_I_init_74 (by decide) (fun _ => ?_) (fun q_74 => absurd ((iI_le ⟨by omega, by omega⟩ ⟨by omega, by omega⟩).mpr (by omega)) q_74)
      refine rn_iconst C (iI 0) d_I_init_92 (by decide) ?_
      refine rn_istore_n C d_I_init_93 (by decide) ?_
      exact loop2 (w * g).toNat 0 pf lf (by omega) (by omega) (fun k hk => hp k (by omega)) (fun k hk => by omega)
    | succ j ih =>
      intro i pf lf hi i0 hp
      refine rn_iload_n C d_I_init_68 rfl ?_
      refine rn_aload_n C d_I_init_69 rfl ?_
      refine rn_get C f_I_27 d_I_init_70 rfl rfl ?_
      refine rn_alen C (a := (0, .inl pf)) d_I_init_73 rfl rfl ?_
      rw [e1]
      refine rn_icmp_ge C 92 d_I_init_74 (by decide) (fun q_74 => absurd q_74 (fun q => absurd ((iI_le ⟨by omega, by omega⟩ ⟨by omega, by omega⟩).mp q) (by omega))) (fun _ => ?_)
      refine rn_aload_n C d_I_init_77 rfl ?_
      refine rn_get C f_I_27 d_I_init_78 rfl rfl ?_
      refine rn_iload_n C d_I_init_81 rfl ?_
      refine rn_sipush C (iI 255) d_I_init_82 (by decide) ?_
      refine rn_iastore C d_I_init_85 rfl (iI_vin i0 (by omega) (by omega)) ?_
      refine rn_iinc C _ d_I_init_86 rfl (iI_inc _) (by decide) ?_
      refine rn_goto C 68 d_I_init_89 (by decide) ?_
      rw [iI_nat i0 (by omega)]
      refine ih (i + 1) _ _ (by omega) (by omega) (fun k hk => ?_)
      by_cases hq : k = i.toNat
      · simp [upd, hq]
      · simp only [upd, if_neg hq]; exact hp k (by omega)
  refine rn_aload_n C d_I_init_0 rfl ?_
  refine rn_obj C o_I_3 o_inst o_code d_I_init_1 (by decide) (by decide) ?_
  refine rn_aload_n C d_I_init_4 rfl ?_
  refine rn_bipush C (iI 6) d_I_init_5 (by decide) ?_
  refine rn_bipush C (iI 30) d_I_init_7 (by decide) ?_
  refine rn_iload_n C d_I_init_9 rfl ?_
  refine rn_cS C (c_J_mini l) mw_J_mini k_I_11 d_I_init_10 (Nat.le_of_ble_eq_true rfl) (Nat.le_of_ble_eq_true rfl) ⟨by decide, by decide⟩ ⟨by decide, by decide⟩ ?_
  refine ⟨_, _, rfl, ?_⟩
  refine rn_cS C (c_J_maxi l) mw_J_maxi k_I_17 d_I_init_13 (Nat.le_of_ble_eq_true rfl) (Nat.le_of_ble_eq_true rfl) ⟨by decide, by decide⟩ ⟨by decide, by decide⟩ ?_
  refine ⟨_, _, rfl, ?_⟩
  rw [cw x hx, hw]
  refine rn_putF C fo_I_20 ft_I fn_I_0 d_I_init_16 rfl (Nat.le_of_ble_eq_true rfl) (fun _ _ => ⟨rfl, rfl⟩) ?_
  refine rn_aload_n C d_I_init_19 rfl ?_
  refine rn_bipush C (iI 6) d_I_init_20 (by decide) ?_
  refine rn_bipush C (iI 30) d_I_init_22 (by decide) ?_
  refine rn_iload_n C d_I_init_24 rfl ?_
  refine rn_cS C (c_J_mini l) mw_J_mini k_I_11 d_I_init_25 (Nat.le_of_ble_eq_true rfl) (Nat.le_of_ble_eq_true rfl) ⟨by decide, by decide⟩ ⟨by decide, by decide⟩ ?_
  refine ⟨_, _, rfl, ?_⟩
  refine rn_cS C (c_J_maxi l) mw_J_maxi k_I_17 d_I_init_28 (Nat.le_of_ble_eq_true rfl) (Nat.le_of_ble_eq_true rfl) ⟨by decide, by decide⟩ ⟨by decide, by decide⟩ ?_
  refine ⟨_, _, rfl, ?_⟩
  rw [cw y hy, hg]
  refine rn_putF C fo_I_24 ft_I fn_I_1 d_I_init_31 rfl (Nat.le_of_ble_eq_true rfl) (fun _ _ => ⟨rfl, rfl⟩) ?_
  refine rn_aload_n C d_I_init_34 rfl ?_
  refine rn_aload_n C d_I_init_35 rfl ?_
  refine rn_get C f_I_20 d_I_init_36 rfl rfl ?_
  refine rn_aload_n C d_I_init_39 rfl ?_
  refine rn_get C f_I_24 d_I_init_40 rfl rfl ?_
  refine rn_imul C d_I_init_43 ?_
  refine rn_iconst C (iI 3) d_I_init_44 (by decide) ?_
  refine rn_imul C d_I_init_45 ?_
  rw [iI_mul, iI_mul]
  refine rn_na_int C (N := (w * g * 3).toNat) (fun q => absurd ((iI_lt ⟨by omega, by omega⟩ ⟨by omega, by omega⟩).mp (show iI (w * g * 3) < iI 0 from q)) (by omega)) (iI_nat (by omega) (by omega)) (show (w * g * 3).toNat * 4 ≤ 536870912 by omega) d_I_init_46 (Nat.le_of_ble_eq_true rfl) (show 0 + (w * g * 3).toNat ≤ 3600 by omega) ?_
  refine rn_putF C fo_I_27 ft_I fn_I_2 d_I_init_48 rfl (Nat.le_of_ble_eq_true rfl) (fun _ _ => ⟨rfl, rfl⟩) ?_
  refine rn_aload_n C d_I_init_51 rfl ?_
  refine rn_aload_n C d_I_init_52 rfl ?_
  refine rn_get C f_I_20 d_I_init_53 rfl rfl ?_
  refine rn_aload_n C d_I_init_56 rfl ?_
  refine rn_get C f_I_24 d_I_init_57 rfl rfl ?_
  refine rn_imul C d_I_init_60 ?_
  rw [iI_mul]
  refine rn_na_int C (N := (w * g).toNat) (fun q => absurd ((iI_lt ⟨by omega, by omega⟩ ⟨by omega, by omega⟩).mp (show iI (w * g) < iI 0 from q)) (by omega)) (iI_nat (by omega) (by omega)) (show (w * g).toNat * 4 ≤ 536870912 by omega) d_I_init_61 (Nat.le_of_ble_eq_true rfl) (show 0 + (w * g * 3).toNat + (w * g).toNat ≤ 3600 by omega) ?_
  refine rn_putF C fo_I_31 ft_I fn_I_3 d_I_init_63 rfl (Nat.le_of_ble_eq_true rfl) (fun _ _ => ⟨rfl, rfl⟩) ?_
  refine rn_iconst C (iI 0) d_I_init_66 (by decide) ?_
  refine rn_istore_n C d_I_init_67 (by decide) ?_
  exact loop1 (w * g * 3).toNat 0 (fun _ => 0) (fun _ => 0) (by omega) (by omega) (fun k hk => by omega)

def G_C_init (av : List Value) (h : ah_H) (K : ah_R → ah_H → Prop) : Prop := ∃ (x y : Int), av = [.ref 0, .int (iI x), .int (iI y)] ∧ h = [.inr (0, z_C)] ∧ inI x ∧ inI y ∧ ∀ (pf lf : Nat → Int32), (∀ k, k < ((max 6 (min 30 x)) * (max 6 (min 30 y)) * 3).toNat → pf k = iI 255) → (∀ k, k < ((max 6 (min 30 x)) * (max 6 (min 30 y))).toNat → lf k = iI 200) → K (.inl none) [cC, cI (iI (max 6 (min 30 x))) (iI (max 6 (min 30 y))), aI ((max 6 (min 30 x)) * (max 6 (min 30 y)) * 3).toNat pf, aI ((max 6 (min 30 x)) * (max 6 (min 30 y))).toNat lf, cF 0 0 0 0 0, cY (iI 2) (iI 2) (iI 0), cP 0 0 0 0, cT (iI (-1)), aZ 16 (fun _ => 0), aI 48 (fun _ => 0), cN 0, aL 3 (fun _ => 0), aL 3 (fun _ => 0), aL 3 (fun _ => 0), cS 0 0 0 0 0, cR 0 0, aC 20 (fun _ => 0), aC 8 (fun _ => 0), aC 8 (fun _ => 0), aI 8 (fun _ => 0), cS 0 0 0 0 0]
set_option maxHeartbeats 4000000 in
set_option maxRecDepth 100000 in
theorem c_C_init (l : Launch) : rn_Met l y_C_init wc_C_init { frames := 5, cells := 20, slots := 3756, locals := 120 } G_C_init := by
  refine rn_in mw_C_init.1 (by decide +kernel) ?_ ?_
  · intro _ av h K hG
    obtain ⟨x, y, rfl, rfl, hx, hy, hK⟩ := hG
    exact Nat.le_of_ble_eq_true rfl
  intro p e s m args below meth c z sa D dA av h K hadm C hG
  obtain ⟨x, y, rfl, rfl, hx, hy, hK⟩ := hG
  refine rn_aload_n C d_C_init_0 rfl ?_
  refine rn_obj C o_C_1 o_inst o_code d_C_init_1 (by decide) (by decide) ?_
  refine rn_aload_n C d_C_init_4 rfl ?_
  refine rn_new C c_C_7 d_C_init_5 (Nat.le_of_ble_eq_true rfl) (Nat.le_of_ble_eq_true rfl) ?_
  refine rn_dup C d_C_init_8 rfl ?_
  refine rn_iload_n C d_C_init_9 rfl ?_
  refine rn_iload_n C d_C_init_10 rfl ?_
  refine rn_cI C (c_I_init l) mw_I_init k_C_9 d_C_init_11 rfl (Nat.le_of_ble_eq_true rfl) (Nat.le_of_ble_eq_true rfl) ⟨by decide, by decide⟩ ⟨by decide, by decide⟩ ?_
  refine ⟨_, x, y, rfl, rfl, hx, hy, fun pf lf hp hl => ?_⟩
  refine rn_putF C fo_C_12 ft_C fn_C_0 d_C_init_14 rfl (Nat.le_of_ble_eq_true rfl) (fun _ _ => ⟨rfl, rfl⟩) ?_
  refine rn_aload_n C d_C_init_17 rfl ?_
  refine rn_new C c_C_18 d_C_init_18 (Nat.le_of_ble_eq_true rfl) (Nat.le_of_ble_eq_true rfl) ?_
  refine rn_dup C d_C_init_21 rfl ?_
  refine rn_cI C (c_F_init l) mw_F_init k_C_20 d_C_init_22 rfl (Nat.le_of_ble_eq_true rfl) (Nat.le_of_ble_eq_true rfl) ⟨by decide, by decide⟩ ⟨by decide, by decide⟩ ?_
  refine ⟨_, rfl, ?_⟩
  refine rn_putF C fo_C_21 ft_C fn_C_1 d_C_init_25 rfl (Nat.le_of_ble_eq_true rfl) (fun _ _ => ⟨rfl, rfl⟩) ?_
  refine rn_aload_n C d_C_init_28 rfl ?_
  refine rn_new C c_C_25 d_C_init_29 (Nat.le_of_ble_eq_true rfl) (Nat.le_of_ble_eq_true rfl) ?_
  refine rn_dup C d_C_init_32 rfl ?_
  refine rn_cI C (c_Y_init l) mw_Y_init k_C_27 d_C_init_33 rfl (Nat.le_of_ble_eq_true rfl) (Nat.le_of_ble_eq_true rfl) ⟨by decide, by decide⟩ ⟨by decide, by decide⟩ ?_
  refine ⟨_, _, _, _, _, rfl, rfl, ?_⟩
  refine rn_putF C fo_C_28 ft_C fn_C_2 d_C_init_36 rfl (Nat.le_of_ble_eq_true rfl) (fun _ _ => ⟨rfl, rfl⟩) ?_
  refine rn_aload_n C d_C_init_39 rfl ?_
  refine rn_new C c_C_32 d_C_init_40 (Nat.le_of_ble_eq_true rfl) (Nat.le_of_ble_eq_true rfl) ?_
  refine rn_dup C d_C_init_43 rfl ?_
  refine rn_cI C (c_P_init l) mw_P_init k_C_34 d_C_init_44 rfl (Nat.le_of_ble_eq_true rfl) (Nat.le_of_ble_eq_true rfl) ⟨by decide, by decide⟩ ⟨by decide, by decide⟩ ?_
  refine ⟨_, rfl, ?_⟩
  refine rn_putF C fo_C_35 ft_C fn_C_3 d_C_init_47 rfl (Nat.le_of_ble_eq_true rfl) (fun _ _ => ⟨rfl, rfl⟩) ?_
  refine rn_aload_n C d_C_init_50 rfl ?_
  refine rn_new C c_C_39 d_C_init_51 (Nat.le_of_ble_eq_true rfl) (Nat.le_of_ble_eq_true rfl) ?_
  refine rn_dup C d_C_init_54 rfl ?_
  refine rn_cI C (c_T_init l) mw_T_init k_C_41 d_C_init_55 rfl (Nat.le_of_ble_eq_true rfl) (Nat.le_of_ble_eq_true rfl) ⟨by decide, by decide⟩ ⟨by decide, by decide⟩ ?_
  refine ⟨_, _, _, _, _, _, _, rfl, rfl, ?_⟩
  refine rn_putF C fo_C_42 ft_C fn_C_4 d_C_init_58 rfl (Nat.le_of_ble_eq_true rfl) (fun _ _ => ⟨rfl, rfl⟩) ?_
  refine rn_aload_n C d_C_init_61 rfl ?_
  refine rn_new C c_C_46 d_C_init_62 (Nat.le_of_ble_eq_true rfl) (Nat.le_of_ble_eq_true rfl) ?_
  refine rn_dup C d_C_init_65 rfl ?_
  refine rn_cI C (c_N_init l) mw_N_init k_C_48 d_C_init_66 rfl (Nat.le_of_ble_eq_true rfl) (Nat.le_of_ble_eq_true rfl) ⟨by decide, by decide⟩ ⟨by decide, by decide⟩ ?_
  refine ⟨_, _, _, _, _, _, _, _, _, _, rfl, rfl, ?_⟩
  refine rn_putF C fo_C_49 ft_C fn_C_5 d_C_init_69 rfl (Nat.le_of_ble_eq_true rfl) (fun _ _ => ⟨rfl, rfl⟩) ?_
  refine rn_aload_n C d_C_init_72 rfl ?_
  refine rn_new C c_C_53 d_C_init_73 (Nat.le_of_ble_eq_true rfl) (Nat.le_of_ble_eq_true rfl) ?_
  refine rn_dup C d_C_init_76 rfl ?_
  refine rn_cI C (c_S_init l) mw_S_init k_C_55 d_C_init_77 rfl (Nat.le_of_ble_eq_true rfl) (Nat.le_of_ble_eq_true rfl) ⟨by decide, by decide⟩ ⟨by decide, by decide⟩ ?_
  refine ⟨_, rfl, ?_⟩
  refine rn_putF C fo_C_56 ft_C fn_C_6 d_C_init_80 rfl (Nat.le_of_ble_eq_true rfl) (fun _ _ => ⟨rfl, rfl⟩) ?_
  refine rn_aload_n C d_C_init_83 rfl ?_
  refine rn_new C c_C_60 d_C_init_84 (Nat.le_of_ble_eq_true rfl) (Nat.le_of_ble_eq_true rfl) ?_
  refine rn_dup C d_C_init_87 rfl ?_
  refine rn_cI C (c_R_init l) mw_R_init k_C_62 d_C_init_88 rfl (Nat.le_of_ble_eq_true rfl) (Nat.le_of_ble_eq_true rfl) ⟨by decide, by decide⟩ ⟨by decide, by decide⟩ ?_
  refine ⟨_, _, _, _, _, _, _, _, _, _, _, _, _, _, _, rfl, rfl, ?_⟩
  refine rn_putF C fo_C_63 ft_C fn_C_7 d_C_init_91 rfl (Nat.le_of_ble_eq_true rfl) (fun _ _ => ⟨rfl, rfl⟩) ?_
  refine rn_aload_n C d_C_init_94 rfl ?_
  refine rn_new C c_C_53 d_C_init_95 (Nat.le_of_ble_eq_true rfl) (Nat.le_of_ble_eq_true rfl) ?_
  refine rn_dup C d_C_init_98 rfl ?_
  refine rn_cI C (c_S_init l) mw_S_init k_C_55 d_C_init_99 rfl (Nat.le_of_ble_eq_true rfl) (Nat.le_of_ble_eq_true rfl) ⟨by decide, by decide⟩ ⟨by decide, by decide⟩ ?_
  refine ⟨_, rfl, ?_⟩
  refine rn_putF C fo_C_67 ft_C fn_C_8 d_C_init_102 rfl (Nat.le_of_ble_eq_true rfl) (fun _ _ => ⟨rfl, rfl⟩) ?_
  refine rn_return C rfl d_C_init_105 ⟨Nat.le_of_ble_eq_true rfl, Nat.le_of_ble_eq_true rfl⟩ ?_
  exact hK pf lf hp hl

