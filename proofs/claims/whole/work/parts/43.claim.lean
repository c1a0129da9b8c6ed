/-! What the start gives; the claim. Laid by wip/whole/gen_l4.py. -/
theorem start_K {s : State} {args : Array Value} (hts : ∀ w ∈ allW, w.before args s = true) : ∃ (D : va_G) (dA : Nat → ClassId), va_K D ccl (ah_T dA) s := by
  obtain ⟨c0, s0, h0⟩ := u_known (C := R_C) (T := T_C) (N := 9) (n := 9) hts in_C (hts (.instantiable R_C 9) (ww 45 (by decide +kernel) (by decide +kernel)))
  obtain ⟨c1, s1, h1⟩ := u_known (C := R_I) (T := T_I) (N := 4) (n := 4) hts in_I (hts (.instantiable R_I 4) (ww 53 (by decide +kernel) (by decide +kernel)))
  obtain ⟨c2, s2, h2⟩ := u_known (C := R_F) (T := T_F) (N := 5) (n := 5) hts in_F (hts (.instantiable R_F 5) (ww 83 (by decide +kernel) (by decide +kernel)))
  obtain ⟨c3, s3, h3⟩ := u_known (C := R_Y) (T := T_Y) (N := 3) (n := 3) hts in_Y (hts (.instantiable R_Y 3) (ww 110 (by decide +kernel) (by decide +kernel)))
  obtain ⟨c4, s4, h4⟩ := u_known (C := R_P) (T := T_P) (N := 4) (n := 4) hts in_P (hts (.instantiable R_P 4) (ww 131 (by decide +kernel) (by decide +kernel)))
  obtain ⟨c5, s5, h5⟩ := u_known (C := R_T) (T := T_T) (N := 3) (n := 3) hts in_T (hts (.instantiable R_T 3) (ww 150 (by decide +kernel) (by decide +kernel)))
  obtain ⟨c6, s6, h6⟩ := u_known (C := R_N) (T := T_N) (N := 4) (n := 4) hts in_N (hts (.instantiable R_N 4) (ww 169 (by decide +kernel) (by decide +kernel)))
  obtain ⟨c7, s7, h7⟩ := u_known (C := R_S) (T := T_S) (N := 5) (n := 5) hts in_S (hts (.instantiable R_S 5) (ww 189 (by decide +kernel) (by decide +kernel)))
  obtain ⟨c8, s8, h8⟩ := u_known (C := R_R) (T := T_R) (N := 6) (n := 6) hts in_R (hts (.instantiable R_R 6) (ww 217 (by decide +kernel) (by decide +kernel)))
  obtain ⟨c9, s9, h9⟩ := u_known (C := R_M) (T := T_M) (N := 32) (n := 32) hts in_M (hts (.instantiable R_M 32) (ww 770 (by decide +kernel) (by decide +kernel)))
  obtain ⟨c10, s10, h10⟩ := u_known (C := "java/lang/IndexOutOfBoundsException") (T := fun _ => ("", "", "", false)) (N := 0) (n := 6) hts (fun w hw => by cases hw) (hts (.instantiable "java/lang/IndexOutOfBoundsException" 6) (ww 314 (by decide +kernel) (by decide +kernel)))
  obtain ⟨c11, s11, h11⟩ := u_known (C := "java/lang/IllegalArgumentException") (T := fun _ => ("", "", "", false)) (N := 0) (n := 6) hts (fun w hw => by cases hw) (hts (.instantiable "java/lang/IllegalArgumentException" 6) (ww 385 (by decide +kernel) (by decide +kernel)))
  obtain ⟨c12, s12, h12⟩ := u_known (C := "java/lang/IllegalStateException") (T := fun _ => ("", "", "", false)) (N := 0) (n := 6) hts (fun w hw => by cases hw) (hts (.instantiable "java/lang/IllegalStateException" 6) (ww 438 (by decide +kernel) (by decide +kernel)))
  obtain ⟨a0, k0, m0, g0, q0, r0⟩ := Cond.arrayClass_spec (hts _ a_int)
  obtain ⟨a1, k1, m1, g1, q1, r1⟩ := Cond.arrayClass_spec (hts _ a_long)
  obtain ⟨a2, k2, m2, g2, q2, r2⟩ := Cond.arrayClass_spec (hts _ a_boolean)
  obtain ⟨a3, k3, m3, g3, q3, r3⟩ := Cond.arrayClass_spec (hts _ a_char)
  refine ⟨(fun k => match k with | 0 => c0 | 1 => c1 | 2 => c2 | 3 => c3 | 4 => c4 | 5 => c5 | 6 => c6 | 7 => c7 | 8 => c8 | 9 => c9 | 10 => c10 | 11 => c11 | _ => c12, fun k => match k with | 0 => s0 | 1 => s1 | 2 => s2 | 3 => s3 | 4 => s4 | 5 => s5 | 6 => s6 | 7 => s7 | 8 => s8 | 9 => s9 | 10 => s10 | 11 => s11 | _ => s12), fun k => match k with | 0 => a0 | 1 => a1 | 2 => a2 | _ => a3, fun k q hq => ?_, fun k q hq => ?_⟩
  · match k, hq with
    | 0, hq => cases hq; exact h0
    | 1, hq => cases hq; exact h1
    | 2, hq => cases hq; exact h2
    | 3, hq => cases hq; exact h3
    | 4, hq => cases hq; exact h4
    | 5, hq => cases hq; exact h5
    | 6, hq => cases hq; exact h6
    | 7, hq => cases hq; exact h7
    | 8, hq => cases hq; exact h8
    | 9, hq => cases hq; exact h9
    | 10, hq => cases hq; exact h10
    | 11, hq => cases hq; exact h11
    | 12, hq => cases hq; exact h12
    | k + 13, hq => exact absurd hq (by simp)
  · match k, hq with
    | 0, hq => cases hq; exact ⟨fun n z => ⟨fun k h => (by cases h), k0, q0, m0, r0⟩, g0⟩
    | 1, hq => cases hq; exact ⟨fun n z => ⟨fun k h => (by cases h), k1, q1, m1, r1⟩, g1⟩
    | 2, hq => cases hq; exact ⟨fun n z => ⟨fun k h => (by cases h), k2, q2, m2, r2⟩, g2⟩
    | 3, hq => cases hq; exact ⟨fun n z => ⟨fun k h => (by cases h), k3, q3, m3, r3⟩, g3⟩
    | k + 4, hq => exact absurd hq (by simp)
theorem ofN_of (x : Int32) : Int32.ofNat x.toBitVec.toNat = x := by
  apply Int32.toBitVec_inj.mp
  simp
theorem eq_int {args : Array Value} {s : State} {tm : Term} {z : Int32} (h : (Cond.eq tm (.int z)).before args s = true) : tm.eval args s none [] s = some (.int z) := by
  cases hv : tm.eval args s none [] s with
  | none => simp [Cond.before, Cond.holds, Cond.value, hv] at h
  | some w =>
    have hz : (Term.int z).eval args s none [] s = some (.int z) := rfl
    simp only [Cond.before, Cond.holds, Cond.value, hv, hz] at h
    cases w <;> simp_all
theorem strX : ∀ q ∈ strW, Cond.exactly (.string q.1 q.2.1) "java/lang/String" ∈ flatC (Jvm.Cond.and given_1 narrow_1) := by decide +kernel
theorem ncX : ∀ q ∈ ncW, Cond.not (.castable q.1 q.2) ∈ flatC (Jvm.Cond.and given_1 narrow_1) := by decide +kernel
def sa0 (t b L : Nat) (xs : Nat → Int32) : Nat → Nat := fun k => match k with
  | 0 => t
  | 1 => b
  | 2 => L
  | j + 3 => (xs j).toBitVec.toNat
set_option maxHeartbeats 4000000 in
set_option maxRecDepth 100000 in
theorem start_F {s : State} {b L : Nat} {xs : Nat → Int32} (hts : ∀ w ∈ lw_tbl, w.before #[Value.ref b] s = true) (hX : va_X b L xs s s.heap) (hbl : b < s.heap.size) (hgv : (Jvm.Cond.and given_1 narrow_1).before #[Value.ref b] s = true) : ∃ t : Nat, rn_F s.heap.size (sa0 t b L xs) s := by
  have hs := flat_of_before _ hgv
  have hz : ∀ a : Nat, a < s.heap.size → a < s.heap.size := fun _ h => h
  have hA : ∀ a : Nat, a < s.heap.size → ¬ (fun q : Nat => s.heap.size ≤ q) a := fun a h => Nat.not_le.mpr h
  have harr : (Cond.arrayOf (.static "ColourCharts" "PART_WEIGHTS" "[I") .int).before #[Value.ref b] s = true := hs _ (by decide +kernel)
  have hlen : (Cond.eq (.length (.static "ColourCharts" "PART_WEIGHTS" "[I")) (.int 3)).before #[Value.ref b] s = true := hs _ (by decide +kernel)
  have he0 : (Cond.eq (.elem (.static "ColourCharts" "PART_WEIGHTS" "[I") (.int 0)) (.int 2)).before #[Value.ref b] s = true := hs _ (by decide +kernel)
  have he1 : (Cond.eq (.elem (.static "ColourCharts" "PART_WEIGHTS" "[I") (.int 1)) (.int 4)).before #[Value.ref b] s = true := hs _ (by decide +kernel)
  have he2 : (Cond.eq (.elem (.static "ColourCharts" "PART_WEIGHTS" "[I") (.int 2)) (.int 3)).before #[Value.ref b] s = true := hs _ (by decide +kernel)
  have hr1 : (Cond.isRef (.static "java/lang/Throwable" "UNASSIGNED_STACK" "[Ljava/lang/StackTraceElement;")).before #[Value.ref b] s = true := hs _ (by decide +kernel)
  have hr2 : (Cond.isRef (.static "java/lang/Throwable" "SUPPRESSED_SENTINEL" "Ljava/util/List;")).before #[Value.ref b] s = true := hs _ (by decide +kernel)
  obtain ⟨t, ht, hT⟩ := va_Tof (tm := (.static "ColourCharts" "PART_WEIGHTS" "[I")) (ty := .int) (N := 3) (f := rn_w3) (A := fun q : Nat => s.heap.size ≤ q) (by decide) harr (eq_int hlen) (fun j hj => by
    match j, hj with
    | 0, _ => exact eq_int he0
    | 1, _ => exact eq_int he1
    | 2, _ => exact eq_int he2
    | j + 3, hj => exact absurd hj (by omega)) hA
  have hZ : va_Z "ColourCharts" "PART_WEIGHTS" "[I" (.ref t) (fun q : Nat => s.heap.size ≤ q) s s.heap := va_Zof (hts _ (List.mem_of_getElem? (i := 678) (by decide +kernel))) (hts (.initialized "ColourCharts") (List.mem_of_getElem? (i := 27) (by decide +kernel))) ht hA
  refine ⟨t, fun w hw => ?_, fun w hw => va_Nw.of (faceW_ok w hw).1 (hts w (faceW_in w hw)), fun q hq => ?_, fun q hq => va_Nc.of (hs _ (ncX q hq)), ⟨rn_st.of (hts _ (List.mem_of_getElem? (i := 340) (by decide +kernel))) hr1 hz, rn_st.of (hts _ (List.mem_of_getElem? (i := 342) (by decide +kernel))) hr2 hz⟩, hZ, hT, ?_, hbl⟩
  · have hb := hts w (nestW_in w hw)
    obtain ⟨a, i, x, y, rfl⟩ := nestW_form w hw
    exact va_Nw.of rfl hb
  · obtain ⟨a, _, _, _, h2, _⟩ := Cond.exactly_spec (hs _ (strX q hq))
    exact ⟨a, vk_R.of (hts _ (strW_in q hq)) h2⟩
  · obtain ⟨scr, x1, x2, x3, x4, x5⟩ := hX
    refine ⟨scr, x1, x2, x3, x4, fun j hj => ?_⟩
    rw [x5 j hj]
    show some (Value.int (xs j)) = some (.int (Int32.ofNat (sa0 t b L xs (3 + j))))
    rw [Nat.add_comm 3 j]
    show some (Value.int (xs j)) = some (.int (Int32.ofNat (xs j).toBitVec.toNat))
    rw [ofN_of]
def R_law : String := "ColourChartsLaw"
def lw_P (b : Addr) (xs : List Int32) (args : Array Value) (s : State) : Prop := args = #[.ref b] ∧ s.IntsAt b xs ∧ xs.length ≤ 2562 ∧ (Jvm.Cond.and given_1 narrow_1).before args s = true
def lw_Q (_ : Array Value) (s : State) (o : Outcome) (t : State) : Prop := o = .returned (some (.int 1)) ∧ Framed s o t [] 601024 7292999
set_option maxHeartbeats 4000000 in
theorem lw_walk (l : Launch) (hl : l.flags = flags0) (b : Addr) (xs : List Int32) : MetFree l x (headSpec (Jvm.Cond.code x code maxLocals ret :: tables_1) room_1) (lw_P b xs) (fun _ _ _ _ _ => True) lw_Q := by
  refine MetFree.of_bodySF (code := code) (maxLocals := maxLocals) (ret := ret) (by decide) ?_ ?_
  · intro args s m h hn
    obtain ⟨meth, c, h1, h2, h3, h4, h5, h6, -, -⟩ := Cond.code_spec hn (atoms_spec (ws := Jvm.Cond.code x code maxLocals ret :: tables_1) h _ List.mem_cons_self)
    exact ⟨meth, c, h1, h2, h3, h4, h5, h6⟩
  · intro p e s m args below meth c s₁ B hml0 hP _
    obtain ⟨rfl, hx, hbd, hgv⟩ := hP
    obtain ⟨scr, harrAt, hlist, hof, hsmall⟩ := hx
    obtain ⟨hcb, hkn, -, -⟩ := State.arrayAt?_spec harrAt
    have hown : s.vm.findClass R_law = some m.cls := findClass_of_methodNamed B.named
    have hts0 : ∀ c ∈ (Jvm.Cond.code x code maxLocals ret :: tables_1), c.before #[Value.ref b] s = true := atoms_spec (ws := Jvm.Cond.code x code maxLocals ret :: tables_1) B.pre
    have hts : ∀ w ∈ lw_tbl, w.before #[Value.ref b] s = true := k2_hts_sels lw_privs (fun w hw => hts0 w (List.mem_cons_of_mem _ hw)) lw_privs_ok
    have hta : ∀ w ∈ allW, w.before #[Value.ref b] s = true := fun w hw => hts w (List.mem_filter.mp hw).1
    have hsz : scr.slots.size = xs.length := by rw [← Array.length_toList, hlist, List.length_map]
    have hval : ∀ j : Nat, j < xs.length → scr.slots[j]? = some (.int (xs.getD j 0)) := fun j hj => by
      rw [← Array.getElem?_toList, hlist]
      simp [hj]
    have hbl : b < s.heap.size := (Array.getElem?_eq_some_iff.mp hcb).1
    have hX : va_X b xs.length (fun j => xs.getD j 0) s s.heap := ⟨scr, hcb, hof, hkn, hsz, hval⟩
    obtain ⟨D, dA, hK⟩ := start_K hta
    obtain ⟨t, hF⟩ := start_F hts hX hbl hgv
    have hw : rn_wc x code 8 (some .boolean) [] (Jvm.Cond.code x code maxLocals ret) := Or.inr ⟨rfl, rfl⟩
    obtain ⟨m9, meth9, c9, hn9, h1, h2, -, -, h4, -, -, -⟩ := hw.spec (hts0 _ List.mem_cons_self)
    cases B.named.symm.trans hn9
    cases B.method.symm.trans h1
    have hcc : c9 = c := by
      have e1 := (Stand.of_body B).code
      exact Option.some.inj (h2.symm.trans e1)
    subst hcc
    have C : rn_Ok p l e s m (([.retAddr 1] : List Value).map (ah_v s.heap.size (sa0 t b xs.length fun j => xs.getD j 0))).toArray meth c9 s.heap.size (sa0 t b xs.length fun j => xs.getD j 0) D dA code "ColourChartsLaw" "law" 8 (some .boolean) [] :=
      ⟨B.exec, B.bytes, hml0, hown, hta, B.notSynchronized, B.returns, hK, Nat.le_refl _, hF, (name_of_methodNamed B.named B.method).1, h4⟩
    have hh0 : s₁.heap = s.heap := by rw [B.state]; rfl
    have k := law_all (K := fun r _ => r = .inl (some (.int 1))) (below := below) C hl hbd (fun _ => rfl) s.heap [] _ ⟨rfl, fun k q h => by simp [ah_w] at h⟩ va_S.rf (rn_L.entry (vs := [.retAddr 1]) (n := 8) (Nat.le_of_ble_eq_true rfl))
    rw [List.map_nil, ← lg_entry_eq] at k
    obtain ⟨t2, a1, o, b1, b2, ⟨r, h', b3, b4, b5, b6⟩, LL, ⟨b7, b8⟩, b9⟩ := k s₁ hh0 (Stand.of_body B)
    subst b3
    refine ⟨t2, o, a1, b1, b2, b4, ⟨_, b4⟩, b7, b8.weaken (fun y hy hlt => absurd hlt (Nat.not_lt.mpr (b9 y hy))) (Nat.le_refl _) (Nat.le_refl _)⟩
theorem lw_pre_spec {args : Array Value} {s : State} (h : (Jvm.Cond.and given_1 narrow_1).before args s = true) (hr : rest_1_c.before args s = true) : ∃ (b : Addr) (xs : List Int32), lw_P b xs args s := by
  have hs := flat_of_before _ h
  have hq := flat_of_before _ hr
  have hc : (Cond.count 1).before args s = true := hs _ (by decide +kernel)
  have harr : (Cond.arrayOf (.arg 0) .int).before args s = true := hs _ (by decide +kernel)
  have hle : (Cond.le (.length (.arg 0)) (.int 2562)).before args s = true := hs _ (by decide +kernel)
  have hlen : (Cond.isInt (.length (.arg 0))).before args s = true := hq _ (by decide +kernel)
  have hall : (Cond.all (.arg 0) (.isInt (.elem (.arg 0) (.index 0)))).before args s = true := hq _ (by decide +kernel)
  obtain ⟨b, xs, hb, hx⟩ := State.ints_of_pre rfl harr hlen hall
  have hsm : xs.length < 2 ^ 31 := hx.choose_spec.2.2.2
  have hev : (Term.length (.arg 0)).eval args s none [] s = some (.int xs.length.toInt32) := hx.length_eval hb
  have hv := Cond.le_ints hev (show (Term.int 2562).eval args s none [] s = some (.int 2562) from rfl)
  have hd : xs.length.toInt32 ≤ 2562 := by
    simpa [Cond.before, Cond.holds, hv] using hle
  have hN : xs.length ≤ 2562 := (Int32.ofNat_le_ofNat hsm (by decide)).mp (show Int32.ofNat xs.length ≤ Int32.ofNat 2562 from hd)
  exact ⟨b, xs, Cond.one_arg hc (show args[0]? = some (.ref b) from hb), hx, hN, h⟩
theorem lw_comes (l : Launch) (hl : l.flags = flags0) : Comes l x (Jvm.Cond.code x code maxLocals ret :: tables_1) room_1 (fun tb e args s => Calls_1 tb e args s ∧ rest_1 tb e args s ∧ Pre_1 tb e args s)
    (fun _ _ args s o t => lw_Q args s o t) := by
  intro p e ha hc hk s m args below hf hfit hheap happ hpre
  obtain ⟨b, xs, hP⟩ := lw_pre_spec hpre.2.2 hpre.2.1
  obtain ⟨k, o, h1, h2, h3, hQ⟩ := lw_walk l hl b xs p e ha hc hk s m args below hf ((Spec.applies_iff_loose hf).mp happ).1 hP trivial
  exact ⟨k, o, h1, h2, h3, hQ⟩
theorem lw_frame {s t : State} {o : Outcome} {args : Array Value} (h : Framed s o t [] 601024 7292999) :
    Framed s o t (fieldLocs frame_1_writes args s ++ arrayLocs frame_1_arrays args s ++ staticLocs frame_1_statics s) 601024 7292999 := h
theorem lw_limb (L : Cond) (hL : ∀ (args : Array Value) (s t : State), L.after args s (.returned (some (.int 1))) t = true) :
    ArmFor flags0 classFile x code maxLocals ret World_1 tables_1 room_1 Calls_1 rest_1 Pre_1
      (fun tb e a s o t => postC L tb e a s o t ∧ Framed s o t (fieldLocs frame_1_writes a s ++ arrayLocs frame_1_arrays a s ++ staticLocs frame_1_statics s) 601024 7292999) := by
  intro l hl _ _ p e ha hc hk s m args below hf hfit hheap happ hpre
  obtain ⟨k, o, h1, h2, h3, rfl, hF⟩ := lw_comes l hl p e ha hc hk s m args below hf hfit hheap happ hpre
  exact ⟨k, _, h1, h2, h3, hL args s _, lw_frame hF⟩
theorem i_vc : Claimed_1_1 ∧ Claimed_1_2 := ⟨lw_limb limb_1_1 (fun args s t => by simp [limb_1_1, Cond.after, Cond.holds, Cond.value]), lw_limb limb_1_2 (fun args s t => Cond.after_iff.mpr (by
  first | (rw [show limb_1_2 = Cond.eq .result (.int 1) from rfl, Cond.eq_ints (x := 1) (y := 1) rfl rfl]; simp; done) | (simp [limb_1_2, Cond.value, Term.eval]; done)))⟩
