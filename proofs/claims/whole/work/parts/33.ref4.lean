/-! The reference: the fit, differences. Laid by wip/whole/gen_m4.py. -/
def G_M_fitPart (av : List Value) (h : ah_H) (K : ah_R → ah_H → Prop) : Prop := ∃ (pre rest : ah_H) (xth xw xg xfo xfi xsg xrk xdy xce xsu : Int32) (xsq : Int64) (mp ml mh mt : Nat → Int32) (ma mb md : Nat → Int64) (w g le to ri bo co ro qu nt k : Int) (pic : Int → Int → Int → Int) (lig : Int → Int → Int) (has : Int → Bool) (tg : Int → Int → Int), av = [.ref 21, .int (iI k)] ∧ h = pre ++ cM xth xw xg xfo (iI le) (iI to) (iI ri) (iI bo) (iI co) (iI ro) (iI qu) (iI nt) xfi xsg xrk xdy xce xsu xsq :: aI 2700 mp :: aI 900 ml :: aZ 16 mh :: aI 48 mt :: aL 3 ma :: aL 3 mb :: aL 3 md :: rest ∧ pre.length = 21 ∧ (mpOk mp ml pic lig) ∧ (frOk le to ri bo w g) ∧ (lyOk co ro qu) ∧ (zOk 16 mh has ∧ tOk mt has tg ∧ tgB tg has ∧ (0 ≤ nt → has nt = true) ∧ -1 ≤ nt ∧ nt < 16) ∧ (0 ≤ k ∧ k < 3) ∧ (0 < sh has (fun _ => 1) 0 (co * ro).toNat) ∧ (∀ (xce xsu : Int32) (xsq : Int64), K (.inl none) (pre ++ cM xth xw xg xfo (iI le) (iI to) (iI ri) (iI bo) (iI co) (iI ro) (iI qu) (iI nt) xfi xsg xrk xdy xce xsu xsq :: aI 2700 mp :: aI 900 ml :: aZ 16 mh :: aI 48 mt :: aL 3 (vp_updL ma k.toNat (lI (fitK (rdI (ltI pic lig) le to ri bo co ro qu) tg has nt (co * ro).toNat k).1)) :: aL 3 (vp_updL mb k.toNat (lI (fitK (rdI (ltI pic lig) le to ri bo co ro qu) tg has nt (co * ro).toNat k).2.1)) :: aL 3 (vp_updL md k.toNat (lI (fitK (rdI (ltI pic lig) le to ri bo co ro qu) tg has nt (co * ro).toNat k).2.2)) :: rest))
set_option maxHeartbeats 4000000 in
set_option maxRecDepth 100000 in
theorem c_M_fitPart (l : Launch) : rn_Met l y_M_fitPart wc_M_fitPart { frames := 4, cells := 0, slots := 0, locals := 75 } G_M_fitPart := by
  refine rn_in mw_M_fitPart.1 (by decide +kernel) ?_ ?_
  · intro _ av h K hG
    obtain ⟨pre, rest, xth, xw, xg, xfo, xfi, xsg, xrk, xdy, xce, xsu, xsq, mp, ml, mh, mt, ma, mb, md, w, g, le, to, ri, bo, co, ro, qu, nt, k, pic, lig, has, tg, rfl, rfl, hp, hc0, hc1, hc2, hc3, hc4, hc5, k1⟩ := hG
    exact Nat.le_of_ble_eq_true rfl
  intro p e s m args below meth c z sa D dA av h K hadm C hG
  obtain ⟨pre, rest, xth, xw, xg, xfo, xfi, xsg, xrk, xdy, xce, xsu, xsq, mp, ml, mh, mt, ma, mb, md, w, g, le, to, ri, bo, co, ro, qu, nt, k, pic, lig, has, tg, rfl, rfl, hp, hc0, hc1, hc2, hc3, hc4, hc5, k1⟩ := hG
  have hf' := hc1
  have hy' := hc2
  unfold frOk at hf'
  unfold lyOk at hy'
  obtain ⟨hz, ht, htb, hnt, nt0, nt1⟩ := hc3
  have mq := mbd (A := 4) (B := 4) (a := co) (b := ro) (by omega) (by omega)
  have mp0 : 0 < co * ro := Int.mul_pos (by omega) (by omega)
  have me : iI co * iI ro = iI (co * ro) := iI_mul _ _
  have hN : ((co * ro).toNat : Int) = co * ro := by omega
  have lb : ltB (ltI pic lig) := fun x y j => ltI_in hc0.2.2.1 hc0.2.2.2 x y j
  have hrd : rdB (rdI (ltI pic lig) le to ri bo co ro qu) (co * ro).toNat := fun p k h1 h2 => rdI_in lb hc1 hc2 h1 (by omega) k
  have tail : ∀ (fl x0 y0 : Int) (xce xsu : Int32) (xsq : Int64), ((fl = 1 ∧ (0 ≤ nt ∧ nt < co * ro) ∧ x0 = (rdI (ltI pic lig) le to ri bo co ro qu) nt k ∧ y0 = tg nt k) ∨ (fl = 0 ∧ ¬ (0 ≤ nt ∧ nt < co * ro) ∧ x0 = 0 ∧ y0 = 0)) → Run p l e { frames := 4, cells := 0, slots := 0, locals := 75 } s m args below meth c z sa D dA 0 0 K 22 185 [some (.ref 21), some (.int (iI k)), some (.int (iI fl)), some (.long (lI x0)), none, some (.long (lI y0)), none, some (.long (lI (sh has (fun _ => 1) 0 (co * ro).toNat))), none, some (.long (lI (sh has (fun p => (rdI (ltI pic lig) le to ri bo co ro qu) p k - x0) 0 (co * ro).toNat))), none, some (.long (lI (sh has (fun p => tg p k - y0) 0 (co * ro).toNat))), none, some (.long (lI (sh has (fun p => ((rdI (ltI pic lig) le to ri bo co ro qu) p k - x0) * ((rdI (ltI pic lig) le to ri bo co ro qu) p k - x0)) 0 (co * ro).toNat))), none, some (.long (lI (sh has (fun p => ((rdI (ltI pic lig) le to ri bo co ro qu) p k - x0) * (tg p k - y0)) 0 (co * ro).toNat))), none] [] (pre ++ cM xth xw xg xfo (iI le) (iI to) (iI ri) (iI bo) (iI co) (iI ro) (iI qu) (iI nt) xfi xsg xrk xdy xce xsu xsq :: aI 2700 mp :: aI 900 ml :: aZ 16 mh :: aI 48 mt :: aL 3 ma :: aL 3 mb :: aL 3 md :: rest) 0 0 := by
    intro fl x0 y0 xce xsu xsq hm
    have hsn := sm_has_le has (co * ro).toNat 0
    rw [← sh_one] at hsn
    rcases hm with ⟨rfl, hh, rfl, rfl⟩ | ⟨rfl, hh, rfl, rfl⟩
    · have r0 := hrd nt k hh.1 (by omega)
      have t0 := htb nt k hh.1 (by omega) hc4.1 hc4.2 (hnt hh.1)
      obtain ⟨b1, b2, b3, b4, b5⟩ := held_bd (has := has) (f := fun p => (rdI (ltI pic lig) le to ri bo co ro qu) p k - (rdI (ltI pic lig) le to ri bo co ro qu) nt k) (g := fun p => tg p k - tg nt k) (n := (co * ro).toNat) (by omega) (fun p h1 h2 _ => by have := hrd p k h1 h2; (try dsimp only); omega) (fun p h1 h2 h3 => by have := htb p k h1 (by omega) hc4.1 hc4.2 h3; (try dsimp only); omega) r0 t0
      simp only [fitK, rawK, if_pos (show 0 ≤ nt ∧ nt < ((co * ro).toNat : Int) by omega), heldT] at k1
      unfold bL at b1 b2 b3 b5
      refine rn_iload_n C d_M_fitPart_185 rfl ?_
      refine rn_if_eq C 194 d_M_fitPart_186 (by decide) (fun q => absurd q (by decide)) (fun _ => ?_)
      refine rn_lload C d_M_fitPart_189 rfl ?_
      refine rn_goto C 205 d_M_fitPart_191 (by decide) ?_
      refine rn_lstore C d_M_fitPart_205 (by decide) ?_
      refine rn_iload_n C d_M_fitPart_207 rfl ?_
      refine rn_if_eq C 216 d_M_fitPart_208 (by decide) (fun q => absurd q (by decide)) (fun _ => ?_)
      refine rn_lload C d_M_fitPart_211 rfl ?_
      refine rn_goto C 227 d_M_fitPart_213 (by decide) ?_
      refine rn_lstore C d_M_fitPart_227 (by decide) ?_
      refine rn_lload C d_M_fitPart_229 rfl ?_
      refine rn_lconst C (lI 0) d_M_fitPart_231 (by decide) ?_
      refine rn_lc_ne C 266 d_M_fitPart_232 d_M_fitPart_233 (by decide) (fun c232 => ?_) (fun c232 => ?_)
      · skip
        have q : ¬ sh has (fun p => ((rdI (ltI pic lig) le to ri bo co ro qu) p k - (rdI (ltI pic lig) le to ri bo co ro qu) nt k) * ((rdI (ltI pic lig) le to ri bo co ro qu) p k - (rdI (ltI pic lig) le to ri bo co ro qu) nt k)) 0 (co * ro).toNat = 0 := fun w => c232 (by rw [w])
        simp only [if_neg q, red3] at k1
        refine rn_iload_n C d_M_fitPart_266 rfl ?_
        refine rn_if_eq C 292 d_M_fitPart_267 (by decide) (fun q => absurd q (by decide)) (fun _ => ?_)
        refine rn_aload_n C d_M_fitPart_270 rfl ?_
        refine rn_iload_n C d_M_fitPart_271 rfl ?_
        refine rn_lload C d_M_fitPart_272 rfl ?_
        refine rn_lload C d_M_fitPart_274 rfl ?_
        refine rn_lload C d_M_fitPart_276 rfl ?_
        refine rn_lmul C d_M_fitPart_278 ?_
        refine rn_lload C d_M_fitPart_279 rfl ?_
        refine rn_lload_n C d_M_fitPart_281 rfl ?_
        refine rn_lmul C d_M_fitPart_282 ?_
        refine rn_lsub C d_M_fitPart_283 ?_
        refine rn_lload C d_M_fitPart_284 rfl ?_
        rw [lI_mul, lI_mul, lI_sub, Int.mul_comm (tg nt k)]
        refine rn_cV C (c_M_keep l) mw_M_keep k_M_141 d_M_fitPart_286 rfl (mH 0 hp rfl rfl) rfl (Nat.le_of_ble_eq_true rfl) (Nat.le_of_ble_eq_true rfl) ⟨by decide, by decide⟩ ⟨by decide, by decide⟩ ?_
        refine ⟨_, _, _, _, _, _, _, _, _, _, _, _, _, _, _, _, _, _, _, _, _, _, _, _, _, _, _, _, _, _, _, _, rfl, rfl, hp, hc4, b2, b5, b3, by omega, ?_⟩
        refine rn_goto C 312 d_M_fitPart_289 (by decide) ?_
        refine rn_return C rfl d_M_fitPart_312 ⟨by decide, by decide⟩ ?_
        exact k1 _ _ _
      · skip
        have q : sh has (fun p => ((rdI (ltI pic lig) le to ri bo co ro qu) p k - (rdI (ltI pic lig) le to ri bo co ro qu) nt k) * ((rdI (ltI pic lig) le to ri bo co ro qu) p k - (rdI (ltI pic lig) le to ri bo co ro qu) nt k)) 0 (co * ro).toNat = 0 := (lI_eq ⟨by omega, by omega⟩ ⟨by omega, by omega⟩).mp c232
        simp only [if_pos q, red3] at k1
        refine rn_aload_n C d_M_fitPart_236 rfl ?_
        refine rn_iload_n C d_M_fitPart_237 rfl ?_
        refine rn_lconst C (lI 0) d_M_fitPart_238 (by decide) ?_
        refine rn_iload_n C d_M_fitPart_239 rfl ?_
        refine rn_if_eq C 248 d_M_fitPart_240 (by decide) (fun q => absurd q (by decide)) (fun _ => ?_)
        refine rn_lload C d_M_fitPart_243 rfl ?_
        refine rn_goto C 250 d_M_fitPart_245 (by decide) ?_
        refine rn_iload_n C d_M_fitPart_250 rfl ?_
        refine rn_if_eq C 258 d_M_fitPart_251 (by decide) (fun q => absurd q (by decide)) (fun _ => ?_)
        refine rn_lconst C (lI 1) d_M_fitPart_254 (by decide) ?_
        refine rn_goto C 260 d_M_fitPart_255 (by decide) ?_
        refine rn_cV C (c_M_keep l) mw_M_keep k_M_141 d_M_fitPart_260 rfl (mH 0 hp rfl rfl) rfl (Nat.le_of_ble_eq_true rfl) (Nat.le_of_ble_eq_true rfl) ⟨by decide, by decide⟩ ⟨by decide, by decide⟩ ?_
        refine ⟨_, _, _, _, _, _, _, _, _, _, _, _, _, _, _, _, _, _, _, _, _, _, _, _, _, _, _, _, _, _, _, _, rfl, rfl, hp, hc4, by unfold bL; omega, b1, by unfold bL; omega, by omega, ?_⟩
        refine rn_goto C 312 d_M_fitPart_263 (by decide) ?_
        refine rn_return C rfl d_M_fitPart_312 ⟨by decide, by decide⟩ ?_
        exact k1 _ _ _
    · obtain ⟨b1, b2, b3, b4, b5⟩ := free_bd (has := has) (f := fun p => (rdI (ltI pic lig) le to ri bo co ro qu) p k) (g := fun p => tg p k) (n := (co * ro).toNat) (by omega) (fun p h1 h2 _ => by have := hrd p k h1 h2; (try dsimp only); omega) (fun p h1 h2 h3 => by have := htb p k h1 (by omega) hc4.1 hc4.2 h3; (try dsimp only); omega)
      simp only [Int.sub_zero]
      simp only [fitK, rawK, if_neg (show ¬ (0 ≤ nt ∧ nt < ((co * ro).toNat : Int)) by omega), freeT] at k1
      refine rn_iload_n C d_M_fitPart_185 rfl ?_
      refine rn_if_eq C 194 d_M_fitPart_186 (by decide) (fun _ => ?_) (fun q => absurd rfl q)
      refine rn_lload C d_M_fitPart_194 rfl ?_
      refine rn_lload C d_M_fitPart_196 rfl ?_
      refine rn_lmul C d_M_fitPart_198 ?_
      refine rn_lload C d_M_fitPart_199 rfl ?_
      refine rn_lload C d_M_fitPart_201 rfl ?_
      refine rn_lmul C d_M_fitPart_203 ?_
      refine rn_lsub C d_M_fitPart_204 ?_
      rw [lI_mul, lI_mul, lI_sub]
      refine rn_lstore C d_M_fitPart_205 (by decide) ?_
      refine rn_iload_n C d_M_fitPart_207 rfl ?_
      refine rn_if_eq C 216 d_M_fitPart_208 (by decide) (fun _ => ?_) (fun q => absurd rfl q)
      refine rn_lload C d_M_fitPart_216 rfl ?_
      refine rn_lload C d_M_fitPart_218 rfl ?_
      refine rn_lmul C d_M_fitPart_220 ?_
      refine rn_lload C d_M_fitPart_221 rfl ?_
      refine rn_lload C d_M_fitPart_223 rfl ?_
      refine rn_lmul C d_M_fitPart_225 ?_
      refine rn_lsub C d_M_fitPart_226 ?_
      rw [lI_mul, lI_mul, lI_sub]
      refine rn_lstore C d_M_fitPart_227 (by decide) ?_
      refine rn_lload C d_M_fitPart_229 rfl ?_
      refine rn_lconst C (lI 0) d_M_fitPart_231 (by decide) ?_
      have b4u := b4
      unfold bL at b4u
      refine rn_lc_ne C 266 d_M_fitPart_232 d_M_fitPart_233 (by decide) (fun c232 => ?_) (fun c232 => ?_)
      · skip
        have q : ¬ sh has (fun _ => 1) 0 (co * ro).toNat * sh has (fun p => (rdI (ltI pic lig) le to ri bo co ro qu) p k * (rdI (ltI pic lig) le to ri bo co ro qu) p k) 0 (co * ro).toNat - sh has (fun p => (rdI (ltI pic lig) le to ri bo co ro qu) p k) 0 (co * ro).toNat * sh has (fun p => (rdI (ltI pic lig) le to ri bo co ro qu) p k) 0 (co * ro).toNat = 0 := fun w => c232 (by rw [w])
        simp only [if_neg q, red3] at k1
        refine rn_iload_n C d_M_fitPart_266 rfl ?_
        refine rn_if_eq C 292 d_M_fitPart_267 (by decide) (fun _ => ?_) (fun q => absurd rfl q)
        refine rn_aload_n C d_M_fitPart_292 rfl ?_
        refine rn_iload_n C d_M_fitPart_293 rfl ?_
        refine rn_lload C d_M_fitPart_294 rfl ?_
        refine rn_lload C d_M_fitPart_296 rfl ?_
        refine rn_lload C d_M_fitPart_298 rfl ?_
        refine rn_lmul C d_M_fitPart_300 ?_
        refine rn_lload C d_M_fitPart_301 rfl ?_
        refine rn_lload C d_M_fitPart_303 rfl ?_
        refine rn_lmul C d_M_fitPart_305 ?_
        refine rn_lsub C d_M_fitPart_306 ?_
        refine rn_lload C d_M_fitPart_307 rfl ?_
        rw [lI_mul, lI_mul, lI_sub]
        refine rn_cV C (c_M_keep l) mw_M_keep k_M_141 d_M_fitPart_309 rfl (mH 0 hp rfl rfl) rfl (Nat.le_of_ble_eq_true rfl) (Nat.le_of_ble_eq_true rfl) ⟨by decide, by decide⟩ ⟨by decide, by decide⟩ ?_
        refine ⟨_, _, _, _, _, _, _, _, _, _, _, _, _, _, _, _, _, _, _, _, _, _, _, _, _, _, _, _, _, _, _, _, rfl, rfl, hp, hc4, b2, b3, b4, by omega, ?_⟩
        refine rn_return C rfl d_M_fitPart_312 ⟨by decide, by decide⟩ ?_
        exact k1 _ _ _
      · skip
        have q : sh has (fun _ => 1) 0 (co * ro).toNat * sh has (fun p => (rdI (ltI pic lig) le to ri bo co ro qu) p k * (rdI (ltI pic lig) le to ri bo co ro qu) p k) 0 (co * ro).toNat - sh has (fun p => (rdI (ltI pic lig) le to ri bo co ro qu) p k) 0 (co * ro).toNat * sh has (fun p => (rdI (ltI pic lig) le to ri bo co ro qu) p k) 0 (co * ro).toNat = 0 := (lI_eq ⟨by omega, by omega⟩ ⟨by omega, by omega⟩).mp c232
        simp only [if_pos q, red3] at k1
        refine rn_aload_n C d_M_fitPart_236 rfl ?_
        refine rn_iload_n C d_M_fitPart_237 rfl ?_
        refine rn_lconst C (lI 0) d_M_fitPart_238 (by decide) ?_
        refine rn_iload_n C d_M_fitPart_239 rfl ?_
        refine rn_if_eq C 248 d_M_fitPart_240 (by decide) (fun _ => ?_) (fun q => absurd rfl q)
        refine rn_lload C d_M_fitPart_248 rfl ?_
        refine rn_iload_n C d_M_fitPart_250 rfl ?_
        refine rn_if_eq C 258 d_M_fitPart_251 (by decide) (fun _ => ?_) (fun q => absurd rfl q)
        refine rn_lload C d_M_fitPart_258 rfl ?_
        refine rn_cV C (c_M_keep l) mw_M_keep k_M_141 d_M_fitPart_260 rfl (mH 0 hp rfl rfl) rfl (Nat.le_of_ble_eq_true rfl) (Nat.le_of_ble_eq_true rfl) ⟨by decide, by decide⟩ ⟨by decide, by decide⟩ ?_
        refine ⟨_, _, _, _, _, _, _, _, _, _, _, _, _, _, _, _, _, _, _, _, _, _, _, _, _, _, _, _, _, _, _, _, rfl, rfl, hp, hc4, by unfold bL; omega, b1, by unfold bL; omega, hc5, ?_⟩
        refine rn_goto C 312 d_M_fitPart_263 (by decide) ?_
        refine rn_return C rfl d_M_fitPart_312 ⟨by decide, by decide⟩ ?_
        exact k1 _ _ _
  have loop : ∀ (fl x0 y0 : Int), ((fl = 1 ∧ (0 ≤ nt ∧ nt < co * ro) ∧ x0 = (rdI (ltI pic lig) le to ri bo co ro qu) nt k ∧ y0 = tg nt k) ∨ (fl = 0 ∧ ¬ (0 ≤ nt ∧ nt < co * ro) ∧ x0 = 0 ∧ y0 = 0)) → (0 ≤ x0 ∧ x0 ≤ 255 ∧ 0 ≤ y0 ∧ y0 ≤ 255) → ∀ (j : Nat) (i n_ x_ y_ xx_ xy_ : Int) (xce xsu : Int32) (xsq : Int64), i + j = co * ro → 0 ≤ i → n_ + sh has (fun _ => 1) i j = sh has (fun _ => 1) 0 (co * ro).toNat → x_ + sh has (fun p => (rdI (ltI pic lig) le to ri bo co ro qu) p k - x0) i j = sh has (fun p => (rdI (ltI pic lig) le to ri bo co ro qu) p k - x0) 0 (co * ro).toNat → y_ + sh has (fun p => tg p k - y0) i j = sh has (fun p => tg p k - y0) 0 (co * ro).toNat → xx_ + sh has (fun p => ((rdI (ltI pic lig) le to ri bo co ro qu) p k - x0) * ((rdI (ltI pic lig) le to ri bo co ro qu) p k - x0)) i j = sh has (fun p => ((rdI (ltI pic lig) le to ri bo co ro qu) p k - x0) * ((rdI (ltI pic lig) le to ri bo co ro qu) p k - x0)) 0 (co * ro).toNat → xy_ + sh has (fun p => ((rdI (ltI pic lig) le to ri bo co ro qu) p k - x0) * (tg p k - y0)) i j = sh has (fun p => ((rdI (ltI pic lig) le to ri bo co ro qu) p k - x0) * (tg p k - y0)) 0 (co * ro).toNat → Run p l e { frames := 4, cells := 0, slots := 0, locals := 75 } s m args below meth c z sa D dA 0 0 K 22 86 [some (.ref 21), some (.int (iI k)), some (.int (iI fl)), some (.long (lI x0)), none, some (.long (lI y0)), none, some (.long (lI (n_))), none, some (.long (lI (x_))), none, some (.long (lI (y_))), none, some (.long (lI (xx_))), none, some (.long (lI (xy_))), none, some (.int (iI i))] [] (pre ++ cM xth xw xg xfo (iI le) (iI to) (iI ri) (iI bo) (iI co) (iI ro) (iI qu) (iI nt) xfi xsg xrk xdy xce xsu xsq :: aI 2700 mp :: aI 900 ml :: aZ 16 mh :: aI 48 mt :: aL 3 ma :: aL 3 mb :: aL 3 md :: rest) 0 0 := by
    intro fl x0 y0 hm hxy j
    induction j with
    | zero =>
      intro i n_ x_ y_ xx_ xy_ xce xsu xsq hi i0 e1 e2 e3 e4 e5
      rw [sh_zero, Int.add_zero] at e1 e2 e3 e4 e5
      have tl := tail fl x0 y0 xce xsu xsq hm
      rw [← e1, ← e2, ← e3, ← e4, ← e5] at tl
      refine rn_iload C d_M_fitPart_86 rfl ?_
      refine rn_aload_n C d_M_fitPart_88 rfl ?_
      refine rn_getM C hp f_M_16 d_M_fitPart_89 rfl ?_
      refine rn_aload_n C d_M_fitPart_92 rfl ?_
      refine rn_getM C hp f_M_20 d_M_fitPart_93 rfl ?_
      refine rn_imul C d_M_fitPart_96 ?_
      rw [me]
      refine rn_icmp_ge C 185 d_M_fitPart_97 (by decide) (fun _ => ?_) (fun q_97 => absurd ((iI_le ⟨by omega, by omega⟩ ⟨by omega, by omega⟩).mpr (by omega)) q_97)
      refine rn_weak (lv' := [some (.ref 21), some (.int (iI k)), some (.int (iI fl)), some (.long (lI x0)), none, some (.long (lI y0)), none, some (.long (lI (n_))), none, some (.long (lI (x_))), none, some (.long (lI (y_))), none, some (.long (lI (xx_))), none, some (.long (lI (xy_))), none]) ⟨rfl, rfl, rfl, rfl, rfl, rfl, rfl, rfl, rfl, rfl, trivial⟩ ?_
      exact tl
    | succ j ih =>
      intro i n_ x_ y_ xx_ xy_ xce xsu xsq hi i0 e1 e2 e3 e4 e5
      have hzi := hz i i0 (by omega)
      have rr_ := hrd i k i0 (by omega)
      refine rn_iload C d_M_fitPart_86 rfl ?_
      refine rn_aload_n C d_M_fitPart_88 rfl ?_
      refine rn_getM C hp f_M_16 d_M_fitPart_89 rfl ?_
      refine rn_aload_n C d_M_fitPart_92 rfl ?_
      refine rn_getM C hp f_M_20 d_M_fitPart_93 rfl ?_
      refine rn_imul C d_M_fitPart_96 ?_
      rw [me]
      refine rn_icmp_ge C 185 d_M_fitPart_97 (by decide) (fun q_97 => absurd q_97 (fun q => absurd ((iI_le ⟨by omega, by omega⟩ ⟨by omega, by omega⟩).mp q) (by omega))) (fun _ => ?_)
      refine rn_aload_n C d_M_fitPart_100 rfl ?_
      refine rn_getM C hp f_M_23 d_M_fitPart_101 rfl ?_
      refine rn_iload C d_M_fitPart_104 rfl ?_
      refine rn_zaM C hp (j := 3) d_M_fitPart_106 rfl rfl (iI_vin (by omega) (by omega) (by omega)) ?_
      rw [iI_nat i0 (by omega), hzi]
      refine rn_if_eq C 179 d_M_fitPart_107 (by decide) (fun c107 => ?_) (fun c107 => ?_)
      · skip
        refine rn_iinc C _ d_M_fitPart_179 rfl (iI_inc _) (by decide) ?_
        refine rn_goto C 86 d_M_fitPart_182 (by decide) ?_
        first
          | exact ih (i + 1) _ _ _ _ _ _ _ _ (by omega) (by omega) e1 e2 e3 e4 e5
          | (rw [sh_f (has0 c107)] at e1 e2 e3 e4 e5; exact ih (i + 1) _ _ _ _ _ _ _ _ (by omega) (by omega) e1 e2 e3 e4 e5)
          | (refine rn_weak (lv' := [some (.ref 21), some (.int (iI k)), some (.int (iI fl)), some (.long (lI x0)), none, some (.long (lI y0)), none, some (.long (lI (n_ + 1))), none, some (.long (lI (x_ + ((rdI (ltI pic lig) le to ri bo co ro qu) i k - x0)))), none, some (.long (lI (y_ + (tg i k - y0)))), none, some (.long (lI (xx_ + ((rdI (ltI pic lig) le to ri bo co ro qu) i k - x0) * ((rdI (ltI pic lig) le to ri bo co ro qu) i k - x0)))), none, some (.long (lI (xy_ + ((rdI (ltI pic lig) le to ri bo co ro qu) i k - x0) * (tg i k - y0)))), none, some (.int (iI (i + 1)))]) ⟨rfl, rfl, rfl, rfl, rfl, rfl, rfl, rfl, rfl, rfl, rfl, trivial⟩ ?_; exact ih (i + 1) _ _ _ _ _ _ _ _ (by omega) (by omega) e1 e2 e3 e4 e5)
      · skip
        have hc : has i = true := has1 c107
        rw [sh_t hc, ← Int.add_assoc] at e1 e2 e3 e4 e5
        have ti := htb i k i0 (by omega) hc4.1 hc4.2 hc
        have et := ht i k i0 (by omega) hc4.1 hc4.2 hc
        refine rn_aload_n C d_M_fitPart_110 rfl ?_
        refine rn_iload C d_M_fitPart_111 rfl ?_
        refine rn_iload_n C d_M_fitPart_113 rfl ?_
        refine rn_cV C (c_M_readOf l) mw_M_readOf k_M_130 d_M_fitPart_114 rfl (mH 0 hp rfl rfl) rfl (Nat.le_of_ble_eq_true rfl) (Nat.le_of_ble_eq_true rfl) ⟨by decide, by decide⟩ ⟨by decide, by decide⟩ ?_
        refine ⟨_, _, _, _, _, _, _, _, _, _, _, _, _, _, _, _, _, _, _, _, _, _, _, _, _, _, _, _, _, rfl, rfl, hp, hc0, hc1, hc2, ⟨i0, by omega⟩, hc4, fun _ _ _ => ?_⟩
        refine rn_i2l C d_M_fitPart_117 ?_
        rw [iI_toL ⟨by omega, by omega⟩]
        refine rn_lload_n C d_M_fitPart_118 rfl ?_
        refine rn_lsub C d_M_fitPart_119 ?_
        rw [lI_sub]
        refine rn_lstore C d_M_fitPart_120 (by decide) ?_
        refine rn_aload_n C d_M_fitPart_122 rfl ?_
        refine rn_getM C hp f_M_27 d_M_fitPart_123 rfl ?_
        refine rn_iconst C (iI 3) d_M_fitPart_126 (by decide) ?_
        refine rn_iload C d_M_fitPart_127 rfl ?_
        refine rn_imul C d_M_fitPart_129 ?_
        refine rn_iload_n C d_M_fitPart_130 rfl ?_
        refine rn_iadd C d_M_fitPart_131 ?_
        rw [iI_mul, iI_add, show 3 * i + k = i * 3 + k by omega]
        refine rn_iaM C hp (j := 4) d_M_fitPart_132 rfl rfl (iI_vin (by omega) (by omega) (by omega)) ?_
        rw [iI_nat (by omega) (by omega), et]
        refine rn_i2l C d_M_fitPart_133 ?_
        rw [iI_toL ⟨by omega, by omega⟩]
        refine rn_lload C d_M_fitPart_134 rfl ?_
        refine rn_lsub C d_M_fitPart_136 ?_
        rw [lI_sub]
        refine rn_lstore C d_M_fitPart_137 (by decide) ?_
        refine rn_lload C d_M_fitPart_139 rfl ?_
        refine rn_lconst C (lI 1) d_M_fitPart_141 (by decide) ?_
        refine rn_ladd C d_M_fitPart_142 ?_
        rw [lI_add]
        refine rn_lstore C d_M_fitPart_143 (by decide) ?_
        refine rn_lload C d_M_fitPart_145 rfl ?_
        refine rn_lload C d_M_fitPart_147 rfl ?_
        refine rn_ladd C d_M_fitPart_149 ?_
        rw [lI_add]
        refine rn_lstore C d_M_fitPart_150 (by decide) ?_
        refine rn_lload C d_M_fitPart_152 rfl ?_
        refine rn_lload C d_M_fitPart_154 rfl ?_
        refine rn_ladd C d_M_fitPart_156 ?_
        rw [lI_add]
        refine rn_lstore C d_M_fitPart_157 (by decide) ?_
        refine rn_lload C d_M_fitPart_159 rfl ?_
        refine rn_lload C d_M_fitPart_161 rfl ?_
        refine rn_lload C d_M_fitPart_163 rfl ?_
        refine rn_lmul C d_M_fitPart_165 ?_
        refine rn_ladd C d_M_fitPart_166 ?_
        rw [lI_mul, lI_add]
        refine rn_lstore C d_M_fitPart_167 (by decide) ?_
        refine rn_lload C d_M_fitPart_169 rfl ?_
        refine rn_lload C d_M_fitPart_171 rfl ?_
        refine rn_lload C d_M_fitPart_173 rfl ?_
        refine rn_lmul C d_M_fitPart_175 ?_
        refine rn_ladd C d_M_fitPart_176 ?_
        rw [lI_mul, lI_add]
        refine rn_lstore C d_M_fitPart_177 (by decide) ?_
        refine rn_iinc C _ d_M_fitPart_179 rfl (iI_inc _) (by decide) ?_
        refine rn_goto C 86 d_M_fitPart_182 (by decide) ?_
        first
          | exact ih (i + 1) _ _ _ _ _ _ _ _ (by omega) (by omega) e1 e2 e3 e4 e5
          | (rw [sh_f (has0 c107)] at e1 e2 e3 e4 e5; exact ih (i + 1) _ _ _ _ _ _ _ _ (by omega) (by omega) e1 e2 e3 e4 e5)
          | (refine rn_weak (lv' := [some (.ref 21), some (.int (iI k)), some (.int (iI fl)), some (.long (lI x0)), none, some (.long (lI y0)), none, some (.long (lI (n_ + 1))), none, some (.long (lI (x_ + ((rdI (ltI pic lig) le to ri bo co ro qu) i k - x0)))), none, some (.long (lI (y_ + (tg i k - y0)))), none, some (.long (lI (xx_ + ((rdI (ltI pic lig) le to ri bo co ro qu) i k - x0) * ((rdI (ltI pic lig) le to ri bo co ro qu) i k - x0)))), none, some (.long (lI (xy_ + ((rdI (ltI pic lig) le to ri bo co ro qu) i k - x0) * (tg i k - y0)))), none, some (.int (iI (i + 1)))]) ⟨rfl, rfl, rfl, rfl, rfl, rfl, rfl, rfl, rfl, rfl, rfl, trivial⟩ ?_; exact ih (i + 1) _ _ _ _ _ _ _ _ (by omega) (by omega) e1 e2 e3 e4 e5)
  have main : ∀ (fl x0 y0 : Int) (xce xsu : Int32) (xsq : Int64), ((fl = 1 ∧ (0 ≤ nt ∧ nt < co * ro) ∧ x0 = (rdI (ltI pic lig) le to ri bo co ro qu) nt k ∧ y0 = tg nt k) ∨ (fl = 0 ∧ ¬ (0 ≤ nt ∧ nt < co * ro) ∧ x0 = 0 ∧ y0 = 0)) → (0 ≤ x0 ∧ x0 ≤ 255 ∧ 0 ≤ y0 ∧ y0 ≤ 255) → Run p l e { frames := 4, cells := 0, slots := 0, locals := 75 } s m args below meth c z sa D dA 0 0 K 22 68 [some (.ref 21), some (.int (iI k)), some (.int (iI fl)), some (.long (lI x0)), none, some (.long (lI y0)), none] [] (pre ++ cM xth xw xg xfo (iI le) (iI to) (iI ri) (iI bo) (iI co) (iI ro) (iI qu) (iI nt) xfi xsg xrk xdy xce xsu xsq :: aI 2700 mp :: aI 900 ml :: aZ 16 mh :: aI 48 mt :: aL 3 ma :: aL 3 mb :: aL 3 md :: rest) 0 0 := by
    intro fl x0 y0 xce xsu xsq hm hxy
    refine rn_lconst C (lI 0) d_M_fitPart_68 (by decide) ?_
    refine rn_lstore C d_M_fitPart_69 (by decide) ?_
    refine rn_lconst C (lI 0) d_M_fitPart_71 (by decide) ?_
    refine rn_lstore C d_M_fitPart_72 (by decide) ?_
    refine rn_lconst C (lI 0) d_M_fitPart_74 (by decide) ?_
    refine rn_lstore C d_M_fitPart_75 (by decide) ?_
    refine rn_lconst C (lI 0) d_M_fitPart_77 (by decide) ?_
    refine rn_lstore C d_M_fitPart_78 (by decide) ?_
    refine rn_lconst C (lI 0) d_M_fitPart_80 (by decide) ?_
    refine rn_lstore C d_M_fitPart_81 (by decide) ?_
    refine rn_iconst C (iI 0) d_M_fitPart_83 (by decide) ?_
    refine rn_istore C d_M_fitPart_84 (by decide) ?_
    exact loop fl x0 y0 hm hxy (co * ro).toNat 0 0 0 0 0 0 _ _ _ (by omega) (by omega) (by omega) (by omega) (by omega) (by omega) (by omega)
  refine rn_aload_n C d_M_fitPart_0 rfl ?_
  refine rn_getM C hp f_M_30 d_M_fitPart_1 rfl ?_
  refine rn_iconst C (iI (-1)) d_M_fitPart_4 (by decide) ?_
  refine rn_icmp_eq C 23 d_M_fitPart_5 (by decide) (fun c5 => ?_) (fun c5 => ?_)
  · skip
    first
      | (have hh : ¬ (0 ≤ nt ∧ nt < co * ro) := fun w => absurd ((iI_eq ⟨by omega, by omega⟩ ⟨by omega, by omega⟩).mp c5) (by omega))
      | have hh := q13
    refine rn_iconst C (iI 0) d_M_fitPart_23 (by decide) ?_
    refine rn_istore_n C d_M_fitPart_24 (by decide) ?_
    refine rn_iload_n C d_M_fitPart_25 rfl ?_
    refine rn_if_eq C 42 d_M_fitPart_26 (by decide) (fun _ => ?_) (fun q => absurd rfl q)
    refine rn_lconst C (lI 0) d_M_fitPart_42 (by decide) ?_
    refine rn_lstore_n C d_M_fitPart_43 (by decide) ?_
    refine rn_iload_n C d_M_fitPart_44 rfl ?_
    refine rn_if_eq C 65 d_M_fitPart_45 (by decide) (fun _ => ?_) (fun q => absurd rfl q)
    refine rn_lconst C (lI 0) d_M_fitPart_65 (by decide) ?_
    refine rn_lstore C d_M_fitPart_66 (by decide) ?_
    first | exact main _ _ _ _ _ _ (Or.inl ⟨rfl, hh, rfl, rfl⟩) ⟨r0.1, r0.2, t0.1, t0.2⟩ | exact main _ _ _ _ _ _ (Or.inr ⟨rfl, hh, rfl, rfl⟩) ⟨by omega, by omega, by omega, by omega⟩
  · skip
    refine rn_aload_n C d_M_fitPart_8 rfl ?_
    refine rn_aload_n C d_M_fitPart_9 rfl ?_
    refine rn_getM C hp f_M_30 d_M_fitPart_10 rfl ?_
    refine rn_cV C (c_M_isPatch l) mw_M_isPatch k_M_126 d_M_fitPart_13 rfl (mH 0 hp rfl rfl) rfl (Nat.le_of_ble_eq_true rfl) (Nat.le_of_ble_eq_true rfl) ⟨by decide, by decide⟩ ⟨by decide, by decide⟩ ?_
    refine ⟨_, _, _, _, _, _, _, _, _, _, _, _, _, _, _, _, _, _, _, _, _, _, rfl, rfl, hp, ⟨by omega, by omega⟩, (by assumption), fun q13 => ?_, fun q13 => ?_⟩
    · skip
      refine rn_if_eq C 23 d_M_fitPart_16 (by decide) (fun q => absurd q (by decide)) (fun _ => ?_)
      have hh := q13
      refine rn_iconst C (iI 1) d_M_fitPart_19 (by decide) ?_
      refine rn_goto C 24 d_M_fitPart_20 (by decide) ?_
      refine rn_istore_n C d_M_fitPart_24 (by decide) ?_
      refine rn_iload_n C d_M_fitPart_25 rfl ?_
      refine rn_if_eq C 42 d_M_fitPart_26 (by decide) (fun q => absurd q (by decide)) (fun _ => ?_)
      refine rn_aload_n C d_M_fitPart_29 rfl ?_
      refine rn_aload_n C d_M_fitPart_30 rfl ?_
      refine rn_getM C hp f_M_30 d_M_fitPart_31 rfl ?_
      refine rn_iload_n C d_M_fitPart_34 rfl ?_
      refine rn_cV C (c_M_readOf l) mw_M_readOf k_M_130 d_M_fitPart_35 rfl (mH 0 hp rfl rfl) rfl (Nat.le_of_ble_eq_true rfl) (Nat.le_of_ble_eq_true rfl) ⟨by decide, by decide⟩ ⟨by decide, by decide⟩ ?_
      have r0 := hrd nt k hh.1 (by omega)
      have t0 := htb nt k hh.1 (by omega) hc4.1 hc4.2 (hnt hh.1)
      have et := ht nt k hh.1 (by omega) hc4.1 hc4.2 (hnt hh.1)
      refine ⟨_, _, _, _, _, _, _, _, _, _, _, _, _, _, _, _, _, _, _, _, _, _, _, _, _, _, _, _, _, rfl, rfl, hp, hc0, hc1, hc2, hh, hc4, fun _ _ _ => ?_⟩
      refine rn_i2l C d_M_fitPart_38 ?_
      rw [iI_toL ⟨by omega, by omega⟩]
      refine rn_goto C 43 d_M_fitPart_39 (by decide) ?_
      refine rn_lstore_n C d_M_fitPart_43 (by decide) ?_
      refine rn_iload_n C d_M_fitPart_44 rfl ?_
      refine rn_if_eq C 65 d_M_fitPart_45 (by decide) (fun q => absurd q (by decide)) (fun _ => ?_)
      refine rn_aload_n C d_M_fitPart_48 rfl ?_
      refine rn_getM C hp f_M_27 d_M_fitPart_49 rfl ?_
      refine rn_iconst C (iI 3) d_M_fitPart_52 (by decide) ?_
      refine rn_aload_n C d_M_fitPart_53 rfl ?_
      refine rn_getM C hp f_M_30 d_M_fitPart_54 rfl ?_
      refine rn_imul C d_M_fitPart_57 ?_
      refine rn_iload_n C d_M_fitPart_58 rfl ?_
      refine rn_iadd C d_M_fitPart_59 ?_
      rw [iI_mul, iI_add, show 3 * nt + k = nt * 3 + k by omega]
      refine rn_iaM C hp (j := 4) d_M_fitPart_60 rfl rfl (iI_vin (by omega) (by omega) (by omega)) ?_
      rw [iI_nat (by omega) (by omega), et]
      refine rn_i2l C d_M_fitPart_61 ?_
      rw [iI_toL ⟨by omega, by omega⟩]
      refine rn_goto C 66 d_M_fitPart_62 (by decide) ?_
      refine rn_lstore C d_M_fitPart_66 (by decide) ?_
      first | exact main _ _ _ _ _ _ (Or.inl ⟨rfl, hh, rfl, rfl⟩) ⟨r0.1, r0.2, t0.1, t0.2⟩ | exact main _ _ _ _ _ _ (Or.inr ⟨rfl, hh, rfl, rfl⟩) ⟨by omega, by omega, by omega, by omega⟩
    · skip
      refine rn_if_eq C 23 d_M_fitPart_16 (by decide) (fun _ => ?_) (fun q => absurd rfl q)
      first
        | (have hh : ¬ (0 ≤ nt ∧ nt < co * ro) := fun w => absurd ((iI_eq ⟨by omega, by omega⟩ ⟨by omega, by omega⟩).mp c5) (by omega))
        | have hh := q13
      refine rn_iconst C (iI 0) d_M_fitPart_23 (by decide) ?_
      refine rn_istore_n C d_M_fitPart_24 (by decide) ?_
      refine rn_iload_n C d_M_fitPart_25 rfl ?_
      refine rn_if_eq C 42 d_M_fitPart_26 (by decide) (fun _ => ?_) (fun q => absurd rfl q)
      refine rn_lconst C (lI 0) d_M_fitPart_42 (by decide) ?_
      refine rn_lstore_n C d_M_fitPart_43 (by decide) ?_
      refine rn_iload_n C d_M_fitPart_44 rfl ?_
      refine rn_if_eq C 65 d_M_fitPart_45 (by decide) (fun _ => ?_) (fun q => absurd rfl q)
      refine rn_lconst C (lI 0) d_M_fitPart_65 (by decide) ?_
      refine rn_lstore C d_M_fitPart_66 (by decide) ?_
      first | exact main _ _ _ _ _ _ (Or.inl ⟨rfl, hh, rfl, rfl⟩) ⟨r0.1, r0.2, t0.1, t0.2⟩ | exact main _ _ _ _ _ _ (Or.inr ⟨rfl, hh, rfl, rfl⟩) ⟨by omega, by omega, by omega, by omega⟩

def G_M_fit (av : List Value) (h : ah_H) (K : ah_R → ah_H → Prop) : Prop := ∃ (pre rest : ah_H) (xth xw xg xsg xrk xdy xce xsu : Int32) (xsq : Int64) (mp ml mh mt : Nat → Int32) (ma mb md : Nat → Int64) (w g le to ri bo co ro qu nt fo fi : Int) (pic : Int → Int → Int → Int) (lig : Int → Int → Int) (has : Int → Bool) (tg : Int → Int → Int), av = [.ref 21] ∧ h = pre ++ cM xth xw xg (iI fo) (iI le) (iI to) (iI ri) (iI bo) (iI co) (iI ro) (iI qu) (iI nt) (iI fi) xsg xrk xdy xce xsu xsq :: aI 2700 mp :: aI 900 ml :: aZ 16 mh :: aI 48 mt :: aL 3 ma :: aL 3 mb :: aL 3 md :: rest ∧ pre.length = 21 ∧ (fo = 0 ∨ fo = 1) ∧ (fi = 0 ∨ fi = 1) ∧ (mpOk mp ml pic lig) ∧ (lyOk co ro qu) ∧ (fo = 1 → frOk le to ri bo w g) ∧ (zOk 16 mh has ∧ tOk mt has tg ∧ tgB tg has ∧ (0 ≤ nt → has nt = true) ∧ -1 ≤ nt ∧ nt < 16) ∧ (fo = 0 → K (.inl (some (.int (iI 0)))) (pre ++ cM (iI 1) xw xg (iI fo) (iI le) (iI to) (iI ri) (iI bo) (iI co) (iI ro) (iI qu) (iI nt) (iI fi) xsg xrk xdy xce xsu xsq :: aI 2700 mp :: aI 900 ml :: aZ 16 mh :: aI 48 mt :: aL 3 ma :: aL 3 mb :: aL 3 md :: rest)) ∧ (fo = 1 → sh has (fun _ => 1) 0 (co * ro).toNat < 2 → K (.inl (some (.int (iI (sh has (fun _ => 1) 0 (co * ro).toNat))))) (pre ++ cM (iI 0) xw xg (iI fo) (iI le) (iI to) (iI ri) (iI bo) (iI co) (iI ro) (iI qu) (iI nt) (iI fi) xsg xrk xdy xce xsu xsq :: aI 2700 mp :: aI 900 ml :: aZ 16 mh :: aI 48 mt :: aL 3 ma :: aL 3 mb :: aL 3 md :: rest)) ∧ (fo = 1 → 2 ≤ sh has (fun _ => 1) 0 (co * ro).toNat → ∀ (ma mb md : Nat → Int64) (xce xsu : Int32) (xsq : Int64), (∀ j : Int, 0 ≤ j → j < 3 → ma j.toNat = lI (fitK (rdI (ltI pic lig) le to ri bo co ro qu) tg has nt (co * ro).toNat j).1 ∧ mb j.toNat = lI (fitK (rdI (ltI pic lig) le to ri bo co ro qu) tg has nt (co * ro).toNat j).2.1 ∧ md j.toNat = lI (fitK (rdI (ltI pic lig) le to ri bo co ro qu) tg has nt (co * ro).toNat j).2.2) → K (.inl (some (.int (iI (sh has (fun _ => 1) 0 (co * ro).toNat))))) (pre ++ cM (iI 0) xw xg (iI fo) (iI le) (iI to) (iI ri) (iI bo) (iI co) (iI ro) (iI qu) (iI nt) (iI 1) xsg xrk xdy xce xsu xsq :: aI 2700 mp :: aI 900 ml :: aZ 16 mh :: aI 48 mt :: aL 3 ma :: aL 3 mb :: aL 3 md :: rest))
set_option maxHeartbeats 4000000 in
set_option maxRecDepth 100000 in
theorem c_M_fit (l : Launch) : rn_Met l y_M_fit wc_M_fit { frames := 5, cells := 0, slots := 0, locals := 116 } G_M_fit := by
  refine rn_in mw_M_fit.1 (by decide +kernel) ?_ ?_
  · intro _ av h K hG
    obtain ⟨pre, rest, xth, xw, xg, xsg, xrk, xdy, xce, xsu, xsq, mp, ml, mh, mt, ma, mb, md, w, g, le, to, ri, bo, co, ro, qu, nt, fo, fi, pic, lig, has, tg, rfl, rfl, hp, hc0, hc1, hc2, hc3, hc4, hc5, k1, k2, k3⟩ := hG
    exact Nat.le_of_ble_eq_true rfl
  intro p e s m args below meth c z sa D dA av h K hadm C hG
  obtain ⟨pre, rest, xth, xw, xg, xsg, xrk, xdy, xce, xsu, xsq, mp, ml, mh, mt, ma, mb, md, w, g, le, to, ri, bo, co, ro, qu, nt, fo, fi, pic, lig, has, tg, rfl, rfl, hp, hc0, hc1, hc2, hc3, hc4, hc5, k1, k2, k3⟩ := hG
  have hy' := hc3
  unfold lyOk at hy'
  obtain ⟨hz, ht, htb, hnt, nt0, nt1⟩ := hc5
  have mq := mbd (A := 4) (B := 4) (a := co) (b := ro) (by omega) (by omega)
  have mp0 : 0 < co * ro := Int.mul_pos (by omega) (by omega)
  have me : iI co * iI ro = iI (co * ro) := iI_mul _ _
  have hN : ((co * ro).toNat : Int) = co * ro := by omega
  have hsn := sm_has_le has (co * ro).toNat 0
  rw [← sh_one] at hsn
  have loop : fo = 1 → 2 ≤ sh has (fun _ => 1) 0 (co * ro).toNat → ∀ (j : Nat) (i : Int) (ma mb md : Nat → Int64) (xce xsu : Int32) (xsq : Int64), i + j = 3 → 0 ≤ i → (∀ j : Int, 0 ≤ j → j < i → ma j.toNat = lI (fitK (rdI (ltI pic lig) le to ri bo co ro qu) tg has nt (co * ro).toNat j).1 ∧ mb j.toNat = lI (fitK (rdI (ltI pic lig) le to ri bo co ro qu) tg has nt (co * ro).toNat j).2.1 ∧ md j.toNat = lI (fitK (rdI (ltI pic lig) le to ri bo co ro qu) tg has nt (co * ro).toNat j).2.2) → Run p l e { frames := 5, cells := 0, slots := 0, locals := 116 } s m args below meth c z sa D dA 0 0 K 3 57 [some (.ref 21), some (.int (iI (sh has (fun _ => 1) 0 (co * ro).toNat))), some (.int (iI i))] [] (pre ++ cM (iI 0) xw xg (iI fo) (iI le) (iI to) (iI ri) (iI bo) (iI co) (iI ro) (iI qu) (iI nt) (iI fi) xsg xrk xdy xce xsu xsq :: aI 2700 mp :: aI 900 ml :: aZ 16 mh :: aI 48 mt :: aL 3 ma :: aL 3 mb :: aL 3 md :: rest) 0 0 := by
    intro hfo1 h2 j
    induction j with
    | zero =>
      intro i ma mb md xce xsu xsq hi i0 hl
      refine rn_iload_n C d_M_fit_57 rfl ?_
      refine rn_iconst C (iI 3) d_M_fit_58 (by decide) ?_
      refine rn_icmp_ge C 78 d_M_fit_59 (by decide) (fun _ => ?_) (fun q_59 => absurd ((iI_le ⟨by omega, by omega⟩ ⟨by omega, by omega⟩).mpr (by omega)) q_59)
      refine rn_aload_n C d_M_fit_78 rfl ?_
      refine rn_aload_n C d_M_fit_79 rfl ?_
      refine rn_getM C hp f_M_149 d_M_fit_80 rfl ?_
      refine rn_if_ne C 91 d_M_fit_83 (by decide) (fun c83 => ?_) (fun c83 => ?_)
      · skip
        refine rn_iconst C (iI 1) d_M_fit_91 (by decide) ?_
        refine rn_goto C 96 d_M_fit_92 (by decide) ?_
        refine rn_putM C hp f_M_149 ft_M fn_M_16 d_M_fit_96 (Nat.le_of_ble_eq_true rfl) (fun _ _ => ⟨rfl, rfl⟩) rfl ?_
        refine rn_iload_n C d_M_fit_99 rfl ?_
        refine rn_ireturn C rfl rfl d_M_fit_100 ⟨by decide, by decide⟩ ?_
        exact k3 hfo1 h2 _ _ _ _ _ _ (fun j h1 h2 => hl j h1 (by omega))
      · skip
        refine rn_iload_n C d_M_fit_86 rfl ?_
        refine rn_iconst C (iI 1) d_M_fit_87 (by decide) ?_
        refine rn_icmp_le C 95 d_M_fit_88 (by decide) (fun q_88 => absurd q_88 (fun q => absurd ((iI_le ⟨by omega, by omega⟩ ⟨by omega, by omega⟩).mp q) (by omega))) (fun _ => ?_)
        refine rn_iconst C (iI 1) d_M_fit_91 (by decide) ?_
        refine rn_goto C 96 d_M_fit_92 (by decide) ?_
        refine rn_putM C hp f_M_149 ft_M fn_M_16 d_M_fit_96 (Nat.le_of_ble_eq_true rfl) (fun _ _ => ⟨rfl, rfl⟩) rfl ?_
        refine rn_iload_n C d_M_fit_99 rfl ?_
        refine rn_ireturn C rfl rfl d_M_fit_100 ⟨by decide, by decide⟩ ?_
        exact k3 hfo1 h2 _ _ _ _ _ _ (fun j h1 h2 => hl j h1 (by omega))
    | succ j ih =>
      intro i ma mb md xce xsu xsq hi i0 hl
      refine rn_iload_n C d_M_fit_57 rfl ?_
      refine rn_iconst C (iI 3) d_M_fit_58 (by decide) ?_
      refine rn_icmp_ge C 78 d_M_fit_59 (by decide) (fun q_59 => absurd q_59 (fun q => absurd ((iI_le ⟨by omega, by omega⟩ ⟨by omega, by omega⟩).mp q) (by omega))) (fun _ => ?_)
      refine rn_iload_n C d_M_fit_62 rfl ?_
      refine rn_iconst C (iI 1) d_M_fit_63 (by decide) ?_
      refine rn_icmp_le C 78 d_M_fit_64 (by decide) (fun q_64 => absurd q_64 (fun q => absurd ((iI_le ⟨by omega, by omega⟩ ⟨by omega, by omega⟩).mp q) (by omega))) (fun _ => ?_)
      refine rn_aload_n C d_M_fit_67 rfl ?_
      refine rn_iload_n C d_M_fit_68 rfl ?_
      refine rn_cV C (c_M_fitPart l) mw_M_fitPart k_M_145 d_M_fit_69 rfl (mH 0 hp rfl rfl) rfl (Nat.le_of_ble_eq_true rfl) (Nat.le_of_ble_eq_true rfl) ⟨by decide, by decide⟩ ⟨by decide, by decide⟩ ?_
      refine ⟨_, _, _, _, _, _, _, _, _, _, _, _, _, _, _, _, _, _, _, _, _, _, _, _, _, _, _, _, _, _, _, _, _, _, _, rfl, rfl, hp, hc2, hc4 hfo1, hc3, ⟨hz, ht, htb, hnt, nt0, nt1⟩, ⟨i0, by omega⟩, by omega, fun _ _ _ => ?_⟩
      refine rn_iinc C _ d_M_fit_72 rfl (iI_inc _) (by decide) ?_
      refine rn_goto C 57 d_M_fit_75 (by decide) ?_
      refine ih (i + 1) _ _ _ _ _ _ (by omega) (by omega) (fun q h1 h2 => ?_)
      by_cases hq : q = i
      · subst hq; exact ⟨vp_updL_same _ _ _, vp_updL_same _ _ _, vp_updL_same _ _ _⟩
      · have hq2 : q.toNat ≠ i.toNat := by omega
        rw [vp_updL_other _ _ hq2, vp_updL_other _ _ hq2, vp_updL_other _ _ hq2]
        exact hl q h1 (by omega)
  have cl : fo = 1 → ∀ (j : Nat) (i a : Int), i + j = co * ro → 0 ≤ i → a + sh has (fun _ => 1) i j = sh has (fun _ => 1) 0 (co * ro).toNat → Run p l e { frames := 5, cells := 0, slots := 0, locals := 116 } s m args below meth c z sa D dA 0 0 K 3 19 [some (.ref 21), some (.int (iI a)), some (.int (iI i))] [] (pre ++ cM (iI 0) xw xg (iI fo) (iI le) (iI to) (iI ri) (iI bo) (iI co) (iI ro) (iI qu) (iI nt) (iI fi) xsg xrk xdy xce xsu xsq :: aI 2700 mp :: aI 900 ml :: aZ 16 mh :: aI 48 mt :: aL 3 ma :: aL 3 mb :: aL 3 md :: rest) 0 0 := by
    intro hfo1 j
    induction j with
    | zero =>
      intro i a hi i0 e
      rw [sh_zero, Int.add_zero] at e
      subst e
      refine rn_iload_n C d_M_fit_19 rfl ?_
      refine rn_aload_n C d_M_fit_20 rfl ?_
      refine rn_getM C hp f_M_16 d_M_fit_21 rfl ?_
      refine rn_aload_n C d_M_fit_24 rfl ?_
      refine rn_getM C hp f_M_20 d_M_fit_25 rfl ?_
      refine rn_imul C d_M_fit_28 ?_
      rw [me]
      refine rn_icmp_ge C 55 d_M_fit_29 (by decide) (fun _ => ?_) (fun q_29 => absurd ((iI_le ⟨by omega, by omega⟩ ⟨by omega, by omega⟩).mpr (by omega)) q_29)
      refine rn_iconst C (iI 0) d_M_fit_55 (by decide) ?_
      refine rn_istore_n C d_M_fit_56 (by decide) ?_
      by_cases h2 : 2 ≤ sh has (fun _ => 1) 0 (co * ro).toNat
      · exact loop hfo1 h2 3 0 _ _ _ _ _ _ (by omega) (by omega) (fun q h1 h2 => by omega)
      · have k2 := k2 hfo1 (by omega)
        refine rn_iload_n C d_M_fit_57 rfl ?_
        refine rn_iconst C (iI 3) d_M_fit_58 (by decide) ?_
        refine rn_icmp_ge C 78 d_M_fit_59 (by decide) (fun q_59 => absurd q_59 (fun q => absurd ((iI_le ⟨by omega, by omega⟩ ⟨by omega, by omega⟩).mp q) (by omega))) (fun _ => ?_)
        refine rn_iload_n C d_M_fit_62 rfl ?_
        refine rn_iconst C (iI 1) d_M_fit_63 (by decide) ?_
        refine rn_icmp_le C 78 d_M_fit_64 (by decide) (fun _ => ?_) (fun q_64 => absurd ((iI_le ⟨by omega, by omega⟩ ⟨by omega, by omega⟩).mpr (by omega)) q_64)
        refine rn_aload_n C d_M_fit_78 rfl ?_
        refine rn_aload_n C d_M_fit_79 rfl ?_
        refine rn_getM C hp f_M_149 d_M_fit_80 rfl ?_
        refine rn_if_ne C 91 d_M_fit_83 (by decide) (fun c83 => ?_) (fun c83 => ?_)
        · skip
          have hf1 := flag1 hc1 c83
          subst hf1
          refine rn_iconst C (iI 1) d_M_fit_91 (by decide) ?_
          refine rn_goto C 96 d_M_fit_92 (by decide) ?_
          refine rn_putM C hp f_M_149 ft_M fn_M_16 d_M_fit_96 (Nat.le_of_ble_eq_true rfl) (fun _ _ => ⟨rfl, rfl⟩) rfl ?_
          refine rn_iload_n C d_M_fit_99 rfl ?_
          refine rn_ireturn C rfl rfl d_M_fit_100 ⟨by decide, by decide⟩ ?_
          exact k2
        · skip
          refine rn_iload_n C d_M_fit_86 rfl ?_
          refine rn_iconst C (iI 1) d_M_fit_87 (by decide) ?_
          refine rn_icmp_le C 95 d_M_fit_88 (by decide) (fun _ => ?_) (fun q_88 => absurd ((iI_le ⟨by omega, by omega⟩ ⟨by omega, by omega⟩).mpr (by omega)) q_88)
          have hf1 := flag0 hc1 c83
          subst hf1
          refine rn_iconst C (iI 0) d_M_fit_95 (by decide) ?_
          refine rn_putM C hp f_M_149 ft_M fn_M_16 d_M_fit_96 (Nat.le_of_ble_eq_true rfl) (fun _ _ => ⟨rfl, rfl⟩) rfl ?_
          refine rn_iload_n C d_M_fit_99 rfl ?_
          refine rn_ireturn C rfl rfl d_M_fit_100 ⟨by decide, by decide⟩ ?_
          exact k2
    | succ j ih =>
      intro i a hi i0 e
      have hzi := hz i i0 (by omega)
      refine rn_iload_n C d_M_fit_19 rfl ?_
      refine rn_aload_n C d_M_fit_20 rfl ?_
      refine rn_getM C hp f_M_16 d_M_fit_21 rfl ?_
      refine rn_aload_n C d_M_fit_24 rfl ?_
      refine rn_getM C hp f_M_20 d_M_fit_25 rfl ?_
      refine rn_imul C d_M_fit_28 ?_
      rw [me]
      refine rn_icmp_ge C 55 d_M_fit_29 (by decide) (fun q_29 => absurd q_29 (fun q => absurd ((iI_le ⟨by omega, by omega⟩ ⟨by omega, by omega⟩).mp q) (by omega))) (fun _ => ?_)
      refine rn_aload_n C d_M_fit_32 rfl ?_
      refine rn_getM C hp f_M_23 d_M_fit_33 rfl ?_
      refine rn_iload_n C d_M_fit_36 rfl ?_
      refine rn_zaM C hp (j := 3) d_M_fit_37 rfl rfl (iI_vin (by omega) (by omega) (by omega)) ?_
      rw [iI_nat i0 (by omega), hzi]
      refine rn_if_eq C 47 d_M_fit_38 (by decide) (fun c38 => ?_) (fun c38 => ?_)
      · skip
        refine rn_iload_n C d_M_fit_47 rfl ?_
        refine rn_istore_n C d_M_fit_48 (by decide) ?_
        refine rn_iinc C _ d_M_fit_49 rfl (iI_inc _) (by decide) ?_
        refine rn_goto C 19 d_M_fit_52 (by decide) ?_
        first
          | (rw [sh_t (has1 c38), ← Int.add_assoc] at e; exact ih (i + 1) (a + 1) (by omega) (by omega) e)
          | (rw [sh_f (has0 c38)] at e; exact ih (i + 1) a (by omega) (by omega) e)
      · skip
        refine rn_iload_n C d_M_fit_41 rfl ?_
        refine rn_iconst C (iI 1) d_M_fit_42 (by decide) ?_
        refine rn_iadd C d_M_fit_43 ?_
        rw [iI_add]
        refine rn_goto C 48 d_M_fit_44 (by decide) ?_
        refine rn_istore_n C d_M_fit_48 (by decide) ?_
        refine rn_iinc C _ d_M_fit_49 rfl (iI_inc _) (by decide) ?_
        refine rn_goto C 19 d_M_fit_52 (by decide) ?_
        first
          | (rw [sh_t (has1 c38), ← Int.add_assoc] at e; exact ih (i + 1) (a + 1) (by omega) (by omega) e)
          | (rw [sh_f (has0 c38)] at e; exact ih (i + 1) a (by omega) (by omega) e)
  rcases hc0 with rfl | rfl
  · skip
    refine rn_aload_n C d_M_fit_0 rfl ?_
    refine rn_aload_n C d_M_fit_1 rfl ?_
    refine rn_getM C hp f_M_101 d_M_fit_2 rfl ?_
    refine rn_iconst C (iI 1) d_M_fit_5 (by decide) ?_
    refine rn_iconst C (iI 1) d_M_fit_6 (by decide) ?_
    refine rn_cV C (c_M_goes l) mw_M_goes k_M_78 d_M_fit_7 rfl (mH 0 hp rfl rfl) rfl (Nat.le_of_ble_eq_true rfl) (Nat.le_of_ble_eq_true rfl) ⟨by decide, by decide⟩ ⟨by decide, by decide⟩ ?_
    refine ⟨_, _, _, _, _, _, _, _, _, _, _, _, _, _, _, _, _, _, _, _, _, _, _, _, rfl, rfl, hp, ?_⟩
    refine rn_if_ne C 15 d_M_fit_10 (by decide) (fun q => absurd rfl q) (fun _ => ?_)
    refine rn_iconst C (iI 0) d_M_fit_13 (by decide) ?_
    refine rn_ireturn C rfl rfl d_M_fit_14 ⟨by decide, by decide⟩ ?_
    exact k1 rfl
  · skip
    refine rn_aload_n C d_M_fit_0 rfl ?_
    refine rn_aload_n C d_M_fit_1 rfl ?_
    refine rn_getM C hp f_M_101 d_M_fit_2 rfl ?_
    refine rn_iconst C (iI 1) d_M_fit_5 (by decide) ?_
    refine rn_iconst C (iI 1) d_M_fit_6 (by decide) ?_
    refine rn_cV C (c_M_goes l) mw_M_goes k_M_78 d_M_fit_7 rfl (mH 0 hp rfl rfl) rfl (Nat.le_of_ble_eq_true rfl) (Nat.le_of_ble_eq_true rfl) ⟨by decide, by decide⟩ ⟨by decide, by decide⟩ ?_
    refine ⟨_, _, _, _, _, _, _, _, _, _, _, _, _, _, _, _, _, _, _, _, _, _, _, _, rfl, rfl, hp, ?_⟩
    refine rn_if_ne C 15 d_M_fit_10 (by decide) (fun _ => ?_) (fun q => absurd q (by decide))
    refine rn_iconst C (iI 0) d_M_fit_15 (by decide) ?_
    refine rn_istore_n C d_M_fit_16 (by decide) ?_
    refine rn_iconst C (iI 0) d_M_fit_17 (by decide) ?_
    refine rn_istore_n C d_M_fit_18 (by decide) ?_
    exact cl rfl (co * ro).toNat 0 0 (by omega) (by omega) (by omega)

def G_M_differs (av : List Value) (h : ah_H) (K : ah_R → ah_H → Prop) : Prop := ∃ (pre rest : ah_H) (xth xw xg xfo xnt xfi xsg xrk xdy xce xsu : Int32) (xsq : Int64) (mp ml mh mt : Nat → Int32) (ma mb md : Nat → Int64) (w g le to ri bo co ro qu p : Int) (pic : Int → Int → Int → Int) (lig : Int → Int → Int) (has : Int → Bool) (tg : Int → Int → Int) (A B D : Int → Int), av = [.ref 21, .int (iI p)] ∧ h = pre ++ cM xth xw xg xfo (iI le) (iI to) (iI ri) (iI bo) (iI co) (iI ro) (iI qu) xnt xfi xsg xrk xdy xce xsu xsq :: aI 2700 mp :: aI 900 ml :: aZ 16 mh :: aI 48 mt :: aL 3 ma :: aL 3 mb :: aL 3 md :: rest ∧ pre.length = 21 ∧ (mpOk mp ml pic lig) ∧ (frOk le to ri bo w g) ∧ (lyOk co ro qu) ∧ (tOk mt has tg ∧ tgB tg has) ∧ (lnOk 1 ma mb md A B D) ∧ (0 ≤ p ∧ p < co * ro) ∧ (has p = true) ∧ (∀ (xce xsu : Int32) (xsq : Int64), K (.inl (some (.int (iI (difI (rdI (ltI pic lig) le to ri bo co ro qu) tg A B D p))))) (pre ++ cM xth xw xg xfo (iI le) (iI to) (iI ri) (iI bo) (iI co) (iI ro) (iI qu) xnt xfi xsg xrk xdy xce xsu xsq :: aI 2700 mp :: aI 900 ml :: aZ 16 mh :: aI 48 mt :: aL 3 ma :: aL 3 mb :: aL 3 md :: rest))
set_option maxHeartbeats 4000000 in
set_option maxRecDepth 100000 in
theorem c_M_differs (l : Launch) : rn_Met l y_M_differs wc_M_differs { frames := 4, cells := 0, slots := 0, locals := 75 } G_M_differs := by
  refine rn_in mw_M_differs.1 (by decide +kernel) ?_ ?_
  · intro _ av h K hG
    obtain ⟨pre, rest, xth, xw, xg, xfo, xnt, xfi, xsg, xrk, xdy, xce, xsu, xsq, mp, ml, mh, mt, ma, mb, md, w, g, le, to, ri, bo, co, ro, qu, p_, pic, lig, has, tg, A, B, D_, rfl, rfl, hp, hc0, hc1, hc2, hc3, hc4, hc5, hc6, k1⟩ := hG
    exact Nat.le_of_ble_eq_true rfl
  intro p e s m args below meth c z sa D dA av h K hadm C hG
  obtain ⟨pre, rest, xth, xw, xg, xfo, xnt, xfi, xsg, xrk, xdy, xce, xsu, xsq, mp, ml, mh, mt, ma, mb, md, w, g, le, to, ri, bo, co, ro, qu, p_, pic, lig, has, tg, A, B, D_, rfl, rfl, hp, hc0, hc1, hc2, hc3, hc4, hc5, hc6, k1⟩ := hG
  have hf' := hc1
  have hy' := hc2
  unfold frOk at hf'
  unfold lyOk at hy'
  obtain ⟨ht, htb⟩ := hc3
  have mq := mbd (A := 4) (B := 4) (a := co) (b := ro) (by omega) (by omega)
  have lb : ltB (ltI pic lig) := fun x y j => ltI_in hc0.2.2.1 hc0.2.2.2 x y j
  unfold difI at k1
  have loop : ∀ (j : Nat) (i a : Int) (xce xsu : Int32) (xsq : Int64), i + j = 3 → 0 ≤ i → a + sm (dfT (rdI (ltI pic lig) le to ri bo co ro qu) tg A B D_ p_) i j = sm (dfT (rdI (ltI pic lig) le to ri bo co ro qu) tg A B D_ p_) 0 3 → Run p l e { frames := 4, cells := 0, slots := 0, locals := 75 } s m args below meth c z sa D dA 0 0 K 5 4 [some (.ref 21), some (.int (iI p_)), some (.int (iI (a))), some (.int (iI i))] [] (pre ++ cM xth xw xg xfo (iI le) (iI to) (iI ri) (iI bo) (iI co) (iI ro) (iI qu) xnt xfi xsg xrk xdy xce xsu xsq :: aI 2700 mp :: aI 900 ml :: aZ 16 mh :: aI 48 mt :: aL 3 ma :: aL 3 mb :: aL 3 md :: rest) 0 0 := by
    intro j
    induction j with
    | zero =>
      intro i a xce xsu xsq hi i0 e
      rw [sm, Int.add_zero] at e
      rw [← e] at k1
      refine rn_iload_n C d_M_differs_4 rfl ?_
      refine rn_iconst C (iI 3) d_M_differs_5 (by decide) ?_
      refine rn_icmp_ge C 66 d_M_differs_6 (by decide) (fun _ => ?_) (fun q_6 => absurd ((iI_le ⟨by omega, by omega⟩ ⟨by omega, by omega⟩).mpr (by omega)) q_6)
      refine rn_iload_n C d_M_differs_66 rfl ?_
      refine rn_ireturn C rfl rfl d_M_differs_67 ⟨by decide, by decide⟩ ?_
      exact k1 _ _ _
    | succ j ih =>
      intro i a xce xsu xsq hi i0 e
      rw [sm, ← Int.add_assoc] at e
      have r0 := rdI_in lb hc1 hc2 hc5.1 hc5.2 i
      have t0 := htb p_ i hc5.1 (by omega) i0 (by omega) hc6
      have et := ht p_ i hc5.1 (by omega) i0 (by omega) hc6
      obtain ⟨l1, l2, l3, l4, l5, l6, l7⟩ := hc4 rfl i i0 (by omega)
      have edf : (dfT (rdI (ltI pic lig) le to ri bo co ro qu) tg A B D_ p_) i = wt i * (colI (A i) (B i) (D_ i) ((rdI (ltI pic lig) le to ri bo co ro qu) p_ i) - tg p_ i) * (colI (A i) (B i) (D_ i) ((rdI (ltI pic lig) le to ri bo co ro qu) p_ i) - tg p_ i) := rfl
      rcases (by omega : i = 0 ∨ i = 1 ∨ i = 2) with hi0 | hi0 | hi0
      · have ew : wt i = 2 := by rw [hi0]; rfl
        rw [ew] at edf
        refine rn_iload_n C d_M_differs_4 rfl ?_
        refine rn_iconst C (iI 3) d_M_differs_5 (by decide) ?_
        refine rn_icmp_ge C 66 d_M_differs_6 (by decide) (fun q_6 => absurd q_6 (fun q => absurd ((iI_le ⟨by omega, by omega⟩ ⟨by omega, by omega⟩).mp q) (by omega))) (fun _ => ?_)
        refine rn_aload_n C d_M_differs_9 rfl ?_
        refine rn_iload_n C d_M_differs_10 rfl ?_
        refine rn_aload_n C d_M_differs_11 rfl ?_
        refine rn_iload_n C d_M_differs_12 rfl ?_
        refine rn_iload_n C d_M_differs_13 rfl ?_
        refine rn_cV C (c_M_readOf l) mw_M_readOf k_M_130 d_M_differs_14 rfl (mH 0 hp rfl rfl) rfl (Nat.le_of_ble_eq_true rfl) (Nat.le_of_ble_eq_true rfl) ⟨by decide, by decide⟩ ⟨by decide, by decide⟩ ?_
        refine ⟨_, _, _, _, _, _, _, _, _, _, _, _, _, _, _, _, _, _, _, _, _, _, _, _, _, _, _, _, _, rfl, rfl, hp, hc0, hc1, hc2, hc5, ⟨i0, by omega⟩, fun _ _ _ => ?_⟩
        refine rn_cV C (c_M_colourOf l) mw_M_colourOf k_M_156 d_M_differs_17 rfl (mH 0 hp rfl rfl) rfl (Nat.le_of_ble_eq_true rfl) (Nat.le_of_ble_eq_true rfl) ⟨by decide, by decide⟩ ⟨by decide, by decide⟩ ?_
        refine ⟨_, _, _, _, _, _, _, _, _, _, _, _, _, _, _, _, _, _, _, _, _, _, _, _, _, _, _, _, _, _, _, _, _, rfl, rfl, hp, ⟨i0, by omega⟩, r0, l1, l2, l3, l4, l5, l6, l7, ?_⟩
        refine rn_aload_n C d_M_differs_20 rfl ?_
        refine rn_getM C hp f_M_27 d_M_differs_21 rfl ?_
        refine rn_iconst C (iI 3) d_M_differs_24 (by decide) ?_
        refine rn_iload_n C d_M_differs_25 rfl ?_
        refine rn_imul C d_M_differs_26 ?_
        refine rn_iload_n C d_M_differs_27 rfl ?_
        refine rn_iadd C d_M_differs_28 ?_
        rw [iI_mul, iI_add, show 3 * p_ + i = p_ * 3 + i by omega]
        refine rn_iaM C hp (j := 4) d_M_differs_29 rfl rfl (iI_vin (by omega) (by omega) (by omega)) ?_
        rw [iI_nat (by omega) (by omega), et]
        refine rn_isub C d_M_differs_30 ?_
        rw [iI_sub]
        refine rn_istore C d_M_differs_31 (by decide) ?_
        refine rn_iload_n C d_M_differs_33 rfl ?_
        refine rn_iload_n C d_M_differs_34 rfl ?_
        refine rn_if_ne C 42 d_M_differs_35 (by decide) (fun q => absurd (by rw [hi0]; rfl) q) (fun _ => ?_)
        refine rn_iconst C (iI 2) d_M_differs_38 (by decide) ?_
        refine rn_goto C 52 d_M_differs_39 (by decide) ?_
        refine rn_iload C d_M_differs_52 rfl ?_
        refine rn_imul C d_M_differs_54 ?_
        refine rn_iload C d_M_differs_55 rfl ?_
        refine rn_imul C d_M_differs_57 ?_
        refine rn_iadd C d_M_differs_58 ?_
        rw [iI_mul, iI_mul, iI_add, ← edf]
        refine rn_istore_n C d_M_differs_59 (by decide) ?_
        refine rn_iinc C _ d_M_differs_60 rfl (iI_inc _) (by decide) ?_
        refine rn_goto C 4 d_M_differs_63 (by decide) ?_
        refine rn_weak (lv' := [some (.ref 21), some (.int (iI p_)), some (.int (iI (a + (dfT (rdI (ltI pic lig) le to ri bo co ro qu) tg A B D_ p_) i))), some (.int (iI (i + 1)))]) ⟨rfl, rfl, rfl, rfl, trivial⟩ ?_
        exact ih (i + 1) _ _ _ _ (by omega) (by omega) e
      · have ew : wt i = 4 := by rw [hi0]; rfl
        rw [ew] at edf
        refine rn_iload_n C d_M_differs_4 rfl ?_
        refine rn_iconst C (iI 3) d_M_differs_5 (by decide) ?_
        refine rn_icmp_ge C 66 d_M_differs_6 (by decide) (fun q_6 => absurd q_6 (fun q => absurd ((iI_le ⟨by omega, by omega⟩ ⟨by omega, by omega⟩).mp q) (by omega))) (fun _ => ?_)
        refine rn_aload_n C d_M_differs_9 rfl ?_
        refine rn_iload_n C d_M_differs_10 rfl ?_
        refine rn_aload_n C d_M_differs_11 rfl ?_
        refine rn_iload_n C d_M_differs_12 rfl ?_
        refine rn_iload_n C d_M_differs_13 rfl ?_
        refine rn_cV C (c_M_readOf l) mw_M_readOf k_M_130 d_M_differs_14 rfl (mH 0 hp rfl rfl) rfl (Nat.le_of_ble_eq_true rfl) (Nat.le_of_ble_eq_true rfl) ⟨by decide, by decide⟩ ⟨by decide, by decide⟩ ?_
        refine ⟨_, _, _, _, _, _, _, _, _, _, _, _, _, _, _, _, _, _, _, _, _, _, _, _, _, _, _, _, _, rfl, rfl, hp, hc0, hc1, hc2, hc5, ⟨i0, by omega⟩, fun _ _ _ => ?_⟩
        refine rn_cV C (c_M_colourOf l) mw_M_colourOf k_M_156 d_M_differs_17 rfl (mH 0 hp rfl rfl) rfl (Nat.le_of_ble_eq_true rfl) (Nat.le_of_ble_eq_true rfl) ⟨by decide, by decide⟩ ⟨by decide, by decide⟩ ?_
        refine ⟨_, _, _, _, _, _, _, _, _, _, _, _, _, _, _, _, _, _, _, _, _, _, _, _, _, _, _, _, _, _, _, _, _, rfl, rfl, hp, ⟨i0, by omega⟩, r0, l1, l2, l3, l4, l5, l6, l7, ?_⟩
        refine rn_aload_n C d_M_differs_20 rfl ?_
        refine rn_getM C hp f_M_27 d_M_differs_21 rfl ?_
        refine rn_iconst C (iI 3) d_M_differs_24 (by decide) ?_
        refine rn_iload_n C d_M_differs_25 rfl ?_
        refine rn_imul C d_M_differs_26 ?_
        refine rn_iload_n C d_M_differs_27 rfl ?_
        refine rn_iadd C d_M_differs_28 ?_
        rw [iI_mul, iI_add, show 3 * p_ + i = p_ * 3 + i by omega]
        refine rn_iaM C hp (j := 4) d_M_differs_29 rfl rfl (iI_vin (by omega) (by omega) (by omega)) ?_
        rw [iI_nat (by omega) (by omega), et]
        refine rn_isub C d_M_differs_30 ?_
        rw [iI_sub]
        refine rn_istore C d_M_differs_31 (by decide) ?_
        refine rn_iload_n C d_M_differs_33 rfl ?_
        refine rn_iload_n C d_M_differs_34 rfl ?_
        refine rn_if_ne C 42 d_M_differs_35 (by decide) (fun _ => ?_) (fun q => absurd ((iI_eq0 ⟨by omega, by omega⟩).mp q) (by omega))
        refine rn_iload_n C d_M_differs_42 rfl ?_
        refine rn_iconst C (iI 1) d_M_differs_43 (by decide) ?_
        refine rn_icmp_ne C 51 d_M_differs_44 (by decide) (fun q => absurd (by rw [hi0]) q) (fun _ => ?_)
        refine rn_iconst C (iI 4) d_M_differs_47 (by decide) ?_
        refine rn_goto C 52 d_M_differs_48 (by decide) ?_
        refine rn_iload C d_M_differs_52 rfl ?_
        refine rn_imul C d_M_differs_54 ?_
        refine rn_iload C d_M_differs_55 rfl ?_
        refine rn_imul C d_M_differs_57 ?_
        refine rn_iadd C d_M_differs_58 ?_
        rw [iI_mul, iI_mul, iI_add, ← edf]
        refine rn_istore_n C d_M_differs_59 (by decide) ?_
        refine rn_iinc C _ d_M_differs_60 rfl (iI_inc _) (by decide) ?_
        refine rn_goto C 4 d_M_differs_63 (by decide) ?_
        refine rn_weak (lv' := [some (.ref 21), some (.int (iI p_)), some (.int (iI (a + (dfT (rdI (ltI pic lig) le to ri bo co ro qu) tg A B D_ p_) i))), some (.int (iI (i + 1)))]) ⟨rfl, rfl, rfl, rfl, trivial⟩ ?_
        exact ih (i + 1) _ _ _ _ (by omega) (by omega) e
      · have ew : wt i = 3 := by rw [hi0]; rfl
        rw [ew] at edf
        refine rn_iload_n C d_M_differs_4 rfl ?_
        refine rn_iconst C (iI 3) d_M_differs_5 (by decide) ?_
        refine rn_icmp_ge C 66 d_M_differs_6 (by decide) (fun q_6 => absurd q_6 (fun q => absurd ((iI_le ⟨by omega, by omega⟩ ⟨by omega, by omega⟩).mp q) (by omega))) (fun _ => ?_)
        refine rn_aload_n C d_M_differs_9 rfl ?_
        refine rn_iload_n C d_M_differs_10 rfl ?_
        refine rn_aload_n C d_M_differs_11 rfl ?_
        refine rn_iload_n C d_M_differs_12 rfl ?_
        refine rn_iload_n C d_M_differs_13 rfl ?_
        refine rn_cV C (c_M_readOf l) mw_M_readOf k_M_130 d_M_differs_14 rfl (mH 0 hp rfl rfl) rfl (Nat.le_of_ble_eq_true rfl) (Nat.le_of_ble_eq_true rfl) ⟨by decide, by decide⟩ ⟨by decide, by decide⟩ ?_
        refine ⟨_, _, _, _, _, _, _, _, _, _, _, _, _, _, _, _, _, _, _, _, _, _, _, _, _, _, _, _, _, rfl, rfl, hp, hc0, hc1, hc2, hc5, ⟨i0, by omega⟩, fun _ _ _ => ?_⟩
        refine rn_cV C (c_M_colourOf l) mw_M_colourOf k_M_156 d_M_differs_17 rfl (mH 0 hp rfl rfl) rfl (Nat.le_of_ble_eq_true rfl) (Nat.le_of_ble_eq_true rfl) ⟨by decide, by decide⟩ ⟨by decide, by decide⟩ ?_
        refine ⟨_, _, _, _, _, _, _, _, _, _, _, _, _, _, _, _, _, _, _, _, _, _, _, _, _, _, _, _, _, _, _, _, _, rfl, rfl, hp, ⟨i0, by omega⟩, r0, l1, l2, l3, l4, l5, l6, l7, ?_⟩
        refine rn_aload_n C d_M_differs_20 rfl ?_
        refine rn_getM C hp f_M_27 d_M_differs_21 rfl ?_
        refine rn_iconst C (iI 3) d_M_differs_24 (by decide) ?_
        refine rn_iload_n C d_M_differs_25 rfl ?_
        refine rn_imul C d_M_differs_26 ?_
        refine rn_iload_n C d_M_differs_27 rfl ?_
        refine rn_iadd C d_M_differs_28 ?_
        rw [iI_mul, iI_add, show 3 * p_ + i = p_ * 3 + i by omega]
        refine rn_iaM C hp (j := 4) d_M_differs_29 rfl rfl (iI_vin (by omega) (by omega) (by omega)) ?_
        rw [iI_nat (by omega) (by omega), et]
        refine rn_isub C d_M_differs_30 ?_
        rw [iI_sub]
        refine rn_istore C d_M_differs_31 (by decide) ?_
        refine rn_iload_n C d_M_differs_33 rfl ?_
        refine rn_iload_n C d_M_differs_34 rfl ?_
        refine rn_if_ne C 42 d_M_differs_35 (by decide) (fun _ => ?_) (fun q => absurd ((iI_eq0 ⟨by omega, by omega⟩).mp q) (by omega))
        refine rn_iload_n C d_M_differs_42 rfl ?_
        refine rn_iconst C (iI 1) d_M_differs_43 (by decide) ?_
        refine rn_icmp_ne C 51 d_M_differs_44 (by decide) (fun _ => ?_) (fun q => absurd ((iI_eq ⟨by omega, by omega⟩ ⟨by omega, by omega⟩).mp q) (by omega))
        refine rn_iconst C (iI 3) d_M_differs_51 (by decide) ?_
        refine rn_iload C d_M_differs_52 rfl ?_
        refine rn_imul C d_M_differs_54 ?_
        refine rn_iload C d_M_differs_55 rfl ?_
        refine rn_imul C d_M_differs_57 ?_
        refine rn_iadd C d_M_differs_58 ?_
        rw [iI_mul, iI_mul, iI_add, ← edf]
        refine rn_istore_n C d_M_differs_59 (by decide) ?_
        refine rn_iinc C _ d_M_differs_60 rfl (iI_inc _) (by decide) ?_
        refine rn_goto C 4 d_M_differs_63 (by decide) ?_
        refine rn_weak (lv' := [some (.ref 21), some (.int (iI p_)), some (.int (iI (a + (dfT (rdI (ltI pic lig) le to ri bo co ro qu) tg A B D_ p_) i))), some (.int (iI (i + 1)))]) ⟨rfl, rfl, rfl, rfl, trivial⟩ ?_
        exact ih (i + 1) _ _ _ _ (by omega) (by omega) e
  refine rn_iconst C (iI 0) d_M_differs_0 (by decide) ?_
  refine rn_istore_n C d_M_differs_1 (by decide) ?_
  refine rn_iconst C (iI 0) d_M_differs_2 (by decide) ?_
  refine rn_istore_n C d_M_differs_3 (by decide) ?_
  exact loop 3 0 0 _ _ _ (by omega) (by omega) (by omega)

def G_M_difference (av : List Value) (h : ah_H) (K : ah_R → ah_H → Prop) : Prop := ∃ (pre rest : ah_H) (xth xw xg xsg xrk xdy xce xsu : Int32) (xsq : Int64) (mp ml mh mt : Nat → Int32) (ma mb md : Nat → Int64) (w g le to ri bo co ro qu nt fo fi p : Int) (pic : Int → Int → Int → Int) (lig : Int → Int → Int) (has : Int → Bool) (tg : Int → Int → Int) (A B D : Int → Int), av = [.ref 21, .int (iI p)] ∧ h = pre ++ cM xth xw xg (iI fo) (iI le) (iI to) (iI ri) (iI bo) (iI co) (iI ro) (iI qu) (iI nt) (iI fi) xsg xrk xdy xce xsu xsq :: aI 2700 mp :: aI 900 ml :: aZ 16 mh :: aI 48 mt :: aL 3 ma :: aL 3 mb :: aL 3 md :: rest ∧ pre.length = 21 ∧ (inI p) ∧ (fo = 0 ∨ fo = 1) ∧ (fi = 0 ∨ fi = 1) ∧ (mpOk mp ml pic lig) ∧ (lyOk co ro qu) ∧ (fo = 1 → frOk le to ri bo w g) ∧ (zOk 16 mh has ∧ tOk mt has tg ∧ tgB tg has ∧ (0 ≤ nt → has nt = true) ∧ -1 ≤ nt ∧ nt < 16) ∧ (lnOk fi ma mb md A B D) ∧ (¬ (0 ≤ p ∧ p < co * ro) → K (.inl (some (.int (iI 0)))) (pre ++ cM (iI 1) xw xg (iI fo) (iI le) (iI to) (iI ri) (iI bo) (iI co) (iI ro) (iI qu) (iI nt) (iI fi) xsg xrk xdy xce xsu xsq :: aI 2700 mp :: aI 900 ml :: aZ 16 mh :: aI 48 mt :: aL 3 ma :: aL 3 mb :: aL 3 md :: rest)) ∧ ((0 ≤ p ∧ p < co * ro) → (fo = 0 ∨ fi = 0) → K (.inl (some (.int (iI 0)))) (pre ++ cM (iI 2) xw xg (iI fo) (iI le) (iI to) (iI ri) (iI bo) (iI co) (iI ro) (iI qu) (iI nt) (iI fi) xsg xrk xdy xce xsu xsq :: aI 2700 mp :: aI 900 ml :: aZ 16 mh :: aI 48 mt :: aL 3 ma :: aL 3 mb :: aL 3 md :: rest)) ∧ ((0 ≤ p ∧ p < co * ro) → fo = 1 → fi = 1 → has p = false → K (.inl (some (.int (iI (-1))))) (pre ++ cM (iI 0) xw xg (iI fo) (iI le) (iI to) (iI ri) (iI bo) (iI co) (iI ro) (iI qu) (iI nt) (iI fi) xsg xrk xdy xce xsu xsq :: aI 2700 mp :: aI 900 ml :: aZ 16 mh :: aI 48 mt :: aL 3 ma :: aL 3 mb :: aL 3 md :: rest)) ∧ ((0 ≤ p ∧ p < co * ro) → fo = 1 → fi = 1 → has p = true → ∀ (xce xsu : Int32) (xsq : Int64), K (.inl (some (.int (iI (difI (rdI (ltI pic lig) le to ri bo co ro qu) tg A B D p))))) (pre ++ cM (iI 0) xw xg (iI fo) (iI le) (iI to) (iI ri) (iI bo) (iI co) (iI ro) (iI qu) (iI nt) (iI fi) xsg xrk xdy xce xsu xsq :: aI 2700 mp :: aI 900 ml :: aZ 16 mh :: aI 48 mt :: aL 3 ma :: aL 3 mb :: aL 3 md :: rest))
set_option maxHeartbeats 4000000 in
set_option maxRecDepth 100000 in
theorem c_M_difference (l : Launch) : rn_Met l y_M_difference wc_M_difference { frames := 5, cells := 0, slots := 0, locals := 99 } G_M_difference := by
  refine rn_in mw_M_difference.1 (by decide +kernel) ?_ ?_
  · intro _ av h K hG
    obtain ⟨pre, rest, xth, xw, xg, xsg, xrk, xdy, xce, xsu, xsq, mp, ml, mh, mt, ma, mb, md, w, g, le, to, ri, bo, co, ro, qu, nt, fo, fi, p_, pic, lig, has, tg, A, B, D_, rfl, rfl, hp, hc0, hc1, hc2, hc3, hc4, hc5, hc6, hc7, k1, k2, k3, k4⟩ := hG
    exact Nat.le_of_ble_eq_true rfl
  intro p e s m args below meth c z sa D dA av h K hadm C hG
  obtain ⟨pre, rest, xth, xw, xg, xsg, xrk, xdy, xce, xsu, xsq, mp, ml, mh, mt, ma, mb, md, w, g, le, to, ri, bo, co, ro, qu, nt, fo, fi, p_, pic, lig, has, tg, A, B, D_, rfl, rfl, hp, hc0, hc1, hc2, hc3, hc4, hc5, hc6, hc7, k1, k2, k3, k4⟩ := hG
  have hc0a := hc0.1
  have hc0b := hc0.2
  have hy' := hc4
  unfold lyOk at hy'
  have mq := mbd (A := 4) (B := 4) (a := co) (b := ro) (by omega) (by omega)
  obtain ⟨hz, ht, htb, hnt, nt0, nt1⟩ := hc6
  rcases hc1 with rfl | rfl <;> rcases hc2 with rfl | rfl
  · skip
    refine rn_aload_n C d_M_difference_0 rfl ?_
    refine rn_aload_n C d_M_difference_1 rfl ?_
    refine rn_iload_n C d_M_difference_2 rfl ?_
    refine rn_cV C (c_M_isPatch l) mw_M_isPatch k_M_126 d_M_difference_3 rfl (mH 0 hp rfl rfl) rfl (Nat.le_of_ble_eq_true rfl) (Nat.le_of_ble_eq_true rfl) ⟨by decide, by decide⟩ ⟨by decide, by decide⟩ ?_
    refine ⟨_, _, _, _, _, _, _, _, _, _, _, _, _, _, _, _, _, _, _, _, _, _, rfl, rfl, hp, ⟨by omega, by omega⟩, (by assumption), fun q3 => ?_, fun q3 => ?_⟩
    · skip
      refine rn_aload_n C d_M_difference_6 rfl ?_
      refine rn_getM C hp f_M_101 d_M_difference_7 rfl ?_
      refine rn_if_eq C 24 d_M_difference_10 (by decide) (fun _ => ?_) (fun q => absurd rfl q)
      refine rn_iconst C (iI 0) d_M_difference_24 (by decide) ?_
      refine rn_iconst C (iI 1) d_M_difference_25 (by decide) ?_
      refine rn_cV C (c_M_goes l) mw_M_goes k_M_78 d_M_difference_26 rfl (mH 0 hp rfl rfl) rfl (Nat.le_of_ble_eq_true rfl) (Nat.le_of_ble_eq_true rfl) ⟨by decide, by decide⟩ ⟨by decide, by decide⟩ ?_
      refine ⟨_, _, _, _, _, _, _, _, _, _, _, _, _, _, _, _, _, _, _, _, _, _, _, _, rfl, rfl, hp, ?_⟩
      refine rn_if_ne C 34 d_M_difference_29 (by decide) (fun q => absurd rfl q) (fun _ => ?_)
      refine rn_iconst C (iI 0) d_M_difference_32 (by decide) ?_
      refine rn_ireturn C rfl rfl d_M_difference_33 ⟨by decide, by decide⟩ ?_
      first | exact k1 (by omega) | exact k2 (by omega) (by omega)
    · skip
      refine rn_aload_n C d_M_difference_6 rfl ?_
      refine rn_getM C hp f_M_101 d_M_difference_7 rfl ?_
      refine rn_if_eq C 24 d_M_difference_10 (by decide) (fun _ => ?_) (fun q => absurd rfl q)
      refine rn_iconst C (iI 0) d_M_difference_24 (by decide) ?_
      refine rn_iconst C (iI 1) d_M_difference_25 (by decide) ?_
      refine rn_cV C (c_M_goes l) mw_M_goes k_M_78 d_M_difference_26 rfl (mH 0 hp rfl rfl) rfl (Nat.le_of_ble_eq_true rfl) (Nat.le_of_ble_eq_true rfl) ⟨by decide, by decide⟩ ⟨by decide, by decide⟩ ?_
      refine ⟨_, _, _, _, _, _, _, _, _, _, _, _, _, _, _, _, _, _, _, _, _, _, _, _, rfl, rfl, hp, ?_⟩
      refine rn_if_ne C 34 d_M_difference_29 (by decide) (fun q => absurd rfl q) (fun _ => ?_)
      refine rn_iconst C (iI 0) d_M_difference_32 (by decide) ?_
      refine rn_ireturn C rfl rfl d_M_difference_33 ⟨by decide, by decide⟩ ?_
      first | exact k1 (by omega) | exact k2 (by omega) (by omega)
  · skip
    refine rn_aload_n C d_M_difference_0 rfl ?_
    refine rn_aload_n C d_M_difference_1 rfl ?_
    refine rn_iload_n C d_M_difference_2 rfl ?_
    refine rn_cV C (c_M_isPatch l) mw_M_isPatch k_M_126 d_M_difference_3 rfl (mH 0 hp rfl rfl) rfl (Nat.le_of_ble_eq_true rfl) (Nat.le_of_ble_eq_true rfl) ⟨by decide, by decide⟩ ⟨by decide, by decide⟩ ?_
    refine ⟨_, _, _, _, _, _, _, _, _, _, _, _, _, _, _, _, _, _, _, _, _, _, rfl, rfl, hp, ⟨by omega, by omega⟩, (by assumption), fun q3 => ?_, fun q3 => ?_⟩
    · skip
      refine rn_aload_n C d_M_difference_6 rfl ?_
      refine rn_getM C hp f_M_101 d_M_difference_7 rfl ?_
      refine rn_if_eq C 24 d_M_difference_10 (by decide) (fun _ => ?_) (fun q => absurd rfl q)
      refine rn_iconst C (iI 0) d_M_difference_24 (by decide) ?_
      refine rn_iconst C (iI 1) d_M_difference_25 (by decide) ?_
      refine rn_cV C (c_M_goes l) mw_M_goes k_M_78 d_M_difference_26 rfl (mH 0 hp rfl rfl) rfl (Nat.le_of_ble_eq_true rfl) (Nat.le_of_ble_eq_true rfl) ⟨by decide, by decide⟩ ⟨by decide, by decide⟩ ?_
      refine ⟨_, _, _, _, _, _, _, _, _, _, _, _, _, _, _, _, _, _, _, _, _, _, _, _, rfl, rfl, hp, ?_⟩
      refine rn_if_ne C 34 d_M_difference_29 (by decide) (fun q => absurd rfl q) (fun _ => ?_)
      refine rn_iconst C (iI 0) d_M_difference_32 (by decide) ?_
      refine rn_ireturn C rfl rfl d_M_difference_33 ⟨by decide, by decide⟩ ?_
      first | exact k1 (by omega) | exact k2 (by omega) (by omega)
    · skip
      refine rn_aload_n C d_M_difference_6 rfl ?_
      refine rn_getM C hp f_M_101 d_M_difference_7 rfl ?_
      refine rn_if_eq C 24 d_M_difference_10 (by decide) (fun _ => ?_) (fun q => absurd rfl q)
      refine rn_iconst C (iI 0) d_M_difference_24 (by decide) ?_
      refine rn_iconst C (iI 1) d_M_difference_25 (by decide) ?_
      refine rn_cV C (c_M_goes l) mw_M_goes k_M_78 d_M_difference_26 rfl (mH 0 hp rfl rfl) rfl (Nat.le_of_ble_eq_true rfl) (Nat.le_of_ble_eq_true rfl) ⟨by decide, by decide⟩ ⟨by decide, by decide⟩ ?_
      refine ⟨_, _, _, _, _, _, _, _, _, _, _, _, _, _, _, _, _, _, _, _, _, _, _, _, rfl, rfl, hp, ?_⟩
      refine rn_if_ne C 34 d_M_difference_29 (by decide) (fun q => absurd rfl q) (fun _ => ?_)
      refine rn_iconst C (iI 0) d_M_difference_32 (by decide) ?_
      refine rn_ireturn C rfl rfl d_M_difference_33 ⟨by decide, by decide⟩ ?_
      first | exact k1 (by omega) | exact k2 (by omega) (by omega)
  · skip
    refine rn_aload_n C d_M_difference_0 rfl ?_
    refine rn_aload_n C d_M_difference_1 rfl ?_
    refine rn_iload_n C d_M_difference_2 rfl ?_
    refine rn_cV C (c_M_isPatch l) mw_M_isPatch k_M_126 d_M_difference_3 rfl (mH 0 hp rfl rfl) rfl (Nat.le_of_ble_eq_true rfl) (Nat.le_of_ble_eq_true rfl) ⟨by decide, by decide⟩ ⟨by decide, by decide⟩ ?_
    refine ⟨_, _, _, _, _, _, _, _, _, _, _, _, _, _, _, _, _, _, _, _, _, _, rfl, rfl, hp, ⟨by omega, by omega⟩, (by assumption), fun q3 => ?_, fun q3 => ?_⟩
    · skip
      refine rn_aload_n C d_M_difference_6 rfl ?_
      refine rn_getM C hp f_M_101 d_M_difference_7 rfl ?_
      refine rn_if_eq C 24 d_M_difference_10 (by decide) (fun q => absurd q (by decide)) (fun _ => ?_)
      refine rn_aload_n C d_M_difference_13 rfl ?_
      refine rn_getM C hp f_M_149 d_M_difference_14 rfl ?_
      refine rn_if_eq C 24 d_M_difference_17 (by decide) (fun _ => ?_) (fun q => absurd rfl q)
      refine rn_iconst C (iI 0) d_M_difference_24 (by decide) ?_
      refine rn_iconst C (iI 1) d_M_difference_25 (by decide) ?_
      refine rn_cV C (c_M_goes l) mw_M_goes k_M_78 d_M_difference_26 rfl (mH 0 hp rfl rfl) rfl (Nat.le_of_ble_eq_true rfl) (Nat.le_of_ble_eq_true rfl) ⟨by decide, by decide⟩ ⟨by decide, by decide⟩ ?_
      refine ⟨_, _, _, _, _, _, _, _, _, _, _, _, _, _, _, _, _, _, _, _, _, _, _, _, rfl, rfl, hp, ?_⟩
      refine rn_if_ne C 34 d_M_difference_29 (by decide) (fun q => absurd rfl q) (fun _ => ?_)
      refine rn_iconst C (iI 0) d_M_difference_32 (by decide) ?_
      refine rn_ireturn C rfl rfl d_M_difference_33 ⟨by decide, by decide⟩ ?_
      first | exact k1 (by omega) | exact k2 (by omega) (by omega)
    · skip
      refine rn_aload_n C d_M_difference_6 rfl ?_
      refine rn_getM C hp f_M_101 d_M_difference_7 rfl ?_
      refine rn_if_eq C 24 d_M_difference_10 (by decide) (fun q => absurd q (by decide)) (fun _ => ?_)
      refine rn_aload_n C d_M_difference_13 rfl ?_
      refine rn_getM C hp f_M_149 d_M_difference_14 rfl ?_
      refine rn_if_eq C 24 d_M_difference_17 (by decide) (fun _ => ?_) (fun q => absurd rfl q)
      refine rn_iconst C (iI 0) d_M_difference_24 (by decide) ?_
      refine rn_iconst C (iI 1) d_M_difference_25 (by decide) ?_
      refine rn_cV C (c_M_goes l) mw_M_goes k_M_78 d_M_difference_26 rfl (mH 0 hp rfl rfl) rfl (Nat.le_of_ble_eq_true rfl) (Nat.le_of_ble_eq_true rfl) ⟨by decide, by decide⟩ ⟨by decide, by decide⟩ ?_
      refine ⟨_, _, _, _, _, _, _, _, _, _, _, _, _, _, _, _, _, _, _, _, _, _, _, _, rfl, rfl, hp, ?_⟩
      refine rn_if_ne C 34 d_M_difference_29 (by decide) (fun q => absurd rfl q) (fun _ => ?_)
      refine rn_iconst C (iI 0) d_M_difference_32 (by decide) ?_
      refine rn_ireturn C rfl rfl d_M_difference_33 ⟨by decide, by decide⟩ ?_
      first | exact k1 (by omega) | exact k2 (by omega) (by omega)
  · skip
    refine rn_aload_n C d_M_difference_0 rfl ?_
    refine rn_aload_n C d_M_difference_1 rfl ?_
    refine rn_iload_n C d_M_difference_2 rfl ?_
    refine rn_cV C (c_M_isPatch l) mw_M_isPatch k_M_126 d_M_difference_3 rfl (mH 0 hp rfl rfl) rfl (Nat.le_of_ble_eq_true rfl) (Nat.le_of_ble_eq_true rfl) ⟨by decide, by decide⟩ ⟨by decide, by decide⟩ ?_
    refine ⟨_, _, _, _, _, _, _, _, _, _, _, _, _, _, _, _, _, _, _, _, _, _, rfl, rfl, hp, ⟨by omega, by omega⟩, (by assumption), fun q3 => ?_, fun q3 => ?_⟩
    · skip
      refine rn_aload_n C d_M_difference_6 rfl ?_
      refine rn_getM C hp f_M_101 d_M_difference_7 rfl ?_
      refine rn_if_eq C 24 d_M_difference_10 (by decide) (fun q => absurd q (by decide)) (fun _ => ?_)
      refine rn_aload_n C d_M_difference_13 rfl ?_
      refine rn_getM C hp f_M_149 d_M_difference_14 rfl ?_
      refine rn_if_eq C 24 d_M_difference_17 (by decide) (fun q => absurd q (by decide)) (fun _ => ?_)
      refine rn_iconst C (iI 1) d_M_difference_20 (by decide) ?_
      refine rn_goto C 25 d_M_difference_21 (by decide) ?_
      refine rn_iconst C (iI 1) d_M_difference_25 (by decide) ?_
      refine rn_cV C (c_M_goes l) mw_M_goes k_M_78 d_M_difference_26 rfl (mH 0 hp rfl rfl) rfl (Nat.le_of_ble_eq_true rfl) (Nat.le_of_ble_eq_true rfl) ⟨by decide, by decide⟩ ⟨by decide, by decide⟩ ?_
      refine ⟨_, _, _, _, _, _, _, _, _, _, _, _, _, _, _, _, _, _, _, _, _, _, _, _, rfl, rfl, hp, ?_⟩
      refine rn_if_ne C 34 d_M_difference_29 (by decide) (fun _ => ?_) (fun q => absurd q (by decide))
      refine rn_aload_n C d_M_difference_34 rfl ?_
      refine rn_getM C hp f_M_23 d_M_difference_35 rfl ?_
      refine rn_iload_n C d_M_difference_38 rfl ?_
      refine rn_zaM C hp (j := 3) d_M_difference_39 rfl rfl (iI_vin (by omega) (by omega) (by omega)) ?_
      have hzi := hz p_ (by omega) (by omega)
      rw [iI_nat (by omega) (by omega), hzi]
      refine rn_if_eq C 51 d_M_difference_40 (by decide) (fun c40 => ?_) (fun c40 => ?_)
      · skip
        refine rn_iconst C (iI (-1)) d_M_difference_51 (by decide) ?_
        refine rn_ireturn C rfl rfl d_M_difference_52 ⟨by decide, by decide⟩ ?_
        first | exact k3 (by omega) rfl rfl (has0 c40) | exact k4 (by omega) rfl rfl (has1 c40) _ _ _
      · skip
        refine rn_aload_n C d_M_difference_43 rfl ?_
        refine rn_iload_n C d_M_difference_44 rfl ?_
        refine rn_cV C (c_M_differs l) mw_M_differs k_M_159 d_M_difference_45 rfl (mH 0 hp rfl rfl) rfl (Nat.le_of_ble_eq_true rfl) (Nat.le_of_ble_eq_true rfl) ⟨by decide, by decide⟩ ⟨by decide, by decide⟩ ?_
        refine ⟨_, _, _, _, _, _, _, _, _, _, _, _, _, _, _, _, _, _, _, _, _, _, _, _, _, _, _, _, _, _, _, _, _, _, _, _, _, _, rfl, rfl, hp, hc3, hc5 rfl, hc4, ⟨ht, htb⟩, hc7, by omega, has1 c40, fun _ _ _ => ?_⟩
        refine rn_goto C 52 d_M_difference_48 (by decide) ?_
        refine rn_ireturn C rfl rfl d_M_difference_52 ⟨by decide, by decide⟩ ?_
        first | exact k3 (by omega) rfl rfl (has0 c40) | exact k4 (by omega) rfl rfl (has1 c40) _ _ _
    · skip
      refine rn_aload_n C d_M_difference_6 rfl ?_
      refine rn_getM C hp f_M_101 d_M_difference_7 rfl ?_
      refine rn_if_eq C 24 d_M_difference_10 (by decide) (fun q => absurd q (by decide)) (fun _ => ?_)
      refine rn_aload_n C d_M_difference_13 rfl ?_
      refine rn_getM C hp f_M_149 d_M_difference_14 rfl ?_
      refine rn_if_eq C 24 d_M_difference_17 (by decide) (fun q => absurd q (by decide)) (fun _ => ?_)
      refine rn_iconst C (iI 1) d_M_difference_20 (by decide) ?_
      refine rn_goto C 25 d_M_difference_21 (by decide) ?_
      refine rn_iconst C (iI 1) d_M_difference_25 (by decide) ?_
      refine rn_cV C (c_M_goes l) mw_M_goes k_M_78 d_M_difference_26 rfl (mH 0 hp rfl rfl) rfl (Nat.le_of_ble_eq_true rfl) (Nat.le_of_ble_eq_true rfl) ⟨by decide, by decide⟩ ⟨by decide, by decide⟩ ?_
      refine ⟨_, _, _, _, _, _, _, _, _, _, _, _, _, _, _, _, _, _, _, _, _, _, _, _, rfl, rfl, hp, ?_⟩
      refine rn_if_ne C 34 d_M_difference_29 (by decide) (fun q => absurd rfl q) (fun _ => ?_)
      refine rn_iconst C (iI 0) d_M_difference_32 (by decide) ?_
      refine rn_ireturn C rfl rfl d_M_difference_33 ⟨by decide, by decide⟩ ?_
      first | exact k1 (by omega) | exact k2 (by omega) (by omega)

