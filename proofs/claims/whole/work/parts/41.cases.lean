/-! The law's own body. Laid by wip/whole/gen_l2.py. -/
def cellV (sa : Nat → Nat) (k : Int) : Int32 := if k < sa 2 then Int32.ofNat (sa (3 + k.toNat)) else 0
def G_L_cell (sa : Nat → Nat) (av : List Value) (h : ah_H) (K : ah_R → ah_H → Prop) : Prop := ∃ k : Int, av = [.retAddr 1, .int (iI k)] ∧ 0 ≤ k ∧ k < 100 ∧ sa 2 ≤ 2562 ∧ K (.inl (some (.int (cellV sa k)))) h
theorem ofN (n : Nat) : Int32.ofNat n = iI (n : Int) := iI_lit n
set_option maxHeartbeats 4000000 in
theorem c_L_cell (l : Launch) : rn_MetS l y_L_cell wc_L_cell { frames := 1, cells := 0, slots := 0, locals := 0 } G_L_cell := by
  refine rn_in mw_L_cell.1 (by decide +kernel) ?_ ?_
  · intro _ av h K hG
    obtain ⟨k, rfl, k0, k1, hs, hK⟩ := hG
    exact Nat.le_of_ble_eq_true rfl
  intro p e s m args below meth c z sa D dA av h K hadm C hG
  obtain ⟨k, rfl, k0, k1, hs, hK⟩ := hG
  refine rn_iload_n C d_L_cell_0 rfl ?_
  refine rn_tload_n C d_L_cell_1 rfl ?_
  refine rn_slen C d_L_cell_2 ?_
  rw [ofN]
  by_cases hk : k < sa 2
  · rw [cellV, if_pos hk] at hK
    refine rn_icmp_ge C 12 d_L_cell_3 (by decide) (fun q => absurd ((iI_le ⟨by omega, by omega⟩ ⟨by omega, by omega⟩).mp q) (by omega)) (fun _ => ?_)
    refine rn_tload_n C d_L_cell_6 rfl ?_
    refine rn_iload_n C d_L_cell_7 rfl ?_
    refine rn_sld C d_L_cell_8 (iI_vin (by omega) (by omega) (by omega)) ?_
    rw [iI_nat (by omega) (by omega)]
    refine rn_goto C 13 d_L_cell_9 (by decide) ?_
    refine rn_ireturn C rfl rfl d_L_cell_13 ⟨by decide, by decide⟩ ?_
    exact hK
  · rw [cellV, if_neg hk] at hK
    refine rn_icmp_ge C 12 d_L_cell_3 (by decide) (fun _ => ?_) (fun q => absurd ((iI_le ⟨by omega, by omega⟩ ⟨by omega, by omega⟩).mpr (by omega)) q)
    refine rn_iconst C 0 d_L_cell_12 (by decide) ?_
    refine rn_ireturn C rfl rfl d_L_cell_13 ⟨by decide, by decide⟩ ?_
    exact hK
section LAW
variable {p : Program} {l : Launch} {e : Env} {s : State} {m : MethodId} {args : Array Value} {below : List Frame} {meth : Method} {c : Code} {z : Nat} {sa : Nat → Nat} {D : va_G} {dA : Nat → ClassId} {K : ah_R → ah_H → Prop} {h : ah_H} {n1 n2 : Nat} {i k : Int}
set_option maxHeartbeats 4000000 in
set_option maxRecDepth 100000 in
theorem lc_pixel (C : rn_Ok p l e s m args meth c z sa D dA code "ColourChartsLaw" "law" 8 (some .boolean) []) (hl : l.flags = flags0) (hI : InvT k h) (hi0 : 2 ≤ i) (hi1 : i + 5 ≤ sa 2) (hL : sa 2 ≤ 2562) (b1 : n1 ≤ 600000) (b2 : n2 ≤ 7000000) {s1 : Int} (e1 : Int32.ofNat (sa (3 + (iI (i + 1)).toNatClampNeg)) = iI s1) (i1 : inI s1) {s2 : Int} (e2 : Int32.ofNat (sa (3 + (iI (i + 2)).toNatClampNeg)) = iI s2) (i2 : inI s2) {s3 : Int} (e3 : Int32.ofNat (sa (3 + (iI (i + 3)).toNatClampNeg)) = iI s3) (i3 : inI s3) {s4 : Int} (e4 : Int32.ofNat (sa (3 + (iI (i + 4)).toNatClampNeg)) = iI s4) (i4 : inI s4)
    (back : ∀ (h2 : ah_H) (k2 : Int) (a b : Nat), InvT k2 h2 → a ≤ n1 + 1 → b ≤ n2 + 6 → Run p l e room_1 s m args below meth c z sa D dA 601024 7292999 K 8 1402 [some (.retAddr 1), some (.ref 0), some (.ref 21), some (.ref 35), some (.int (iI i))] [] h2 a b) : Run p l e room_1 s m args below meth c z sa D dA 601024 7292999 K 8 156 [some (.retAddr 1), some (.ref 0), some (.ref 21), some (.ref 35), some (.int (iI i))] [] h n1 n2 := by
  refine rn_aload_n C d_L_law_156 rfl ?_
  refine rn_tload_n C d_L_law_157 rfl ?_
  refine rn_iload C d_L_law_158 rfl ?_
  refine rn_iconst C (iI 1) d_L_law_160 (by decide) ?_
  refine rn_iadd C d_L_law_161 ?_
  rw [iI_add]
  refine rn_sld C d_L_law_162 (iI_vin (by omega) (by omega) (by omega)) ?_
  rw [e1]
  refine rn_tload_n C d_L_law_163 rfl ?_
  refine rn_iload C d_L_law_164 rfl ?_
  refine rn_iconst C (iI 2) d_L_law_166 (by decide) ?_
  refine rn_iadd C d_L_law_167 ?_
  rw [iI_add]
  refine rn_sld C d_L_law_168 (iI_vin (by omega) (by omega) (by omega)) ?_
  rw [e2]
  refine rn_tload_n C d_L_law_169 rfl ?_
  refine rn_iload C d_L_law_170 rfl ?_
  refine rn_iconst C (iI 3) d_L_law_172 (by decide) ?_
  refine rn_iadd C d_L_law_173 ?_
  rw [iI_add]
  refine rn_sld C d_L_law_174 (iI_vin (by omega) (by omega) (by omega)) ?_
  rw [e3]
  refine rn_tload_n C d_L_law_175 rfl ?_
  refine rn_iload C d_L_law_176 rfl ?_
  refine rn_iconst C (iI 4) d_L_law_178 (by decide) ?_
  refine rn_iadd C d_L_law_179 ?_
  rw [iI_add]
  refine rn_sld C d_L_law_180 (iI_vin (by omega) (by omega) (by omega)) ?_
  rw [e4]
  refine rn_aload_n C d_L_law_181 rfl ?_
  refine rn_cS C (rn_mono (c_L_pixel l (c_C_pixel l hl))) mw_L_pixel k_L_95 d_L_law_182 (Nat.le_of_ble_eq_true rfl) (Nat.le_of_ble_eq_true rfl) ⟨by decide, by decide⟩ ⟨show n1 + 1 ≤ 601024 by omega, show n2 + 6 ≤ 7292999 by omega⟩ ⟨_, fun r h1 hr => ?_, st_pixel hI s1 s2 s3 s4 i1 i2 i3 i4⟩
  obtain ⟨k2, rfl, ⟨fs, hq⟩, hM⟩ := hr
  refine rn_istore C d_L_law_185 (by decide) ?_
  refine rn_aload_n C d_L_law_187 rfl ?_
  refine rn_tload_n C d_L_law_188 rfl ?_
  refine rn_iload C d_L_law_189 rfl ?_
  refine rn_iconst C (iI 1) d_L_law_191 (by decide) ?_
  refine rn_iadd C d_L_law_192 ?_
  rw [iI_add]
  refine rn_sld C d_L_law_193 (iI_vin (by omega) (by omega) (by omega)) ?_
  rw [e1]
  refine rn_tload_n C d_L_law_194 rfl ?_
  refine rn_iload C d_L_law_195 rfl ?_
  refine rn_iconst C (iI 2) d_L_law_197 (by decide) ?_
  refine rn_iadd C d_L_law_198 ?_
  rw [iI_add]
  refine rn_sld C d_L_law_199 (iI_vin (by omega) (by omega) (by omega)) ?_
  rw [e2]
  refine rn_tload_n C d_L_law_200 rfl ?_
  refine rn_iload C d_L_law_201 rfl ?_
  refine rn_iconst C (iI 3) d_L_law_203 (by decide) ?_
  refine rn_iadd C d_L_law_204 ?_
  rw [iI_add]
  refine rn_sld C d_L_law_205 (iI_vin (by omega) (by omega) (by omega)) ?_
  rw [e3]
  refine rn_tload_n C d_L_law_206 rfl ?_
  refine rn_iload C d_L_law_207 rfl ?_
  refine rn_iconst C (iI 4) d_L_law_209 (by decide) ?_
  refine rn_iadd C d_L_law_210 ?_
  rw [iI_add]
  refine rn_sld C d_L_law_211 (iI_vin (by omega) (by omega) (by omega)) ?_
  rw [e4]
  refine rn_cV C (rn_mono (c_M_pixel l)) mw_M_pixel k_L_98 d_L_law_212 rfl hq rfl (Nat.le_of_ble_eq_true rfl) (Nat.le_of_ble_eq_true rfl) ⟨by decide, by decide⟩ ⟨show n1 + 1 ≤ 601024 by omega, show n2 + 6 ≤ 7292999 by omega⟩ ⟨_, fun r h2 hr2 => ?_, hM⟩
  obtain ⟨b, rfl, hI2, ho⟩ := hr2
  obtain ⟨fs2, hq2⟩ := inv_21 hI2
  refine rn_istore C d_L_law_215 (by decide) ?_
  refine rn_aload_n C d_L_law_217 rfl ?_
  refine rn_cV C (c_M_thrown l) mw_M_thrown k_L_99 d_L_law_218 rfl hq2 rfl (Nat.le_of_ble_eq_true rfl) (Nat.le_of_ble_eq_true rfl) ⟨by decide, by decide⟩ ⟨show n1 + 1 ≤ 601024 by omega, show n2 + 6 ≤ 7292999 by omega⟩ (st_thrown hI2 ?_)
  refine rn_iload C d_L_law_221 rfl ?_
  refine rn_icmp_eq C 228 d_L_law_223 (by decide) (fun _ => ?_) (fun q_223 => absurd (rfl) q_223)
  refine rn_iload C d_L_law_228 rfl ?_
  refine rn_if_ne C 245 d_L_law_230 (by decide) (fun c230 => ?_) (fun c230 => ?_)
  · skip
    refine rn_goto C 1402 d_L_law_245 (by decide) ?_
    refine rn_weak (lv' := [some (.retAddr 1), some (.ref 0), some (.ref 21), some (.ref 35), some (.int (iI i))]) ⟨rfl, rfl, rfl, rfl, rfl, trivial⟩ ?_
    exact back _ _ _ _ hI2 (show n1 + 1 ≤ n1 + 1 by omega) (show n2 + 6 ≤ n2 + 6 by omega)
  · skip
    refine rn_aload_n C d_L_law_233 rfl ?_
    obtain ⟨out, h35, eo⟩ := ho c230
    refine rn_iconst C 0 d_L_law_234 (by decide) ?_
    refine rn_laload C d_L_law_235 h35 vin01 ?_
    refine rn_iload C d_L_law_236 rfl ?_
    refine rn_i2l C d_L_law_238 ?_
    refine rn_lc_eq C 245 d_L_law_239 d_L_law_240 (by decide) (fun _ => ?_) (fun q_239 => absurd (eo) q_239)
    refine rn_goto C 1402 d_L_law_245 (by decide) ?_
    refine rn_weak (lv' := [some (.retAddr 1), some (.ref 0), some (.ref 21), some (.ref 35), some (.int (iI i))]) ⟨rfl, rfl, rfl, rfl, rfl, trivial⟩ ?_
    exact back _ _ _ _ hI2 (show n1 + 1 ≤ n1 + 1 by omega) (show n2 + 6 ≤ n2 + 6 by omega)
set_option maxHeartbeats 4000000 in
set_option maxRecDepth 100000 in
theorem lc_light (C : rn_Ok p l e s m args meth c z sa D dA code "ColourChartsLaw" "law" 8 (some .boolean) []) (hl : l.flags = flags0) (hI : InvT k h) (hi0 : 2 ≤ i) (hi1 : i + 5 ≤ sa 2) (hL : sa 2 ≤ 2562) (b1 : n1 ≤ 600000) (b2 : n2 ≤ 7000000) {s1 : Int} (e1 : Int32.ofNat (sa (3 + (iI (i + 1)).toNatClampNeg)) = iI s1) (i1 : inI s1) {s2 : Int} (e2 : Int32.ofNat (sa (3 + (iI (i + 2)).toNatClampNeg)) = iI s2) (i2 : inI s2) {s3 : Int} (e3 : Int32.ofNat (sa (3 + (iI (i + 3)).toNatClampNeg)) = iI s3) (i3 : inI s3)
    (back : ∀ (h2 : ah_H) (k2 : Int) (a b : Nat), InvT k2 h2 → a ≤ n1 + 1 → b ≤ n2 + 6 → Run p l e room_1 s m args below meth c z sa D dA 601024 7292999 K 8 1402 [some (.retAddr 1), some (.ref 0), some (.ref 21), some (.ref 35), some (.int (iI i))] [] h2 a b) : Run p l e room_1 s m args below meth c z sa D dA 601024 7292999 K 8 248 [some (.retAddr 1), some (.ref 0), some (.ref 21), some (.ref 35), some (.int (iI i))] [] h n1 n2 := by
  refine rn_aload_n C d_L_law_248 rfl ?_
  refine rn_tload_n C d_L_law_249 rfl ?_
  refine rn_iload C d_L_law_250 rfl ?_
  refine rn_iconst C (iI 1) d_L_law_252 (by decide) ?_
  refine rn_iadd C d_L_law_253 ?_
  rw [iI_add]
  refine rn_sld C d_L_law_254 (iI_vin (by omega) (by omega) (by omega)) ?_
  rw [e1]
  refine rn_tload_n C d_L_law_255 rfl ?_
  refine rn_iload C d_L_law_256 rfl ?_
  refine rn_iconst C (iI 2) d_L_law_258 (by decide) ?_
  refine rn_iadd C d_L_law_259 ?_
  rw [iI_add]
  refine rn_sld C d_L_law_260 (iI_vin (by omega) (by omega) (by omega)) ?_
  rw [e2]
  refine rn_tload_n C d_L_law_261 rfl ?_
  refine rn_iload C d_L_law_262 rfl ?_
  refine rn_iconst C (iI 3) d_L_law_264 (by decide) ?_
  refine rn_iadd C d_L_law_265 ?_
  rw [iI_add]
  refine rn_sld C d_L_law_266 (iI_vin (by omega) (by omega) (by omega)) ?_
  rw [e3]
  refine rn_aload_n C d_L_law_267 rfl ?_
  refine rn_cS C (rn_mono (c_L_light l (c_C_light l hl))) mw_L_light k_L_102 d_L_law_268 (Nat.le_of_ble_eq_true rfl) (Nat.le_of_ble_eq_true rfl) ⟨by decide, by decide⟩ ⟨show n1 + 1 ≤ 601024 by omega, show n2 + 6 ≤ 7292999 by omega⟩ ⟨_, fun r h1 hr => ?_, st_light hI s1 s2 s3 i1 i2 i3⟩
  obtain ⟨k2, rfl, ⟨fs, hq⟩, hM⟩ := hr
  refine rn_istore C d_L_law_271 (by decide) ?_
  refine rn_aload_n C d_L_law_273 rfl ?_
  refine rn_tload_n C d_L_law_274 rfl ?_
  refine rn_iload C d_L_law_275 rfl ?_
  refine rn_iconst C (iI 1) d_L_law_277 (by decide) ?_
  refine rn_iadd C d_L_law_278 ?_
  rw [iI_add]
  refine rn_sld C d_L_law_279 (iI_vin (by omega) (by omega) (by omega)) ?_
  rw [e1]
  refine rn_tload_n C d_L_law_280 rfl ?_
  refine rn_iload C d_L_law_281 rfl ?_
  refine rn_iconst C (iI 2) d_L_law_283 (by decide) ?_
  refine rn_iadd C d_L_law_284 ?_
  rw [iI_add]
  refine rn_sld C d_L_law_285 (iI_vin (by omega) (by omega) (by omega)) ?_
  rw [e2]
  refine rn_tload_n C d_L_law_286 rfl ?_
  refine rn_iload C d_L_law_287 rfl ?_
  refine rn_iconst C (iI 3) d_L_law_289 (by decide) ?_
  refine rn_iadd C d_L_law_290 ?_
  rw [iI_add]
  refine rn_sld C d_L_law_291 (iI_vin (by omega) (by omega) (by omega)) ?_
  rw [e3]
  refine rn_cV C (rn_mono (c_M_light l)) mw_M_light k_L_105 d_L_law_292 rfl hq rfl (Nat.le_of_ble_eq_true rfl) (Nat.le_of_ble_eq_true rfl) ⟨by decide, by decide⟩ ⟨show n1 + 1 ≤ 601024 by omega, show n2 + 6 ≤ 7292999 by omega⟩ ⟨_, fun r h2 hr2 => ?_, hM⟩
  obtain ⟨b, rfl, hI2, ho⟩ := hr2
  obtain ⟨fs2, hq2⟩ := inv_21 hI2
  refine rn_istore C d_L_law_295 (by decide) ?_
  refine rn_aload_n C d_L_law_297 rfl ?_
  refine rn_cV C (c_M_thrown l) mw_M_thrown k_L_99 d_L_law_298 rfl hq2 rfl (Nat.le_of_ble_eq_true rfl) (Nat.le_of_ble_eq_true rfl) ⟨by decide, by decide⟩ ⟨show n1 + 1 ≤ 601024 by omega, show n2 + 6 ≤ 7292999 by omega⟩ (st_thrown hI2 ?_)
  refine rn_iload C d_L_law_301 rfl ?_
  refine rn_icmp_eq C 308 d_L_law_303 (by decide) (fun _ => ?_) (fun q_303 => absurd (rfl) q_303)
  refine rn_iload C d_L_law_308 rfl ?_
  refine rn_if_ne C 325 d_L_law_310 (by decide) (fun c310 => ?_) (fun c310 => ?_)
  · skip
    refine rn_goto C 1402 d_L_law_325 (by decide) ?_
    refine rn_weak (lv' := [some (.retAddr 1), some (.ref 0), some (.ref 21), some (.ref 35), some (.int (iI i))]) ⟨rfl, rfl, rfl, rfl, rfl, trivial⟩ ?_
    exact back _ _ _ _ hI2 (show n1 + 1 ≤ n1 + 1 by omega) (show n2 + 6 ≤ n2 + 6 by omega)
  · skip
    refine rn_aload_n C d_L_law_313 rfl ?_
    obtain ⟨out, h35, eo⟩ := ho c310
    refine rn_iconst C 0 d_L_law_314 (by decide) ?_
    refine rn_laload C d_L_law_315 h35 vin01 ?_
    refine rn_iload C d_L_law_316 rfl ?_
    refine rn_i2l C d_L_law_318 ?_
    refine rn_lc_eq C 325 d_L_law_319 d_L_law_320 (by decide) (fun _ => ?_) (fun q_319 => absurd (eo) q_319)
    refine rn_goto C 1402 d_L_law_325 (by decide) ?_
    refine rn_weak (lv' := [some (.retAddr 1), some (.ref 0), some (.ref 21), some (.ref 35), some (.int (iI i))]) ⟨rfl, rfl, rfl, rfl, rfl, trivial⟩ ?_
    exact back _ _ _ _ hI2 (show n1 + 1 ≤ n1 + 1 by omega) (show n2 + 6 ≤ n2 + 6 by omega)
set_option maxHeartbeats 4000000 in
set_option maxRecDepth 100000 in
theorem lc_lit (C : rn_Ok p l e s m args meth c z sa D dA code "ColourChartsLaw" "law" 8 (some .boolean) []) (hl : l.flags = flags0) (hI : InvT k h) (hi0 : 2 ≤ i) (hi1 : i + 5 ≤ sa 2) (hL : sa 2 ≤ 2562) (b1 : n1 ≤ 600000) (b2 : n2 ≤ 7000000) {s1 : Int} (e1 : Int32.ofNat (sa (3 + (iI (i + 1)).toNatClampNeg)) = iI s1) (i1 : inI s1) {s2 : Int} (e2 : Int32.ofNat (sa (3 + (iI (i + 2)).toNatClampNeg)) = iI s2) (i2 : inI s2) {s3 : Int} (e3 : Int32.ofNat (sa (3 + (iI (i + 3)).toNatClampNeg)) = iI s3) (i3 : inI s3)
    (back : ∀ (h2 : ah_H) (k2 : Int) (a b : Nat), InvT k2 h2 → a ≤ n1 + 1 → b ≤ n2 + 6 → Run p l e room_1 s m args below meth c z sa D dA 601024 7292999 K 8 1402 [some (.retAddr 1), some (.ref 0), some (.ref 21), some (.ref 35), some (.int (iI i))] [] h2 a b) : Run p l e room_1 s m args below meth c z sa D dA 601024 7292999 K 8 328 [some (.retAddr 1), some (.ref 0), some (.ref 21), some (.ref 35), some (.int (iI i))] [] h n1 n2 := by
  refine rn_aload_n C d_L_law_328 rfl ?_
  refine rn_tload_n C d_L_law_329 rfl ?_
  refine rn_iload C d_L_law_330 rfl ?_
  refine rn_iconst C (iI 1) d_L_law_332 (by decide) ?_
  refine rn_iadd C d_L_law_333 ?_
  rw [iI_add]
  refine rn_sld C d_L_law_334 (iI_vin (by omega) (by omega) (by omega)) ?_
  rw [e1]
  refine rn_tload_n C d_L_law_335 rfl ?_
  refine rn_iload C d_L_law_336 rfl ?_
  refine rn_iconst C (iI 2) d_L_law_338 (by decide) ?_
  refine rn_iadd C d_L_law_339 ?_
  rw [iI_add]
  refine rn_sld C d_L_law_340 (iI_vin (by omega) (by omega) (by omega)) ?_
  rw [e2]
  refine rn_tload_n C d_L_law_341 rfl ?_
  refine rn_iload C d_L_law_342 rfl ?_
  refine rn_iconst C (iI 3) d_L_law_344 (by decide) ?_
  refine rn_iadd C d_L_law_345 ?_
  rw [iI_add]
  refine rn_sld C d_L_law_346 (iI_vin (by omega) (by omega) (by omega)) ?_
  rw [e3]
  refine rn_aload_n C d_L_law_347 rfl ?_
  refine rn_cS C (rn_mono (c_L_lit l (c_C_lit l hl))) mw_L_lit k_L_106 d_L_law_348 (Nat.le_of_ble_eq_true rfl) (Nat.le_of_ble_eq_true rfl) ⟨by decide, by decide⟩ ⟨show n1 + 1 ≤ 601024 by omega, show n2 + 6 ≤ 7292999 by omega⟩ ⟨_, fun r h1 hr => ?_, st_lit hI s1 s2 s3 i1 i2 i3⟩
  obtain ⟨k2, rfl, ⟨fs, hq⟩, hM⟩ := hr
  refine rn_istore C d_L_law_351 (by decide) ?_
  refine rn_aload_n C d_L_law_353 rfl ?_
  refine rn_tload_n C d_L_law_354 rfl ?_
  refine rn_iload C d_L_law_355 rfl ?_
  refine rn_iconst C (iI 1) d_L_law_357 (by decide) ?_
  refine rn_iadd C d_L_law_358 ?_
  rw [iI_add]
  refine rn_sld C d_L_law_359 (iI_vin (by omega) (by omega) (by omega)) ?_
  rw [e1]
  refine rn_tload_n C d_L_law_360 rfl ?_
  refine rn_iload C d_L_law_361 rfl ?_
  refine rn_iconst C (iI 2) d_L_law_363 (by decide) ?_
  refine rn_iadd C d_L_law_364 ?_
  rw [iI_add]
  refine rn_sld C d_L_law_365 (iI_vin (by omega) (by omega) (by omega)) ?_
  rw [e2]
  refine rn_tload_n C d_L_law_366 rfl ?_
  refine rn_iload C d_L_law_367 rfl ?_
  refine rn_iconst C (iI 3) d_L_law_369 (by decide) ?_
  refine rn_iadd C d_L_law_370 ?_
  rw [iI_add]
  refine rn_sld C d_L_law_371 (iI_vin (by omega) (by omega) (by omega)) ?_
  rw [e3]
  refine rn_cV C (rn_mono (c_M_lit l)) mw_M_lit k_L_108 d_L_law_372 rfl hq rfl (Nat.le_of_ble_eq_true rfl) (Nat.le_of_ble_eq_true rfl) ⟨by decide, by decide⟩ ⟨show n1 + 1 ≤ 601024 by omega, show n2 + 6 ≤ 7292999 by omega⟩ ⟨_, fun r h2 hr2 => ?_, hM⟩
  obtain ⟨b, rfl, hI2, ho⟩ := hr2
  obtain ⟨fs2, hq2⟩ := inv_21 hI2
  refine rn_istore C d_L_law_375 (by decide) ?_
  refine rn_aload_n C d_L_law_377 rfl ?_
  refine rn_cV C (c_M_thrown l) mw_M_thrown k_L_99 d_L_law_378 rfl hq2 rfl (Nat.le_of_ble_eq_true rfl) (Nat.le_of_ble_eq_true rfl) ⟨by decide, by decide⟩ ⟨show n1 + 1 ≤ 601024 by omega, show n2 + 6 ≤ 7292999 by omega⟩ (st_thrown hI2 ?_)
  refine rn_iload C d_L_law_381 rfl ?_
  refine rn_icmp_eq C 388 d_L_law_383 (by decide) (fun _ => ?_) (fun q_383 => absurd (rfl) q_383)
  refine rn_iload C d_L_law_388 rfl ?_
  refine rn_if_ne C 405 d_L_law_390 (by decide) (fun c390 => ?_) (fun c390 => ?_)
  · skip
    refine rn_goto C 1402 d_L_law_405 (by decide) ?_
    refine rn_weak (lv' := [some (.retAddr 1), some (.ref 0), some (.ref 21), some (.ref 35), some (.int (iI i))]) ⟨rfl, rfl, rfl, rfl, rfl, trivial⟩ ?_
    exact back _ _ _ _ hI2 (show n1 + 1 ≤ n1 + 1 by omega) (show n2 + 6 ≤ n2 + 6 by omega)
  · skip
    refine rn_aload_n C d_L_law_393 rfl ?_
    obtain ⟨out, h35, eo⟩ := ho c390
    refine rn_iconst C 0 d_L_law_394 (by decide) ?_
    refine rn_laload C d_L_law_395 h35 vin01 ?_
    refine rn_iload C d_L_law_396 rfl ?_
    refine rn_i2l C d_L_law_398 ?_
    refine rn_lc_eq C 405 d_L_law_399 d_L_law_400 (by decide) (fun _ => ?_) (fun q_399 => absurd (eo) q_399)
    refine rn_goto C 1402 d_L_law_405 (by decide) ?_
    refine rn_weak (lv' := [some (.retAddr 1), some (.ref 0), some (.ref 21), some (.ref 35), some (.int (iI i))]) ⟨rfl, rfl, rfl, rfl, rfl, trivial⟩ ?_
    exact back _ _ _ _ hI2 (show n1 + 1 ≤ n1 + 1 by omega) (show n2 + 6 ≤ n2 + 6 by omega)
set_option maxHeartbeats 4000000 in
set_option maxRecDepth 100000 in
theorem lc_find (C : rn_Ok p l e s m args meth c z sa D dA code "ColourChartsLaw" "law" 8 (some .boolean) []) (hl : l.flags = flags0) (hI : InvT k h) (hi0 : 2 ≤ i) (hi1 : i + 5 ≤ sa 2) (hL : sa 2 ≤ 2562) (b1 : n1 ≤ 600000) (b2 : n2 ≤ 7000000)
    (back : ∀ (h2 : ah_H) (k2 : Int) (a b : Nat), InvT k2 h2 → a ≤ n1 + 1 → b ≤ n2 + 6 → Run p l e room_1 s m args below meth c z sa D dA 601024 7292999 K 8 1402 [some (.retAddr 1), some (.ref 0), some (.ref 21), some (.ref 35), some (.int (iI i))] [] h2 a b) : Run p l e room_1 s m args below meth c z sa D dA 601024 7292999 K 8 408 [some (.retAddr 1), some (.ref 0), some (.ref 21), some (.ref 35), some (.int (iI i))] [] h n1 n2 := by
  refine rn_aload_n C d_L_law_408 rfl ?_
  refine rn_cV C (rn_mono (c_C_find l)) mw_C_find k_L_109 d_L_law_409 rfl (inv_0 hI) rfl (Nat.le_of_ble_eq_true rfl) (Nat.le_of_ble_eq_true rfl) ⟨by decide, by decide⟩ ⟨show n1 + 0 ≤ 601024 by omega, show n2 + 0 ≤ 7292999 by omega⟩ ⟨_, fun r h1 hr => ?_, st_find hI⟩
  obtain ⟨f, rfl, ⟨fs, hq⟩, hM⟩ := hr
  refine rn_aload_n C d_L_law_412 rfl ?_
  refine rn_cV C (rn_mono (c_M_find l)) mw_M_find k_L_113 d_L_law_413 rfl hq rfl (Nat.le_of_ble_eq_true rfl) (Nat.le_of_ble_eq_true rfl) ⟨by decide, by decide⟩ ⟨show n1 + 0 ≤ 601024 by omega, show n2 + 0 ≤ 7292999 by omega⟩ ⟨_, fun r h2 hr2 => ?_, hM⟩
  obtain ⟨rfl, hI2⟩ := hr2
  refine rn_icmp_eq C 1402 d_L_law_416 (by decide) (fun _ => ?_) (fun q_416 => absurd (rfl) q_416)
  refine rn_weak (lv' := [some (.retAddr 1), some (.ref 0), some (.ref 21), some (.ref 35), some (.int (iI i))]) ⟨rfl, rfl, rfl, rfl, rfl, trivial⟩ ?_
  exact back _ _ _ _ hI2 (show n1 + 0 ≤ n1 + 1 by omega) (show n2 + 0 ≤ n2 + 6 by omega)
set_option maxHeartbeats 4000000 in
set_option maxRecDepth 100000 in
theorem lc_box (C : rn_Ok p l e s m args meth c z sa D dA code "ColourChartsLaw" "law" 8 (some .boolean) []) (hl : l.flags = flags0) (hI : InvT k h) (hi0 : 2 ≤ i) (hi1 : i + 5 ≤ sa 2) (hL : sa 2 ≤ 2562) (b1 : n1 ≤ 600000) (b2 : n2 ≤ 7000000) {s1 : Int} (e1 : Int32.ofNat (sa (3 + (iI (i + 1)).toNatClampNeg)) = iI s1) (i1 : inI s1)
    (back : ∀ (h2 : ah_H) (k2 : Int) (a b : Nat), InvT k2 h2 → a ≤ n1 + 1 → b ≤ n2 + 6 → Run p l e room_1 s m args below meth c z sa D dA 601024 7292999 K 8 1402 [some (.retAddr 1), some (.ref 0), some (.ref 21), some (.ref 35), some (.int (iI i))] [] h2 a b) : Run p l e room_1 s m args below meth c z sa D dA 601024 7292999 K 8 421 [some (.retAddr 1), some (.ref 0), some (.ref 21), some (.ref 35), some (.int (iI i))] [] h n1 n2 := by
  refine rn_aload_n C d_L_law_421 rfl ?_
  refine rn_tload_n C d_L_law_422 rfl ?_
  refine rn_iload C d_L_law_423 rfl ?_
  refine rn_iconst C (iI 1) d_L_law_425 (by decide) ?_
  refine rn_iadd C d_L_law_426 ?_
  rw [iI_add]
  refine rn_sld C d_L_law_427 (iI_vin (by omega) (by omega) (by omega)) ?_
  rw [e1]
  refine rn_aload_n C d_L_law_428 rfl ?_
  refine rn_cS C (rn_mono (c_L_box l (c_C_box l hl))) mw_L_box k_L_114 d_L_law_429 (Nat.le_of_ble_eq_true rfl) (Nat.le_of_ble_eq_true rfl) ⟨by decide, by decide⟩ ⟨show n1 + 1 ≤ 601024 by omega, show n2 + 6 ≤ 7292999 by omega⟩ ⟨_, fun r h1 hr => ?_, st_box hI s1 i1⟩
  obtain ⟨k2, rfl, ⟨fs, hq⟩, hM⟩ := hr
  refine rn_istore C d_L_law_432 (by decide) ?_
  refine rn_aload_n C d_L_law_434 rfl ?_
  refine rn_tload_n C d_L_law_435 rfl ?_
  refine rn_iload C d_L_law_436 rfl ?_
  refine rn_iconst C (iI 1) d_L_law_438 (by decide) ?_
  refine rn_iadd C d_L_law_439 ?_
  rw [iI_add]
  refine rn_sld C d_L_law_440 (iI_vin (by omega) (by omega) (by omega)) ?_
  rw [e1]
  refine rn_cV C (rn_mono (c_M_box l)) mw_M_box k_L_117 d_L_law_441 rfl hq rfl (Nat.le_of_ble_eq_true rfl) (Nat.le_of_ble_eq_true rfl) ⟨by decide, by decide⟩ ⟨show n1 + 1 ≤ 601024 by omega, show n2 + 6 ≤ 7292999 by omega⟩ ⟨_, fun r h2 hr2 => ?_, hM⟩
  obtain ⟨b, rfl, hI2, ho⟩ := hr2
  obtain ⟨fs2, hq2⟩ := inv_21 hI2
  refine rn_istore C d_L_law_444 (by decide) ?_
  refine rn_aload_n C d_L_law_446 rfl ?_
  refine rn_cV C (c_M_thrown l) mw_M_thrown k_L_99 d_L_law_447 rfl hq2 rfl (Nat.le_of_ble_eq_true rfl) (Nat.le_of_ble_eq_true rfl) ⟨by decide, by decide⟩ ⟨show n1 + 1 ≤ 601024 by omega, show n2 + 6 ≤ 7292999 by omega⟩ (st_thrown hI2 ?_)
  refine rn_iload C d_L_law_450 rfl ?_
  refine rn_icmp_eq C 457 d_L_law_452 (by decide) (fun _ => ?_) (fun q_452 => absurd (rfl) q_452)
  refine rn_iload C d_L_law_457 rfl ?_
  refine rn_if_ne C 474 d_L_law_459 (by decide) (fun c459 => ?_) (fun c459 => ?_)
  · skip
    refine rn_goto C 1402 d_L_law_474 (by decide) ?_
    refine rn_weak (lv' := [some (.retAddr 1), some (.ref 0), some (.ref 21), some (.ref 35), some (.int (iI i))]) ⟨rfl, rfl, rfl, rfl, rfl, trivial⟩ ?_
    exact back _ _ _ _ hI2 (show n1 + 1 ≤ n1 + 1 by omega) (show n2 + 6 ≤ n2 + 6 by omega)
  · skip
    refine rn_aload_n C d_L_law_462 rfl ?_
    obtain ⟨out, h35, eo⟩ := ho c459
    refine rn_iconst C 0 d_L_law_463 (by decide) ?_
    refine rn_laload C d_L_law_464 h35 vin01 ?_
    refine rn_iload C d_L_law_465 rfl ?_
    refine rn_i2l C d_L_law_467 ?_
    refine rn_lc_eq C 474 d_L_law_468 d_L_law_469 (by decide) (fun _ => ?_) (fun q_468 => absurd (eo) q_468)
    refine rn_goto C 1402 d_L_law_474 (by decide) ?_
    refine rn_weak (lv' := [some (.retAddr 1), some (.ref 0), some (.ref 21), some (.ref 35), some (.int (iI i))]) ⟨rfl, rfl, rfl, rfl, rfl, trivial⟩ ?_
    exact back _ _ _ _ hI2 (show n1 + 1 ≤ n1 + 1 by omega) (show n2 + 6 ≤ n2 + 6 by omega)
set_option maxHeartbeats 4000000 in
set_option maxRecDepth 100000 in
theorem lc_grid (C : rn_Ok p l e s m args meth c z sa D dA code "ColourChartsLaw" "law" 8 (some .boolean) []) (hl : l.flags = flags0) (hI : InvT k h) (hi0 : 2 ≤ i) (hi1 : i + 5 ≤ sa 2) (hL : sa 2 ≤ 2562) (b1 : n1 ≤ 600000) (b2 : n2 ≤ 7000000) {s1 : Int} (e1 : Int32.ofNat (sa (3 + (iI (i + 1)).toNatClampNeg)) = iI s1) (i1 : inI s1) {s2 : Int} (e2 : Int32.ofNat (sa (3 + (iI (i + 2)).toNatClampNeg)) = iI s2) (i2 : inI s2)
    (back : ∀ (h2 : ah_H) (k2 : Int) (a b : Nat), InvT k2 h2 → a ≤ n1 + 1 → b ≤ n2 + 6 → Run p l e room_1 s m args below meth c z sa D dA 601024 7292999 K 8 1402 [some (.retAddr 1), some (.ref 0), some (.ref 21), some (.ref 35), some (.int (iI i))] [] h2 a b) : Run p l e room_1 s m args below meth c z sa D dA 601024 7292999 K 8 477 [some (.retAddr 1), some (.ref 0), some (.ref 21), some (.ref 35), some (.int (iI i))] [] h n1 n2 := by
  refine rn_aload_n C d_L_law_477 rfl ?_
  refine rn_tload_n C d_L_law_478 rfl ?_
  refine rn_iload C d_L_law_479 rfl ?_
  refine rn_iconst C (iI 1) d_L_law_481 (by decide) ?_
  refine rn_iadd C d_L_law_482 ?_
  rw [iI_add]
  refine rn_sld C d_L_law_483 (iI_vin (by omega) (by omega) (by omega)) ?_
  rw [e1]
  refine rn_tload_n C d_L_law_484 rfl ?_
  refine rn_iload C d_L_law_485 rfl ?_
  refine rn_iconst C (iI 2) d_L_law_487 (by decide) ?_
  refine rn_iadd C d_L_law_488 ?_
  rw [iI_add]
  refine rn_sld C d_L_law_489 (iI_vin (by omega) (by omega) (by omega)) ?_
  rw [e2]
  refine rn_cS C (rn_mono (c_L_grid l (c_C_grid l hl))) mw_L_grid k_L_118 d_L_law_490 (Nat.le_of_ble_eq_true rfl) (Nat.le_of_ble_eq_true rfl) ⟨by decide, by decide⟩ ⟨show n1 + 1 ≤ 601024 by omega, show n2 + 6 ≤ 7292999 by omega⟩ ⟨_, fun r h1 hr => ?_, st_grid hI s1 s2 i1 i2⟩
  obtain ⟨k2, rfl, ⟨fs, hq⟩, hM⟩ := hr
  refine rn_istore C d_L_law_493 (by decide) ?_
  refine rn_aload_n C d_L_law_495 rfl ?_
  refine rn_tload_n C d_L_law_496 rfl ?_
  refine rn_iload C d_L_law_497 rfl ?_
  refine rn_iconst C (iI 1) d_L_law_499 (by decide) ?_
  refine rn_iadd C d_L_law_500 ?_
  rw [iI_add]
  refine rn_sld C d_L_law_501 (iI_vin (by omega) (by omega) (by omega)) ?_
  rw [e1]
  refine rn_tload_n C d_L_law_502 rfl ?_
  refine rn_iload C d_L_law_503 rfl ?_
  refine rn_iconst C (iI 2) d_L_law_505 (by decide) ?_
  refine rn_iadd C d_L_law_506 ?_
  rw [iI_add]
  refine rn_sld C d_L_law_507 (iI_vin (by omega) (by omega) (by omega)) ?_
  rw [e2]
  refine rn_cV C (rn_mono (c_M_grid l)) mw_M_grid k_L_121 d_L_law_508 rfl hq rfl (Nat.le_of_ble_eq_true rfl) (Nat.le_of_ble_eq_true rfl) ⟨by decide, by decide⟩ ⟨show n1 + 1 ≤ 601024 by omega, show n2 + 6 ≤ 7292999 by omega⟩ ⟨_, fun r h2 hr2 => ?_, hM⟩
  obtain ⟨rfl, hI2⟩ := hr2
  obtain ⟨fs2, hq2⟩ := inv_21 hI2
  refine rn_aload_n C d_L_law_511 rfl ?_
  refine rn_cV C (c_M_thrown l) mw_M_thrown k_L_99 d_L_law_512 rfl hq2 rfl (Nat.le_of_ble_eq_true rfl) (Nat.le_of_ble_eq_true rfl) ⟨by decide, by decide⟩ ⟨show n1 + 1 ≤ 601024 by omega, show n2 + 6 ≤ 7292999 by omega⟩ (st_thrown hI2 ?_)
  refine rn_iload C d_L_law_515 rfl ?_
  refine rn_icmp_eq C 522 d_L_law_517 (by decide) (fun _ => ?_) (fun q_517 => absurd (rfl) q_517)
  refine rn_goto C 1402 d_L_law_522 (by decide) ?_
  refine rn_weak (lv' := [some (.retAddr 1), some (.ref 0), some (.ref 21), some (.ref 35), some (.int (iI i))]) ⟨rfl, rfl, rfl, rfl, rfl, trivial⟩ ?_
  exact back _ _ _ _ hI2 (show n1 + 1 ≤ n1 + 1 by omega) (show n2 + 6 ≤ n2 + 6 by omega)
set_option maxHeartbeats 4000000 in
set_option maxRecDepth 100000 in
theorem lc_turn (C : rn_Ok p l e s m args meth c z sa D dA code "ColourChartsLaw" "law" 8 (some .boolean) []) (hl : l.flags = flags0) (hI : InvT k h) (hi0 : 2 ≤ i) (hi1 : i + 5 ≤ sa 2) (hL : sa 2 ≤ 2562) (b1 : n1 ≤ 600000) (b2 : n2 ≤ 7000000) {s1 : Int} (e1 : Int32.ofNat (sa (3 + (iI (i + 1)).toNatClampNeg)) = iI s1) (i1 : inI s1)
    (back : ∀ (h2 : ah_H) (k2 : Int) (a b : Nat), InvT k2 h2 → a ≤ n1 + 1 → b ≤ n2 + 6 → Run p l e room_1 s m args below meth c z sa D dA 601024 7292999 K 8 1402 [some (.retAddr 1), some (.ref 0), some (.ref 21), some (.ref 35), some (.int (iI i))] [] h2 a b) : Run p l e room_1 s m args below meth c z sa D dA 601024 7292999 K 8 525 [some (.retAddr 1), some (.ref 0), some (.ref 21), some (.ref 35), some (.int (iI i))] [] h n1 n2 := by
  refine rn_aload_n C d_L_law_525 rfl ?_
  refine rn_tload_n C d_L_law_526 rfl ?_
  refine rn_iload C d_L_law_527 rfl ?_
  refine rn_iconst C (iI 1) d_L_law_529 (by decide) ?_
  refine rn_iadd C d_L_law_530 ?_
  rw [iI_add]
  refine rn_sld C d_L_law_531 (iI_vin (by omega) (by omega) (by omega)) ?_
  rw [e1]
  refine rn_aload_n C d_L_law_532 rfl ?_
  refine rn_cS C (rn_mono (c_L_turn l (c_C_turn l hl))) mw_L_turn k_L_122 d_L_law_533 (Nat.le_of_ble_eq_true rfl) (Nat.le_of_ble_eq_true rfl) ⟨by decide, by decide⟩ ⟨show n1 + 1 ≤ 601024 by omega, show n2 + 6 ≤ 7292999 by omega⟩ ⟨_, fun r h1 hr => ?_, st_turn hI s1 i1⟩
  obtain ⟨k2, rfl, ⟨fs, hq⟩, hM⟩ := hr
  refine rn_istore C d_L_law_536 (by decide) ?_
  refine rn_aload_n C d_L_law_538 rfl ?_
  refine rn_tload_n C d_L_law_539 rfl ?_
  refine rn_iload C d_L_law_540 rfl ?_
  refine rn_iconst C (iI 1) d_L_law_542 (by decide) ?_
  refine rn_iadd C d_L_law_543 ?_
  rw [iI_add]
  refine rn_sld C d_L_law_544 (iI_vin (by omega) (by omega) (by omega)) ?_
  rw [e1]
  refine rn_cV C (rn_mono (c_M_turn l)) mw_M_turn k_L_124 d_L_law_545 rfl hq rfl (Nat.le_of_ble_eq_true rfl) (Nat.le_of_ble_eq_true rfl) ⟨by decide, by decide⟩ ⟨show n1 + 1 ≤ 601024 by omega, show n2 + 6 ≤ 7292999 by omega⟩ ⟨_, fun r h2 hr2 => ?_, hM⟩
  obtain ⟨b, rfl, hI2, ho⟩ := hr2
  obtain ⟨fs2, hq2⟩ := inv_21 hI2
  refine rn_istore C d_L_law_548 (by decide) ?_
  refine rn_aload_n C d_L_law_550 rfl ?_
  refine rn_cV C (c_M_thrown l) mw_M_thrown k_L_99 d_L_law_551 rfl hq2 rfl (Nat.le_of_ble_eq_true rfl) (Nat.le_of_ble_eq_true rfl) ⟨by decide, by decide⟩ ⟨show n1 + 1 ≤ 601024 by omega, show n2 + 6 ≤ 7292999 by omega⟩ (st_thrown hI2 ?_)
  refine rn_iload C d_L_law_554 rfl ?_
  refine rn_icmp_eq C 561 d_L_law_556 (by decide) (fun _ => ?_) (fun q_556 => absurd (rfl) q_556)
  refine rn_iload C d_L_law_561 rfl ?_
  refine rn_if_ne C 578 d_L_law_563 (by decide) (fun c563 => ?_) (fun c563 => ?_)
  · skip
    refine rn_goto C 1402 d_L_law_578 (by decide) ?_
    refine rn_weak (lv' := [some (.retAddr 1), some (.ref 0), some (.ref 21), some (.ref 35), some (.int (iI i))]) ⟨rfl, rfl, rfl, rfl, rfl, trivial⟩ ?_
    exact back _ _ _ _ hI2 (show n1 + 1 ≤ n1 + 1 by omega) (show n2 + 6 ≤ n2 + 6 by omega)
  · skip
    refine rn_aload_n C d_L_law_566 rfl ?_
    obtain ⟨out, h35, eo⟩ := ho c563
    refine rn_iconst C 0 d_L_law_567 (by decide) ?_
    refine rn_laload C d_L_law_568 h35 vin01 ?_
    refine rn_iload C d_L_law_569 rfl ?_
    refine rn_i2l C d_L_law_571 ?_
    refine rn_lc_eq C 578 d_L_law_572 d_L_law_573 (by decide) (fun _ => ?_) (fun q_572 => absurd (eo) q_572)
    refine rn_goto C 1402 d_L_law_578 (by decide) ?_
    refine rn_weak (lv' := [some (.retAddr 1), some (.ref 0), some (.ref 21), some (.ref 35), some (.int (iI i))]) ⟨rfl, rfl, rfl, rfl, rfl, trivial⟩ ?_
    exact back _ _ _ _ hI2 (show n1 + 1 ≤ n1 + 1 by omega) (show n2 + 6 ≤ n2 + 6 by omega)
set_option maxHeartbeats 4000000 in
set_option maxRecDepth 100000 in
theorem lc_read (C : rn_Ok p l e s m args meth c z sa D dA code "ColourChartsLaw" "law" 8 (some .boolean) []) (hl : l.flags = flags0) (hI : InvT k h) (hi0 : 2 ≤ i) (hi1 : i + 5 ≤ sa 2) (hL : sa 2 ≤ 2562) (b1 : n1 ≤ 600000) (b2 : n2 ≤ 7000000) {s1 : Int} (e1 : Int32.ofNat (sa (3 + (iI (i + 1)).toNatClampNeg)) = iI s1) (i1 : inI s1) {s2 : Int} (e2 : Int32.ofNat (sa (3 + (iI (i + 2)).toNatClampNeg)) = iI s2) (i2 : inI s2)
    (back : ∀ (h2 : ah_H) (k2 : Int) (a b : Nat), InvT k2 h2 → a ≤ n1 + 1 → b ≤ n2 + 6 → Run p l e room_1 s m args below meth c z sa D dA 601024 7292999 K 8 1402 [some (.retAddr 1), some (.ref 0), some (.ref 21), some (.ref 35), some (.int (iI i))] [] h2 a b) : Run p l e room_1 s m args below meth c z sa D dA 601024 7292999 K 8 581 [some (.retAddr 1), some (.ref 0), some (.ref 21), some (.ref 35), some (.int (iI i))] [] h n1 n2 := by
  refine rn_aload_n C d_L_law_581 rfl ?_
  refine rn_tload_n C d_L_law_582 rfl ?_
  refine rn_iload C d_L_law_583 rfl ?_
  refine rn_iconst C (iI 1) d_L_law_585 (by decide) ?_
  refine rn_iadd C d_L_law_586 ?_
  rw [iI_add]
  refine rn_sld C d_L_law_587 (iI_vin (by omega) (by omega) (by omega)) ?_
  rw [e1]
  refine rn_tload_n C d_L_law_588 rfl ?_
  refine rn_iload C d_L_law_589 rfl ?_
  refine rn_iconst C (iI 2) d_L_law_591 (by decide) ?_
  refine rn_iadd C d_L_law_592 ?_
  rw [iI_add]
  refine rn_sld C d_L_law_593 (iI_vin (by omega) (by omega) (by omega)) ?_
  rw [e2]
  refine rn_aload_n C d_L_law_594 rfl ?_
  refine rn_cS C (rn_mono (c_L_read l (c_C_read l hl))) mw_L_read k_L_125 d_L_law_595 (Nat.le_of_ble_eq_true rfl) (Nat.le_of_ble_eq_true rfl) ⟨by decide, by decide⟩ ⟨show n1 + 1 ≤ 601024 by omega, show n2 + 6 ≤ 7292999 by omega⟩ ⟨_, fun r h1 hr => ?_, st_read hI s1 s2 i1 i2⟩
  obtain ⟨k2, rfl, ⟨fs, hq⟩, hM⟩ := hr
  refine rn_istore C d_L_law_598 (by decide) ?_
  refine rn_aload_n C d_L_law_600 rfl ?_
  refine rn_tload_n C d_L_law_601 rfl ?_
  refine rn_iload C d_L_law_602 rfl ?_
  refine rn_iconst C (iI 1) d_L_law_604 (by decide) ?_
  refine rn_iadd C d_L_law_605 ?_
  rw [iI_add]
  refine rn_sld C d_L_law_606 (iI_vin (by omega) (by omega) (by omega)) ?_
  rw [e1]
  refine rn_tload_n C d_L_law_607 rfl ?_
  refine rn_iload C d_L_law_608 rfl ?_
  refine rn_iconst C (iI 2) d_L_law_610 (by decide) ?_
  refine rn_iadd C d_L_law_611 ?_
  rw [iI_add]
  refine rn_sld C d_L_law_612 (iI_vin (by omega) (by omega) (by omega)) ?_
  rw [e2]
  refine rn_cV C (rn_mono (c_M_read l)) mw_M_read k_L_128 d_L_law_613 rfl hq rfl (Nat.le_of_ble_eq_true rfl) (Nat.le_of_ble_eq_true rfl) ⟨by decide, by decide⟩ ⟨show n1 + 1 ≤ 601024 by omega, show n2 + 6 ≤ 7292999 by omega⟩ ⟨_, fun r h2 hr2 => ?_, hM⟩
  obtain ⟨b, rfl, hI2, ho⟩ := hr2
  obtain ⟨fs2, hq2⟩ := inv_21 hI2
  refine rn_istore C d_L_law_616 (by decide) ?_
  refine rn_aload_n C d_L_law_618 rfl ?_
  refine rn_cV C (c_M_thrown l) mw_M_thrown k_L_99 d_L_law_619 rfl hq2 rfl (Nat.le_of_ble_eq_true rfl) (Nat.le_of_ble_eq_true rfl) ⟨by decide, by decide⟩ ⟨show n1 + 1 ≤ 601024 by omega, show n2 + 6 ≤ 7292999 by omega⟩ (st_thrown hI2 ?_)
  refine rn_iload C d_L_law_622 rfl ?_
  refine rn_icmp_eq C 629 d_L_law_624 (by decide) (fun _ => ?_) (fun q_624 => absurd (rfl) q_624)
  refine rn_iload C d_L_law_629 rfl ?_
  refine rn_if_ne C 646 d_L_law_631 (by decide) (fun c631 => ?_) (fun c631 => ?_)
  · skip
    refine rn_goto C 1402 d_L_law_646 (by decide) ?_
    refine rn_weak (lv' := [some (.retAddr 1), some (.ref 0), some (.ref 21), some (.ref 35), some (.int (iI i))]) ⟨rfl, rfl, rfl, rfl, rfl, trivial⟩ ?_
    exact back _ _ _ _ hI2 (show n1 + 1 ≤ n1 + 1 by omega) (show n2 + 6 ≤ n2 + 6 by omega)
  · skip
    refine rn_aload_n C d_L_law_634 rfl ?_
    obtain ⟨out, h35, eo⟩ := ho c631
    refine rn_iconst C 0 d_L_law_635 (by decide) ?_
    refine rn_laload C d_L_law_636 h35 vin01 ?_
    refine rn_iload C d_L_law_637 rfl ?_
    refine rn_i2l C d_L_law_639 ?_
    refine rn_lc_eq C 646 d_L_law_640 d_L_law_641 (by decide) (fun _ => ?_) (fun q_640 => absurd (eo) q_640)
    refine rn_goto C 1402 d_L_law_646 (by decide) ?_
    refine rn_weak (lv' := [some (.retAddr 1), some (.ref 0), some (.ref 21), some (.ref 35), some (.int (iI i))]) ⟨rfl, rfl, rfl, rfl, rfl, trivial⟩ ?_
    exact back _ _ _ _ hI2 (show n1 + 1 ≤ n1 + 1 by omega) (show n2 + 6 ≤ n2 + 6 by omega)
set_option maxHeartbeats 4000000 in
set_option maxRecDepth 100000 in
theorem lc_noise (C : rn_Ok p l e s m args meth c z sa D dA code "ColourChartsLaw" "law" 8 (some .boolean) []) (hl : l.flags = flags0) (hI : InvT k h) (hi0 : 2 ≤ i) (hi1 : i + 5 ≤ sa 2) (hL : sa 2 ≤ 2562) (b1 : n1 ≤ 600000) (b2 : n2 ≤ 7000000) {s1 : Int} (e1 : Int32.ofNat (sa (3 + (iI (i + 1)).toNatClampNeg)) = iI s1) (i1 : inI s1) {s2 : Int} (e2 : Int32.ofNat (sa (3 + (iI (i + 2)).toNatClampNeg)) = iI s2) (i2 : inI s2)
    (back : ∀ (h2 : ah_H) (k2 : Int) (a b : Nat), InvT k2 h2 → a ≤ n1 + 1 → b ≤ n2 + 6 → Run p l e room_1 s m args below meth c z sa D dA 601024 7292999 K 8 1402 [some (.retAddr 1), some (.ref 0), some (.ref 21), some (.ref 35), some (.int (iI i))] [] h2 a b) : Run p l e room_1 s m args below meth c z sa D dA 601024 7292999 K 8 649 [some (.retAddr 1), some (.ref 0), some (.ref 21), some (.ref 35), some (.int (iI i))] [] h n1 n2 := by
  refine rn_aload_n C d_L_law_649 rfl ?_
  refine rn_tload_n C d_L_law_650 rfl ?_
  refine rn_iload C d_L_law_651 rfl ?_
  refine rn_iconst C (iI 1) d_L_law_653 (by decide) ?_
  refine rn_iadd C d_L_law_654 ?_
  rw [iI_add]
  refine rn_sld C d_L_law_655 (iI_vin (by omega) (by omega) (by omega)) ?_
  rw [e1]
  refine rn_tload_n C d_L_law_656 rfl ?_
  refine rn_iload C d_L_law_657 rfl ?_
  refine rn_iconst C (iI 2) d_L_law_659 (by decide) ?_
  refine rn_iadd C d_L_law_660 ?_
  rw [iI_add]
  refine rn_sld C d_L_law_661 (iI_vin (by omega) (by omega) (by omega)) ?_
  rw [e2]
  refine rn_aload_n C d_L_law_662 rfl ?_
  refine rn_cS C (rn_mono (c_L_noise l (c_C_noise l hl))) mw_L_noise k_L_129 d_L_law_663 (Nat.le_of_ble_eq_true rfl) (Nat.le_of_ble_eq_true rfl) ⟨by decide, by decide⟩ ⟨show n1 + 1 ≤ 601024 by omega, show n2 + 6 ≤ 7292999 by omega⟩ ⟨_, fun r h1 hr => ?_, st_noise hI s1 s2 i1 i2⟩
  obtain ⟨k2, rfl, ⟨fs, hq⟩, hM⟩ := hr
  refine rn_istore C d_L_law_666 (by decide) ?_
  refine rn_aload_n C d_L_law_668 rfl ?_
  refine rn_tload_n C d_L_law_669 rfl ?_
  refine rn_iload C d_L_law_670 rfl ?_
  refine rn_iconst C (iI 1) d_L_law_672 (by decide) ?_
  refine rn_iadd C d_L_law_673 ?_
  rw [iI_add]
  refine rn_sld C d_L_law_674 (iI_vin (by omega) (by omega) (by omega)) ?_
  rw [e1]
  refine rn_tload_n C d_L_law_675 rfl ?_
  refine rn_iload C d_L_law_676 rfl ?_
  refine rn_iconst C (iI 2) d_L_law_678 (by decide) ?_
  refine rn_iadd C d_L_law_679 ?_
  rw [iI_add]
  refine rn_sld C d_L_law_680 (iI_vin (by omega) (by omega) (by omega)) ?_
  rw [e2]
  refine rn_cV C (rn_mono (c_M_noise l)) mw_M_noise k_L_131 d_L_law_681 rfl hq rfl (Nat.le_of_ble_eq_true rfl) (Nat.le_of_ble_eq_true rfl) ⟨by decide, by decide⟩ ⟨show n1 + 1 ≤ 601024 by omega, show n2 + 6 ≤ 7292999 by omega⟩ ⟨_, fun r h2 hr2 => ?_, hM⟩
  obtain ⟨b, rfl, hI2, ho⟩ := hr2
  obtain ⟨fs2, hq2⟩ := inv_21 hI2
  refine rn_lstore C d_L_law_684 (by decide) ?_
  refine rn_aload_n C d_L_law_686 rfl ?_
  refine rn_cV C (c_M_thrown l) mw_M_thrown k_L_99 d_L_law_687 rfl hq2 rfl (Nat.le_of_ble_eq_true rfl) (Nat.le_of_ble_eq_true rfl) ⟨by decide, by decide⟩ ⟨show n1 + 1 ≤ 601024 by omega, show n2 + 6 ≤ 7292999 by omega⟩ (st_thrown hI2 ?_)
  refine rn_iload C d_L_law_690 rfl ?_
  refine rn_icmp_eq C 697 d_L_law_692 (by decide) (fun _ => ?_) (fun q_692 => absurd (rfl) q_692)
  refine rn_iload C d_L_law_697 rfl ?_
  refine rn_if_ne C 713 d_L_law_699 (by decide) (fun c699 => ?_) (fun c699 => ?_)
  · skip
    refine rn_goto C 1402 d_L_law_713 (by decide) ?_
    refine rn_weak (lv' := [some (.retAddr 1), some (.ref 0), some (.ref 21), some (.ref 35), some (.int (iI i))]) ⟨rfl, rfl, rfl, rfl, rfl, trivial⟩ ?_
    exact back _ _ _ _ hI2 (show n1 + 1 ≤ n1 + 1 by omega) (show n2 + 6 ≤ n2 + 6 by omega)
  · skip
    refine rn_aload_n C d_L_law_702 rfl ?_
    obtain ⟨out, h35, eo⟩ := ho c699
    refine rn_iconst C 0 d_L_law_703 (by decide) ?_
    refine rn_laload C d_L_law_704 h35 vin01 ?_
    refine rn_lload C d_L_law_705 rfl ?_
    refine rn_lc_eq C 713 d_L_law_707 d_L_law_708 (by decide) (fun _ => ?_) (fun q_707 => absurd (eo) q_707)
    refine rn_goto C 1402 d_L_law_713 (by decide) ?_
    refine rn_weak (lv' := [some (.retAddr 1), some (.ref 0), some (.ref 21), some (.ref 35), some (.int (iI i))]) ⟨rfl, rfl, rfl, rfl, rfl, trivial⟩ ?_
    exact back _ _ _ _ hI2 (show n1 + 1 ≤ n1 + 1 by omega) (show n2 + 6 ≤ n2 + 6 by omega)
set_option maxHeartbeats 4000000 in
set_option maxRecDepth 100000 in
theorem lc_target (C : rn_Ok p l e s m args meth c z sa D dA code "ColourChartsLaw" "law" 8 (some .boolean) []) (hl : l.flags = flags0) (hI : InvT k h) (hi0 : 2 ≤ i) (hi1 : i + 5 ≤ sa 2) (hL : sa 2 ≤ 2562) (b1 : n1 ≤ 600000) (b2 : n2 ≤ 7000000) {s1 : Int} (e1 : Int32.ofNat (sa (3 + (iI (i + 1)).toNatClampNeg)) = iI s1) (i1 : inI s1) {s2 : Int} (e2 : Int32.ofNat (sa (3 + (iI (i + 2)).toNatClampNeg)) = iI s2) (i2 : inI s2) {s3 : Int} (e3 : Int32.ofNat (sa (3 + (iI (i + 3)).toNatClampNeg)) = iI s3) (i3 : inI s3) {s4 : Int} (e4 : Int32.ofNat (sa (3 + (iI (i + 4)).toNatClampNeg)) = iI s4) (i4 : inI s4)
    (back : ∀ (h2 : ah_H) (k2 : Int) (a b : Nat), InvT k2 h2 → a ≤ n1 + 1 → b ≤ n2 + 6 → Run p l e room_1 s m args below meth c z sa D dA 601024 7292999 K 8 1402 [some (.retAddr 1), some (.ref 0), some (.ref 21), some (.ref 35), some (.int (iI i))] [] h2 a b) : Run p l e room_1 s m args below meth c z sa D dA 601024 7292999 K 8 716 [some (.retAddr 1), some (.ref 0), some (.ref 21), some (.ref 35), some (.int (iI i))] [] h n1 n2 := by
  refine rn_aload_n C d_L_law_716 rfl ?_
  refine rn_tload_n C d_L_law_717 rfl ?_
  refine rn_iload C d_L_law_718 rfl ?_
  refine rn_iconst C (iI 1) d_L_law_720 (by decide) ?_
  refine rn_iadd C d_L_law_721 ?_
  rw [iI_add]
  refine rn_sld C d_L_law_722 (iI_vin (by omega) (by omega) (by omega)) ?_
  rw [e1]
  refine rn_tload_n C d_L_law_723 rfl ?_
  refine rn_iload C d_L_law_724 rfl ?_
  refine rn_iconst C (iI 2) d_L_law_726 (by decide) ?_
  refine rn_iadd C d_L_law_727 ?_
  rw [iI_add]
  refine rn_sld C d_L_law_728 (iI_vin (by omega) (by omega) (by omega)) ?_
  rw [e2]
  refine rn_tload_n C d_L_law_729 rfl ?_
  refine rn_iload C d_L_law_730 rfl ?_
  refine rn_iconst C (iI 3) d_L_law_732 (by decide) ?_
  refine rn_iadd C d_L_law_733 ?_
  rw [iI_add]
  refine rn_sld C d_L_law_734 (iI_vin (by omega) (by omega) (by omega)) ?_
  rw [e3]
  refine rn_tload_n C d_L_law_735 rfl ?_
  refine rn_iload C d_L_law_736 rfl ?_
  refine rn_iconst C (iI 4) d_L_law_738 (by decide) ?_
  refine rn_iadd C d_L_law_739 ?_
  rw [iI_add]
  refine rn_sld C d_L_law_740 (iI_vin (by omega) (by omega) (by omega)) ?_
  rw [e4]
  refine rn_cS C (rn_mono (c_L_target l (c_C_target l hl))) mw_L_target k_L_132 d_L_law_741 (Nat.le_of_ble_eq_true rfl) (Nat.le_of_ble_eq_true rfl) ⟨by decide, by decide⟩ ⟨show n1 + 1 ≤ 601024 by omega, show n2 + 6 ≤ 7292999 by omega⟩ ⟨_, fun r h1 hr => ?_, st_target hI s1 s2 s3 s4 i1 i2 i3 i4⟩
  obtain ⟨k2, rfl, ⟨fs, hq⟩, hM⟩ := hr
  refine rn_istore C d_L_law_744 (by decide) ?_
  refine rn_aload_n C d_L_law_746 rfl ?_
  refine rn_tload_n C d_L_law_747 rfl ?_
  refine rn_iload C d_L_law_748 rfl ?_
  refine rn_iconst C (iI 1) d_L_law_750 (by decide) ?_
  refine rn_iadd C d_L_law_751 ?_
  rw [iI_add]
  refine rn_sld C d_L_law_752 (iI_vin (by omega) (by omega) (by omega)) ?_
  rw [e1]
  refine rn_tload_n C d_L_law_753 rfl ?_
  refine rn_iload C d_L_law_754 rfl ?_
  refine rn_iconst C (iI 2) d_L_law_756 (by decide) ?_
  refine rn_iadd C d_L_law_757 ?_
  rw [iI_add]
  refine rn_sld C d_L_law_758 (iI_vin (by omega) (by omega) (by omega)) ?_
  rw [e2]
  refine rn_tload_n C d_L_law_759 rfl ?_
  refine rn_iload C d_L_law_760 rfl ?_
  refine rn_iconst C (iI 3) d_L_law_762 (by decide) ?_
  refine rn_iadd C d_L_law_763 ?_
  rw [iI_add]
  refine rn_sld C d_L_law_764 (iI_vin (by omega) (by omega) (by omega)) ?_
  rw [e3]
  refine rn_tload_n C d_L_law_765 rfl ?_
  refine rn_iload C d_L_law_766 rfl ?_
  refine rn_iconst C (iI 4) d_L_law_768 (by decide) ?_
  refine rn_iadd C d_L_law_769 ?_
  rw [iI_add]
  refine rn_sld C d_L_law_770 (iI_vin (by omega) (by omega) (by omega)) ?_
  rw [e4]
  refine rn_cV C (rn_mono (c_M_target l)) mw_M_target k_L_135 d_L_law_771 rfl hq rfl (Nat.le_of_ble_eq_true rfl) (Nat.le_of_ble_eq_true rfl) ⟨by decide, by decide⟩ ⟨show n1 + 1 ≤ 601024 by omega, show n2 + 6 ≤ 7292999 by omega⟩ ⟨_, fun r h2 hr2 => ?_, hM⟩
  obtain ⟨rfl, hI2⟩ := hr2
  obtain ⟨fs2, hq2⟩ := inv_21 hI2
  refine rn_aload_n C d_L_law_774 rfl ?_
  refine rn_cV C (c_M_thrown l) mw_M_thrown k_L_99 d_L_law_775 rfl hq2 rfl (Nat.le_of_ble_eq_true rfl) (Nat.le_of_ble_eq_true rfl) ⟨by decide, by decide⟩ ⟨show n1 + 1 ≤ 601024 by omega, show n2 + 6 ≤ 7292999 by omega⟩ (st_thrown hI2 ?_)
  refine rn_iload C d_L_law_778 rfl ?_
  refine rn_icmp_eq C 785 d_L_law_780 (by decide) (fun _ => ?_) (fun q_780 => absurd (rfl) q_780)
  refine rn_goto C 1402 d_L_law_785 (by decide) ?_
  refine rn_weak (lv' := [some (.retAddr 1), some (.ref 0), some (.ref 21), some (.ref 35), some (.int (iI i))]) ⟨rfl, rfl, rfl, rfl, rfl, trivial⟩ ?_
  exact back _ _ _ _ hI2 (show n1 + 1 ≤ n1 + 1 by omega) (show n2 + 6 ≤ n2 + 6 by omega)
set_option maxHeartbeats 4000000 in
set_option maxRecDepth 100000 in
theorem lc_neutral (C : rn_Ok p l e s m args meth c z sa D dA code "ColourChartsLaw" "law" 8 (some .boolean) []) (hl : l.flags = flags0) (hI : InvT k h) (hi0 : 2 ≤ i) (hi1 : i + 5 ≤ sa 2) (hL : sa 2 ≤ 2562) (b1 : n1 ≤ 600000) (b2 : n2 ≤ 7000000) {s1 : Int} (e1 : Int32.ofNat (sa (3 + (iI (i + 1)).toNatClampNeg)) = iI s1) (i1 : inI s1)
    (back : ∀ (h2 : ah_H) (k2 : Int) (a b : Nat), InvT k2 h2 → a ≤ n1 + 1 → b ≤ n2 + 6 → Run p l e room_1 s m args below meth c z sa D dA 601024 7292999 K 8 1402 [some (.retAddr 1), some (.ref 0), some (.ref 21), some (.ref 35), some (.int (iI i))] [] h2 a b) : Run p l e room_1 s m args below meth c z sa D dA 601024 7292999 K 8 788 [some (.retAddr 1), some (.ref 0), some (.ref 21), some (.ref 35), some (.int (iI i))] [] h n1 n2 := by
  refine rn_aload_n C d_L_law_788 rfl ?_
  refine rn_tload_n C d_L_law_789 rfl ?_
  refine rn_iload C d_L_law_790 rfl ?_
  refine rn_iconst C (iI 1) d_L_law_792 (by decide) ?_
  refine rn_iadd C d_L_law_793 ?_
  rw [iI_add]
  refine rn_sld C d_L_law_794 (iI_vin (by omega) (by omega) (by omega)) ?_
  rw [e1]
  refine rn_aload_n C d_L_law_795 rfl ?_
  refine rn_cS C (rn_mono (c_L_neutral l (c_C_neutral l hl))) mw_L_neutral k_L_136 d_L_law_796 (Nat.le_of_ble_eq_true rfl) (Nat.le_of_ble_eq_true rfl) ⟨by decide, by decide⟩ ⟨show n1 + 1 ≤ 601024 by omega, show n2 + 6 ≤ 7292999 by omega⟩ ⟨_, fun r h1 hr => ?_, st_neutral hI s1 i1⟩
  obtain ⟨k2, rfl, ⟨fs, hq⟩, hM⟩ := hr
  refine rn_istore C d_L_law_799 (by decide) ?_
  refine rn_aload_n C d_L_law_801 rfl ?_
  refine rn_tload_n C d_L_law_802 rfl ?_
  refine rn_iload C d_L_law_803 rfl ?_
  refine rn_iconst C (iI 1) d_L_law_805 (by decide) ?_
  refine rn_iadd C d_L_law_806 ?_
  rw [iI_add]
  refine rn_sld C d_L_law_807 (iI_vin (by omega) (by omega) (by omega)) ?_
  rw [e1]
  refine rn_cV C (rn_mono (c_M_neutral l)) mw_M_neutral k_L_138 d_L_law_808 rfl hq rfl (Nat.le_of_ble_eq_true rfl) (Nat.le_of_ble_eq_true rfl) ⟨by decide, by decide⟩ ⟨show n1 + 1 ≤ 601024 by omega, show n2 + 6 ≤ 7292999 by omega⟩ ⟨_, fun r h2 hr2 => ?_, hM⟩
  obtain ⟨b, rfl, hI2, ho⟩ := hr2
  obtain ⟨fs2, hq2⟩ := inv_21 hI2
  refine rn_istore C d_L_law_811 (by decide) ?_
  refine rn_aload_n C d_L_law_813 rfl ?_
  refine rn_cV C (c_M_thrown l) mw_M_thrown k_L_99 d_L_law_814 rfl hq2 rfl (Nat.le_of_ble_eq_true rfl) (Nat.le_of_ble_eq_true rfl) ⟨by decide, by decide⟩ ⟨show n1 + 1 ≤ 601024 by omega, show n2 + 6 ≤ 7292999 by omega⟩ (st_thrown hI2 ?_)
  refine rn_iload C d_L_law_817 rfl ?_
  refine rn_icmp_eq C 824 d_L_law_819 (by decide) (fun _ => ?_) (fun q_819 => absurd (rfl) q_819)
  refine rn_iload C d_L_law_824 rfl ?_
  refine rn_if_ne C 841 d_L_law_826 (by decide) (fun c826 => ?_) (fun c826 => ?_)
  · skip
    refine rn_goto C 1402 d_L_law_841 (by decide) ?_
    refine rn_weak (lv' := [some (.retAddr 1), some (.ref 0), some (.ref 21), some (.ref 35), some (.int (iI i))]) ⟨rfl, rfl, rfl, rfl, rfl, trivial⟩ ?_
    exact back _ _ _ _ hI2 (show n1 + 1 ≤ n1 + 1 by omega) (show n2 + 6 ≤ n2 + 6 by omega)
  · skip
    refine rn_aload_n C d_L_law_829 rfl ?_
    obtain ⟨out, h35, eo⟩ := ho c826
    refine rn_iconst C 0 d_L_law_830 (by decide) ?_
    refine rn_laload C d_L_law_831 h35 vin01 ?_
    refine rn_iload C d_L_law_832 rfl ?_
    refine rn_i2l C d_L_law_834 ?_
    refine rn_lc_eq C 841 d_L_law_835 d_L_law_836 (by decide) (fun _ => ?_) (fun q_835 => absurd (eo) q_835)
    refine rn_goto C 1402 d_L_law_841 (by decide) ?_
    refine rn_weak (lv' := [some (.retAddr 1), some (.ref 0), some (.ref 21), some (.ref 35), some (.int (iI i))]) ⟨rfl, rfl, rfl, rfl, rfl, trivial⟩ ?_
    exact back _ _ _ _ hI2 (show n1 + 1 ≤ n1 + 1 by omega) (show n2 + 6 ≤ n2 + 6 by omega)
set_option maxHeartbeats 4000000 in
set_option maxRecDepth 100000 in
theorem lc_fit (C : rn_Ok p l e s m args meth c z sa D dA code "ColourChartsLaw" "law" 8 (some .boolean) []) (hl : l.flags = flags0) (hI : InvT k h) (hi0 : 2 ≤ i) (hi1 : i + 5 ≤ sa 2) (hL : sa 2 ≤ 2562) (b1 : n1 ≤ 600000) (b2 : n2 ≤ 7000000)
    (back : ∀ (h2 : ah_H) (k2 : Int) (a b : Nat), InvT k2 h2 → a ≤ n1 + 1 → b ≤ n2 + 6 → Run p l e room_1 s m args below meth c z sa D dA 601024 7292999 K 8 1402 [some (.retAddr 1), some (.ref 0), some (.ref 21), some (.ref 35), some (.int (iI i))] [] h2 a b) : Run p l e room_1 s m args below meth c z sa D dA 601024 7292999 K 8 844 [some (.retAddr 1), some (.ref 0), some (.ref 21), some (.ref 35), some (.int (iI i))] [] h n1 n2 := by
  refine rn_aload_n C d_L_law_844 rfl ?_
  refine rn_aload_n C d_L_law_845 rfl ?_
  refine rn_cS C (rn_mono (c_L_fit l (c_C_fit l hl))) mw_L_fit k_L_139 d_L_law_846 (Nat.le_of_ble_eq_true rfl) (Nat.le_of_ble_eq_true rfl) ⟨by decide, by decide⟩ ⟨show n1 + 1 ≤ 601024 by omega, show n2 + 6 ≤ 7292999 by omega⟩ ⟨_, fun r h1 hr => ?_, st_fit hI⟩
  obtain ⟨k2, rfl, ⟨fs, hq⟩, hM⟩ := hr
  refine rn_istore C d_L_law_849 (by decide) ?_
  refine rn_aload_n C d_L_law_851 rfl ?_
  refine rn_cV C (rn_mono (c_M_fit l)) mw_M_fit k_L_142 d_L_law_852 rfl hq rfl (Nat.le_of_ble_eq_true rfl) (Nat.le_of_ble_eq_true rfl) ⟨by decide, by decide⟩ ⟨show n1 + 1 ≤ 601024 by omega, show n2 + 6 ≤ 7292999 by omega⟩ ⟨_, fun r h2 hr2 => ?_, hM⟩
  obtain ⟨b, rfl, hI2, ho⟩ := hr2
  obtain ⟨fs2, hq2⟩ := inv_21 hI2
  refine rn_istore C d_L_law_855 (by decide) ?_
  refine rn_aload_n C d_L_law_857 rfl ?_
  refine rn_cV C (c_M_thrown l) mw_M_thrown k_L_99 d_L_law_858 rfl hq2 rfl (Nat.le_of_ble_eq_true rfl) (Nat.le_of_ble_eq_true rfl) ⟨by decide, by decide⟩ ⟨show n1 + 1 ≤ 601024 by omega, show n2 + 6 ≤ 7292999 by omega⟩ (st_thrown hI2 ?_)
  refine rn_iload C d_L_law_861 rfl ?_
  refine rn_icmp_eq C 868 d_L_law_863 (by decide) (fun _ => ?_) (fun q_863 => absurd (rfl) q_863)
  refine rn_iload C d_L_law_868 rfl ?_
  refine rn_if_ne C 885 d_L_law_870 (by decide) (fun c870 => ?_) (fun c870 => ?_)
  · skip
    refine rn_goto C 1402 d_L_law_885 (by decide) ?_
    refine rn_weak (lv' := [some (.retAddr 1), some (.ref 0), some (.ref 21), some (.ref 35), some (.int (iI i))]) ⟨rfl, rfl, rfl, rfl, rfl, trivial⟩ ?_
    exact back _ _ _ _ hI2 (show n1 + 1 ≤ n1 + 1 by omega) (show n2 + 6 ≤ n2 + 6 by omega)
  · skip
    refine rn_aload_n C d_L_law_873 rfl ?_
    obtain ⟨out, h35, eo⟩ := ho c870
    refine rn_iconst C 0 d_L_law_874 (by decide) ?_
    refine rn_laload C d_L_law_875 h35 vin01 ?_
    refine rn_iload C d_L_law_876 rfl ?_
    refine rn_i2l C d_L_law_878 ?_
    refine rn_lc_eq C 885 d_L_law_879 d_L_law_880 (by decide) (fun _ => ?_) (fun q_879 => absurd (eo) q_879)
    refine rn_goto C 1402 d_L_law_885 (by decide) ?_
    refine rn_weak (lv' := [some (.retAddr 1), some (.ref 0), some (.ref 21), some (.ref 35), some (.int (iI i))]) ⟨rfl, rfl, rfl, rfl, rfl, trivial⟩ ?_
    exact back _ _ _ _ hI2 (show n1 + 1 ≤ n1 + 1 by omega) (show n2 + 6 ≤ n2 + 6 by omega)
set_option maxHeartbeats 4000000 in
set_option maxRecDepth 100000 in
theorem lc_line (C : rn_Ok p l e s m args meth c z sa D dA code "ColourChartsLaw" "law" 8 (some .boolean) []) (hl : l.flags = flags0) (hI : InvT k h) (hi0 : 2 ≤ i) (hi1 : i + 5 ≤ sa 2) (hL : sa 2 ≤ 2562) (b1 : n1 ≤ 600000) (b2 : n2 ≤ 7000000) {s1 : Int} (e1 : Int32.ofNat (sa (3 + (iI (i + 1)).toNatClampNeg)) = iI s1) (i1 : inI s1) {s2 : Int} (e2 : Int32.ofNat (sa (3 + (iI (i + 2)).toNatClampNeg)) = iI s2) (i2 : inI s2)
    (back : ∀ (h2 : ah_H) (k2 : Int) (a b : Nat), InvT k2 h2 → a ≤ n1 + 1 → b ≤ n2 + 6 → Run p l e room_1 s m args below meth c z sa D dA 601024 7292999 K 8 1402 [some (.retAddr 1), some (.ref 0), some (.ref 21), some (.ref 35), some (.int (iI i))] [] h2 a b) : Run p l e room_1 s m args below meth c z sa D dA 601024 7292999 K 8 888 [some (.retAddr 1), some (.ref 0), some (.ref 21), some (.ref 35), some (.int (iI i))] [] h n1 n2 := by
  refine rn_aload_n C d_L_law_888 rfl ?_
  refine rn_tload_n C d_L_law_889 rfl ?_
  refine rn_iload C d_L_law_890 rfl ?_
  refine rn_iconst C (iI 1) d_L_law_892 (by decide) ?_
  refine rn_iadd C d_L_law_893 ?_
  rw [iI_add]
  refine rn_sld C d_L_law_894 (iI_vin (by omega) (by omega) (by omega)) ?_
  rw [e1]
  refine rn_tload_n C d_L_law_895 rfl ?_
  refine rn_iload C d_L_law_896 rfl ?_
  refine rn_iconst C (iI 2) d_L_law_898 (by decide) ?_
  refine rn_iadd C d_L_law_899 ?_
  rw [iI_add]
  refine rn_sld C d_L_law_900 (iI_vin (by omega) (by omega) (by omega)) ?_
  rw [e2]
  refine rn_aload_n C d_L_law_901 rfl ?_
  refine rn_cS C (rn_mono (c_L_line l (c_C_line l hl))) mw_L_line k_L_143 d_L_law_902 (Nat.le_of_ble_eq_true rfl) (Nat.le_of_ble_eq_true rfl) ⟨by decide, by decide⟩ ⟨show n1 + 1 ≤ 601024 by omega, show n2 + 6 ≤ 7292999 by omega⟩ ⟨_, fun r h1 hr => ?_, st_line hI s1 s2 i1 i2⟩
  obtain ⟨k2, rfl, ⟨fs, hq⟩, hM⟩ := hr
  refine rn_istore C d_L_law_905 (by decide) ?_
  refine rn_aload_n C d_L_law_907 rfl ?_
  refine rn_tload_n C d_L_law_908 rfl ?_
  refine rn_iload C d_L_law_909 rfl ?_
  refine rn_iconst C (iI 1) d_L_law_911 (by decide) ?_
  refine rn_iadd C d_L_law_912 ?_
  rw [iI_add]
  refine rn_sld C d_L_law_913 (iI_vin (by omega) (by omega) (by omega)) ?_
  rw [e1]
  refine rn_tload_n C d_L_law_914 rfl ?_
  refine rn_iload C d_L_law_915 rfl ?_
  refine rn_iconst C (iI 2) d_L_law_917 (by decide) ?_
  refine rn_iadd C d_L_law_918 ?_
  rw [iI_add]
  refine rn_sld C d_L_law_919 (iI_vin (by omega) (by omega) (by omega)) ?_
  rw [e2]
  refine rn_cV C (rn_mono (c_M_line l)) mw_M_line k_L_145 d_L_law_920 rfl hq rfl (Nat.le_of_ble_eq_true rfl) (Nat.le_of_ble_eq_true rfl) ⟨by decide, by decide⟩ ⟨show n1 + 1 ≤ 601024 by omega, show n2 + 6 ≤ 7292999 by omega⟩ ⟨_, fun r h2 hr2 => ?_, hM⟩
  obtain ⟨b, rfl, hI2, ho⟩ := hr2
  obtain ⟨fs2, hq2⟩ := inv_21 hI2
  refine rn_lstore C d_L_law_923 (by decide) ?_
  refine rn_aload_n C d_L_law_925 rfl ?_
  refine rn_cV C (c_M_thrown l) mw_M_thrown k_L_99 d_L_law_926 rfl hq2 rfl (Nat.le_of_ble_eq_true rfl) (Nat.le_of_ble_eq_true rfl) ⟨by decide, by decide⟩ ⟨show n1 + 1 ≤ 601024 by omega, show n2 + 6 ≤ 7292999 by omega⟩ (st_thrown hI2 ?_)
  refine rn_iload C d_L_law_929 rfl ?_
  refine rn_icmp_eq C 936 d_L_law_931 (by decide) (fun _ => ?_) (fun q_931 => absurd (rfl) q_931)
  refine rn_iload C d_L_law_936 rfl ?_
  refine rn_if_ne C 952 d_L_law_938 (by decide) (fun c938 => ?_) (fun c938 => ?_)
  · skip
    refine rn_goto C 1402 d_L_law_952 (by decide) ?_
    refine rn_weak (lv' := [some (.retAddr 1), some (.ref 0), some (.ref 21), some (.ref 35), some (.int (iI i))]) ⟨rfl, rfl, rfl, rfl, rfl, trivial⟩ ?_
    exact back _ _ _ _ hI2 (show n1 + 1 ≤ n1 + 1 by omega) (show n2 + 6 ≤ n2 + 6 by omega)
  · skip
    refine rn_aload_n C d_L_law_941 rfl ?_
    obtain ⟨out, h35, eo⟩ := ho c938
    refine rn_iconst C 0 d_L_law_942 (by decide) ?_
    refine rn_laload C d_L_law_943 h35 vin01 ?_
    refine rn_lload C d_L_law_944 rfl ?_
    refine rn_lc_eq C 952 d_L_law_946 d_L_law_947 (by decide) (fun _ => ?_) (fun q_946 => absurd (eo) q_946)
    refine rn_goto C 1402 d_L_law_952 (by decide) ?_
    refine rn_weak (lv' := [some (.retAddr 1), some (.ref 0), some (.ref 21), some (.ref 35), some (.int (iI i))]) ⟨rfl, rfl, rfl, rfl, rfl, trivial⟩ ?_
    exact back _ _ _ _ hI2 (show n1 + 1 ≤ n1 + 1 by omega) (show n2 + 6 ≤ n2 + 6 by omega)
set_option maxHeartbeats 4000000 in
set_option maxRecDepth 100000 in
theorem lc_colour (C : rn_Ok p l e s m args meth c z sa D dA code "ColourChartsLaw" "law" 8 (some .boolean) []) (hl : l.flags = flags0) (hI : InvT k h) (hi0 : 2 ≤ i) (hi1 : i + 5 ≤ sa 2) (hL : sa 2 ≤ 2562) (b1 : n1 ≤ 600000) (b2 : n2 ≤ 7000000) {s1 : Int} (e1 : Int32.ofNat (sa (3 + (iI (i + 1)).toNatClampNeg)) = iI s1) (i1 : inI s1) {s2 : Int} (e2 : Int32.ofNat (sa (3 + (iI (i + 2)).toNatClampNeg)) = iI s2) (i2 : inI s2)
    (back : ∀ (h2 : ah_H) (k2 : Int) (a b : Nat), InvT k2 h2 → a ≤ n1 + 1 → b ≤ n2 + 6 → Run p l e room_1 s m args below meth c z sa D dA 601024 7292999 K 8 1402 [some (.retAddr 1), some (.ref 0), some (.ref 21), some (.ref 35), some (.int (iI i))] [] h2 a b) : Run p l e room_1 s m args below meth c z sa D dA 601024 7292999 K 8 955 [some (.retAddr 1), some (.ref 0), some (.ref 21), some (.ref 35), some (.int (iI i))] [] h n1 n2 := by
  refine rn_aload_n C d_L_law_955 rfl ?_
  refine rn_tload_n C d_L_law_956 rfl ?_
  refine rn_iload C d_L_law_957 rfl ?_
  refine rn_iconst C (iI 1) d_L_law_959 (by decide) ?_
  refine rn_iadd C d_L_law_960 ?_
  rw [iI_add]
  refine rn_sld C d_L_law_961 (iI_vin (by omega) (by omega) (by omega)) ?_
  rw [e1]
  refine rn_tload_n C d_L_law_962 rfl ?_
  refine rn_iload C d_L_law_963 rfl ?_
  refine rn_iconst C (iI 2) d_L_law_965 (by decide) ?_
  refine rn_iadd C d_L_law_966 ?_
  rw [iI_add]
  refine rn_sld C d_L_law_967 (iI_vin (by omega) (by omega) (by omega)) ?_
  rw [e2]
  refine rn_aload_n C d_L_law_968 rfl ?_
  refine rn_cS C (rn_mono (c_L_colour l (c_C_colour l hl))) mw_L_colour k_L_146 d_L_law_969 (Nat.le_of_ble_eq_true rfl) (Nat.le_of_ble_eq_true rfl) ⟨by decide, by decide⟩ ⟨show n1 + 1 ≤ 601024 by omega, show n2 + 6 ≤ 7292999 by omega⟩ ⟨_, fun r h1 hr => ?_, st_colour hI s1 s2 i1 i2⟩
  obtain ⟨k2, rfl, ⟨fs, hq⟩, hM⟩ := hr
  refine rn_istore C d_L_law_972 (by decide) ?_
  refine rn_aload_n C d_L_law_974 rfl ?_
  refine rn_tload_n C d_L_law_975 rfl ?_
  refine rn_iload C d_L_law_976 rfl ?_
  refine rn_iconst C (iI 1) d_L_law_978 (by decide) ?_
  refine rn_iadd C d_L_law_979 ?_
  rw [iI_add]
  refine rn_sld C d_L_law_980 (iI_vin (by omega) (by omega) (by omega)) ?_
  rw [e1]
  refine rn_tload_n C d_L_law_981 rfl ?_
  refine rn_iload C d_L_law_982 rfl ?_
  refine rn_iconst C (iI 2) d_L_law_984 (by decide) ?_
  refine rn_iadd C d_L_law_985 ?_
  rw [iI_add]
  refine rn_sld C d_L_law_986 (iI_vin (by omega) (by omega) (by omega)) ?_
  rw [e2]
  refine rn_cV C (rn_mono (c_M_colour l)) mw_M_colour k_L_148 d_L_law_987 rfl hq rfl (Nat.le_of_ble_eq_true rfl) (Nat.le_of_ble_eq_true rfl) ⟨by decide, by decide⟩ ⟨show n1 + 1 ≤ 601024 by omega, show n2 + 6 ≤ 7292999 by omega⟩ ⟨_, fun r h2 hr2 => ?_, hM⟩
  obtain ⟨b, rfl, hI2, ho⟩ := hr2
  obtain ⟨fs2, hq2⟩ := inv_21 hI2
  refine rn_istore C d_L_law_990 (by decide) ?_
  refine rn_aload_n C d_L_law_992 rfl ?_
  refine rn_cV C (c_M_thrown l) mw_M_thrown k_L_99 d_L_law_993 rfl hq2 rfl (Nat.le_of_ble_eq_true rfl) (Nat.le_of_ble_eq_true rfl) ⟨by decide, by decide⟩ ⟨show n1 + 1 ≤ 601024 by omega, show n2 + 6 ≤ 7292999 by omega⟩ (st_thrown hI2 ?_)
  refine rn_iload C d_L_law_996 rfl ?_
  refine rn_icmp_eq C 1003 d_L_law_998 (by decide) (fun _ => ?_) (fun q_998 => absurd (rfl) q_998)
  refine rn_iload C d_L_law_1003 rfl ?_
  refine rn_if_ne C 1020 d_L_law_1005 (by decide) (fun c1005 => ?_) (fun c1005 => ?_)
  · skip
    refine rn_goto C 1402 d_L_law_1020 (by decide) ?_
    refine rn_weak (lv' := [some (.retAddr 1), some (.ref 0), some (.ref 21), some (.ref 35), some (.int (iI i))]) ⟨rfl, rfl, rfl, rfl, rfl, trivial⟩ ?_
    exact back _ _ _ _ hI2 (show n1 + 1 ≤ n1 + 1 by omega) (show n2 + 6 ≤ n2 + 6 by omega)
  · skip
    refine rn_aload_n C d_L_law_1008 rfl ?_
    obtain ⟨out, h35, eo⟩ := ho c1005
    refine rn_iconst C 0 d_L_law_1009 (by decide) ?_
    refine rn_laload C d_L_law_1010 h35 vin01 ?_
    refine rn_iload C d_L_law_1011 rfl ?_
    refine rn_i2l C d_L_law_1013 ?_
    refine rn_lc_eq C 1020 d_L_law_1014 d_L_law_1015 (by decide) (fun _ => ?_) (fun q_1014 => absurd (eo) q_1014)
    refine rn_goto C 1402 d_L_law_1020 (by decide) ?_
    refine rn_weak (lv' := [some (.retAddr 1), some (.ref 0), some (.ref 21), some (.ref 35), some (.int (iI i))]) ⟨rfl, rfl, rfl, rfl, rfl, trivial⟩ ?_
    exact back _ _ _ _ hI2 (show n1 + 1 ≤ n1 + 1 by omega) (show n2 + 6 ≤ n2 + 6 by omega)
set_option maxHeartbeats 4000000 in
set_option maxRecDepth 100000 in
theorem lc_difference (C : rn_Ok p l e s m args meth c z sa D dA code "ColourChartsLaw" "law" 8 (some .boolean) []) (hl : l.flags = flags0) (hI : InvT k h) (hi0 : 2 ≤ i) (hi1 : i + 5 ≤ sa 2) (hL : sa 2 ≤ 2562) (b1 : n1 ≤ 600000) (b2 : n2 ≤ 7000000) {s1 : Int} (e1 : Int32.ofNat (sa (3 + (iI (i + 1)).toNatClampNeg)) = iI s1) (i1 : inI s1)
    (back : ∀ (h2 : ah_H) (k2 : Int) (a b : Nat), InvT k2 h2 → a ≤ n1 + 1 → b ≤ n2 + 6 → Run p l e room_1 s m args below meth c z sa D dA 601024 7292999 K 8 1402 [some (.retAddr 1), some (.ref 0), some (.ref 21), some (.ref 35), some (.int (iI i))] [] h2 a b) : Run p l e room_1 s m args below meth c z sa D dA 601024 7292999 K 8 1023 [some (.retAddr 1), some (.ref 0), some (.ref 21), some (.ref 35), some (.int (iI i))] [] h n1 n2 := by
  refine rn_aload_n C d_L_law_1023 rfl ?_
  refine rn_tload_n C d_L_law_1024 rfl ?_
  refine rn_iload C d_L_law_1025 rfl ?_
  refine rn_iconst C (iI 1) d_L_law_1027 (by decide) ?_
  refine rn_iadd C d_L_law_1028 ?_
  rw [iI_add]
  refine rn_sld C d_L_law_1029 (iI_vin (by omega) (by omega) (by omega)) ?_
  rw [e1]
  refine rn_aload_n C d_L_law_1030 rfl ?_
  refine rn_cS C (rn_mono (c_L_difference l (c_C_difference l hl))) mw_L_difference k_L_149 d_L_law_1031 (Nat.le_of_ble_eq_true rfl) (Nat.le_of_ble_eq_true rfl) ⟨by decide, by decide⟩ ⟨show n1 + 1 ≤ 601024 by omega, show n2 + 6 ≤ 7292999 by omega⟩ ⟨_, fun r h1 hr => ?_, st_difference hI s1 i1⟩
  obtain ⟨k2, rfl, ⟨fs, hq⟩, hM⟩ := hr
  refine rn_istore C d_L_law_1034 (by decide) ?_
  refine rn_aload_n C d_L_law_1036 rfl ?_
  refine rn_tload_n C d_L_law_1037 rfl ?_
  refine rn_iload C d_L_law_1038 rfl ?_
  refine rn_iconst C (iI 1) d_L_law_1040 (by decide) ?_
  refine rn_iadd C d_L_law_1041 ?_
  rw [iI_add]
  refine rn_sld C d_L_law_1042 (iI_vin (by omega) (by omega) (by omega)) ?_
  rw [e1]
  refine rn_cV C (rn_mono (c_M_difference l)) mw_M_difference k_L_151 d_L_law_1043 rfl hq rfl (Nat.le_of_ble_eq_true rfl) (Nat.le_of_ble_eq_true rfl) ⟨by decide, by decide⟩ ⟨show n1 + 1 ≤ 601024 by omega, show n2 + 6 ≤ 7292999 by omega⟩ ⟨_, fun r h2 hr2 => ?_, hM⟩
  obtain ⟨b, rfl, hI2, ho⟩ := hr2
  obtain ⟨fs2, hq2⟩ := inv_21 hI2
  refine rn_istore C d_L_law_1046 (by decide) ?_
  refine rn_aload_n C d_L_law_1048 rfl ?_
  refine rn_cV C (c_M_thrown l) mw_M_thrown k_L_99 d_L_law_1049 rfl hq2 rfl (Nat.le_of_ble_eq_true rfl) (Nat.le_of_ble_eq_true rfl) ⟨by decide, by decide⟩ ⟨show n1 + 1 ≤ 601024 by omega, show n2 + 6 ≤ 7292999 by omega⟩ (st_thrown hI2 ?_)
  refine rn_iload C d_L_law_1052 rfl ?_
  refine rn_icmp_eq C 1059 d_L_law_1054 (by decide) (fun _ => ?_) (fun q_1054 => absurd (rfl) q_1054)
  refine rn_iload C d_L_law_1059 rfl ?_
  refine rn_if_ne C 1076 d_L_law_1061 (by decide) (fun c1061 => ?_) (fun c1061 => ?_)
  · skip
    refine rn_goto C 1402 d_L_law_1076 (by decide) ?_
    refine rn_weak (lv' := [some (.retAddr 1), some (.ref 0), some (.ref 21), some (.ref 35), some (.int (iI i))]) ⟨rfl, rfl, rfl, rfl, rfl, trivial⟩ ?_
    exact back _ _ _ _ hI2 (show n1 + 1 ≤ n1 + 1 by omega) (show n2 + 6 ≤ n2 + 6 by omega)
  · skip
    refine rn_aload_n C d_L_law_1064 rfl ?_
    obtain ⟨out, h35, eo⟩ := ho c1061
    refine rn_iconst C 0 d_L_law_1065 (by decide) ?_
    refine rn_laload C d_L_law_1066 h35 vin01 ?_
    refine rn_iload C d_L_law_1067 rfl ?_
    refine rn_i2l C d_L_law_1069 ?_
    refine rn_lc_eq C 1076 d_L_law_1070 d_L_law_1071 (by decide) (fun _ => ?_) (fun q_1070 => absurd (eo) q_1070)
    refine rn_goto C 1402 d_L_law_1076 (by decide) ?_
    refine rn_weak (lv' := [some (.retAddr 1), some (.ref 0), some (.ref 21), some (.ref 35), some (.int (iI i))]) ⟨rfl, rfl, rfl, rfl, rfl, trivial⟩ ?_
    exact back _ _ _ _ hI2 (show n1 + 1 ≤ n1 + 1 by omega) (show n2 + 6 ≤ n2 + 6 by omega)
set_option maxHeartbeats 4000000 in
set_option maxRecDepth 100000 in
theorem lc_unit (C : rn_Ok p l e s m args meth c z sa D dA code "ColourChartsLaw" "law" 8 (some .boolean) []) (hl : l.flags = flags0) (hI : InvT k h) (hi0 : 2 ≤ i) (hi1 : i + 5 ≤ sa 2) (hL : sa 2 ≤ 2562) (b1 : n1 ≤ 600000) (b2 : n2 ≤ 7000000) {s1 : Int} (e1 : Int32.ofNat (sa (3 + (iI (i + 1)).toNatClampNeg)) = iI s1) (i1 : inI s1)
    (back : ∀ (h2 : ah_H) (k2 : Int) (a b : Nat), InvT k2 h2 → a ≤ n1 + 1 → b ≤ n2 + 6 → Run p l e room_1 s m args below meth c z sa D dA 601024 7292999 K 8 1402 [some (.retAddr 1), some (.ref 0), some (.ref 21), some (.ref 35), some (.int (iI i))] [] h2 a b) : Run p l e room_1 s m args below meth c z sa D dA 601024 7292999 K 8 1079 [some (.retAddr 1), some (.ref 0), some (.ref 21), some (.ref 35), some (.int (iI i))] [] h n1 n2 := by
  refine rn_aload_n C d_L_law_1079 rfl ?_
  refine rn_tload_n C d_L_law_1080 rfl ?_
  refine rn_iload C d_L_law_1081 rfl ?_
  refine rn_iconst C (iI 1) d_L_law_1083 (by decide) ?_
  refine rn_iadd C d_L_law_1084 ?_
  rw [iI_add]
  refine rn_sld C d_L_law_1085 (iI_vin (by omega) (by omega) (by omega)) ?_
  rw [e1]
  refine rn_aload_n C d_L_law_1086 rfl ?_
  refine rn_cS C (rn_mono (c_L_unit l (c_C_unit l hl))) mw_L_unit k_L_152 d_L_law_1087 (Nat.le_of_ble_eq_true rfl) (Nat.le_of_ble_eq_true rfl) ⟨by decide, by decide⟩ ⟨show n1 + 1 ≤ 601024 by omega, show n2 + 6 ≤ 7292999 by omega⟩ ⟨_, fun r h1 hr => ?_, st_unit hI s1 i1⟩
  obtain ⟨k2, rfl, ⟨fs, hq⟩, hM⟩ := hr
  refine rn_istore C d_L_law_1090 (by decide) ?_
  refine rn_aload_n C d_L_law_1092 rfl ?_
  refine rn_tload_n C d_L_law_1093 rfl ?_
  refine rn_iload C d_L_law_1094 rfl ?_
  refine rn_iconst C (iI 1) d_L_law_1096 (by decide) ?_
  refine rn_iadd C d_L_law_1097 ?_
  rw [iI_add]
  refine rn_sld C d_L_law_1098 (iI_vin (by omega) (by omega) (by omega)) ?_
  rw [e1]
  refine rn_cV C (rn_mono (c_M_unit l)) mw_M_unit k_L_154 d_L_law_1099 rfl hq rfl (Nat.le_of_ble_eq_true rfl) (Nat.le_of_ble_eq_true rfl) ⟨by decide, by decide⟩ ⟨show n1 + 1 ≤ 601024 by omega, show n2 + 6 ≤ 7292999 by omega⟩ ⟨_, fun r h2 hr2 => ?_, hM⟩
  obtain ⟨b, rfl, hI2, ho⟩ := hr2
  obtain ⟨fs2, hq2⟩ := inv_21 hI2
  refine rn_istore C d_L_law_1102 (by decide) ?_
  refine rn_aload_n C d_L_law_1104 rfl ?_
  refine rn_cV C (c_M_thrown l) mw_M_thrown k_L_99 d_L_law_1105 rfl hq2 rfl (Nat.le_of_ble_eq_true rfl) (Nat.le_of_ble_eq_true rfl) ⟨by decide, by decide⟩ ⟨show n1 + 1 ≤ 601024 by omega, show n2 + 6 ≤ 7292999 by omega⟩ (st_thrown hI2 ?_)
  refine rn_iload C d_L_law_1108 rfl ?_
  refine rn_icmp_eq C 1115 d_L_law_1110 (by decide) (fun _ => ?_) (fun q_1110 => absurd (rfl) q_1110)
  refine rn_iload C d_L_law_1115 rfl ?_
  refine rn_if_ne C 1132 d_L_law_1117 (by decide) (fun c1117 => ?_) (fun c1117 => ?_)
  · skip
    refine rn_goto C 1402 d_L_law_1132 (by decide) ?_
    refine rn_weak (lv' := [some (.retAddr 1), some (.ref 0), some (.ref 21), some (.ref 35), some (.int (iI i))]) ⟨rfl, rfl, rfl, rfl, rfl, trivial⟩ ?_
    exact back _ _ _ _ hI2 (show n1 + 1 ≤ n1 + 1 by omega) (show n2 + 6 ≤ n2 + 6 by omega)
  · skip
    refine rn_aload_n C d_L_law_1120 rfl ?_
    obtain ⟨out, h35, eo⟩ := ho c1117
    refine rn_iconst C 0 d_L_law_1121 (by decide) ?_
    refine rn_laload C d_L_law_1122 h35 vin01 ?_
    refine rn_iload C d_L_law_1123 rfl ?_
    refine rn_i2l C d_L_law_1125 ?_
    refine rn_lc_eq C 1132 d_L_law_1126 d_L_law_1127 (by decide) (fun _ => ?_) (fun q_1126 => absurd (eo) q_1126)
    refine rn_goto C 1402 d_L_law_1132 (by decide) ?_
    refine rn_weak (lv' := [some (.retAddr 1), some (.ref 0), some (.ref 21), some (.ref 35), some (.int (iI i))]) ⟨rfl, rfl, rfl, rfl, rfl, trivial⟩ ?_
    exact back _ _ _ _ hI2 (show n1 + 1 ≤ n1 + 1 by omega) (show n2 + 6 ≤ n2 + 6 by omega)
set_option maxHeartbeats 4000000 in
set_option maxRecDepth 100000 in
theorem lc_rule (C : rn_Ok p l e s m args meth c z sa D dA code "ColourChartsLaw" "law" 8 (some .boolean) []) (hl : l.flags = flags0) (hI : InvT k h) (hi0 : 2 ≤ i) (hi1 : i + 5 ≤ sa 2) (hL : sa 2 ≤ 2562) (b1 : n1 ≤ 600000) (b2 : n2 ≤ 7000000)
    (back : ∀ (h2 : ah_H) (k2 : Int) (a b : Nat), InvT k2 h2 → a ≤ n1 + 1 → b ≤ n2 + 6 → Run p l e room_1 s m args below meth c z sa D dA 601024 7292999 K 8 1402 [some (.retAddr 1), some (.ref 0), some (.ref 21), some (.ref 35), some (.int (iI i))] [] h2 a b) : Run p l e room_1 s m args below meth c z sa D dA 601024 7292999 K 8 1135 [some (.retAddr 1), some (.ref 0), some (.ref 21), some (.ref 35), some (.int (iI i))] [] h n1 n2 := by
  refine rn_aload_n C d_L_law_1135 rfl ?_
  refine rn_aload_n C d_L_law_1136 rfl ?_
  refine rn_cS C (rn_mono (c_L_rule l (c_C_rule l hl))) mw_L_rule k_L_155 d_L_law_1137 (Nat.le_of_ble_eq_true rfl) (Nat.le_of_ble_eq_true rfl) ⟨by decide, by decide⟩ ⟨show n1 + 1 ≤ 601024 by omega, show n2 + 6 ≤ 7292999 by omega⟩ ⟨_, fun r h1 hr => ?_, st_rule hI⟩
  obtain ⟨k2, rfl, ⟨fs, hq⟩, hM⟩ := hr
  refine rn_istore C d_L_law_1140 (by decide) ?_
  refine rn_aload_n C d_L_law_1142 rfl ?_
  refine rn_cV C (rn_mono (c_M_rule l)) mw_M_rule k_L_157 d_L_law_1143 rfl hq rfl (Nat.le_of_ble_eq_true rfl) (Nat.le_of_ble_eq_true rfl) ⟨by decide, by decide⟩ ⟨show n1 + 1 ≤ 601024 by omega, show n2 + 6 ≤ 7292999 by omega⟩ ⟨_, fun r h2 hr2 => ?_, hM⟩
  obtain ⟨b, rfl, hI2, ho⟩ := hr2
  obtain ⟨fs2, hq2⟩ := inv_21 hI2
  refine rn_istore C d_L_law_1146 (by decide) ?_
  refine rn_aload_n C d_L_law_1148 rfl ?_
  refine rn_cV C (c_M_thrown l) mw_M_thrown k_L_99 d_L_law_1149 rfl hq2 rfl (Nat.le_of_ble_eq_true rfl) (Nat.le_of_ble_eq_true rfl) ⟨by decide, by decide⟩ ⟨show n1 + 1 ≤ 601024 by omega, show n2 + 6 ≤ 7292999 by omega⟩ (st_thrown hI2 ?_)
  refine rn_iload C d_L_law_1152 rfl ?_
  refine rn_icmp_eq C 1159 d_L_law_1154 (by decide) (fun _ => ?_) (fun q_1154 => absurd (rfl) q_1154)
  refine rn_iload C d_L_law_1159 rfl ?_
  refine rn_if_ne C 1176 d_L_law_1161 (by decide) (fun c1161 => ?_) (fun c1161 => ?_)
  · skip
    refine rn_goto C 1402 d_L_law_1176 (by decide) ?_
    refine rn_weak (lv' := [some (.retAddr 1), some (.ref 0), some (.ref 21), some (.ref 35), some (.int (iI i))]) ⟨rfl, rfl, rfl, rfl, rfl, trivial⟩ ?_
    exact back _ _ _ _ hI2 (show n1 + 1 ≤ n1 + 1 by omega) (show n2 + 6 ≤ n2 + 6 by omega)
  · skip
    refine rn_aload_n C d_L_law_1164 rfl ?_
    obtain ⟨out, h35, eo⟩ := ho c1161
    refine rn_iconst C 0 d_L_law_1165 (by decide) ?_
    refine rn_laload C d_L_law_1166 h35 vin01 ?_
    refine rn_iload C d_L_law_1167 rfl ?_
    refine rn_i2l C d_L_law_1169 ?_
    refine rn_lc_eq C 1176 d_L_law_1170 d_L_law_1171 (by decide) (fun _ => ?_) (fun q_1170 => absurd (eo) q_1170)
    refine rn_goto C 1402 d_L_law_1176 (by decide) ?_
    refine rn_weak (lv' := [some (.retAddr 1), some (.ref 0), some (.ref 21), some (.ref 35), some (.int (iI i))]) ⟨rfl, rfl, rfl, rfl, rfl, trivial⟩ ?_
    exact back _ _ _ _ hI2 (show n1 + 1 ≤ n1 + 1 by omega) (show n2 + 6 ≤ n2 + 6 by omega)
set_option maxHeartbeats 4000000 in
set_option maxRecDepth 100000 in
theorem lc_reject (C : rn_Ok p l e s m args meth c z sa D dA code "ColourChartsLaw" "law" 8 (some .boolean) []) (hl : l.flags = flags0) (hI : InvT k h) (hi0 : 2 ≤ i) (hi1 : i + 5 ≤ sa 2) (hL : sa 2 ≤ 2562) (b1 : n1 ≤ 600000) (b2 : n2 ≤ 7000000)
    (back : ∀ (h2 : ah_H) (k2 : Int) (a b : Nat), InvT k2 h2 → a ≤ n1 + 1 → b ≤ n2 + 6 → Run p l e room_1 s m args below meth c z sa D dA 601024 7292999 K 8 1402 [some (.retAddr 1), some (.ref 0), some (.ref 21), some (.ref 35), some (.int (iI i))] [] h2 a b) : Run p l e room_1 s m args below meth c z sa D dA 601024 7292999 K 8 1179 [some (.retAddr 1), some (.ref 0), some (.ref 21), some (.ref 35), some (.int (iI i))] [] h n1 n2 := by
  refine rn_aload_n C d_L_law_1179 rfl ?_
  refine rn_aload_n C d_L_law_1180 rfl ?_
  refine rn_cS C (rn_mono (c_L_reject l (c_C_reject l hl))) mw_L_reject k_L_158 d_L_law_1181 (Nat.le_of_ble_eq_true rfl) (Nat.le_of_ble_eq_true rfl) ⟨by decide, by decide⟩ ⟨show n1 + 1 ≤ 601024 by omega, show n2 + 6 ≤ 7292999 by omega⟩ ⟨_, fun r h1 hr => ?_, st_reject hI⟩
  obtain ⟨k2, rfl, ⟨fs, hq⟩, hM⟩ := hr
  refine rn_istore C d_L_law_1184 (by decide) ?_
  refine rn_aload_n C d_L_law_1186 rfl ?_
  refine rn_cV C (rn_mono (c_M_reject l)) mw_M_reject k_L_160 d_L_law_1187 rfl hq rfl (Nat.le_of_ble_eq_true rfl) (Nat.le_of_ble_eq_true rfl) ⟨by decide, by decide⟩ ⟨show n1 + 1 ≤ 601024 by omega, show n2 + 6 ≤ 7292999 by omega⟩ ⟨_, fun r h2 hr2 => ?_, hM⟩
  obtain ⟨b, rfl, hI2, ho⟩ := hr2
  obtain ⟨fs2, hq2⟩ := inv_21 hI2
  refine rn_istore C d_L_law_1190 (by decide) ?_
  refine rn_aload_n C d_L_law_1192 rfl ?_
  refine rn_cV C (c_M_thrown l) mw_M_thrown k_L_99 d_L_law_1193 rfl hq2 rfl (Nat.le_of_ble_eq_true rfl) (Nat.le_of_ble_eq_true rfl) ⟨by decide, by decide⟩ ⟨show n1 + 1 ≤ 601024 by omega, show n2 + 6 ≤ 7292999 by omega⟩ (st_thrown hI2 ?_)
  refine rn_iload C d_L_law_1196 rfl ?_
  refine rn_icmp_eq C 1203 d_L_law_1198 (by decide) (fun _ => ?_) (fun q_1198 => absurd (rfl) q_1198)
  refine rn_iload C d_L_law_1203 rfl ?_
  refine rn_if_ne C 1220 d_L_law_1205 (by decide) (fun c1205 => ?_) (fun c1205 => ?_)
  · skip
    refine rn_goto C 1402 d_L_law_1220 (by decide) ?_
    refine rn_weak (lv' := [some (.retAddr 1), some (.ref 0), some (.ref 21), some (.ref 35), some (.int (iI i))]) ⟨rfl, rfl, rfl, rfl, rfl, trivial⟩ ?_
    exact back _ _ _ _ hI2 (show n1 + 1 ≤ n1 + 1 by omega) (show n2 + 6 ≤ n2 + 6 by omega)
  · skip
    refine rn_aload_n C d_L_law_1208 rfl ?_
    obtain ⟨out, h35, eo⟩ := ho c1205
    refine rn_iconst C 0 d_L_law_1209 (by decide) ?_
    refine rn_laload C d_L_law_1210 h35 vin01 ?_
    refine rn_iload C d_L_law_1211 rfl ?_
    refine rn_i2l C d_L_law_1213 ?_
    refine rn_lc_eq C 1220 d_L_law_1214 d_L_law_1215 (by decide) (fun _ => ?_) (fun q_1214 => absurd (eo) q_1214)
    refine rn_goto C 1402 d_L_law_1220 (by decide) ?_
    refine rn_weak (lv' := [some (.retAddr 1), some (.ref 0), some (.ref 21), some (.ref 35), some (.int (iI i))]) ⟨rfl, rfl, rfl, rfl, rfl, trivial⟩ ?_
    exact back _ _ _ _ hI2 (show n1 + 1 ≤ n1 + 1 by omega) (show n2 + 6 ≤ n2 + 6 by omega)
set_option maxHeartbeats 4000000 in
set_option maxRecDepth 100000 in
theorem lc_day (C : rn_Ok p l e s m args meth c z sa D dA code "ColourChartsLaw" "law" 8 (some .boolean) []) (hl : l.flags = flags0) (hI : InvT k h) (hi0 : 2 ≤ i) (hi1 : i + 5 ≤ sa 2) (hL : sa 2 ≤ 2562) (b1 : n1 ≤ 600000) (b2 : n2 ≤ 7000000) {s1 : Int} (e1 : Int32.ofNat (sa (3 + (iI (i + 1)).toNatClampNeg)) = iI s1) (i1 : inI s1) {s2 : Int} (e2 : Int32.ofNat (sa (3 + (iI (i + 2)).toNatClampNeg)) = iI s2) (i2 : inI s2)
    (back : ∀ (h2 : ah_H) (k2 : Int) (a b : Nat), InvT k2 h2 → a ≤ n1 + 1 → b ≤ n2 + 6 → Run p l e room_1 s m args below meth c z sa D dA 601024 7292999 K 8 1402 [some (.retAddr 1), some (.ref 0), some (.ref 21), some (.ref 35), some (.int (iI i))] [] h2 a b) : Run p l e room_1 s m args below meth c z sa D dA 601024 7292999 K 8 1223 [some (.retAddr 1), some (.ref 0), some (.ref 21), some (.ref 35), some (.int (iI i))] [] h n1 n2 := by
  refine rn_aload_n C d_L_law_1223 rfl ?_
  refine rn_tload_n C d_L_law_1224 rfl ?_
  refine rn_iload C d_L_law_1225 rfl ?_
  refine rn_iconst C (iI 1) d_L_law_1227 (by decide) ?_
  refine rn_iadd C d_L_law_1228 ?_
  rw [iI_add]
  refine rn_sld C d_L_law_1229 (iI_vin (by omega) (by omega) (by omega)) ?_
  rw [e1]
  refine rn_tload_n C d_L_law_1230 rfl ?_
  refine rn_iload C d_L_law_1231 rfl ?_
  refine rn_iconst C (iI 2) d_L_law_1233 (by decide) ?_
  refine rn_iadd C d_L_law_1234 ?_
  rw [iI_add]
  refine rn_sld C d_L_law_1235 (iI_vin (by omega) (by omega) (by omega)) ?_
  rw [e2]
  refine rn_aload_n C d_L_law_1236 rfl ?_
  refine rn_cS C (rn_mono (c_L_day l (c_C_day l hl))) mw_L_day k_L_161 d_L_law_1237 (Nat.le_of_ble_eq_true rfl) (Nat.le_of_ble_eq_true rfl) ⟨by decide, by decide⟩ ⟨show n1 + 1 ≤ 601024 by omega, show n2 + 6 ≤ 7292999 by omega⟩ ⟨_, fun r h1 hr => ?_, st_day hI s1 s2 i1 i2⟩
  obtain ⟨k2, rfl, ⟨fs, hq⟩, hM⟩ := hr
  refine rn_istore C d_L_law_1240 (by decide) ?_
  refine rn_aload_n C d_L_law_1242 rfl ?_
  refine rn_tload_n C d_L_law_1243 rfl ?_
  refine rn_iload C d_L_law_1244 rfl ?_
  refine rn_iconst C (iI 1) d_L_law_1246 (by decide) ?_
  refine rn_iadd C d_L_law_1247 ?_
  rw [iI_add]
  refine rn_sld C d_L_law_1248 (iI_vin (by omega) (by omega) (by omega)) ?_
  rw [e1]
  refine rn_tload_n C d_L_law_1249 rfl ?_
  refine rn_iload C d_L_law_1250 rfl ?_
  refine rn_iconst C (iI 2) d_L_law_1252 (by decide) ?_
  refine rn_iadd C d_L_law_1253 ?_
  rw [iI_add]
  refine rn_sld C d_L_law_1254 (iI_vin (by omega) (by omega) (by omega)) ?_
  rw [e2]
  refine rn_cV C (rn_mono (c_M_day l)) mw_M_day k_L_163 d_L_law_1255 rfl hq rfl (Nat.le_of_ble_eq_true rfl) (Nat.le_of_ble_eq_true rfl) ⟨by decide, by decide⟩ ⟨show n1 + 1 ≤ 601024 by omega, show n2 + 6 ≤ 7292999 by omega⟩ ⟨_, fun r h2 hr2 => ?_, hM⟩
  obtain ⟨b, rfl, hI2, ho⟩ := hr2
  obtain ⟨fs2, hq2⟩ := inv_21 hI2
  refine rn_istore C d_L_law_1258 (by decide) ?_
  refine rn_aload_n C d_L_law_1260 rfl ?_
  refine rn_cV C (c_M_thrown l) mw_M_thrown k_L_99 d_L_law_1261 rfl hq2 rfl (Nat.le_of_ble_eq_true rfl) (Nat.le_of_ble_eq_true rfl) ⟨by decide, by decide⟩ ⟨show n1 + 1 ≤ 601024 by omega, show n2 + 6 ≤ 7292999 by omega⟩ (st_thrown hI2 ?_)
  refine rn_iload C d_L_law_1264 rfl ?_
  refine rn_icmp_eq C 1271 d_L_law_1266 (by decide) (fun _ => ?_) (fun q_1266 => absurd (rfl) q_1266)
  refine rn_iload C d_L_law_1271 rfl ?_
  refine rn_if_ne C 1288 d_L_law_1273 (by decide) (fun c1273 => ?_) (fun c1273 => ?_)
  · skip
    refine rn_goto C 1402 d_L_law_1288 (by decide) ?_
    refine rn_weak (lv' := [some (.retAddr 1), some (.ref 0), some (.ref 21), some (.ref 35), some (.int (iI i))]) ⟨rfl, rfl, rfl, rfl, rfl, trivial⟩ ?_
    exact back _ _ _ _ hI2 (show n1 + 1 ≤ n1 + 1 by omega) (show n2 + 6 ≤ n2 + 6 by omega)
  · skip
    refine rn_aload_n C d_L_law_1276 rfl ?_
    obtain ⟨out, h35, eo⟩ := ho c1273
    refine rn_iconst C 0 d_L_law_1277 (by decide) ?_
    refine rn_laload C d_L_law_1278 h35 vin01 ?_
    refine rn_iload C d_L_law_1279 rfl ?_
    refine rn_i2l C d_L_law_1281 ?_
    refine rn_lc_eq C 1288 d_L_law_1282 d_L_law_1283 (by decide) (fun _ => ?_) (fun q_1282 => absurd (eo) q_1282)
    refine rn_goto C 1402 d_L_law_1288 (by decide) ?_
    refine rn_weak (lv' := [some (.retAddr 1), some (.ref 0), some (.ref 21), some (.ref 35), some (.int (iI i))]) ⟨rfl, rfl, rfl, rfl, rfl, trivial⟩ ?_
    exact back _ _ _ _ hI2 (show n1 + 1 ≤ n1 + 1 by omega) (show n2 + 6 ≤ n2 + 6 by omega)
set_option maxHeartbeats 4000000 in
set_option maxRecDepth 100000 in
theorem lc_drift (C : rn_Ok p l e s m args meth c z sa D dA code "ColourChartsLaw" "law" 8 (some .boolean) []) (hl : l.flags = flags0) (hI : InvT k h) (hi0 : 2 ≤ i) (hi1 : i + 5 ≤ sa 2) (hL : sa 2 ≤ 2562) (b1 : n1 ≤ 600000) (b2 : n2 ≤ 7000000) {s1 : Int} (e1 : Int32.ofNat (sa (3 + (iI (i + 1)).toNatClampNeg)) = iI s1) (i1 : inI s1)
    (back : ∀ (h2 : ah_H) (k2 : Int) (a b : Nat), InvT k2 h2 → a ≤ n1 + 1 → b ≤ n2 + 6 → Run p l e room_1 s m args below meth c z sa D dA 601024 7292999 K 8 1402 [some (.retAddr 1), some (.ref 0), some (.ref 21), some (.ref 35), some (.int (iI i))] [] h2 a b) : Run p l e room_1 s m args below meth c z sa D dA 601024 7292999 K 8 1291 [some (.retAddr 1), some (.ref 0), some (.ref 21), some (.ref 35), some (.int (iI i))] [] h n1 n2 := by
  refine rn_aload_n C d_L_law_1291 rfl ?_
  refine rn_tload_n C d_L_law_1292 rfl ?_
  refine rn_iload C d_L_law_1293 rfl ?_
  refine rn_iconst C (iI 1) d_L_law_1295 (by decide) ?_
  refine rn_iadd C d_L_law_1296 ?_
  rw [iI_add]
  refine rn_sld C d_L_law_1297 (iI_vin (by omega) (by omega) (by omega)) ?_
  rw [e1]
  refine rn_aload_n C d_L_law_1298 rfl ?_
  refine rn_cS C (rn_mono (c_L_drift l (c_C_drift l hl))) mw_L_drift k_L_164 d_L_law_1299 (Nat.le_of_ble_eq_true rfl) (Nat.le_of_ble_eq_true rfl) ⟨by decide, by decide⟩ ⟨show n1 + 1 ≤ 601024 by omega, show n2 + 6 ≤ 7292999 by omega⟩ ⟨_, fun r h1 hr => ?_, st_drift hI s1 i1⟩
  obtain ⟨k2, rfl, ⟨fs, hq⟩, hM⟩ := hr
  refine rn_istore C d_L_law_1302 (by decide) ?_
  refine rn_aload_n C d_L_law_1304 rfl ?_
  refine rn_tload_n C d_L_law_1305 rfl ?_
  refine rn_iload C d_L_law_1306 rfl ?_
  refine rn_iconst C (iI 1) d_L_law_1308 (by decide) ?_
  refine rn_iadd C d_L_law_1309 ?_
  rw [iI_add]
  refine rn_sld C d_L_law_1310 (iI_vin (by omega) (by omega) (by omega)) ?_
  rw [e1]
  refine rn_cV C (rn_mono (c_M_drift l)) mw_M_drift k_L_166 d_L_law_1311 rfl hq rfl (Nat.le_of_ble_eq_true rfl) (Nat.le_of_ble_eq_true rfl) ⟨by decide, by decide⟩ ⟨show n1 + 1 ≤ 601024 by omega, show n2 + 6 ≤ 7292999 by omega⟩ ⟨_, fun r h2 hr2 => ?_, hM⟩
  obtain ⟨b, rfl, hI2, ho⟩ := hr2
  obtain ⟨fs2, hq2⟩ := inv_21 hI2
  refine rn_lstore C d_L_law_1314 (by decide) ?_
  refine rn_aload_n C d_L_law_1316 rfl ?_
  refine rn_cV C (c_M_thrown l) mw_M_thrown k_L_99 d_L_law_1317 rfl hq2 rfl (Nat.le_of_ble_eq_true rfl) (Nat.le_of_ble_eq_true rfl) ⟨by decide, by decide⟩ ⟨show n1 + 1 ≤ 601024 by omega, show n2 + 6 ≤ 7292999 by omega⟩ (st_thrown hI2 ?_)
  refine rn_iload C d_L_law_1320 rfl ?_
  refine rn_icmp_eq C 1327 d_L_law_1322 (by decide) (fun _ => ?_) (fun q_1322 => absurd (rfl) q_1322)
  refine rn_iload C d_L_law_1327 rfl ?_
  refine rn_if_ne C 1343 d_L_law_1329 (by decide) (fun c1329 => ?_) (fun c1329 => ?_)
  · skip
    refine rn_goto C 1402 d_L_law_1343 (by decide) ?_
    refine rn_weak (lv' := [some (.retAddr 1), some (.ref 0), some (.ref 21), some (.ref 35), some (.int (iI i))]) ⟨rfl, rfl, rfl, rfl, rfl, trivial⟩ ?_
    exact back _ _ _ _ hI2 (show n1 + 1 ≤ n1 + 1 by omega) (show n2 + 6 ≤ n2 + 6 by omega)
  · skip
    refine rn_aload_n C d_L_law_1332 rfl ?_
    obtain ⟨out, h35, eo⟩ := ho c1329
    refine rn_iconst C 0 d_L_law_1333 (by decide) ?_
    refine rn_laload C d_L_law_1334 h35 vin01 ?_
    refine rn_lload C d_L_law_1335 rfl ?_
    refine rn_lc_eq C 1343 d_L_law_1337 d_L_law_1338 (by decide) (fun _ => ?_) (fun q_1337 => absurd (eo) q_1337)
    refine rn_goto C 1402 d_L_law_1343 (by decide) ?_
    refine rn_weak (lv' := [some (.retAddr 1), some (.ref 0), some (.ref 21), some (.ref 35), some (.int (iI i))]) ⟨rfl, rfl, rfl, rfl, rfl, trivial⟩ ?_
    exact back _ _ _ _ hI2 (show n1 + 1 ≤ n1 + 1 by omega) (show n2 + 6 ≤ n2 + 6 by omega)
set_option maxHeartbeats 4000000 in
set_option maxRecDepth 100000 in
theorem lc_count (C : rn_Ok p l e s m args meth c z sa D dA code "ColourChartsLaw" "law" 8 (some .boolean) []) (hl : l.flags = flags0) (hI : InvT k h) (hi0 : 2 ≤ i) (hi1 : i + 5 ≤ sa 2) (hL : sa 2 ≤ 2562) (b1 : n1 ≤ 600000) (b2 : n2 ≤ 7000000) {s1 : Int} (e1 : Int32.ofNat (sa (3 + (iI (i + 1)).toNatClampNeg)) = iI s1) (i1 : inI s1)
    (back : ∀ (h2 : ah_H) (k2 : Int) (a b : Nat), InvT k2 h2 → a ≤ n1 + 1 → b ≤ n2 + 6 → Run p l e room_1 s m args below meth c z sa D dA 601024 7292999 K 8 1402 [some (.retAddr 1), some (.ref 0), some (.ref 21), some (.ref 35), some (.int (iI i))] [] h2 a b) : Run p l e room_1 s m args below meth c z sa D dA 601024 7292999 K 8 1346 [some (.retAddr 1), some (.ref 0), some (.ref 21), some (.ref 35), some (.int (iI i))] [] h n1 n2 := by
  refine rn_aload_n C d_L_law_1346 rfl ?_
  refine rn_tload_n C d_L_law_1347 rfl ?_
  refine rn_iload C d_L_law_1348 rfl ?_
  refine rn_iconst C (iI 1) d_L_law_1350 (by decide) ?_
  refine rn_iadd C d_L_law_1351 ?_
  rw [iI_add]
  refine rn_sld C d_L_law_1352 (iI_vin (by omega) (by omega) (by omega)) ?_
  rw [e1]
  refine rn_aload_n C d_L_law_1353 rfl ?_
  refine rn_cS C (rn_mono (c_L_count l (c_C_count l hl))) mw_L_count k_L_167 d_L_law_1354 (Nat.le_of_ble_eq_true rfl) (Nat.le_of_ble_eq_true rfl) ⟨by decide, by decide⟩ ⟨show n1 + 1 ≤ 601024 by omega, show n2 + 6 ≤ 7292999 by omega⟩ ⟨_, fun r h1 hr => ?_, st_count hI s1 i1⟩
  obtain ⟨k2, rfl, ⟨fs, hq⟩, hM⟩ := hr
  refine rn_istore C d_L_law_1357 (by decide) ?_
  refine rn_aload_n C d_L_law_1359 rfl ?_
  refine rn_tload_n C d_L_law_1360 rfl ?_
  refine rn_iload C d_L_law_1361 rfl ?_
  refine rn_iconst C (iI 1) d_L_law_1363 (by decide) ?_
  refine rn_iadd C d_L_law_1364 ?_
  rw [iI_add]
  refine rn_sld C d_L_law_1365 (iI_vin (by omega) (by omega) (by omega)) ?_
  rw [e1]
  refine rn_cV C (rn_mono (c_M_count l)) mw_M_count k_L_169 d_L_law_1366 rfl hq rfl (Nat.le_of_ble_eq_true rfl) (Nat.le_of_ble_eq_true rfl) ⟨by decide, by decide⟩ ⟨show n1 + 1 ≤ 601024 by omega, show n2 + 6 ≤ 7292999 by omega⟩ ⟨_, fun r h2 hr2 => ?_, hM⟩
  obtain ⟨b, rfl, hI2, ho⟩ := hr2
  obtain ⟨fs2, hq2⟩ := inv_21 hI2
  refine rn_istore C d_L_law_1369 (by decide) ?_
  refine rn_aload_n C d_L_law_1371 rfl ?_
  refine rn_cV C (c_M_thrown l) mw_M_thrown k_L_99 d_L_law_1372 rfl hq2 rfl (Nat.le_of_ble_eq_true rfl) (Nat.le_of_ble_eq_true rfl) ⟨by decide, by decide⟩ ⟨show n1 + 1 ≤ 601024 by omega, show n2 + 6 ≤ 7292999 by omega⟩ (st_thrown hI2 ?_)
  refine rn_iload C d_L_law_1375 rfl ?_
  refine rn_icmp_eq C 1382 d_L_law_1377 (by decide) (fun _ => ?_) (fun q_1377 => absurd (rfl) q_1377)
  refine rn_iload C d_L_law_1382 rfl ?_
  refine rn_if_ne C 1399 d_L_law_1384 (by decide) (fun c1384 => ?_) (fun c1384 => ?_)
  · skip
    refine rn_goto C 1402 d_L_law_1399 (by decide) ?_
    refine rn_weak (lv' := [some (.retAddr 1), some (.ref 0), some (.ref 21), some (.ref 35), some (.int (iI i))]) ⟨rfl, rfl, rfl, rfl, rfl, trivial⟩ ?_
    exact back _ _ _ _ hI2 (show n1 + 1 ≤ n1 + 1 by omega) (show n2 + 6 ≤ n2 + 6 by omega)
  · skip
    refine rn_aload_n C d_L_law_1387 rfl ?_
    obtain ⟨out, h35, eo⟩ := ho c1384
    refine rn_iconst C 0 d_L_law_1388 (by decide) ?_
    refine rn_laload C d_L_law_1389 h35 vin01 ?_
    refine rn_iload C d_L_law_1390 rfl ?_
    refine rn_i2l C d_L_law_1392 ?_
    refine rn_lc_eq C 1399 d_L_law_1393 d_L_law_1394 (by decide) (fun _ => ?_) (fun q_1393 => absurd (eo) q_1393)
    refine rn_goto C 1402 d_L_law_1399 (by decide) ?_
    refine rn_weak (lv' := [some (.retAddr 1), some (.ref 0), some (.ref 21), some (.ref 35), some (.int (iI i))]) ⟨rfl, rfl, rfl, rfl, rfl, trivial⟩ ?_
    exact back _ _ _ _ hI2 (show n1 + 1 ≤ n1 + 1 by omega) (show n2 + 6 ≤ n2 + 6 by omega)
end LAW
