/-! The state of the law: what class and reference share; a call of each keeps it, and they answer alike. Laid by wip/whole/gen_l1.py. -/
def InvT (th : Int) (h : ah_H) : Prop := ∃ (w g : Int) (np nl : Nat) (pf lf : Nat → Int32) (fo le to ri bo co ro qu : Int) (a1 a2 a3 a4 : Int32) (nt : Int) (zf tp : Nat → Int32) (fi : Int) (fa fb fd : Nat → Int64) (b1 : Int32) (b2 b3 b4 b5 : Int64) (rk sg : Int) (tx kf wf ll : Nat → Int32) (dn sx sy sxx sxy xle xto xri xbo : Int) (ce su : Int32) (sq : Int64) (mp ml mh mt : Nat → Int32) (ma mb md : Nat → Int64) (mx_ mk mw mi my mv : Nat → Int32) (out : Nat → Int64) (rest : ah_H) (pic : Int → Int → Int → Int) (lig : Int → Int → Int) (has : Int → Bool) (tg : Int → Int → Int) (A B D T kd wy lm X Y : Int → Int), h = cC :: cI (iI w) (iI g) :: aI np pf :: aI nl lf :: cF (iI fo) (iI le) (iI to) (iI ri) (iI bo) :: cY (iI co) (iI ro) (iI qu) :: cP a1 a2 a3 a4 :: cT (iI nt) :: aZ 16 zf :: aI 48 tp :: cN (iI fi) :: aL 3 fa :: aL 3 fb :: aL 3 fd :: cS b1 b2 b3 b4 b5 :: cR (iI rk) (iI sg) :: aC 20 tx :: aC 8 kf :: aC 8 wf :: aI 8 ll :: cS (iI dn) (lI sx) (lI sy) (lI sxx) (lI sxy) :: cM (iI th) (iI w) (iI g) (iI fo) (iI xle) (iI xto) (iI xri) (iI xbo) (iI co) (iI ro) (iI qu) (iI nt) (iI fi) (iI sg) (iI rk) (iI dn) ce su sq :: aI 2700 mp :: aI 900 ml :: aZ 16 mh :: aI 48 mt :: aL 3 ma :: aL 3 mb :: aL 3 md :: aI 20 mx_ :: aI 8 mk :: aI 8 mw :: aI 8 mi :: aI 40 my :: aI 40 mv :: aL 1 out :: rest ∧ (picOk w g np nl pf lf pic lig ∧ mpOk mp ml pic lig) ∧ (okF fo le to ri bo xle xto xri xbo w g) ∧ (lyOk co ro qu) ∧ (okT nt zf tp mh mt has tg) ∧ (okN fi fa fb fd ma mb md A B D) ∧ (okR rk sg tx kf wf ll mx_ mk mw mi T kd wy lm) ∧ (okD dn sx sy sxx sxy my mv X Y)
set_option maxHeartbeats 4000000 in
theorem inv_el {th : Int} {h : ah_H} {P : ah_H → Prop} (hI : InvT th h) (k : ∀ (w g : Int) (np nl : Nat) (pf lf : Nat → Int32) (fo le to ri bo co ro qu : Int) (a1 a2 a3 a4 : Int32) (nt : Int) (zf tp : Nat → Int32) (fi : Int) (fa fb fd : Nat → Int64) (b1 : Int32) (b2 b3 b4 b5 : Int64) (rk sg : Int) (tx kf wf ll : Nat → Int32) (dn sx sy sxx sxy xle xto xri xbo : Int) (ce su : Int32) (sq : Int64) (mp ml mh mt : Nat → Int32) (ma mb md : Nat → Int64) (mx_ mk mw mi my mv : Nat → Int32) (out : Nat → Int64) (rest : ah_H) (pic : Int → Int → Int → Int) (lig : Int → Int → Int) (has : Int → Bool) (tg : Int → Int → Int) (A B D T kd wy lm X Y : Int → Int), (picOk w g np nl pf lf pic lig ∧ mpOk mp ml pic lig) → (okF fo le to ri bo xle xto xri xbo w g) → (lyOk co ro qu) → (okT nt zf tp mh mt has tg) → (okN fi fa fb fd ma mb md A B D) → (okR rk sg tx kf wf ll mx_ mk mw mi T kd wy lm) → (okD dn sx sy sxx sxy my mv X Y) → P (cC :: cI (iI w) (iI g) :: aI np pf :: aI nl lf :: cF (iI fo) (iI le) (iI to) (iI ri) (iI bo) :: cY (iI co) (iI ro) (iI qu) :: cP a1 a2 a3 a4 :: cT (iI nt) :: aZ 16 zf :: aI 48 tp :: cN (iI fi) :: aL 3 fa :: aL 3 fb :: aL 3 fd :: cS b1 b2 b3 b4 b5 :: cR (iI rk) (iI sg) :: aC 20 tx :: aC 8 kf :: aC 8 wf :: aI 8 ll :: cS (iI dn) (lI sx) (lI sy) (lI sxx) (lI sxy) :: cM (iI th) (iI w) (iI g) (iI fo) (iI xle) (iI xto) (iI xri) (iI xbo) (iI co) (iI ro) (iI qu) (iI nt) (iI fi) (iI sg) (iI rk) (iI dn) ce su sq :: aI 2700 mp :: aI 900 ml :: aZ 16 mh :: aI 48 mt :: aL 3 ma :: aL 3 mb :: aL 3 md :: aI 20 mx_ :: aI 8 mk :: aI 8 mw :: aI 8 mi :: aI 40 my :: aI 40 mv :: aL 1 out :: rest)) : P h := by
  refine Exists.elim hI (fun w hI => ?_)
  refine Exists.elim hI (fun g hI => ?_)
  refine Exists.elim hI (fun np hI => ?_)
  refine Exists.elim hI (fun nl hI => ?_)
  refine Exists.elim hI (fun pf hI => ?_)
  refine Exists.elim hI (fun lf hI => ?_)
  refine Exists.elim hI (fun fo hI => ?_)
  refine Exists.elim hI (fun le hI => ?_)
  refine Exists.elim hI (fun to hI => ?_)
  refine Exists.elim hI (fun ri hI => ?_)
  refine Exists.elim hI (fun bo hI => ?_)
  refine Exists.elim hI (fun co hI => ?_)
  refine Exists.elim hI (fun ro hI => ?_)
  refine Exists.elim hI (fun qu hI => ?_)
  refine Exists.elim hI (fun a1 hI => ?_)
  refine Exists.elim hI (fun a2 hI => ?_)
  refine Exists.elim hI (fun a3 hI => ?_)
  refine Exists.elim hI (fun a4 hI => ?_)
  refine Exists.elim hI (fun nt hI => ?_)
  refine Exists.elim hI (fun zf hI => ?_)
  refine Exists.elim hI (fun tp hI => ?_)
  refine Exists.elim hI (fun fi hI => ?_)
  refine Exists.elim hI (fun fa hI => ?_)
  refine Exists.elim hI (fun fb hI => ?_)
  refine Exists.elim hI (fun fd hI => ?_)
  refine Exists.elim hI (fun b1 hI => ?_)
  refine Exists.elim hI (fun b2 hI => ?_)
  refine Exists.elim hI (fun b3 hI => ?_)
  refine Exists.elim hI (fun b4 hI => ?_)
  refine Exists.elim hI (fun b5 hI => ?_)
  refine Exists.elim hI (fun rk hI => ?_)
  refine Exists.elim hI (fun sg hI => ?_)
  refine Exists.elim hI (fun tx hI => ?_)
  refine Exists.elim hI (fun kf hI => ?_)
  refine Exists.elim hI (fun wf hI => ?_)
  refine Exists.elim hI (fun ll hI => ?_)
  refine Exists.elim hI (fun dn hI => ?_)
  refine Exists.elim hI (fun sx hI => ?_)
  refine Exists.elim hI (fun sy hI => ?_)
  refine Exists.elim hI (fun sxx hI => ?_)
  refine Exists.elim hI (fun sxy hI => ?_)
  refine Exists.elim hI (fun xle hI => ?_)
  refine Exists.elim hI (fun xto hI => ?_)
  refine Exists.elim hI (fun xri hI => ?_)
  refine Exists.elim hI (fun xbo hI => ?_)
  refine Exists.elim hI (fun ce hI => ?_)
  refine Exists.elim hI (fun su hI => ?_)
  refine Exists.elim hI (fun sq hI => ?_)
  refine Exists.elim hI (fun mp hI => ?_)
  refine Exists.elim hI (fun ml hI => ?_)
  refine Exists.elim hI (fun mh hI => ?_)
  refine Exists.elim hI (fun mt hI => ?_)
  refine Exists.elim hI (fun ma hI => ?_)
  refine Exists.elim hI (fun mb hI => ?_)
  refine Exists.elim hI (fun md hI => ?_)
  refine Exists.elim hI (fun mx_ hI => ?_)
  refine Exists.elim hI (fun mk hI => ?_)
  refine Exists.elim hI (fun mw hI => ?_)
  refine Exists.elim hI (fun mi hI => ?_)
  refine Exists.elim hI (fun my hI => ?_)
  refine Exists.elim hI (fun mv hI => ?_)
  refine Exists.elim hI (fun out hI => ?_)
  refine Exists.elim hI (fun rest hI => ?_)
  refine Exists.elim hI (fun pic hI => ?_)
  refine Exists.elim hI (fun lig hI => ?_)
  refine Exists.elim hI (fun has hI => ?_)
  refine Exists.elim hI (fun tg hI => ?_)
  refine Exists.elim hI (fun A hI => ?_)
  refine Exists.elim hI (fun B hI => ?_)
  refine Exists.elim hI (fun D_ hI => ?_)
  refine Exists.elim hI (fun T hI => ?_)
  refine Exists.elim hI (fun kd hI => ?_)
  refine Exists.elim hI (fun wy hI => ?_)
  refine Exists.elim hI (fun lm hI => ?_)
  refine Exists.elim hI (fun X hI => ?_)
  refine Exists.elim hI (fun Y hI => ?_)
  obtain ⟨rfl, hP, hF, hL, hT, hN, hR, hD⟩ := hI
  exact k _ _ _ _ _ _ _ _ _ _ _ _ _ _ _ _ _ _ _ _ _ _ _ _ _ _ _ _ _ _ _ _ _ _ _ _ _ _ _ _ _ _ _ _ _ _ _ _ _ _ _ _ _ _ _ _ _ _ _ _ _ _ _ _ _ _ _ _ _ _ _ _ _ _ _ _ hP hF hL hT hN hR hD
def PI (k : Int) (r : ah_R) (h : ah_H) : Prop := ∃ b : Int32, r = .inl (some (.int b)) ∧ InvT k h ∧ (iI k = 0 → ∃ out, h[35]? = some (aL 1 out) ∧ out 0 = b.toInt64)
def PJ (k : Int) (r : ah_R) (h : ah_H) : Prop := ∃ b : Int64, r = .inl (some (.long b)) ∧ InvT k h ∧ (iI k = 0 → ∃ out, h[35]? = some (aL 1 out) ∧ out 0 = b)
def PV (k : Int) (r : ah_R) (h : ah_H) : Prop := r = .inl none ∧ InvT k h
theorem m1I : (-1 : Int32) = iI (-1) := by decide
theorem rjA_uniq {kd wy lm : Int → Int} {vd vn vm rk a b : Int} (ha : rjA kd wy lm vd vn vm rk a) (hb : rjA kd wy lm vd vn vm rk b) : a = b := by
  rcases ha with ⟨a0, a1, a2, a3⟩ | ⟨rfl, a3⟩ <;> rcases hb with ⟨b0, b1, b2, b3⟩ | ⟨rfl, b3⟩
  · rcases Int.lt_trichotomy a b with h | h | h
    · exact absurd a2 (b3 a a0 h)
    · exact h
    · exact absurd b2 (a3 b b0 h)
  · exact absurd a2 (b3 a a0 a1)
  · exact absurd b2 (a3 b b0 b1)
  · rfl
set_option maxHeartbeats 4000000 in
set_option maxRecDepth 100000 in
theorem st_pixel {th : Int} {h : ah_H} {sa : Nat → Nat} (hI : InvT th h) (x y p v : Int) (h_x : inI x) (h_y : inI y) (h_p : inI p) (h_v : inI v) : G_L_pixel (fun _ => G_C_pixel) sa [.ref 0, .int (iI x), .int (iI y), .int (iI p), .int (iI v), .ref 35] h (fun r_ h' => ∃ k : Int, r_ = .inl (some (.int (iI k))) ∧ (∃ fs, h'[21]? = some (.inr (9, fs))) ∧ G_M_pixel [.ref 21, .int (iI x), .int (iI y), .int (iI p), .int (iI v)] h' (PI k)) := by
  refine inv_el (P := fun h => G_L_pixel (fun _ => G_C_pixel) sa [.ref 0, .int (iI x), .int (iI y), .int (iI p), .int (iI v), .ref 35] h (fun r_ h' => ∃ k : Int, r_ = .inl (some (.int (iI k))) ∧ (∃ fs, h'[21]? = some (.inr (9, fs))) ∧ G_M_pixel [.ref 21, .int (iI x), .int (iI y), .int (iI p), .int (iI v)] h' (PI k))) hI ?_
  intro w g np nl pf lf fo le to ri bo co ro qu a1 a2 a3 a4 nt zf tp fi fa fb fd b1 b2 b3 b4 b5 rk sg tx kf wf ll dn sx sy sxx sxy xle xto xri xbo ce su sq mp ml mh mt ma mb md mx_ mk mw mi my mv out rest pic lig has tg A B D T kd wy lm X Y hP hF hL hT hN hR hD
  have hw := hP.1.1
  have hfo := hF.1
  have hfr : fo = 1 → frOk le to ri bo w g := fun q => (hF.2 q).1
  have hfm : fo = 1 → frOk xle xto xri xbo w g := fun q => by
    obtain ⟨a, b, c, d, e⟩ := hF.2 q
    rw [b, c, d, e]; exact a
  have hL' := hL
  unfold lyOk at hL'
  have mq := mbd (A := 4) (B := 4) (a := co) (b := ro) (by omega) (by omega)
  have i_x := h_x
  unfold inI at i_x
  have i_y := h_y
  unfold inI at i_y
  have i_p := h_p
  unfold inI at i_p
  have i_v := h_v
  unfold inI at i_v
  refine ⟨iI x, iI y, iI p, iI v, _, rfl, rfl, ?_⟩
  refine ⟨_, _, _, _, _, _, _, _, _, _, rfl, rfl, fun hc => ?_, fun hc hd => ?_, fun hc hd => ?_⟩
  · simp only [iI_toInt h_x, iI_toInt h_y, iI_toInt h_p, iI_toInt h_v, iI_toInt (show inI w from ⟨by omega, by omega⟩), iI_toInt (show inI g from ⟨by omega, by omega⟩)] at hc
    refine ⟨0, 10, rfl, at_end _ _, 1, by rw [nI1], ⟨_, rfl⟩, ?_⟩
    show G_M_pixel [.ref 21, .int (iI x), .int (iI y), .int (iI p), .int (iI v)] (cC :: cI (iI w) (iI g) :: aI np pf :: aI nl lf :: cF (iI fo) (iI le) (iI to) (iI ri) (iI bo) :: cY (iI co) (iI ro) (iI qu) :: cP a1 a2 a3 a4 :: cT (iI nt) :: aZ 16 zf :: aI 48 tp :: cN (iI fi) :: aL 3 fa :: aL 3 fb :: aL 3 fd :: cS b1 b2 b3 b4 b5 :: cR (iI rk) (iI sg) :: aC 20 tx :: aC 8 kf :: aC 8 wf :: aI 8 ll :: cS (iI dn) (lI sx) (lI sy) (lI sxx) (lI sxy) :: cM (iI th) (iI w) (iI g) (iI fo) (iI xle) (iI xto) (iI xri) (iI xbo) (iI co) (iI ro) (iI qu) (iI nt) (iI fi) (iI sg) (iI rk) (iI dn) ce su sq :: aI 2700 mp :: aI 900 ml :: aZ 16 mh :: aI 48 mt :: aL 3 ma :: aL 3 mb :: aL 3 md :: aI 20 mx_ :: aI 8 mk :: aI 8 mw :: aI 8 mi :: aI 40 my :: aI 40 mv :: aL 1 out :: (rest ++ [xB])) (PI 1)
    refine ⟨[cC, cI (iI w) (iI g), aI np pf, aI nl lf, cF (iI fo) (iI le) (iI to) (iI ri) (iI bo), cY (iI co) (iI ro) (iI qu), cP a1 a2 a3 a4, cT (iI nt), aZ 16 zf, aI 48 tp, cN (iI fi), aL 3 fa, aL 3 fb, aL 3 fd, cS b1 b2 b3 b4 b5, cR (iI rk) (iI sg), aC 20 tx, aC 8 kf, aC 8 wf, aI 8 ll, cS (iI dn) (lI sx) (lI sy) (lI sxx) (lI sxy)], _, _, _, _, _, _, _, _, _, _, _, _, _, _, _, _, _, _, _, _, _, _, _, _, _, rfl, rfl, rfl, h_x, h_y, h_p, h_v, hw, ?_, ?_, ?_⟩
    · intro q1
      exact ⟨_, rfl, ⟨_, _, _, _, _, _, _, _, _, _, _, _, _, _, _, _, _, _, _, _, _, _, _, _, _, _, _, _, _, _, _, _, _, _, _, _, _, _, _, _, _, _, _, _, _, _, _, _, _, _, _, _, _, _, _, _, _, _, _, _, _, _, _, _, _, _, _, _, _, _, _, _, _, _, _, _, rfl, hP, hF, hL, hT, hN, hR, hD⟩, fun q => absurd q (by decide)⟩
    · intro q1 q2
      exfalso; omega
    · intro q1 q2
      exfalso; omega
  · simp only [iI_toInt h_x, iI_toInt h_y, iI_toInt h_p, iI_toInt h_v, iI_toInt (show inI w from ⟨by omega, by omega⟩), iI_toInt (show inI g from ⟨by omega, by omega⟩)] at hc hd
    refine ⟨1, 11, rfl, at_end _ _, 2, by rw [nI2], ⟨_, rfl⟩, ?_⟩
    show G_M_pixel [.ref 21, .int (iI x), .int (iI y), .int (iI p), .int (iI v)] (cC :: cI (iI w) (iI g) :: aI np pf :: aI nl lf :: cF (iI fo) (iI le) (iI to) (iI ri) (iI bo) :: cY (iI co) (iI ro) (iI qu) :: cP a1 a2 a3 a4 :: cT (iI nt) :: aZ 16 zf :: aI 48 tp :: cN (iI fi) :: aL 3 fa :: aL 3 fb :: aL 3 fd :: cS b1 b2 b3 b4 b5 :: cR (iI rk) (iI sg) :: aC 20 tx :: aC 8 kf :: aC 8 wf :: aI 8 ll :: cS (iI dn) (lI sx) (lI sy) (lI sxx) (lI sxy) :: cM (iI th) (iI w) (iI g) (iI fo) (iI xle) (iI xto) (iI xri) (iI xbo) (iI co) (iI ro) (iI qu) (iI nt) (iI fi) (iI sg) (iI rk) (iI dn) ce su sq :: aI 2700 mp :: aI 900 ml :: aZ 16 mh :: aI 48 mt :: aL 3 ma :: aL 3 mb :: aL 3 md :: aI 20 mx_ :: aI 8 mk :: aI 8 mw :: aI 8 mi :: aI 40 my :: aI 40 mv :: aL 1 out :: (rest ++ [xA])) (PI 2)
    refine ⟨[cC, cI (iI w) (iI g), aI np pf, aI nl lf, cF (iI fo) (iI le) (iI to) (iI ri) (iI bo), cY (iI co) (iI ro) (iI qu), cP a1 a2 a3 a4, cT (iI nt), aZ 16 zf, aI 48 tp, cN (iI fi), aL 3 fa, aL 3 fb, aL 3 fd, cS b1 b2 b3 b4 b5, cR (iI rk) (iI sg), aC 20 tx, aC 8 kf, aC 8 wf, aI 8 ll, cS (iI dn) (lI sx) (lI sy) (lI sxx) (lI sxy)], _, _, _, _, _, _, _, _, _, _, _, _, _, _, _, _, _, _, _, _, _, _, _, _, _, rfl, rfl, rfl, h_x, h_y, h_p, h_v, hw, ?_, ?_, ?_⟩
    · intro q1
      exfalso; omega
    · intro q1 q2
      exact ⟨_, rfl, ⟨_, _, _, _, _, _, _, _, _, _, _, _, _, _, _, _, _, _, _, _, _, _, _, _, _, _, _, _, _, _, _, _, _, _, _, _, _, _, _, _, _, _, _, _, _, _, _, _, _, _, _, _, _, _, _, _, _, _, _, _, _, _, _, _, _, _, _, _, _, _, _, _, _, _, _, _, rfl, hP, hF, hL, hT, hN, hR, hD⟩, fun q => absurd q (by decide)⟩
    · intro q1 q2
      exfalso; omega
  · simp only [iI_toInt h_x, iI_toInt h_y, iI_toInt h_p, iI_toInt h_v, iI_toInt (show inI w from ⟨by omega, by omega⟩), iI_toInt (show inI g from ⟨by omega, by omega⟩)] at hc hd
    have ci := cell_in (x := x) (y := y) hw (by omega) (by omega) (by omega) (by omega)
    have e1 : iI y * iI w + iI x = iI (y * w + x) := by rw [iI_mul, iI_add]
    have e2 : iI (y * w + x) * 3 + iI p = iI ((y * w + x) * 3 + p) := by rw [show (3 : Int32) = iI 3 from rfl, iI_mul, iI_add]
    rw [e1, e2]
    refine ⟨iI_vin (by omega) (by omega) (by have := hP.1.2.1.1; omega), ?_⟩
    rw [iI_nat (by omega) (by omega)]
    refine ⟨_, out, rfl, rfl, 0, rfl, ⟨_, rfl⟩, ?_⟩
    show G_M_pixel [.ref 21, .int (iI x), .int (iI y), .int (iI p), .int (iI v)] (cC :: cI (iI w) (iI g) :: aI np (upd pf ((y * w + x) * 3 + p).toNat (iI v)) :: aI nl lf :: cF (iI fo) (iI le) (iI to) (iI ri) (iI bo) :: cY (iI co) (iI ro) (iI qu) :: cP a1 a2 a3 a4 :: cT (iI nt) :: aZ 16 zf :: aI 48 tp :: cN (iI fi) :: aL 3 fa :: aL 3 fb :: aL 3 fd :: cS b1 b2 b3 b4 b5 :: cR (iI rk) (iI sg) :: aC 20 tx :: aC 8 kf :: aC 8 wf :: aI 8 ll :: cS (iI dn) (lI sx) (lI sy) (lI sxx) (lI sxy) :: cM (iI th) (iI w) (iI g) (iI fo) (iI xle) (iI xto) (iI xri) (iI xbo) (iI co) (iI ro) (iI qu) (iI nt) (iI fi) (iI sg) (iI rk) (iI dn) ce su sq :: aI 2700 mp :: aI 900 ml :: aZ 16 mh :: aI 48 mt :: aL 3 ma :: aL 3 mb :: aL 3 md :: aI 20 mx_ :: aI 8 mk :: aI 8 mw :: aI 8 mi :: aI 40 my :: aI 40 mv :: aL 1 (vp_updL out 0 (pf ((y * w + x) * 3 + p).toNat).toInt64) :: rest) (PI 0)
    refine ⟨[cC, cI (iI w) (iI g), aI np (upd pf ((y * w + x) * 3 + p).toNat (iI v)), aI nl lf, cF (iI fo) (iI le) (iI to) (iI ri) (iI bo), cY (iI co) (iI ro) (iI qu), cP a1 a2 a3 a4, cT (iI nt), aZ 16 zf, aI 48 tp, cN (iI fi), aL 3 fa, aL 3 fb, aL 3 fd, cS b1 b2 b3 b4 b5, cR (iI rk) (iI sg), aC 20 tx, aC 8 kf, aC 8 wf, aI 8 ll, cS (iI dn) (lI sx) (lI sy) (lI sxx) (lI sxy)], _, _, _, _, _, _, _, _, _, _, _, _, _, _, _, _, _, _, _, _, _, _, _, _, _, rfl, rfl, rfl, h_x, h_y, h_p, h_v, hw, ?_, ?_, ?_⟩
    · intro q1
      exfalso; omega
    · intro q1 q2
      exfalso; omega
    · intro q1 q2
      refine ⟨_, rfl, ⟨_, _, _, _, _, _, _, _, _, _, _, _, _, _, _, _, _, _, _, _, _, _, _, _, _, _, _, _, _, _, _, _, _, _, _, _, _, _, _, _, _, _, _, _, _, _, _, _, _, _, _, _, _, _, _, _, _, _, _, _, _, _, _, _, _, _, _, _, _, _, _, _, _, _, _, _, rfl, ⟨pic_set hP.1 (by omega) (by omega) (by omega) (by omega) (by omega) (by omega) (by omega) (by omega), mp_set hP.2 (by omega) (by omega) (by omega) (by omega) (by omega) (by omega) (by omega) (by omega)⟩, hF, hL, hT, hN, hR, hD⟩, fun _ => ⟨_, rfl, outz.trans ?_⟩⟩
      rw [hP.1.2.2.1 x y p (by omega) (by omega) (by omega) (by omega) (by omega) (by omega), hP.2.1 x y p (by omega) (by omega) (by omega) (by omega) (by omega) (by omega)]
set_option maxHeartbeats 4000000 in
set_option maxRecDepth 100000 in
theorem st_light {th : Int} {h : ah_H} {sa : Nat → Nat} (hI : InvT th h) (x y v : Int) (h_x : inI x) (h_y : inI y) (h_v : inI v) : G_L_light (fun _ => G_C_light) sa [.ref 0, .int (iI x), .int (iI y), .int (iI v), .ref 35] h (fun r_ h' => ∃ k : Int, r_ = .inl (some (.int (iI k))) ∧ (∃ fs, h'[21]? = some (.inr (9, fs))) ∧ G_M_light [.ref 21, .int (iI x), .int (iI y), .int (iI v)] h' (PI k)) := by
  refine inv_el (P := fun h => G_L_light (fun _ => G_C_light) sa [.ref 0, .int (iI x), .int (iI y), .int (iI v), .ref 35] h (fun r_ h' => ∃ k : Int, r_ = .inl (some (.int (iI k))) ∧ (∃ fs, h'[21]? = some (.inr (9, fs))) ∧ G_M_light [.ref 21, .int (iI x), .int (iI y), .int (iI v)] h' (PI k))) hI ?_
  intro w g np nl pf lf fo le to ri bo co ro qu a1 a2 a3 a4 nt zf tp fi fa fb fd b1 b2 b3 b4 b5 rk sg tx kf wf ll dn sx sy sxx sxy xle xto xri xbo ce su sq mp ml mh mt ma mb md mx_ mk mw mi my mv out rest pic lig has tg A B D T kd wy lm X Y hP hF hL hT hN hR hD
  have hw := hP.1.1
  have hfo := hF.1
  have hfr : fo = 1 → frOk le to ri bo w g := fun q => (hF.2 q).1
  have hfm : fo = 1 → frOk xle xto xri xbo w g := fun q => by
    obtain ⟨a, b, c, d, e⟩ := hF.2 q
    rw [b, c, d, e]; exact a
  have hL' := hL
  unfold lyOk at hL'
  have mq := mbd (A := 4) (B := 4) (a := co) (b := ro) (by omega) (by omega)
  have i_x := h_x
  unfold inI at i_x
  have i_y := h_y
  unfold inI at i_y
  have i_v := h_v
  unfold inI at i_v
  refine ⟨iI x, iI y, iI v, _, rfl, rfl, ?_⟩
  refine ⟨_, _, _, _, _, _, _, _, _, rfl, rfl, fun hc => ?_, fun hc hd => ?_, fun hc hd => ?_⟩
  · simp only [iI_toInt h_x, iI_toInt h_y, iI_toInt h_v, iI_toInt (show inI w from ⟨by omega, by omega⟩), iI_toInt (show inI g from ⟨by omega, by omega⟩)] at hc
    refine ⟨0, 10, rfl, at_end _ _, 1, by rw [nI1], ⟨_, rfl⟩, ?_⟩
    show G_M_light [.ref 21, .int (iI x), .int (iI y), .int (iI v)] (cC :: cI (iI w) (iI g) :: aI np pf :: aI nl lf :: cF (iI fo) (iI le) (iI to) (iI ri) (iI bo) :: cY (iI co) (iI ro) (iI qu) :: cP a1 a2 a3 a4 :: cT (iI nt) :: aZ 16 zf :: aI 48 tp :: cN (iI fi) :: aL 3 fa :: aL 3 fb :: aL 3 fd :: cS b1 b2 b3 b4 b5 :: cR (iI rk) (iI sg) :: aC 20 tx :: aC 8 kf :: aC 8 wf :: aI 8 ll :: cS (iI dn) (lI sx) (lI sy) (lI sxx) (lI sxy) :: cM (iI th) (iI w) (iI g) (iI fo) (iI xle) (iI xto) (iI xri) (iI xbo) (iI co) (iI ro) (iI qu) (iI nt) (iI fi) (iI sg) (iI rk) (iI dn) ce su sq :: aI 2700 mp :: aI 900 ml :: aZ 16 mh :: aI 48 mt :: aL 3 ma :: aL 3 mb :: aL 3 md :: aI 20 mx_ :: aI 8 mk :: aI 8 mw :: aI 8 mi :: aI 40 my :: aI 40 mv :: aL 1 out :: (rest ++ [xB])) (PI 1)
    refine ⟨[cC, cI (iI w) (iI g), aI np pf, aI nl lf, cF (iI fo) (iI le) (iI to) (iI ri) (iI bo), cY (iI co) (iI ro) (iI qu), cP a1 a2 a3 a4, cT (iI nt), aZ 16 zf, aI 48 tp, cN (iI fi), aL 3 fa, aL 3 fb, aL 3 fd, cS b1 b2 b3 b4 b5, cR (iI rk) (iI sg), aC 20 tx, aC 8 kf, aC 8 wf, aI 8 ll, cS (iI dn) (lI sx) (lI sy) (lI sxx) (lI sxy)], _, _, _, _, _, _, _, _, _, _, _, _, _, _, _, _, _, _, _, _, _, _, _, _, _, rfl, rfl, rfl, h_x, h_y, h_v, hw, ?_, ?_, ?_⟩
    · intro q1
      exact ⟨_, rfl, ⟨_, _, _, _, _, _, _, _, _, _, _, _, _, _, _, _, _, _, _, _, _, _, _, _, _, _, _, _, _, _, _, _, _, _, _, _, _, _, _, _, _, _, _, _, _, _, _, _, _, _, _, _, _, _, _, _, _, _, _, _, _, _, _, _, _, _, _, _, _, _, _, _, _, _, _, _, rfl, hP, hF, hL, hT, hN, hR, hD⟩, fun q => absurd q (by decide)⟩
    · intro q1 q2
      exfalso; omega
    · intro q1 q2
      exfalso; omega
  · simp only [iI_toInt h_x, iI_toInt h_y, iI_toInt h_v, iI_toInt (show inI w from ⟨by omega, by omega⟩), iI_toInt (show inI g from ⟨by omega, by omega⟩)] at hc hd
    refine ⟨1, 11, rfl, at_end _ _, 2, by rw [nI2], ⟨_, rfl⟩, ?_⟩
    show G_M_light [.ref 21, .int (iI x), .int (iI y), .int (iI v)] (cC :: cI (iI w) (iI g) :: aI np pf :: aI nl lf :: cF (iI fo) (iI le) (iI to) (iI ri) (iI bo) :: cY (iI co) (iI ro) (iI qu) :: cP a1 a2 a3 a4 :: cT (iI nt) :: aZ 16 zf :: aI 48 tp :: cN (iI fi) :: aL 3 fa :: aL 3 fb :: aL 3 fd :: cS b1 b2 b3 b4 b5 :: cR (iI rk) (iI sg) :: aC 20 tx :: aC 8 kf :: aC 8 wf :: aI 8 ll :: cS (iI dn) (lI sx) (lI sy) (lI sxx) (lI sxy) :: cM (iI th) (iI w) (iI g) (iI fo) (iI xle) (iI xto) (iI xri) (iI xbo) (iI co) (iI ro) (iI qu) (iI nt) (iI fi) (iI sg) (iI rk) (iI dn) ce su sq :: aI 2700 mp :: aI 900 ml :: aZ 16 mh :: aI 48 mt :: aL 3 ma :: aL 3 mb :: aL 3 md :: aI 20 mx_ :: aI 8 mk :: aI 8 mw :: aI 8 mi :: aI 40 my :: aI 40 mv :: aL 1 out :: (rest ++ [xA])) (PI 2)
    refine ⟨[cC, cI (iI w) (iI g), aI np pf, aI nl lf, cF (iI fo) (iI le) (iI to) (iI ri) (iI bo), cY (iI co) (iI ro) (iI qu), cP a1 a2 a3 a4, cT (iI nt), aZ 16 zf, aI 48 tp, cN (iI fi), aL 3 fa, aL 3 fb, aL 3 fd, cS b1 b2 b3 b4 b5, cR (iI rk) (iI sg), aC 20 tx, aC 8 kf, aC 8 wf, aI 8 ll, cS (iI dn) (lI sx) (lI sy) (lI sxx) (lI sxy)], _, _, _, _, _, _, _, _, _, _, _, _, _, _, _, _, _, _, _, _, _, _, _, _, _, rfl, rfl, rfl, h_x, h_y, h_v, hw, ?_, ?_, ?_⟩
    · intro q1
      exfalso; omega
    · intro q1 q2
      exact ⟨_, rfl, ⟨_, _, _, _, _, _, _, _, _, _, _, _, _, _, _, _, _, _, _, _, _, _, _, _, _, _, _, _, _, _, _, _, _, _, _, _, _, _, _, _, _, _, _, _, _, _, _, _, _, _, _, _, _, _, _, _, _, _, _, _, _, _, _, _, _, _, _, _, _, _, _, _, _, _, _, _, rfl, hP, hF, hL, hT, hN, hR, hD⟩, fun q => absurd q (by decide)⟩
    · intro q1 q2
      exfalso; omega
  · simp only [iI_toInt h_x, iI_toInt h_y, iI_toInt h_v, iI_toInt (show inI w from ⟨by omega, by omega⟩), iI_toInt (show inI g from ⟨by omega, by omega⟩)] at hc hd
    have ci := cell_in (x := x) (y := y) hw (by omega) (by omega) (by omega) (by omega)
    have e1 : iI y * iI w + iI x = iI (y * w + x) := by rw [iI_mul, iI_add]
    rw [e1]
    refine ⟨iI_vin (by omega) (by omega) (by have := hP.1.2.1.2; omega), ?_⟩
    rw [iI_nat (by omega) (by omega)]
    refine ⟨_, out, rfl, rfl, 0, rfl, ⟨_, rfl⟩, ?_⟩
    show G_M_light [.ref 21, .int (iI x), .int (iI y), .int (iI v)] (cC :: cI (iI w) (iI g) :: aI np pf :: aI nl (upd lf (y * w + x).toNat (iI v)) :: cF (iI fo) (iI le) (iI to) (iI ri) (iI bo) :: cY (iI co) (iI ro) (iI qu) :: cP a1 a2 a3 a4 :: cT (iI nt) :: aZ 16 zf :: aI 48 tp :: cN (iI fi) :: aL 3 fa :: aL 3 fb :: aL 3 fd :: cS b1 b2 b3 b4 b5 :: cR (iI rk) (iI sg) :: aC 20 tx :: aC 8 kf :: aC 8 wf :: aI 8 ll :: cS (iI dn) (lI sx) (lI sy) (lI sxx) (lI sxy) :: cM (iI th) (iI w) (iI g) (iI fo) (iI xle) (iI xto) (iI xri) (iI xbo) (iI co) (iI ro) (iI qu) (iI nt) (iI fi) (iI sg) (iI rk) (iI dn) ce su sq :: aI 2700 mp :: aI 900 ml :: aZ 16 mh :: aI 48 mt :: aL 3 ma :: aL 3 mb :: aL 3 md :: aI 20 mx_ :: aI 8 mk :: aI 8 mw :: aI 8 mi :: aI 40 my :: aI 40 mv :: aL 1 (vp_updL out 0 (lf (y * w + x).toNat).toInt64) :: rest) (PI 0)
    refine ⟨[cC, cI (iI w) (iI g), aI np pf, aI nl (upd lf (y * w + x).toNat (iI v)), cF (iI fo) (iI le) (iI to) (iI ri) (iI bo), cY (iI co) (iI ro) (iI qu), cP a1 a2 a3 a4, cT (iI nt), aZ 16 zf, aI 48 tp, cN (iI fi), aL 3 fa, aL 3 fb, aL 3 fd, cS b1 b2 b3 b4 b5, cR (iI rk) (iI sg), aC 20 tx, aC 8 kf, aC 8 wf, aI 8 ll, cS (iI dn) (lI sx) (lI sy) (lI sxx) (lI sxy)], _, _, _, _, _, _, _, _, _, _, _, _, _, _, _, _, _, _, _, _, _, _, _, _, _, rfl, rfl, rfl, h_x, h_y, h_v, hw, ?_, ?_, ?_⟩
    · intro q1
      exfalso; omega
    · intro q1 q2
      exfalso; omega
    · intro q1 q2
      refine ⟨_, rfl, ⟨_, _, _, _, _, _, _, _, _, _, _, _, _, _, _, _, _, _, _, _, _, _, _, _, _, _, _, _, _, _, _, _, _, _, _, _, _, _, _, _, _, _, _, _, _, _, _, _, _, _, _, _, _, _, _, _, _, _, _, _, _, _, _, _, _, _, _, _, _, _, _, _, _, _, _, _, rfl, ⟨lig_set hP.1 (by omega) (by omega) (by omega) (by omega) (by omega) (by omega), ml_set hP.2 (by omega) (by omega) (by omega) (by omega) (by omega) (by omega)⟩, hF, hL, hT, hN, hR, hD⟩, fun _ => ⟨_, rfl, outz.trans ?_⟩⟩
      rw [hP.1.2.2.2.1 x y (by omega) (by omega) (by omega) (by omega), hP.2.2.1 x y (by omega) (by omega) (by omega) (by omega)]
set_option maxHeartbeats 4000000 in
set_option maxRecDepth 100000 in
theorem st_lit {th : Int} {h : ah_H} {sa : Nat → Nat} (hI : InvT th h) (x y p : Int) (h_x : inI x) (h_y : inI y) (h_p : inI p) : G_L_lit (fun _ => G_C_lit) sa [.ref 0, .int (iI x), .int (iI y), .int (iI p), .ref 35] h (fun r_ h' => ∃ k : Int, r_ = .inl (some (.int (iI k))) ∧ (∃ fs, h'[21]? = some (.inr (9, fs))) ∧ G_M_lit [.ref 21, .int (iI x), .int (iI y), .int (iI p)] h' (PI k)) := by
  refine inv_el (P := fun h => G_L_lit (fun _ => G_C_lit) sa [.ref 0, .int (iI x), .int (iI y), .int (iI p), .ref 35] h (fun r_ h' => ∃ k : Int, r_ = .inl (some (.int (iI k))) ∧ (∃ fs, h'[21]? = some (.inr (9, fs))) ∧ G_M_lit [.ref 21, .int (iI x), .int (iI y), .int (iI p)] h' (PI k))) hI ?_
  intro w g np nl pf lf fo le to ri bo co ro qu a1 a2 a3 a4 nt zf tp fi fa fb fd b1 b2 b3 b4 b5 rk sg tx kf wf ll dn sx sy sxx sxy xle xto xri xbo ce su sq mp ml mh mt ma mb md mx_ mk mw mi my mv out rest pic lig has tg A B D T kd wy lm X Y hP hF hL hT hN hR hD
  have hw := hP.1.1
  have hfo := hF.1
  have hfr : fo = 1 → frOk le to ri bo w g := fun q => (hF.2 q).1
  have hfm : fo = 1 → frOk xle xto xri xbo w g := fun q => by
    obtain ⟨a, b, c, d, e⟩ := hF.2 q
    rw [b, c, d, e]; exact a
  have hL' := hL
  unfold lyOk at hL'
  have mq := mbd (A := 4) (B := 4) (a := co) (b := ro) (by omega) (by omega)
  have i_x := h_x
  unfold inI at i_x
  have i_y := h_y
  unfold inI at i_y
  have i_p := h_p
  unfold inI at i_p
  refine ⟨iI x, iI y, iI p, _, rfl, rfl, ?_⟩
  refine ⟨_, _, _, _, _, _, _, _, _, _, rfl, rfl, fun hc => ?_, fun hc => ?_⟩
  · simp only [iI_toInt h_x, iI_toInt h_y, iI_toInt h_p, iI_toInt (show inI w from ⟨by omega, by omega⟩), iI_toInt (show inI g from ⟨by omega, by omega⟩)] at hc
    refine ⟨0, 10, rfl, at_end _ _, 1, by rw [nI1], ⟨_, rfl⟩, ?_⟩
    show G_M_lit [.ref 21, .int (iI x), .int (iI y), .int (iI p)] (cC :: cI (iI w) (iI g) :: aI np pf :: aI nl lf :: cF (iI fo) (iI le) (iI to) (iI ri) (iI bo) :: cY (iI co) (iI ro) (iI qu) :: cP a1 a2 a3 a4 :: cT (iI nt) :: aZ 16 zf :: aI 48 tp :: cN (iI fi) :: aL 3 fa :: aL 3 fb :: aL 3 fd :: cS b1 b2 b3 b4 b5 :: cR (iI rk) (iI sg) :: aC 20 tx :: aC 8 kf :: aC 8 wf :: aI 8 ll :: cS (iI dn) (lI sx) (lI sy) (lI sxx) (lI sxy) :: cM (iI th) (iI w) (iI g) (iI fo) (iI xle) (iI xto) (iI xri) (iI xbo) (iI co) (iI ro) (iI qu) (iI nt) (iI fi) (iI sg) (iI rk) (iI dn) ce su sq :: aI 2700 mp :: aI 900 ml :: aZ 16 mh :: aI 48 mt :: aL 3 ma :: aL 3 mb :: aL 3 md :: aI 20 mx_ :: aI 8 mk :: aI 8 mw :: aI 8 mi :: aI 40 my :: aI 40 mv :: aL 1 out :: (rest ++ [xB])) (PI 1)
    refine ⟨[cC, cI (iI w) (iI g), aI np pf, aI nl lf, cF (iI fo) (iI le) (iI to) (iI ri) (iI bo), cY (iI co) (iI ro) (iI qu), cP a1 a2 a3 a4, cT (iI nt), aZ 16 zf, aI 48 tp, cN (iI fi), aL 3 fa, aL 3 fb, aL 3 fd, cS b1 b2 b3 b4 b5, cR (iI rk) (iI sg), aC 20 tx, aC 8 kf, aC 8 wf, aI 8 ll, cS (iI dn) (lI sx) (lI sy) (lI sxx) (lI sxy)], _, _, _, _, _, _, _, _, _, _, _, _, _, _, _, _, _, _, _, _, _, _, _, _, _, _, _, rfl, rfl, rfl, h_x, h_y, h_p, hw, hP.2, ?_, ?_⟩
    · intro q1
      exact ⟨_, rfl, ⟨_, _, _, _, _, _, _, _, _, _, _, _, _, _, _, _, _, _, _, _, _, _, _, _, _, _, _, _, _, _, _, _, _, _, _, _, _, _, _, _, _, _, _, _, _, _, _, _, _, _, _, _, _, _, _, _, _, _, _, _, _, _, _, _, _, _, _, _, _, _, _, _, _, _, _, _, rfl, hP, hF, hL, hT, hN, hR, hD⟩, fun q => absurd q (by decide)⟩
    · intro q1
      exfalso; omega
  · simp only [iI_toInt h_x, iI_toInt h_y, iI_toInt h_p, iI_toInt (show inI w from ⟨by omega, by omega⟩), iI_toInt (show inI g from ⟨by omega, by omega⟩)] at hc
    have ci := cell_in (x := x) (y := y) hw (by omega) (by omega) (by omega) (by omega)
    have e1 : iI y * iI w + iI x = iI (y * w + x) := by rw [iI_mul, iI_add]
    have e2 : iI (y * w + x) * 3 + iI p = iI ((y * w + x) * 3 + p) := by rw [show (3 : Int32) = iI 3 from rfl, iI_mul, iI_add]
    have bx := hP.1.2.2.2.2.1 x y p
    have bl := hP.1.2.2.2.2.2 x y
    rw [e1, e2, iI_nat (by omega) (by omega), iI_nat (by omega) (by omega), hP.1.2.2.2.1 x y (by omega) (by omega) (by omega) (by omega), hP.1.2.2.1 x y p (by omega) (by omega) (by omega) (by omega) (by omega) (by omega)]
    refine ⟨iI_vin (by omega) (by omega) (by have := hP.1.2.1.2; omega), iI_vin (by omega) (by omega) (by have := hP.1.2.1.1; omega), fun h => ?_, ?_⟩
    · rw [show (2 : Int32) = iI 2 from rfl, iI_mul]
      exact fun q => h ((iI_eq (a := lig x y) (b := 0) ⟨by omega, by omega⟩ ⟨by omega, by omega⟩).mpr (by have := (iI_eq ⟨by omega, by omega⟩ ⟨by omega, by omega⟩).mp (show iI (2 * lig x y) = iI 0 from q); omega))
    rw [jLit_I bl bx]
    refine ⟨_, out, rfl, rfl, 0, rfl, ⟨_, rfl⟩, ?_⟩
    show G_M_lit [.ref 21, .int (iI x), .int (iI y), .int (iI p)] (cC :: cI (iI w) (iI g) :: aI np pf :: aI nl lf :: cF (iI fo) (iI le) (iI to) (iI ri) (iI bo) :: cY (iI co) (iI ro) (iI qu) :: cP a1 a2 a3 a4 :: cT (iI nt) :: aZ 16 zf :: aI 48 tp :: cN (iI fi) :: aL 3 fa :: aL 3 fb :: aL 3 fd :: cS b1 b2 b3 b4 b5 :: cR (iI rk) (iI sg) :: aC 20 tx :: aC 8 kf :: aC 8 wf :: aI 8 ll :: cS (iI dn) (lI sx) (lI sy) (lI sxx) (lI sxy) :: cM (iI th) (iI w) (iI g) (iI fo) (iI xle) (iI xto) (iI xri) (iI xbo) (iI co) (iI ro) (iI qu) (iI nt) (iI fi) (iI sg) (iI rk) (iI dn) ce su sq :: aI 2700 mp :: aI 900 ml :: aZ 16 mh :: aI 48 mt :: aL 3 ma :: aL 3 mb :: aL 3 md :: aI 20 mx_ :: aI 8 mk :: aI 8 mw :: aI 8 mi :: aI 40 my :: aI 40 mv :: aL 1 (vp_updL out 0 (iI (if lig x y = 0 then 0 else min 255 ((400 * pic x y p + lig x y) / (2 * lig x y)))).toInt64) :: rest) (PI 0)
    refine ⟨[cC, cI (iI w) (iI g), aI np pf, aI nl lf, cF (iI fo) (iI le) (iI to) (iI ri) (iI bo), cY (iI co) (iI ro) (iI qu), cP a1 a2 a3 a4, cT (iI nt), aZ 16 zf, aI 48 tp, cN (iI fi), aL 3 fa, aL 3 fb, aL 3 fd, cS b1 b2 b3 b4 b5, cR (iI rk) (iI sg), aC 20 tx, aC 8 kf, aC 8 wf, aI 8 ll, cS (iI dn) (lI sx) (lI sy) (lI sxx) (lI sxy)], _, _, _, _, _, _, _, _, _, _, _, _, _, _, _, _, _, _, _, _, _, _, _, _, _, _, _, rfl, rfl, rfl, h_x, h_y, h_p, hw, hP.2, ?_, ?_⟩
    · intro q1
      exfalso; omega
    · intro q1
      refine ⟨_, rfl, ⟨_, _, _, _, _, _, _, _, _, _, _, _, _, _, _, _, _, _, _, _, _, _, _, _, _, _, _, _, _, _, _, _, _, _, _, _, _, _, _, _, _, _, _, _, _, _, _, _, _, _, _, _, _, _, _, _, _, _, _, _, _, _, _, _, _, _, _, _, _, _, _, _, _, _, _, _, rfl, hP, hF, hL, hT, hN, hR, hD⟩, fun _ => ⟨_, rfl, outz.trans ?_⟩⟩
      rfl
set_option maxHeartbeats 4000000 in
set_option maxRecDepth 100000 in
theorem st_box {th : Int} {h : ah_H} {sa : Nat → Nat} (hI : InvT th h) (x : Int) (h_x : inI x) : G_L_box (fun _ => G_C_box) sa [.ref 0, .int (iI x), .ref 35] h (fun r_ h' => ∃ k : Int, r_ = .inl (some (.int (iI k))) ∧ (∃ fs, h'[21]? = some (.inr (9, fs))) ∧ G_M_box [.ref 21, .int (iI x)] h' (PI k)) := by
  refine inv_el (P := fun h => G_L_box (fun _ => G_C_box) sa [.ref 0, .int (iI x), .ref 35] h (fun r_ h' => ∃ k : Int, r_ = .inl (some (.int (iI k))) ∧ (∃ fs, h'[21]? = some (.inr (9, fs))) ∧ G_M_box [.ref 21, .int (iI x)] h' (PI k))) hI ?_
  intro w g np nl pf lf fo le to ri bo co ro qu a1 a2 a3 a4 nt zf tp fi fa fb fd b1 b2 b3 b4 b5 rk sg tx kf wf ll dn sx sy sxx sxy xle xto xri xbo ce su sq mp ml mh mt ma mb md mx_ mk mw mi my mv out rest pic lig has tg A B D T kd wy lm X Y hP hF hL hT hN hR hD
  have hw := hP.1.1
  have hfo := hF.1
  have hfr : fo = 1 → frOk le to ri bo w g := fun q => (hF.2 q).1
  have hfm : fo = 1 → frOk xle xto xri xbo w g := fun q => by
    obtain ⟨a, b, c, d, e⟩ := hF.2 q
    rw [b, c, d, e]; exact a
  have hL' := hL
  unfold lyOk at hL'
  have mq := mbd (A := 4) (B := 4) (a := co) (b := ro) (by omega) (by omega)
  have i_x := h_x
  unfold inI at i_x
  refine ⟨iI x, _, rfl, rfl, ?_⟩
  refine ⟨_, _, _, _, _, _, _, _, _, _, rfl, rfl, fun hc => ?_, fun hc hd => ?_, fun hc hd he => ?_, fun hc hd he => ?_, fun hc hd he => ?_, fun hc hd he => ?_⟩
  · simp only [iI_toInt h_x] at hc
    refine ⟨0, 10, rfl, at_end _ _, 1, by rw [nI1], ⟨_, rfl⟩, ?_⟩
    show G_M_box [.ref 21, .int (iI x)] (cC :: cI (iI w) (iI g) :: aI np pf :: aI nl lf :: cF (iI fo) (iI le) (iI to) (iI ri) (iI bo) :: cY (iI co) (iI ro) (iI qu) :: cP a1 a2 a3 a4 :: cT (iI nt) :: aZ 16 zf :: aI 48 tp :: cN (iI fi) :: aL 3 fa :: aL 3 fb :: aL 3 fd :: cS b1 b2 b3 b4 b5 :: cR (iI rk) (iI sg) :: aC 20 tx :: aC 8 kf :: aC 8 wf :: aI 8 ll :: cS (iI dn) (lI sx) (lI sy) (lI sxx) (lI sxy) :: cM (iI th) (iI w) (iI g) (iI fo) (iI xle) (iI xto) (iI xri) (iI xbo) (iI co) (iI ro) (iI qu) (iI nt) (iI fi) (iI sg) (iI rk) (iI dn) ce su sq :: aI 2700 mp :: aI 900 ml :: aZ 16 mh :: aI 48 mt :: aL 3 ma :: aL 3 mb :: aL 3 md :: aI 20 mx_ :: aI 8 mk :: aI 8 mw :: aI 8 mi :: aI 40 my :: aI 40 mv :: aL 1 out :: (rest ++ [xB])) (PI 1)
    refine ⟨[cC, cI (iI w) (iI g), aI np pf, aI nl lf, cF (iI fo) (iI le) (iI to) (iI ri) (iI bo), cY (iI co) (iI ro) (iI qu), cP a1 a2 a3 a4, cT (iI nt), aZ 16 zf, aI 48 tp, cN (iI fi), aL 3 fa, aL 3 fb, aL 3 fd, cS b1 b2 b3 b4 b5, cR (iI rk) (iI sg), aC 20 tx, aC 8 kf, aC 8 wf, aI 8 ll, cS (iI dn) (lI sx) (lI sy) (lI sxx) (lI sxy)], _, _, _, _, _, _, _, _, _, _, _, _, _, _, _, _, _, _, _, _, _, rfl, rfl, rfl, h_x, hfo, ?_, ?_, ?_, ?_, ?_, ?_⟩
    · intro q1
      exact ⟨_, rfl, ⟨_, _, _, _, _, _, _, _, _, _, _, _, _, _, _, _, _, _, _, _, _, _, _, _, _, _, _, _, _, _, _, _, _, _, _, _, _, _, _, _, _, _, _, _, _, _, _, _, _, _, _, _, _, _, _, _, _, _, _, _, _, _, _, _, _, _, _, _, _, _, _, _, _, _, _, _, rfl, hP, hF, hL, hT, hN, hR, hD⟩, fun q => absurd q (by decide)⟩
    · intro q1 q2
      exfalso; omega
    · intro q1 q2 q3
      exfalso; omega
    · intro q1 q2 q3
      exfalso; omega
    · intro q1 q2 q3
      exfalso; omega
    · intro q1 q2 q3
      exfalso; omega
  · simp only [iI_toInt h_x] at hc
    have hd := flag0 hfo hd
    refine ⟨1, 12, rfl, at_end _ _, 2, by rw [nI2], ⟨_, rfl⟩, ?_⟩
    show G_M_box [.ref 21, .int (iI x)] (cC :: cI (iI w) (iI g) :: aI np pf :: aI nl lf :: cF (iI fo) (iI le) (iI to) (iI ri) (iI bo) :: cY (iI co) (iI ro) (iI qu) :: cP a1 a2 a3 a4 :: cT (iI nt) :: aZ 16 zf :: aI 48 tp :: cN (iI fi) :: aL 3 fa :: aL 3 fb :: aL 3 fd :: cS b1 b2 b3 b4 b5 :: cR (iI rk) (iI sg) :: aC 20 tx :: aC 8 kf :: aC 8 wf :: aI 8 ll :: cS (iI dn) (lI sx) (lI sy) (lI sxx) (lI sxy) :: cM (iI th) (iI w) (iI g) (iI fo) (iI xle) (iI xto) (iI xri) (iI xbo) (iI co) (iI ro) (iI qu) (iI nt) (iI fi) (iI sg) (iI rk) (iI dn) ce su sq :: aI 2700 mp :: aI 900 ml :: aZ 16 mh :: aI 48 mt :: aL 3 ma :: aL 3 mb :: aL 3 md :: aI 20 mx_ :: aI 8 mk :: aI 8 mw :: aI 8 mi :: aI 40 my :: aI 40 mv :: aL 1 out :: (rest ++ [xS])) (PI 2)
    refine ⟨[cC, cI (iI w) (iI g), aI np pf, aI nl lf, cF (iI fo) (iI le) (iI to) (iI ri) (iI bo), cY (iI co) (iI ro) (iI qu), cP a1 a2 a3 a4, cT (iI nt), aZ 16 zf, aI 48 tp, cN (iI fi), aL 3 fa, aL 3 fb, aL 3 fd, cS b1 b2 b3 b4 b5, cR (iI rk) (iI sg), aC 20 tx, aC 8 kf, aC 8 wf, aI 8 ll, cS (iI dn) (lI sx) (lI sy) (lI sxx) (lI sxy)], _, _, _, _, _, _, _, _, _, _, _, _, _, _, _, _, _, _, _, _, _, rfl, rfl, rfl, h_x, hfo, ?_, ?_, ?_, ?_, ?_, ?_⟩
    · intro q1
      exfalso; omega
    · intro q1 q2
      exact ⟨_, rfl, ⟨_, _, _, _, _, _, _, _, _, _, _, _, _, _, _, _, _, _, _, _, _, _, _, _, _, _, _, _, _, _, _, _, _, _, _, _, _, _, _, _, _, _, _, _, _, _, _, _, _, _, _, _, _, _, _, _, _, _, _, _, _, _, _, _, _, _, _, _, _, _, _, _, _, _, _, _, rfl, hP, hF, hL, hT, hN, hR, hD⟩, fun q => absurd q (by decide)⟩
    · intro q1 q2 q3
      exfalso; omega
    · intro q1 q2 q3
      exfalso; omega
    · intro q1 q2 q3
      exfalso; omega
    · intro q1 q2 q3
      exfalso; omega
  · simp only [iI_toInt h_x] at hc he
    have hd := flag1 hfo hd
    refine ⟨_, out, rfl, rfl, 0, rfl, ⟨_, rfl⟩, ?_⟩
    show G_M_box [.ref 21, .int (iI x)] (cC :: cI (iI w) (iI g) :: aI np pf :: aI nl lf :: cF (iI fo) (iI le) (iI to) (iI ri) (iI bo) :: cY (iI co) (iI ro) (iI qu) :: cP a1 a2 a3 a4 :: cT (iI nt) :: aZ 16 zf :: aI 48 tp :: cN (iI fi) :: aL 3 fa :: aL 3 fb :: aL 3 fd :: cS b1 b2 b3 b4 b5 :: cR (iI rk) (iI sg) :: aC 20 tx :: aC 8 kf :: aC 8 wf :: aI 8 ll :: cS (iI dn) (lI sx) (lI sy) (lI sxx) (lI sxy) :: cM (iI th) (iI w) (iI g) (iI fo) (iI xle) (iI xto) (iI xri) (iI xbo) (iI co) (iI ro) (iI qu) (iI nt) (iI fi) (iI sg) (iI rk) (iI dn) ce su sq :: aI 2700 mp :: aI 900 ml :: aZ 16 mh :: aI 48 mt :: aL 3 ma :: aL 3 mb :: aL 3 md :: aI 20 mx_ :: aI 8 mk :: aI 8 mw :: aI 8 mi :: aI 40 my :: aI 40 mv :: aL 1 (vp_updL out 0 (iI le).toInt64) :: rest) (PI 0)
    refine ⟨[cC, cI (iI w) (iI g), aI np pf, aI nl lf, cF (iI fo) (iI le) (iI to) (iI ri) (iI bo), cY (iI co) (iI ro) (iI qu), cP a1 a2 a3 a4, cT (iI nt), aZ 16 zf, aI 48 tp, cN (iI fi), aL 3 fa, aL 3 fb, aL 3 fd, cS b1 b2 b3 b4 b5, cR (iI rk) (iI sg), aC 20 tx, aC 8 kf, aC 8 wf, aI 8 ll, cS (iI dn) (lI sx) (lI sy) (lI sxx) (lI sxy)], _, _, _, _, _, _, _, _, _, _, _, _, _, _, _, _, _, _, _, _, _, rfl, rfl, rfl, h_x, hfo, ?_, ?_, ?_, ?_, ?_, ?_⟩
    · intro q1
      exfalso; omega
    · intro q1 q2
      exfalso; omega
    · intro q1 q2 q3
      refine ⟨_, rfl, ⟨_, _, _, _, _, _, _, _, _, _, _, _, _, _, _, _, _, _, _, _, _, _, _, _, _, _, _, _, _, _, _, _, _, _, _, _, _, _, _, _, _, _, _, _, _, _, _, _, _, _, _, _, _, _, _, _, _, _, _, _, _, _, _, _, _, _, _, _, _, _, _, _, _, _, _, _, rfl, hP, hF, hL, hT, hN, hR, hD⟩, fun _ => ⟨_, rfl, outz.trans ?_⟩⟩
      rw [(hF.2 hd).2.1]
    · intro q1 q2 q3
      exfalso; omega
    · intro q1 q2 q3
      exfalso; omega
    · intro q1 q2 q3
      exfalso; omega
  · simp only [iI_toInt h_x] at hc he
    have hd := flag1 hfo hd
    refine ⟨_, out, rfl, rfl, 0, rfl, ⟨_, rfl⟩, ?_⟩
    show G_M_box [.ref 21, .int (iI x)] (cC :: cI (iI w) (iI g) :: aI np pf :: aI nl lf :: cF (iI fo) (iI le) (iI to) (iI ri) (iI bo) :: cY (iI co) (iI ro) (iI qu) :: cP a1 a2 a3 a4 :: cT (iI nt) :: aZ 16 zf :: aI 48 tp :: cN (iI fi) :: aL 3 fa :: aL 3 fb :: aL 3 fd :: cS b1 b2 b3 b4 b5 :: cR (iI rk) (iI sg) :: aC 20 tx :: aC 8 kf :: aC 8 wf :: aI 8 ll :: cS (iI dn) (lI sx) (lI sy) (lI sxx) (lI sxy) :: cM (iI th) (iI w) (iI g) (iI fo) (iI xle) (iI xto) (iI xri) (iI xbo) (iI co) (iI ro) (iI qu) (iI nt) (iI fi) (iI sg) (iI rk) (iI dn) ce su sq :: aI 2700 mp :: aI 900 ml :: aZ 16 mh :: aI 48 mt :: aL 3 ma :: aL 3 mb :: aL 3 md :: aI 20 mx_ :: aI 8 mk :: aI 8 mw :: aI 8 mi :: aI 40 my :: aI 40 mv :: aL 1 (vp_updL out 0 (iI to).toInt64) :: rest) (PI 0)
    refine ⟨[cC, cI (iI w) (iI g), aI np pf, aI nl lf, cF (iI fo) (iI le) (iI to) (iI ri) (iI bo), cY (iI co) (iI ro) (iI qu), cP a1 a2 a3 a4, cT (iI nt), aZ 16 zf, aI 48 tp, cN (iI fi), aL 3 fa, aL 3 fb, aL 3 fd, cS b1 b2 b3 b4 b5, cR (iI rk) (iI sg), aC 20 tx, aC 8 kf, aC 8 wf, aI 8 ll, cS (iI dn) (lI sx) (lI sy) (lI sxx) (lI sxy)], _, _, _, _, _, _, _, _, _, _, _, _, _, _, _, _, _, _, _, _, _, rfl, rfl, rfl, h_x, hfo, ?_, ?_, ?_, ?_, ?_, ?_⟩
    · intro q1
      exfalso; omega
    · intro q1 q2
      exfalso; omega
    · intro q1 q2 q3
      exfalso; omega
    · intro q1 q2 q3
      refine ⟨_, rfl, ⟨_, _, _, _, _, _, _, _, _, _, _, _, _, _, _, _, _, _, _, _, _, _, _, _, _, _, _, _, _, _, _, _, _, _, _, _, _, _, _, _, _, _, _, _, _, _, _, _, _, _, _, _, _, _, _, _, _, _, _, _, _, _, _, _, _, _, _, _, _, _, _, _, _, _, _, _, rfl, hP, hF, hL, hT, hN, hR, hD⟩, fun _ => ⟨_, rfl, outz.trans ?_⟩⟩
      rw [(hF.2 hd).2.2.1]
    · intro q1 q2 q3
      exfalso; omega
    · intro q1 q2 q3
      exfalso; omega
  · simp only [iI_toInt h_x] at hc he
    have hd := flag1 hfo hd
    refine ⟨_, out, rfl, rfl, 0, rfl, ⟨_, rfl⟩, ?_⟩
    show G_M_box [.ref 21, .int (iI x)] (cC :: cI (iI w) (iI g) :: aI np pf :: aI nl lf :: cF (iI fo) (iI le) (iI to) (iI ri) (iI bo) :: cY (iI co) (iI ro) (iI qu) :: cP a1 a2 a3 a4 :: cT (iI nt) :: aZ 16 zf :: aI 48 tp :: cN (iI fi) :: aL 3 fa :: aL 3 fb :: aL 3 fd :: cS b1 b2 b3 b4 b5 :: cR (iI rk) (iI sg) :: aC 20 tx :: aC 8 kf :: aC 8 wf :: aI 8 ll :: cS (iI dn) (lI sx) (lI sy) (lI sxx) (lI sxy) :: cM (iI th) (iI w) (iI g) (iI fo) (iI xle) (iI xto) (iI xri) (iI xbo) (iI co) (iI ro) (iI qu) (iI nt) (iI fi) (iI sg) (iI rk) (iI dn) ce su sq :: aI 2700 mp :: aI 900 ml :: aZ 16 mh :: aI 48 mt :: aL 3 ma :: aL 3 mb :: aL 3 md :: aI 20 mx_ :: aI 8 mk :: aI 8 mw :: aI 8 mi :: aI 40 my :: aI 40 mv :: aL 1 (vp_updL out 0 (iI ri).toInt64) :: rest) (PI 0)
    refine ⟨[cC, cI (iI w) (iI g), aI np pf, aI nl lf, cF (iI fo) (iI le) (iI to) (iI ri) (iI bo), cY (iI co) (iI ro) (iI qu), cP a1 a2 a3 a4, cT (iI nt), aZ 16 zf, aI 48 tp, cN (iI fi), aL 3 fa, aL 3 fb, aL 3 fd, cS b1 b2 b3 b4 b5, cR (iI rk) (iI sg), aC 20 tx, aC 8 kf, aC 8 wf, aI 8 ll, cS (iI dn) (lI sx) (lI sy) (lI sxx) (lI sxy)], _, _, _, _, _, _, _, _, _, _, _, _, _, _, _, _, _, _, _, _, _, rfl, rfl, rfl, h_x, hfo, ?_, ?_, ?_, ?_, ?_, ?_⟩
    · intro q1
      exfalso; omega
    · intro q1 q2
      exfalso; omega
    · intro q1 q2 q3
      exfalso; omega
    · intro q1 q2 q3
      exfalso; omega
    · intro q1 q2 q3
      refine ⟨_, rfl, ⟨_, _, _, _, _, _, _, _, _, _, _, _, _, _, _, _, _, _, _, _, _, _, _, _, _, _, _, _, _, _, _, _, _, _, _, _, _, _, _, _, _, _, _, _, _, _, _, _, _, _, _, _, _, _, _, _, _, _, _, _, _, _, _, _, _, _, _, _, _, _, _, _, _, _, _, _, rfl, hP, hF, hL, hT, hN, hR, hD⟩, fun _ => ⟨_, rfl, outz.trans ?_⟩⟩
      rw [(hF.2 hd).2.2.2.1]
    · intro q1 q2 q3
      exfalso; omega
  · simp only [iI_toInt h_x] at hc he
    have hd := flag1 hfo hd
    refine ⟨_, out, rfl, rfl, 0, rfl, ⟨_, rfl⟩, ?_⟩
    show G_M_box [.ref 21, .int (iI x)] (cC :: cI (iI w) (iI g) :: aI np pf :: aI nl lf :: cF (iI fo) (iI le) (iI to) (iI ri) (iI bo) :: cY (iI co) (iI ro) (iI qu) :: cP a1 a2 a3 a4 :: cT (iI nt) :: aZ 16 zf :: aI 48 tp :: cN (iI fi) :: aL 3 fa :: aL 3 fb :: aL 3 fd :: cS b1 b2 b3 b4 b5 :: cR (iI rk) (iI sg) :: aC 20 tx :: aC 8 kf :: aC 8 wf :: aI 8 ll :: cS (iI dn) (lI sx) (lI sy) (lI sxx) (lI sxy) :: cM (iI th) (iI w) (iI g) (iI fo) (iI xle) (iI xto) (iI xri) (iI xbo) (iI co) (iI ro) (iI qu) (iI nt) (iI fi) (iI sg) (iI rk) (iI dn) ce su sq :: aI 2700 mp :: aI 900 ml :: aZ 16 mh :: aI 48 mt :: aL 3 ma :: aL 3 mb :: aL 3 md :: aI 20 mx_ :: aI 8 mk :: aI 8 mw :: aI 8 mi :: aI 40 my :: aI 40 mv :: aL 1 (vp_updL out 0 (iI bo).toInt64) :: rest) (PI 0)
    refine ⟨[cC, cI (iI w) (iI g), aI np pf, aI nl lf, cF (iI fo) (iI le) (iI to) (iI ri) (iI bo), cY (iI co) (iI ro) (iI qu), cP a1 a2 a3 a4, cT (iI nt), aZ 16 zf, aI 48 tp, cN (iI fi), aL 3 fa, aL 3 fb, aL 3 fd, cS b1 b2 b3 b4 b5, cR (iI rk) (iI sg), aC 20 tx, aC 8 kf, aC 8 wf, aI 8 ll, cS (iI dn) (lI sx) (lI sy) (lI sxx) (lI sxy)], _, _, _, _, _, _, _, _, _, _, _, _, _, _, _, _, _, _, _, _, _, rfl, rfl, rfl, h_x, hfo, ?_, ?_, ?_, ?_, ?_, ?_⟩
    · intro q1
      exfalso; omega
    · intro q1 q2
      exfalso; omega
    · intro q1 q2 q3
      exfalso; omega
    · intro q1 q2 q3
      exfalso; omega
    · intro q1 q2 q3
      exfalso; omega
    · intro q1 q2 q3
      refine ⟨_, rfl, ⟨_, _, _, _, _, _, _, _, _, _, _, _, _, _, _, _, _, _, _, _, _, _, _, _, _, _, _, _, _, _, _, _, _, _, _, _, _, _, _, _, _, _, _, _, _, _, _, _, _, _, _, _, _, _, _, _, _, _, _, _, _, _, _, _, _, _, _, _, _, _, _, _, _, _, _, _, rfl, hP, hF, hL, hT, hN, hR, hD⟩, fun _ => ⟨_, rfl, outz.trans ?_⟩⟩
      rw [(hF.2 hd).2.2.2.2]
set_option maxHeartbeats 4000000 in
set_option maxRecDepth 100000 in
theorem st_grid {th : Int} {h : ah_H} {sa : Nat → Nat} (hI : InvT th h) (x y : Int) (h_x : inI x) (h_y : inI y) : G_L_grid (fun _ => G_C_grid) sa [.ref 0, .int (iI x), .int (iI y)] h (fun r_ h' => ∃ k : Int, r_ = .inl (some (.int (iI k))) ∧ (∃ fs, h'[21]? = some (.inr (9, fs))) ∧ G_M_grid [.ref 21, .int (iI x), .int (iI y)] h' (PV k)) := by
  refine inv_el (P := fun h => G_L_grid (fun _ => G_C_grid) sa [.ref 0, .int (iI x), .int (iI y)] h (fun r_ h' => ∃ k : Int, r_ = .inl (some (.int (iI k))) ∧ (∃ fs, h'[21]? = some (.inr (9, fs))) ∧ G_M_grid [.ref 21, .int (iI x), .int (iI y)] h' (PV k))) hI ?_
  intro w g np nl pf lf fo le to ri bo co ro qu a1 a2 a3 a4 nt zf tp fi fa fb fd b1 b2 b3 b4 b5 rk sg tx kf wf ll dn sx sy sxx sxy xle xto xri xbo ce su sq mp ml mh mt ma mb md mx_ mk mw mi my mv out rest pic lig has tg A B D T kd wy lm X Y hP hF hL hT hN hR hD
  have hw := hP.1.1
  have hfo := hF.1
  have hfr : fo = 1 → frOk le to ri bo w g := fun q => (hF.2 q).1
  have hfm : fo = 1 → frOk xle xto xri xbo w g := fun q => by
    obtain ⟨a, b, c, d, e⟩ := hF.2 q
    rw [b, c, d, e]; exact a
  have hL' := hL
  unfold lyOk at hL'
  have mq := mbd (A := 4) (B := 4) (a := co) (b := ro) (by omega) (by omega)
  have i_x := h_x
  unfold inI at i_x
  have i_y := h_y
  unfold inI at i_y
  refine ⟨iI x, iI y, _, rfl, rfl, ?_⟩
  refine ⟨_, _, _, _, _, _, _, _, _, _, rfl, rfl, fun hc => ?_, fun hc => ?_⟩
  · simp only [iI_toInt h_x, iI_toInt h_y] at hc
    refine ⟨0, 11, rfl, at_end _ _, 1, by rw [nI1], ⟨_, rfl⟩, ?_⟩
    show G_M_grid [.ref 21, .int (iI x), .int (iI y)] (cC :: cI (iI w) (iI g) :: aI np pf :: aI nl lf :: cF (iI fo) (iI le) (iI to) (iI ri) (iI bo) :: cY (iI co) (iI ro) (iI qu) :: cP a1 a2 a3 a4 :: cT (iI nt) :: aZ 16 zf :: aI 48 tp :: cN (iI fi) :: aL 3 fa :: aL 3 fb :: aL 3 fd :: cS b1 b2 b3 b4 b5 :: cR (iI rk) (iI sg) :: aC 20 tx :: aC 8 kf :: aC 8 wf :: aI 8 ll :: cS (iI dn) (lI sx) (lI sy) (lI sxx) (lI sxy) :: cM (iI th) (iI w) (iI g) (iI fo) (iI xle) (iI xto) (iI xri) (iI xbo) (iI co) (iI ro) (iI qu) (iI nt) (iI fi) (iI sg) (iI rk) (iI dn) ce su sq :: aI 2700 mp :: aI 900 ml :: aZ 16 mh :: aI 48 mt :: aL 3 ma :: aL 3 mb :: aL 3 md :: aI 20 mx_ :: aI 8 mk :: aI 8 mw :: aI 8 mi :: aI 40 my :: aI 40 mv :: aL 1 out :: (rest ++ [xA])) (PV 1)
    refine ⟨[cC, cI (iI w) (iI g), aI np pf, aI nl lf, cF (iI fo) (iI le) (iI to) (iI ri) (iI bo), cY (iI co) (iI ro) (iI qu), cP a1 a2 a3 a4, cT (iI nt), aZ 16 zf, aI 48 tp, cN (iI fi), aL 3 fa, aL 3 fb, aL 3 fd, cS b1 b2 b3 b4 b5, cR (iI rk) (iI sg), aC 20 tx, aC 8 kf, aC 8 wf, aI 8 ll, cS (iI dn) (lI sx) (lI sy) (lI sxx) (lI sxy)], _, _, _, _, _, _, _, _, _, _, _, _, _, _, _, _, _, _, _, _, _, _, rfl, rfl, rfl, h_x, h_y, ?_, ?_⟩
    · intro q1
      exact ⟨rfl, ⟨_, _, _, _, _, _, _, _, _, _, _, _, _, _, _, _, _, _, _, _, _, _, _, _, _, _, _, _, _, _, _, _, _, _, _, _, _, _, _, _, _, _, _, _, _, _, _, _, _, _, _, _, _, _, _, _, _, _, _, _, _, _, _, _, _, _, _, _, _, _, _, _, _, _, _, _, rfl, hP, hF, hL, hT, hN, hR, hD⟩⟩
    · intro q1
      exfalso; omega
  · simp only [iI_toInt h_x, iI_toInt h_y] at hc
    refine ⟨rfl, 0, rfl, ⟨_, rfl⟩, ?_⟩
    show G_M_grid [.ref 21, .int (iI x), .int (iI y)] (cC :: cI (iI w) (iI g) :: aI np pf :: aI nl lf :: cF (iI fo) (iI le) (iI to) (iI ri) (iI bo) :: cY (iI x) (iI y) (iI qu) :: cP a1 a2 a3 a4 :: cT (iI nt) :: aZ 16 zf :: aI 48 tp :: cN (iI fi) :: aL 3 fa :: aL 3 fb :: aL 3 fd :: cS b1 b2 b3 b4 b5 :: cR (iI rk) (iI sg) :: aC 20 tx :: aC 8 kf :: aC 8 wf :: aI 8 ll :: cS (iI dn) (lI sx) (lI sy) (lI sxx) (lI sxy) :: cM (iI th) (iI w) (iI g) (iI fo) (iI xle) (iI xto) (iI xri) (iI xbo) (iI co) (iI ro) (iI qu) (iI nt) (iI fi) (iI sg) (iI rk) (iI dn) ce su sq :: aI 2700 mp :: aI 900 ml :: aZ 16 mh :: aI 48 mt :: aL 3 ma :: aL 3 mb :: aL 3 md :: aI 20 mx_ :: aI 8 mk :: aI 8 mw :: aI 8 mi :: aI 40 my :: aI 40 mv :: aL 1 out :: rest) (PV 0)
    refine ⟨[cC, cI (iI w) (iI g), aI np pf, aI nl lf, cF (iI fo) (iI le) (iI to) (iI ri) (iI bo), cY (iI x) (iI y) (iI qu), cP a1 a2 a3 a4, cT (iI nt), aZ 16 zf, aI 48 tp, cN (iI fi), aL 3 fa, aL 3 fb, aL 3 fd, cS b1 b2 b3 b4 b5, cR (iI rk) (iI sg), aC 20 tx, aC 8 kf, aC 8 wf, aI 8 ll, cS (iI dn) (lI sx) (lI sy) (lI sxx) (lI sxy)], _, _, _, _, _, _, _, _, _, _, _, _, _, _, _, _, _, _, _, _, _, _, rfl, rfl, rfl, h_x, h_y, ?_, ?_⟩
    · intro q1
      exfalso; omega
    · intro q1
      exact ⟨rfl, ⟨_, _, _, _, _, _, _, _, _, _, _, _, _, _, _, _, _, _, _, _, _, _, _, _, _, _, _, _, _, _, _, _, _, _, _, _, _, _, _, _, _, _, _, _, _, _, _, _, _, _, _, _, _, _, _, _, _, _, _, _, _, _, _, _, _, _, _, _, _, _, _, _, _, _, _, _, rfl, hP, hF, ⟨by omega, by omega, by omega, by omega, by omega, by omega⟩, hT, hN, hR, hD⟩⟩
set_option maxHeartbeats 4000000 in
set_option maxRecDepth 100000 in
theorem st_turn {th : Int} {h : ah_H} {sa : Nat → Nat} (hI : InvT th h) (x : Int) (h_x : inI x) : G_L_turn (fun _ => G_C_turn) sa [.ref 0, .int (iI x), .ref 35] h (fun r_ h' => ∃ k : Int, r_ = .inl (some (.int (iI k))) ∧ (∃ fs, h'[21]? = some (.inr (9, fs))) ∧ G_M_turn [.ref 21, .int (iI x)] h' (PI k)) := by
  refine inv_el (P := fun h => G_L_turn (fun _ => G_C_turn) sa [.ref 0, .int (iI x), .ref 35] h (fun r_ h' => ∃ k : Int, r_ = .inl (some (.int (iI k))) ∧ (∃ fs, h'[21]? = some (.inr (9, fs))) ∧ G_M_turn [.ref 21, .int (iI x)] h' (PI k))) hI ?_
  intro w g np nl pf lf fo le to ri bo co ro qu a1 a2 a3 a4 nt zf tp fi fa fb fd b1 b2 b3 b4 b5 rk sg tx kf wf ll dn sx sy sxx sxy xle xto xri xbo ce su sq mp ml mh mt ma mb md mx_ mk mw mi my mv out rest pic lig has tg A B D T kd wy lm X Y hP hF hL hT hN hR hD
  have hw := hP.1.1
  have hfo := hF.1
  have hfr : fo = 1 → frOk le to ri bo w g := fun q => (hF.2 q).1
  have hfm : fo = 1 → frOk xle xto xri xbo w g := fun q => by
    obtain ⟨a, b, c, d, e⟩ := hF.2 q
    rw [b, c, d, e]; exact a
  have hL' := hL
  unfold lyOk at hL'
  have mq := mbd (A := 4) (B := 4) (a := co) (b := ro) (by omega) (by omega)
  have i_x := h_x
  unfold inI at i_x
  refine ⟨iI x, _, rfl, rfl, ?_⟩
  refine ⟨_, _, _, _, _, _, _, _, _, rfl, rfl, fun hc => ?_, fun hc => ?_⟩
  · simp only [iI_toInt h_x] at hc
    refine ⟨0, 11, rfl, at_end _ _, 1, by rw [nI1], ⟨_, rfl⟩, ?_⟩
    show G_M_turn [.ref 21, .int (iI x)] (cC :: cI (iI w) (iI g) :: aI np pf :: aI nl lf :: cF (iI fo) (iI le) (iI to) (iI ri) (iI bo) :: cY (iI co) (iI ro) (iI qu) :: cP a1 a2 a3 a4 :: cT (iI nt) :: aZ 16 zf :: aI 48 tp :: cN (iI fi) :: aL 3 fa :: aL 3 fb :: aL 3 fd :: cS b1 b2 b3 b4 b5 :: cR (iI rk) (iI sg) :: aC 20 tx :: aC 8 kf :: aC 8 wf :: aI 8 ll :: cS (iI dn) (lI sx) (lI sy) (lI sxx) (lI sxy) :: cM (iI th) (iI w) (iI g) (iI fo) (iI xle) (iI xto) (iI xri) (iI xbo) (iI co) (iI ro) (iI qu) (iI nt) (iI fi) (iI sg) (iI rk) (iI dn) ce su sq :: aI 2700 mp :: aI 900 ml :: aZ 16 mh :: aI 48 mt :: aL 3 ma :: aL 3 mb :: aL 3 md :: aI 20 mx_ :: aI 8 mk :: aI 8 mw :: aI 8 mi :: aI 40 my :: aI 40 mv :: aL 1 out :: (rest ++ [xA])) (PI 1)
    refine ⟨[cC, cI (iI w) (iI g), aI np pf, aI nl lf, cF (iI fo) (iI le) (iI to) (iI ri) (iI bo), cY (iI co) (iI ro) (iI qu), cP a1 a2 a3 a4, cT (iI nt), aZ 16 zf, aI 48 tp, cN (iI fi), aL 3 fa, aL 3 fb, aL 3 fd, cS b1 b2 b3 b4 b5, cR (iI rk) (iI sg), aC 20 tx, aC 8 kf, aC 8 wf, aI 8 ll, cS (iI dn) (lI sx) (lI sy) (lI sxx) (lI sxy)], _, _, _, _, _, _, _, _, _, _, _, _, _, _, _, _, _, _, _, _, _, rfl, rfl, rfl, h_x, ?_, ?_⟩
    · intro q1
      exact ⟨_, rfl, ⟨_, _, _, _, _, _, _, _, _, _, _, _, _, _, _, _, _, _, _, _, _, _, _, _, _, _, _, _, _, _, _, _, _, _, _, _, _, _, _, _, _, _, _, _, _, _, _, _, _, _, _, _, _, _, _, _, _, _, _, _, _, _, _, _, _, _, _, _, _, _, _, _, _, _, _, _, rfl, hP, hF, hL, hT, hN, hR, hD⟩, fun q => absurd q (by decide)⟩
    · intro q1
      exfalso; omega
  · simp only [iI_toInt h_x] at hc
    refine ⟨_, out, rfl, rfl, 0, rfl, ⟨_, rfl⟩, ?_⟩
    show G_M_turn [.ref 21, .int (iI x)] (cC :: cI (iI w) (iI g) :: aI np pf :: aI nl lf :: cF (iI fo) (iI le) (iI to) (iI ri) (iI bo) :: cY (iI co) (iI ro) (iI x) :: cP a1 a2 a3 a4 :: cT (iI nt) :: aZ 16 zf :: aI 48 tp :: cN (iI fi) :: aL 3 fa :: aL 3 fb :: aL 3 fd :: cS b1 b2 b3 b4 b5 :: cR (iI rk) (iI sg) :: aC 20 tx :: aC 8 kf :: aC 8 wf :: aI 8 ll :: cS (iI dn) (lI sx) (lI sy) (lI sxx) (lI sxy) :: cM (iI th) (iI w) (iI g) (iI fo) (iI xle) (iI xto) (iI xri) (iI xbo) (iI co) (iI ro) (iI qu) (iI nt) (iI fi) (iI sg) (iI rk) (iI dn) ce su sq :: aI 2700 mp :: aI 900 ml :: aZ 16 mh :: aI 48 mt :: aL 3 ma :: aL 3 mb :: aL 3 md :: aI 20 mx_ :: aI 8 mk :: aI 8 mw :: aI 8 mi :: aI 40 my :: aI 40 mv :: aL 1 (vp_updL out 0 (iI qu).toInt64) :: rest) (PI 0)
    refine ⟨[cC, cI (iI w) (iI g), aI np pf, aI nl lf, cF (iI fo) (iI le) (iI to) (iI ri) (iI bo), cY (iI co) (iI ro) (iI x), cP a1 a2 a3 a4, cT (iI nt), aZ 16 zf, aI 48 tp, cN (iI fi), aL 3 fa, aL 3 fb, aL 3 fd, cS b1 b2 b3 b4 b5, cR (iI rk) (iI sg), aC 20 tx, aC 8 kf, aC 8 wf, aI 8 ll, cS (iI dn) (lI sx) (lI sy) (lI sxx) (lI sxy)], _, _, _, _, _, _, _, _, _, _, _, _, _, _, _, _, _, _, _, _, _, rfl, rfl, rfl, h_x, ?_, ?_⟩
    · intro q1
      exfalso; omega
    · intro q1
      refine ⟨_, rfl, ⟨_, _, _, _, _, _, _, _, _, _, _, _, _, _, _, _, _, _, _, _, _, _, _, _, _, _, _, _, _, _, _, _, _, _, _, _, _, _, _, _, _, _, _, _, _, _, _, _, _, _, _, _, _, _, _, _, _, _, _, _, _, _, _, _, _, _, _, _, _, _, _, _, _, _, _, _, rfl, hP, hF, ⟨by omega, by omega, by omega, by omega, by omega, by omega⟩, hT, hN, hR, hD⟩, fun _ => ⟨_, rfl, outz.trans ?_⟩⟩
      rfl
set_option maxHeartbeats 4000000 in
set_option maxRecDepth 100000 in
theorem st_read {th : Int} {h : ah_H} {sa : Nat → Nat} (hI : InvT th h) (p i : Int) (h_p : inI p) (h_i : inI i) : G_L_read (fun _ => G_C_read) sa [.ref 0, .int (iI p), .int (iI i), .ref 35] h (fun r_ h' => ∃ k : Int, r_ = .inl (some (.int (iI k))) ∧ (∃ fs, h'[21]? = some (.inr (9, fs))) ∧ G_M_read [.ref 21, .int (iI p), .int (iI i)] h' (PI k)) := by
  refine inv_el (P := fun h => G_L_read (fun _ => G_C_read) sa [.ref 0, .int (iI p), .int (iI i), .ref 35] h (fun r_ h' => ∃ k : Int, r_ = .inl (some (.int (iI k))) ∧ (∃ fs, h'[21]? = some (.inr (9, fs))) ∧ G_M_read [.ref 21, .int (iI p), .int (iI i)] h' (PI k))) hI ?_
  intro w g np nl pf lf fo le to ri bo co ro qu a1 a2 a3 a4 nt zf tp fi fa fb fd b1 b2 b3 b4 b5 rk sg tx kf wf ll dn sx sy sxx sxy xle xto xri xbo ce su sq mp ml mh mt ma mb md mx_ mk mw mi my mv out rest pic lig has tg A B D T kd wy lm X Y hP hF hL hT hN hR hD
  have hw := hP.1.1
  have hfo := hF.1
  have hfr : fo = 1 → frOk le to ri bo w g := fun q => (hF.2 q).1
  have hfm : fo = 1 → frOk xle xto xri xbo w g := fun q => by
    obtain ⟨a, b, c, d, e⟩ := hF.2 q
    rw [b, c, d, e]; exact a
  have hL' := hL
  unfold lyOk at hL'
  have mq := mbd (A := 4) (B := 4) (a := co) (b := ro) (by omega) (by omega)
  have i_p := h_p
  unfold inI at i_p
  have i_i := h_i
  unfold inI at i_i
  refine ⟨iI p, iI i, _, rfl, rfl, ?_⟩
  refine ⟨_, _, _, _, _, _, _, _, _, _, _, _, _, _, _, _, _, _, _, _, _, _, _, rfl, rfl, h_p, h_i, hfo, hP.1, hL, hfr, fun hc => ?_, fun hc hd => ?_, fun hc hd => ?_⟩
  · skip
    refine ⟨0, 10, rfl, at_end _ _, 1, by rw [nI1], ⟨_, rfl⟩, ?_⟩
    show G_M_read [.ref 21, .int (iI p), .int (iI i)] (cC :: cI (iI w) (iI g) :: aI np pf :: aI nl lf :: cF (iI fo) (iI le) (iI to) (iI ri) (iI bo) :: cY (iI co) (iI ro) (iI qu) :: cP a1 a2 a3 a4 :: cT (iI nt) :: aZ 16 zf :: aI 48 tp :: cN (iI fi) :: aL 3 fa :: aL 3 fb :: aL 3 fd :: cS b1 b2 b3 b4 b5 :: cR (iI rk) (iI sg) :: aC 20 tx :: aC 8 kf :: aC 8 wf :: aI 8 ll :: cS (iI dn) (lI sx) (lI sy) (lI sxx) (lI sxy) :: cM (iI th) (iI w) (iI g) (iI fo) (iI xle) (iI xto) (iI xri) (iI xbo) (iI co) (iI ro) (iI qu) (iI nt) (iI fi) (iI sg) (iI rk) (iI dn) ce su sq :: aI 2700 mp :: aI 900 ml :: aZ 16 mh :: aI 48 mt :: aL 3 ma :: aL 3 mb :: aL 3 md :: aI 20 mx_ :: aI 8 mk :: aI 8 mw :: aI 8 mi :: aI 40 my :: aI 40 mv :: aL 1 out :: (rest ++ [xB])) (PI 1)
    refine ⟨[cC, cI (iI w) (iI g), aI np pf, aI nl lf, cF (iI fo) (iI le) (iI to) (iI ri) (iI bo), cY (iI co) (iI ro) (iI qu), cP a1 a2 a3 a4, cT (iI nt), aZ 16 zf, aI 48 tp, cN (iI fi), aL 3 fa, aL 3 fb, aL 3 fd, cS b1 b2 b3 b4 b5, cR (iI rk) (iI sg), aC 20 tx, aC 8 kf, aC 8 wf, aI 8 ll, cS (iI dn) (lI sx) (lI sy) (lI sxx) (lI sxy)], _, _, _, _, _, _, _, _, _, _, _, _, _, _, _, _, _, _, _, _, _, _, _, _, _, _, _, _, rfl, rfl, rfl, h_p, h_i, hfo, hP.2, hL, hfm, ?_, ?_, ?_⟩
    · intro q1
      exact ⟨_, rfl, ⟨_, _, _, _, _, _, _, _, _, _, _, _, _, _, _, _, _, _, _, _, _, _, _, _, _, _, _, _, _, _, _, _, _, _, _, _, _, _, _, _, _, _, _, _, _, _, _, _, _, _, _, _, _, _, _, _, _, _, _, _, _, _, _, _, _, _, _, _, _, _, _, _, _, _, _, _, rfl, hP, hF, hL, hT, hN, hR, hD⟩, fun q => absurd q (by decide)⟩
    · intro q1 q2
      exfalso; omega
    · intro q1 q2 u1 u2 u3
      exfalso; omega
  · skip
    refine ⟨1, 12, rfl, at_end _ _, 2, by rw [nI2], ⟨_, rfl⟩, ?_⟩
    show G_M_read [.ref 21, .int (iI p), .int (iI i)] (cC :: cI (iI w) (iI g) :: aI np pf :: aI nl lf :: cF (iI fo) (iI le) (iI to) (iI ri) (iI bo) :: cY (iI co) (iI ro) (iI qu) :: cP a1 a2 a3 a4 :: cT (iI nt) :: aZ 16 zf :: aI 48 tp :: cN (iI fi) :: aL 3 fa :: aL 3 fb :: aL 3 fd :: cS b1 b2 b3 b4 b5 :: cR (iI rk) (iI sg) :: aC 20 tx :: aC 8 kf :: aC 8 wf :: aI 8 ll :: cS (iI dn) (lI sx) (lI sy) (lI sxx) (lI sxy) :: cM (iI th) (iI w) (iI g) (iI fo) (iI xle) (iI xto) (iI xri) (iI xbo) (iI co) (iI ro) (iI qu) (iI nt) (iI fi) (iI sg) (iI rk) (iI dn) ce su sq :: aI 2700 mp :: aI 900 ml :: aZ 16 mh :: aI 48 mt :: aL 3 ma :: aL 3 mb :: aL 3 md :: aI 20 mx_ :: aI 8 mk :: aI 8 mw :: aI 8 mi :: aI 40 my :: aI 40 mv :: aL 1 out :: (rest ++ [xS])) (PI 2)
    refine ⟨[cC, cI (iI w) (iI g), aI np pf, aI nl lf, cF (iI fo) (iI le) (iI to) (iI ri) (iI bo), cY (iI co) (iI ro) (iI qu), cP a1 a2 a3 a4, cT (iI nt), aZ 16 zf, aI 48 tp, cN (iI fi), aL 3 fa, aL 3 fb, aL 3 fd, cS b1 b2 b3 b4 b5, cR (iI rk) (iI sg), aC 20 tx, aC 8 kf, aC 8 wf, aI 8 ll, cS (iI dn) (lI sx) (lI sy) (lI sxx) (lI sxy)], _, _, _, _, _, _, _, _, _, _, _, _, _, _, _, _, _, _, _, _, _, _, _, _, _, _, _, _, rfl, rfl, rfl, h_p, h_i, hfo, hP.2, hL, hfm, ?_, ?_, ?_⟩
    · intro q1
      exfalso; omega
    · intro q1 q2
      exact ⟨_, rfl, ⟨_, _, _, _, _, _, _, _, _, _, _, _, _, _, _, _, _, _, _, _, _, _, _, _, _, _, _, _, _, _, _, _, _, _, _, _, _, _, _, _, _, _, _, _, _, _, _, _, _, _, _, _, _, _, _, _, _, _, _, _, _, _, _, _, _, _, _, _, _, _, _, _, _, _, _, _, rfl, hP, hF, hL, hT, hN, hR, hD⟩, fun q => absurd q (by decide)⟩
    · intro q1 q2 u1 u2 u3
      exfalso; omega
  · refine ⟨_, out, rfl, rfl, 0, rfl, ⟨_, rfl⟩, ?_⟩
    show G_M_read [.ref 21, .int (iI p), .int (iI i)] (cC :: cI (iI w) (iI g) :: aI np pf :: aI nl lf :: cF (iI fo) (iI le) (iI to) (iI ri) (iI bo) :: cY (iI co) (iI ro) (iI qu) :: cP (iI (pL le ri co (colN co ro qu p))) (iI (pL to bo ro (rowN co ro qu p))) (iI (pL le ri co (colN co ro qu p + 1))) (iI (pL to bo ro (rowN co ro qu p + 1))) :: cT (iI nt) :: aZ 16 zf :: aI 48 tp :: cN (iI fi) :: aL 3 fa :: aL 3 fb :: aL 3 fd :: cS b1 b2 b3 b4 b5 :: cR (iI rk) (iI sg) :: aC 20 tx :: aC 8 kf :: aC 8 wf :: aI 8 ll :: cS (iI dn) (lI sx) (lI sy) (lI sxx) (lI sxy) :: cM (iI th) (iI w) (iI g) (iI fo) (iI xle) (iI xto) (iI xri) (iI xbo) (iI co) (iI ro) (iI qu) (iI nt) (iI fi) (iI sg) (iI rk) (iI dn) ce su sq :: aI 2700 mp :: aI 900 ml :: aZ 16 mh :: aI 48 mt :: aL 3 ma :: aL 3 mb :: aL 3 md :: aI 20 mx_ :: aI 8 mk :: aI 8 mw :: aI 8 mi :: aI 40 my :: aI 40 mv :: aL 1 (vp_updL out 0 (iI (rdI (ltI pic lig) le to ri bo co ro qu p i)).toInt64) :: rest) (PI 0)
    refine ⟨[cC, cI (iI w) (iI g), aI np pf, aI nl lf, cF (iI fo) (iI le) (iI to) (iI ri) (iI bo), cY (iI co) (iI ro) (iI qu), cP (iI (pL le ri co (colN co ro qu p))) (iI (pL to bo ro (rowN co ro qu p))) (iI (pL le ri co (colN co ro qu p + 1))) (iI (pL to bo ro (rowN co ro qu p + 1))), cT (iI nt), aZ 16 zf, aI 48 tp, cN (iI fi), aL 3 fa, aL 3 fb, aL 3 fd, cS b1 b2 b3 b4 b5, cR (iI rk) (iI sg), aC 20 tx, aC 8 kf, aC 8 wf, aI 8 ll, cS (iI dn) (lI sx) (lI sy) (lI sxx) (lI sxy)], _, _, _, _, _, _, _, _, _, _, _, _, _, _, _, _, _, _, _, _, _, _, _, _, _, _, _, _, rfl, rfl, rfl, h_p, h_i, hfo, hP.2, hL, hfm, ?_, ?_, ?_⟩
    · intro q1
      exfalso; omega
    · intro q1 q2
      exfalso; omega
    · intro q1 q2 u1 u2 u3
      refine ⟨_, rfl, ⟨_, _, _, _, _, _, _, _, _, _, _, _, _, _, _, _, _, _, _, _, _, _, _, _, _, _, _, _, _, _, _, _, _, _, _, _, _, _, _, _, _, _, _, _, _, _, _, _, _, _, _, _, _, _, _, _, _, _, _, _, _, _, _, _, _, _, _, _, _, _, _, _, _, _, _, _, rfl, hP, hF, hL, hT, hN, hR, hD⟩, fun _ => ⟨_, rfl, outz.trans ?_⟩⟩
      obtain ⟨_, e1, e2, e3, e4⟩ := hF.2 hd
      rw [e1, e2, e3, e4]
set_option maxHeartbeats 4000000 in
set_option maxRecDepth 100000 in
theorem st_noise {th : Int} {h : ah_H} {sa : Nat → Nat} (hI : InvT th h) (p i : Int) (h_p : inI p) (h_i : inI i) : G_L_noise (fun _ => G_C_noise) sa [.ref 0, .int (iI p), .int (iI i), .ref 35] h (fun r_ h' => ∃ k : Int, r_ = .inl (some (.int (iI k))) ∧ (∃ fs, h'[21]? = some (.inr (9, fs))) ∧ G_M_noise [.ref 21, .int (iI p), .int (iI i)] h' (PJ k)) := by
  refine inv_el (P := fun h => G_L_noise (fun _ => G_C_noise) sa [.ref 0, .int (iI p), .int (iI i), .ref 35] h (fun r_ h' => ∃ k : Int, r_ = .inl (some (.int (iI k))) ∧ (∃ fs, h'[21]? = some (.inr (9, fs))) ∧ G_M_noise [.ref 21, .int (iI p), .int (iI i)] h' (PJ k))) hI ?_
  intro w g np nl pf lf fo le to ri bo co ro qu a1 a2 a3 a4 nt zf tp fi fa fb fd b1 b2 b3 b4 b5 rk sg tx kf wf ll dn sx sy sxx sxy xle xto xri xbo ce su sq mp ml mh mt ma mb md mx_ mk mw mi my mv out rest pic lig has tg A B D T kd wy lm X Y hP hF hL hT hN hR hD
  have hw := hP.1.1
  have hfo := hF.1
  have hfr : fo = 1 → frOk le to ri bo w g := fun q => (hF.2 q).1
  have hfm : fo = 1 → frOk xle xto xri xbo w g := fun q => by
    obtain ⟨a, b, c, d, e⟩ := hF.2 q
    rw [b, c, d, e]; exact a
  have hL' := hL
  unfold lyOk at hL'
  have mq := mbd (A := 4) (B := 4) (a := co) (b := ro) (by omega) (by omega)
  have i_p := h_p
  unfold inI at i_p
  have i_i := h_i
  unfold inI at i_i
  refine ⟨iI p, iI i, _, rfl, rfl, ?_⟩
  refine ⟨_, _, _, _, _, _, _, _, _, _, _, _, _, _, _, _, _, _, _, _, _, _, _, rfl, rfl, h_p, h_i, hfo, hP.1, hL, hfr, fun hc => ?_, fun hc hd => ?_, fun hc hd => ?_⟩
  · skip
    refine ⟨0, 10, rfl, at_end _ _, 1, by rw [nI1], ⟨_, rfl⟩, ?_⟩
    show G_M_noise [.ref 21, .int (iI p), .int (iI i)] (cC :: cI (iI w) (iI g) :: aI np pf :: aI nl lf :: cF (iI fo) (iI le) (iI to) (iI ri) (iI bo) :: cY (iI co) (iI ro) (iI qu) :: cP a1 a2 a3 a4 :: cT (iI nt) :: aZ 16 zf :: aI 48 tp :: cN (iI fi) :: aL 3 fa :: aL 3 fb :: aL 3 fd :: cS b1 b2 b3 b4 b5 :: cR (iI rk) (iI sg) :: aC 20 tx :: aC 8 kf :: aC 8 wf :: aI 8 ll :: cS (iI dn) (lI sx) (lI sy) (lI sxx) (lI sxy) :: cM (iI th) (iI w) (iI g) (iI fo) (iI xle) (iI xto) (iI xri) (iI xbo) (iI co) (iI ro) (iI qu) (iI nt) (iI fi) (iI sg) (iI rk) (iI dn) ce su sq :: aI 2700 mp :: aI 900 ml :: aZ 16 mh :: aI 48 mt :: aL 3 ma :: aL 3 mb :: aL 3 md :: aI 20 mx_ :: aI 8 mk :: aI 8 mw :: aI 8 mi :: aI 40 my :: aI 40 mv :: aL 1 out :: (rest ++ [xB])) (PJ 1)
    refine ⟨[cC, cI (iI w) (iI g), aI np pf, aI nl lf, cF (iI fo) (iI le) (iI to) (iI ri) (iI bo), cY (iI co) (iI ro) (iI qu), cP a1 a2 a3 a4, cT (iI nt), aZ 16 zf, aI 48 tp, cN (iI fi), aL 3 fa, aL 3 fb, aL 3 fd, cS b1 b2 b3 b4 b5, cR (iI rk) (iI sg), aC 20 tx, aC 8 kf, aC 8 wf, aI 8 ll, cS (iI dn) (lI sx) (lI sy) (lI sxx) (lI sxy)], _, _, _, _, _, _, _, _, _, _, _, _, _, _, _, _, _, _, _, _, _, _, _, _, _, _, _, _, rfl, rfl, rfl, h_p, h_i, hfo, hP.2, hL, hfm, ?_, ?_, ?_⟩
    · intro q1
      exact ⟨_, rfl, ⟨_, _, _, _, _, _, _, _, _, _, _, _, _, _, _, _, _, _, _, _, _, _, _, _, _, _, _, _, _, _, _, _, _, _, _, _, _, _, _, _, _, _, _, _, _, _, _, _, _, _, _, _, _, _, _, _, _, _, _, _, _, _, _, _, _, _, _, _, _, _, _, _, _, _, _, _, rfl, hP, hF, hL, hT, hN, hR, hD⟩, fun q => absurd q (by decide)⟩
    · intro q1 q2
      exfalso; omega
    · intro q1 q2 u1 u2 u3
      exfalso; omega
  · skip
    refine ⟨1, 12, rfl, at_end _ _, 2, by rw [nI2], ⟨_, rfl⟩, ?_⟩
    show G_M_noise [.ref 21, .int (iI p), .int (iI i)] (cC :: cI (iI w) (iI g) :: aI np pf :: aI nl lf :: cF (iI fo) (iI le) (iI to) (iI ri) (iI bo) :: cY (iI co) (iI ro) (iI qu) :: cP a1 a2 a3 a4 :: cT (iI nt) :: aZ 16 zf :: aI 48 tp :: cN (iI fi) :: aL 3 fa :: aL 3 fb :: aL 3 fd :: cS b1 b2 b3 b4 b5 :: cR (iI rk) (iI sg) :: aC 20 tx :: aC 8 kf :: aC 8 wf :: aI 8 ll :: cS (iI dn) (lI sx) (lI sy) (lI sxx) (lI sxy) :: cM (iI th) (iI w) (iI g) (iI fo) (iI xle) (iI xto) (iI xri) (iI xbo) (iI co) (iI ro) (iI qu) (iI nt) (iI fi) (iI sg) (iI rk) (iI dn) ce su sq :: aI 2700 mp :: aI 900 ml :: aZ 16 mh :: aI 48 mt :: aL 3 ma :: aL 3 mb :: aL 3 md :: aI 20 mx_ :: aI 8 mk :: aI 8 mw :: aI 8 mi :: aI 40 my :: aI 40 mv :: aL 1 out :: (rest ++ [xS])) (PJ 2)
    refine ⟨[cC, cI (iI w) (iI g), aI np pf, aI nl lf, cF (iI fo) (iI le) (iI to) (iI ri) (iI bo), cY (iI co) (iI ro) (iI qu), cP a1 a2 a3 a4, cT (iI nt), aZ 16 zf, aI 48 tp, cN (iI fi), aL 3 fa, aL 3 fb, aL 3 fd, cS b1 b2 b3 b4 b5, cR (iI rk) (iI sg), aC 20 tx, aC 8 kf, aC 8 wf, aI 8 ll, cS (iI dn) (lI sx) (lI sy) (lI sxx) (lI sxy)], _, _, _, _, _, _, _, _, _, _, _, _, _, _, _, _, _, _, _, _, _, _, _, _, _, _, _, _, rfl, rfl, rfl, h_p, h_i, hfo, hP.2, hL, hfm, ?_, ?_, ?_⟩
    · intro q1
      exfalso; omega
    · intro q1 q2
      exact ⟨_, rfl, ⟨_, _, _, _, _, _, _, _, _, _, _, _, _, _, _, _, _, _, _, _, _, _, _, _, _, _, _, _, _, _, _, _, _, _, _, _, _, _, _, _, _, _, _, _, _, _, _, _, _, _, _, _, _, _, _, _, _, _, _, _, _, _, _, _, _, _, _, _, _, _, _, _, _, _, _, _, rfl, hP, hF, hL, hT, hN, hR, hD⟩, fun q => absurd q (by decide)⟩
    · intro q1 q2 u1 u2 u3
      exfalso; omega
  · refine ⟨_, out, rfl, rfl, 0, rfl, ⟨_, rfl⟩, ?_⟩
    show G_M_noise [.ref 21, .int (iI p), .int (iI i)] (cC :: cI (iI w) (iI g) :: aI np pf :: aI nl lf :: cF (iI fo) (iI le) (iI to) (iI ri) (iI bo) :: cY (iI co) (iI ro) (iI qu) :: cP (iI (pL le ri co (colN co ro qu p))) (iI (pL to bo ro (rowN co ro qu p))) (iI (pL le ri co (colN co ro qu p + 1))) (iI (pL to bo ro (rowN co ro qu p + 1))) :: cT (iI nt) :: aZ 16 zf :: aI 48 tp :: cN (iI fi) :: aL 3 fa :: aL 3 fb :: aL 3 fd :: cS b1 b2 b3 b4 b5 :: cR (iI rk) (iI sg) :: aC 20 tx :: aC 8 kf :: aC 8 wf :: aI 8 ll :: cS (iI dn) (lI sx) (lI sy) (lI sxx) (lI sxy) :: cM (iI th) (iI w) (iI g) (iI fo) (iI xle) (iI xto) (iI xri) (iI xbo) (iI co) (iI ro) (iI qu) (iI nt) (iI fi) (iI sg) (iI rk) (iI dn) ce su sq :: aI 2700 mp :: aI 900 ml :: aZ 16 mh :: aI 48 mt :: aL 3 ma :: aL 3 mb :: aL 3 md :: aI 20 mx_ :: aI 8 mk :: aI 8 mw :: aI 8 mi :: aI 40 my :: aI 40 mv :: aL 1 (vp_updL out 0 (lI (lessI (spI (ltI pic lig) le to ri bo co ro qu p) (rcN le to ri bo co ro qu p * rcN le to ri bo co ro qu p) i))) :: rest) (PJ 0)
    refine ⟨[cC, cI (iI w) (iI g), aI np pf, aI nl lf, cF (iI fo) (iI le) (iI to) (iI ri) (iI bo), cY (iI co) (iI ro) (iI qu), cP (iI (pL le ri co (colN co ro qu p))) (iI (pL to bo ro (rowN co ro qu p))) (iI (pL le ri co (colN co ro qu p + 1))) (iI (pL to bo ro (rowN co ro qu p + 1))), cT (iI nt), aZ 16 zf, aI 48 tp, cN (iI fi), aL 3 fa, aL 3 fb, aL 3 fd, cS b1 b2 b3 b4 b5, cR (iI rk) (iI sg), aC 20 tx, aC 8 kf, aC 8 wf, aI 8 ll, cS (iI dn) (lI sx) (lI sy) (lI sxx) (lI sxy)], _, _, _, _, _, _, _, _, _, _, _, _, _, _, _, _, _, _, _, _, _, _, _, _, _, _, _, _, rfl, rfl, rfl, h_p, h_i, hfo, hP.2, hL, hfm, ?_, ?_, ?_⟩
    · intro q1
      exfalso; omega
    · intro q1 q2
      exfalso; omega
    · intro q1 q2 u1 u2 u3
      refine ⟨_, rfl, ⟨_, _, _, _, _, _, _, _, _, _, _, _, _, _, _, _, _, _, _, _, _, _, _, _, _, _, _, _, _, _, _, _, _, _, _, _, _, _, _, _, _, _, _, _, _, _, _, _, _, _, _, _, _, _, _, _, _, _, _, _, _, _, _, _, _, _, _, _, _, _, _, _, _, _, _, _, rfl, hP, hF, hL, hT, hN, hR, hD⟩, fun _ => ⟨_, rfl, outz.trans ?_⟩⟩
      obtain ⟨_, e1, e2, e3, e4⟩ := hF.2 hd
      rw [e1, e2, e3, e4]
set_option maxHeartbeats 4000000 in
set_option maxRecDepth 100000 in
theorem st_target {th : Int} {h : ah_H} {sa : Nat → Nat} (hI : InvT th h) (x r gg b : Int) (h_x : inI x) (h_r : inI r) (h_gg : inI gg) (h_b : inI b) : G_L_target (fun _ => G_C_target) sa [.ref 0, .int (iI x), .int (iI r), .int (iI gg), .int (iI b)] h (fun r_ h' => ∃ k : Int, r_ = .inl (some (.int (iI k))) ∧ (∃ fs, h'[21]? = some (.inr (9, fs))) ∧ G_M_target [.ref 21, .int (iI x), .int (iI r), .int (iI gg), .int (iI b)] h' (PV k)) := by
  refine inv_el (P := fun h => G_L_target (fun _ => G_C_target) sa [.ref 0, .int (iI x), .int (iI r), .int (iI gg), .int (iI b)] h (fun r_ h' => ∃ k : Int, r_ = .inl (some (.int (iI k))) ∧ (∃ fs, h'[21]? = some (.inr (9, fs))) ∧ G_M_target [.ref 21, .int (iI x), .int (iI r), .int (iI gg), .int (iI b)] h' (PV k))) hI ?_
  intro w g np nl pf lf fo le to ri bo co ro qu a1 a2 a3 a4 nt zf tp fi fa fb fd b1 b2 b3 b4 b5 rk sg tx kf wf ll dn sx sy sxx sxy xle xto xri xbo ce su sq mp ml mh mt ma mb md mx_ mk mw mi my mv out rest pic lig has tg A B D T kd wy lm X Y hP hF hL hT hN hR hD
  have hw := hP.1.1
  have hfo := hF.1
  have hfr : fo = 1 → frOk le to ri bo w g := fun q => (hF.2 q).1
  have hfm : fo = 1 → frOk xle xto xri xbo w g := fun q => by
    obtain ⟨a, b, c, d, e⟩ := hF.2 q
    rw [b, c, d, e]; exact a
  have hL' := hL
  unfold lyOk at hL'
  have mq := mbd (A := 4) (B := 4) (a := co) (b := ro) (by omega) (by omega)
  have i_x := h_x
  unfold inI at i_x
  have i_r := h_r
  unfold inI at i_r
  have i_gg := h_gg
  unfold inI at i_gg
  have i_b := h_b
  unfold inI at i_b
  refine ⟨iI x, iI r, iI gg, iI b, _, rfl, rfl, ?_⟩
  have hT1 := hT.1
  have nt0 := hT1.2.2.2.2.1
  have nt1 := hT1.2.2.2.2.2
  refine ⟨_, _, _, _, _, _, _, _, _, _, _, _, _, _, _, _, rfl, rfl, fun hc => ?_, fun hc hd => ?_, fun hc hd he => ?_, fun hc hd he => ?_⟩
  · simp only [iI_toInt h_x, iI_toInt h_r, iI_toInt h_gg, iI_toInt h_b] at hc
    refine ⟨0, 10, rfl, at_end _ _, 1, by rw [nI1], ⟨_, rfl⟩, ?_⟩
    show G_M_target [.ref 21, .int (iI x), .int (iI r), .int (iI gg), .int (iI b)] (cC :: cI (iI w) (iI g) :: aI np pf :: aI nl lf :: cF (iI fo) (iI le) (iI to) (iI ri) (iI bo) :: cY (iI co) (iI ro) (iI qu) :: cP a1 a2 a3 a4 :: cT (iI nt) :: aZ 16 zf :: aI 48 tp :: cN (iI fi) :: aL 3 fa :: aL 3 fb :: aL 3 fd :: cS b1 b2 b3 b4 b5 :: cR (iI rk) (iI sg) :: aC 20 tx :: aC 8 kf :: aC 8 wf :: aI 8 ll :: cS (iI dn) (lI sx) (lI sy) (lI sxx) (lI sxy) :: cM (iI th) (iI w) (iI g) (iI fo) (iI xle) (iI xto) (iI xri) (iI xbo) (iI co) (iI ro) (iI qu) (iI nt) (iI fi) (iI sg) (iI rk) (iI dn) ce su sq :: aI 2700 mp :: aI 900 ml :: aZ 16 mh :: aI 48 mt :: aL 3 ma :: aL 3 mb :: aL 3 md :: aI 20 mx_ :: aI 8 mk :: aI 8 mw :: aI 8 mi :: aI 40 my :: aI 40 mv :: aL 1 out :: (rest ++ [xB])) (PV 1)
    refine ⟨_, _, [cC, cI (iI w) (iI g), aI np pf, aI nl lf, cF (iI fo) (iI le) (iI to) (iI ri) (iI bo), cY (iI co) (iI ro) (iI qu), cP a1 a2 a3 a4, cT (iI nt), aZ 16 zf, aI 48 tp, cN (iI fi), aL 3 fa, aL 3 fb, aL 3 fd, cS b1 b2 b3 b4 b5, cR (iI rk) (iI sg), aC 20 tx, aC 8 kf, aC 8 wf, aI 8 ll, cS (iI dn) (lI sx) (lI sy) (lI sxx) (lI sxy)], _, _, _, _, _, _, _, _, _, _, _, _, _, _, _, _, _, _, _, _, _, _, _, _, _, _, rfl, rfl, rfl, h_x, h_r, h_gg, h_b, ⟨hT1.2.2.2.2.1, hT1.2.2.2.2.2⟩, ?_, ?_, ?_, ?_, ?_⟩
    · intro q1
      exact ⟨rfl, ⟨_, _, _, _, _, _, _, _, _, _, _, _, _, _, _, _, _, _, _, _, _, _, _, _, _, _, _, _, _, _, _, _, _, _, _, _, _, _, _, _, _, _, _, _, _, _, _, _, _, _, _, _, _, _, _, _, _, _, _, _, _, _, _, _, _, _, _, _, _, _, _, _, _, _, _, _, rfl, hP, hF, hL, hT, hN, hR, hD⟩⟩
    · intro q1 q2
      exfalso; omega
    · intro q1 q2 q3
      exfalso; omega
    · intro q1 q2 q3
      exfalso; omega
    · intro q1 q2 q3
      exfalso; omega
  · simp only [iI_toInt h_x, iI_toInt h_r, iI_toInt h_gg, iI_toInt h_b] at hc hd
    refine ⟨iI_vin (by omega) (by omega) (by omega), fun he => ?_, fun he => ?_⟩
    · rw [iI_eq ⟨by omega, by omega⟩ h_x] at he
      rw [iI_nat (by omega) (by omega)]
      refine ⟨rfl, 0, rfl, ⟨_, rfl⟩, ?_⟩
      show G_M_target [.ref 21, .int (iI x), .int (iI r), .int (iI gg), .int (iI b)] (cC :: cI (iI w) (iI g) :: aI np pf :: aI nl lf :: cF (iI fo) (iI le) (iI to) (iI ri) (iI bo) :: cY (iI co) (iI ro) (iI qu) :: cP a1 a2 a3 a4 :: cT (iI nt) :: aZ 16 (upd zf x.toNat (vp_nar .boolean 0)) :: aI 48 tp :: cN (iI fi) :: aL 3 fa :: aL 3 fb :: aL 3 fd :: cS b1 b2 b3 b4 b5 :: cR (iI rk) (iI sg) :: aC 20 tx :: aC 8 kf :: aC 8 wf :: aI 8 ll :: cS (iI dn) (lI sx) (lI sy) (lI sxx) (lI sxy) :: cM (iI th) (iI w) (iI g) (iI fo) (iI xle) (iI xto) (iI xri) (iI xbo) (iI co) (iI ro) (iI qu) (iI nt) (iI fi) (iI sg) (iI rk) (iI dn) ce su sq :: aI 2700 mp :: aI 900 ml :: aZ 16 mh :: aI 48 mt :: aL 3 ma :: aL 3 mb :: aL 3 md :: aI 20 mx_ :: aI 8 mk :: aI 8 mw :: aI 8 mi :: aI 40 my :: aI 40 mv :: aL 1 out :: rest) (PV 0)
      refine ⟨_, _, [cC, cI (iI w) (iI g), aI np pf, aI nl lf, cF (iI fo) (iI le) (iI to) (iI ri) (iI bo), cY (iI co) (iI ro) (iI qu), cP a1 a2 a3 a4, cT (iI nt), aZ 16 (upd zf x.toNat (vp_nar .boolean 0)), aI 48 tp, cN (iI fi), aL 3 fa, aL 3 fb, aL 3 fd, cS b1 b2 b3 b4 b5, cR (iI rk) (iI sg), aC 20 tx, aC 8 kf, aC 8 wf, aI 8 ll, cS (iI dn) (lI sx) (lI sy) (lI sxx) (lI sxy)], _, _, _, _, _, _, _, _, _, _, _, _, _, _, _, _, _, _, _, _, _, _, _, _, _, _, rfl, rfl, rfl, h_x, h_r, h_gg, h_b, ⟨hT1.2.2.2.2.1, hT1.2.2.2.2.2⟩, ?_, ?_, ?_, ?_, ?_⟩
      · intro q1
        exfalso; omega
      · intro q1 q2
        exfalso; omega
      · intro q1 q2 q3
        exfalso; omega
      · intro q1 q2 q3
        exact ⟨rfl, ⟨_, _, _, _, _, _, _, _, _, _, _, _, _, _, _, _, _, _, _, _, _, _, _, _, _, _, _, _, _, _, _, _, _, _, _, _, _, _, _, _, _, _, _, _, _, _, _, _, _, _, _, _, _, _, _, _, _, _, _, _, _, _, _, _, _, _, _, _, _, _, _, _, _, _, _, _, rfl, hP, hF, hL, ⟨⟨z_set hT1.1 (by omega) (by decide), t_drop hT1.2.1, tb_drop hT1.2.2.1, fun q => (by unfold hset; rw [if_neg he]; exact hT1.2.2.2.1 q), nt0, nt1⟩, z_set hT.2.1 (by omega) (by decide), t_dropM hT.2.2 (by omega)⟩, hN, hR, hD⟩⟩
      · intro q1 q2 q3
        exfalso; omega
    · rw [iI_eq ⟨by omega, by omega⟩ h_x] at he
      rw [iI_nat (by omega) (by omega), m1I]
      refine ⟨rfl, 0, rfl, ⟨_, rfl⟩, ?_⟩
      show G_M_target [.ref 21, .int (iI x), .int (iI r), .int (iI gg), .int (iI b)] (cC :: cI (iI w) (iI g) :: aI np pf :: aI nl lf :: cF (iI fo) (iI le) (iI to) (iI ri) (iI bo) :: cY (iI co) (iI ro) (iI qu) :: cP a1 a2 a3 a4 :: cT (iI (-1)) :: aZ 16 (upd zf x.toNat (vp_nar .boolean 0)) :: aI 48 tp :: cN (iI fi) :: aL 3 fa :: aL 3 fb :: aL 3 fd :: cS b1 b2 b3 b4 b5 :: cR (iI rk) (iI sg) :: aC 20 tx :: aC 8 kf :: aC 8 wf :: aI 8 ll :: cS (iI dn) (lI sx) (lI sy) (lI sxx) (lI sxy) :: cM (iI th) (iI w) (iI g) (iI fo) (iI xle) (iI xto) (iI xri) (iI xbo) (iI co) (iI ro) (iI qu) (iI nt) (iI fi) (iI sg) (iI rk) (iI dn) ce su sq :: aI 2700 mp :: aI 900 ml :: aZ 16 mh :: aI 48 mt :: aL 3 ma :: aL 3 mb :: aL 3 md :: aI 20 mx_ :: aI 8 mk :: aI 8 mw :: aI 8 mi :: aI 40 my :: aI 40 mv :: aL 1 out :: rest) (PV 0)
      refine ⟨_, _, [cC, cI (iI w) (iI g), aI np pf, aI nl lf, cF (iI fo) (iI le) (iI to) (iI ri) (iI bo), cY (iI co) (iI ro) (iI qu), cP a1 a2 a3 a4, cT (iI (-1)), aZ 16 (upd zf x.toNat (vp_nar .boolean 0)), aI 48 tp, cN (iI fi), aL 3 fa, aL 3 fb, aL 3 fd, cS b1 b2 b3 b4 b5, cR (iI rk) (iI sg), aC 20 tx, aC 8 kf, aC 8 wf, aI 8 ll, cS (iI dn) (lI sx) (lI sy) (lI sxx) (lI sxy)], _, _, _, _, _, _, _, _, _, _, _, _, _, _, _, _, _, _, _, _, _, _, _, _, _, _, rfl, rfl, rfl, h_x, h_r, h_gg, h_b, ⟨hT1.2.2.2.2.1, hT1.2.2.2.2.2⟩, ?_, ?_, ?_, ?_, ?_⟩
      · intro q1
        exfalso; omega
      · intro q1 q2
        exfalso; omega
      · intro q1 q2 q3
        exact ⟨rfl, ⟨_, _, _, _, _, _, _, _, _, _, _, _, _, _, _, _, _, _, _, _, _, _, _, _, _, _, _, _, _, _, _, _, _, _, _, _, _, _, _, _, _, _, _, _, _, _, _, _, _, _, _, _, _, _, _, _, _, _, _, _, _, _, _, _, _, _, _, _, _, _, _, _, _, _, _, _, rfl, hP, hF, hL, ⟨⟨z_set hT1.1 (by omega) (by decide), t_drop hT1.2.1, tb_drop hT1.2.2.1, fun q => absurd q (by omega), (by omega), (by omega)⟩, z_set hT.2.1 (by omega) (by decide), t_dropM hT.2.2 (by omega)⟩, hN, hR, hD⟩⟩
      · intro q1 q2 q3
        exfalso; omega
      · intro q1 q2 q3
        exfalso; omega
  · simp only [iI_toInt h_x, iI_toInt h_r, iI_toInt h_gg, iI_toInt h_b] at hc hd he
    refine ⟨1, 11, rfl, at_end _ _, 2, by rw [nI2], ⟨_, rfl⟩, ?_⟩
    show G_M_target [.ref 21, .int (iI x), .int (iI r), .int (iI gg), .int (iI b)] (cC :: cI (iI w) (iI g) :: aI np pf :: aI nl lf :: cF (iI fo) (iI le) (iI to) (iI ri) (iI bo) :: cY (iI co) (iI ro) (iI qu) :: cP a1 a2 a3 a4 :: cT (iI nt) :: aZ 16 zf :: aI 48 tp :: cN (iI fi) :: aL 3 fa :: aL 3 fb :: aL 3 fd :: cS b1 b2 b3 b4 b5 :: cR (iI rk) (iI sg) :: aC 20 tx :: aC 8 kf :: aC 8 wf :: aI 8 ll :: cS (iI dn) (lI sx) (lI sy) (lI sxx) (lI sxy) :: cM (iI th) (iI w) (iI g) (iI fo) (iI xle) (iI xto) (iI xri) (iI xbo) (iI co) (iI ro) (iI qu) (iI nt) (iI fi) (iI sg) (iI rk) (iI dn) ce su sq :: aI 2700 mp :: aI 900 ml :: aZ 16 mh :: aI 48 mt :: aL 3 ma :: aL 3 mb :: aL 3 md :: aI 20 mx_ :: aI 8 mk :: aI 8 mw :: aI 8 mi :: aI 40 my :: aI 40 mv :: aL 1 out :: (rest ++ [xA])) (PV 2)
    refine ⟨_, _, [cC, cI (iI w) (iI g), aI np pf, aI nl lf, cF (iI fo) (iI le) (iI to) (iI ri) (iI bo), cY (iI co) (iI ro) (iI qu), cP a1 a2 a3 a4, cT (iI nt), aZ 16 zf, aI 48 tp, cN (iI fi), aL 3 fa, aL 3 fb, aL 3 fd, cS b1 b2 b3 b4 b5, cR (iI rk) (iI sg), aC 20 tx, aC 8 kf, aC 8 wf, aI 8 ll, cS (iI dn) (lI sx) (lI sy) (lI sxx) (lI sxy)], _, _, _, _, _, _, _, _, _, _, _, _, _, _, _, _, _, _, _, _, _, _, _, _, _, _, rfl, rfl, rfl, h_x, h_r, h_gg, h_b, ⟨hT1.2.2.2.2.1, hT1.2.2.2.2.2⟩, ?_, ?_, ?_, ?_, ?_⟩
    · intro q1
      exfalso; omega
    · intro q1 q2
      exact ⟨rfl, ⟨_, _, _, _, _, _, _, _, _, _, _, _, _, _, _, _, _, _, _, _, _, _, _, _, _, _, _, _, _, _, _, _, _, _, _, _, _, _, _, _, _, _, _, _, _, _, _, _, _, _, _, _, _, _, _, _, _, _, _, _, _, _, _, _, _, _, _, _, _, _, _, _, _, _, _, _, rfl, hP, hF, hL, hT, hN, hR, hD⟩⟩
    · intro q1 q2 q3
      exfalso; omega
    · intro q1 q2 q3
      exfalso; omega
    · intro q1 q2 q3
      exfalso; omega
  · simp only [iI_toInt h_x, iI_toInt h_r, iI_toInt h_gg, iI_toInt h_b] at hc hd he
    rw [show (3 : Int32) = iI 3 from rfl, show (1 : Int32) = iI 1 from rfl, show (2 : Int32) = iI 2 from rfl, iI_mul, iI_add, iI_add]
    refine ⟨iI_vin (by omega) (by omega) (by omega), iI_vin (by omega) (by omega) (by omega), iI_vin (by omega) (by omega) (by omega), iI_vin (by omega) (by omega) (by omega), ?_⟩
    rw [iI_nat (by omega) (by omega), iI_nat (by omega) (by omega), iI_nat (by omega) (by omega), iI_nat (by omega) (by omega)]
    refine ⟨rfl, 0, rfl, ⟨_, rfl⟩, ?_⟩
    show G_M_target [.ref 21, .int (iI x), .int (iI r), .int (iI gg), .int (iI b)] (cC :: cI (iI w) (iI g) :: aI np pf :: aI nl lf :: cF (iI fo) (iI le) (iI to) (iI ri) (iI bo) :: cY (iI co) (iI ro) (iI qu) :: cP a1 a2 a3 a4 :: cT (iI nt) :: aZ 16 (upd zf x.toNat (vp_nar .boolean (iI 1))) :: aI 48 (upd (upd (upd tp (x * 3).toNat (iI r)) (x * 3 + 1).toNat (iI gg)) (x * 3 + 2).toNat (iI b)) :: cN (iI fi) :: aL 3 fa :: aL 3 fb :: aL 3 fd :: cS b1 b2 b3 b4 b5 :: cR (iI rk) (iI sg) :: aC 20 tx :: aC 8 kf :: aC 8 wf :: aI 8 ll :: cS (iI dn) (lI sx) (lI sy) (lI sxx) (lI sxy) :: cM (iI th) (iI w) (iI g) (iI fo) (iI xle) (iI xto) (iI xri) (iI xbo) (iI co) (iI ro) (iI qu) (iI nt) (iI fi) (iI sg) (iI rk) (iI dn) ce su sq :: aI 2700 mp :: aI 900 ml :: aZ 16 mh :: aI 48 mt :: aL 3 ma :: aL 3 mb :: aL 3 md :: aI 20 mx_ :: aI 8 mk :: aI 8 mw :: aI 8 mi :: aI 40 my :: aI 40 mv :: aL 1 out :: rest) (PV 0)
    refine ⟨_, _, [cC, cI (iI w) (iI g), aI np pf, aI nl lf, cF (iI fo) (iI le) (iI to) (iI ri) (iI bo), cY (iI co) (iI ro) (iI qu), cP a1 a2 a3 a4, cT (iI nt), aZ 16 (upd zf x.toNat (vp_nar .boolean (iI 1))), aI 48 (upd (upd (upd tp (x * 3).toNat (iI r)) (x * 3 + 1).toNat (iI gg)) (x * 3 + 2).toNat (iI b)), cN (iI fi), aL 3 fa, aL 3 fb, aL 3 fd, cS b1 b2 b3 b4 b5, cR (iI rk) (iI sg), aC 20 tx, aC 8 kf, aC 8 wf, aI 8 ll, cS (iI dn) (lI sx) (lI sy) (lI sxx) (lI sxy)], _, _, _, _, _, _, _, _, _, _, _, _, _, _, _, _, _, _, _, _, _, _, _, _, _, _, rfl, rfl, rfl, h_x, h_r, h_gg, h_b, ⟨hT1.2.2.2.2.1, hT1.2.2.2.2.2⟩, ?_, ?_, ?_, ?_, ?_⟩
    · intro q1
      exfalso; omega
    · intro q1 q2
      exfalso; omega
    · intro q1 q2 q3
      exfalso; omega
    · intro q1 q2 q3
      exfalso; omega
    · intro q1 q2 q3
      exact ⟨rfl, ⟨_, _, _, _, _, _, _, _, _, _, _, _, _, _, _, _, _, _, _, _, _, _, _, _, _, _, _, _, _, _, _, _, _, _, _, _, _, _, _, _, _, _, _, _, _, _, _, _, _, _, _, _, _, _, _, _, _, _, _, _, _, _, _, _, _, _, _, _, _, _, _, _, _, _, _, _, rfl, hP, hF, hL, ⟨⟨z_set hT1.1 (by omega) (by decide), tt_set hT1.2.1 (by omega) rfl rfl rfl, tb_set hT1.2.2.1 (by omega) (by omega) (by omega), fun q => (by unfold hset; split <;> first | rfl | exact hT1.2.2.2.1 q), nt0, nt1⟩, z_set hT.2.1 (by omega) (by decide), tt_set hT.2.2 (by omega) (by omega) (by omega) (by omega)⟩, hN, hR, hD⟩⟩
set_option maxHeartbeats 4000000 in
set_option maxRecDepth 100000 in
theorem st_neutral {th : Int} {h : ah_H} {sa : Nat → Nat} (hI : InvT th h) (x : Int) (h_x : inI x) : G_L_neutral (fun _ => G_C_neutral) sa [.ref 0, .int (iI x), .ref 35] h (fun r_ h' => ∃ k : Int, r_ = .inl (some (.int (iI k))) ∧ (∃ fs, h'[21]? = some (.inr (9, fs))) ∧ G_M_neutral [.ref 21, .int (iI x)] h' (PI k)) := by
  refine inv_el (P := fun h => G_L_neutral (fun _ => G_C_neutral) sa [.ref 0, .int (iI x), .ref 35] h (fun r_ h' => ∃ k : Int, r_ = .inl (some (.int (iI k))) ∧ (∃ fs, h'[21]? = some (.inr (9, fs))) ∧ G_M_neutral [.ref 21, .int (iI x)] h' (PI k))) hI ?_
  intro w g np nl pf lf fo le to ri bo co ro qu a1 a2 a3 a4 nt zf tp fi fa fb fd b1 b2 b3 b4 b5 rk sg tx kf wf ll dn sx sy sxx sxy xle xto xri xbo ce su sq mp ml mh mt ma mb md mx_ mk mw mi my mv out rest pic lig has tg A B D T kd wy lm X Y hP hF hL hT hN hR hD
  have hw := hP.1.1
  have hfo := hF.1
  have hfr : fo = 1 → frOk le to ri bo w g := fun q => (hF.2 q).1
  have hfm : fo = 1 → frOk xle xto xri xbo w g := fun q => by
    obtain ⟨a, b, c, d, e⟩ := hF.2 q
    rw [b, c, d, e]; exact a
  have hL' := hL
  unfold lyOk at hL'
  have mq := mbd (A := 4) (B := 4) (a := co) (b := ro) (by omega) (by omega)
  have i_x := h_x
  unfold inI at i_x
  refine ⟨iI x, _, rfl, rfl, ?_⟩
  have hT1 := hT.1
  refine ⟨_, _, _, _, _, _, _, _, _, _, _, _, _, rfl, rfl, fun hc hd => ?_, fun hc hd => ?_, fun hc hd he => ?_, fun hc => ?_⟩
  · simp only [iI_toInt h_x] at hc hd
    refine ⟨0, 10, rfl, at_end _ _, 1, by rw [nI1], ⟨_, rfl⟩, ?_⟩
    show G_M_neutral [.ref 21, .int (iI x)] (cC :: cI (iI w) (iI g) :: aI np pf :: aI nl lf :: cF (iI fo) (iI le) (iI to) (iI ri) (iI bo) :: cY (iI co) (iI ro) (iI qu) :: cP a1 a2 a3 a4 :: cT (iI nt) :: aZ 16 zf :: aI 48 tp :: cN (iI fi) :: aL 3 fa :: aL 3 fb :: aL 3 fd :: cS b1 b2 b3 b4 b5 :: cR (iI rk) (iI sg) :: aC 20 tx :: aC 8 kf :: aC 8 wf :: aI 8 ll :: cS (iI dn) (lI sx) (lI sy) (lI sxx) (lI sxy) :: cM (iI th) (iI w) (iI g) (iI fo) (iI xle) (iI xto) (iI xri) (iI xbo) (iI co) (iI ro) (iI qu) (iI nt) (iI fi) (iI sg) (iI rk) (iI dn) ce su sq :: aI 2700 mp :: aI 900 ml :: aZ 16 mh :: aI 48 mt :: aL 3 ma :: aL 3 mb :: aL 3 md :: aI 20 mx_ :: aI 8 mk :: aI 8 mw :: aI 8 mi :: aI 40 my :: aI 40 mv :: aL 1 out :: (rest ++ [xB])) (PI 1)
    refine ⟨_, _, [cC, cI (iI w) (iI g), aI np pf, aI nl lf, cF (iI fo) (iI le) (iI to) (iI ri) (iI bo), cY (iI co) (iI ro) (iI qu), cP a1 a2 a3 a4, cT (iI nt), aZ 16 zf, aI 48 tp, cN (iI fi), aL 3 fa, aL 3 fb, aL 3 fd, cS b1 b2 b3 b4 b5, cR (iI rk) (iI sg), aC 20 tx, aC 8 kf, aC 8 wf, aI 8 ll, cS (iI dn) (lI sx) (lI sy) (lI sxx) (lI sxy)], _, _, _, _, _, _, _, _, _, _, _, _, _, _, _, _, _, _, _, _, _, _, _, rfl, rfl, rfl, h_x, hT.2.1, ?_, ?_, ?_⟩
    · intro q1
      exact ⟨_, rfl, ⟨_, _, _, _, _, _, _, _, _, _, _, _, _, _, _, _, _, _, _, _, _, _, _, _, _, _, _, _, _, _, _, _, _, _, _, _, _, _, _, _, _, _, _, _, _, _, _, _, _, _, _, _, _, _, _, _, _, _, _, _, _, _, _, _, _, _, _, _, _, _, _, _, _, _, _, _, rfl, hP, hF, hL, hT, hN, hR, hD⟩, fun q => absurd q (by decide)⟩
    · intro q1 q2
      exfalso; omega
    · intro q1
      exfalso; rcases q1 with q1 | q1 <;> omega
  · simp only [iI_toInt h_x] at hc hd
    exact iI_vin (by omega) (by omega) (by omega)
  · simp only [iI_toInt h_x] at hc hd
    have hz := hT1.1 x (by omega) (by omega)
    rw [iI_nat (by omega) (by omega), hz] at he
    have he := has0 he
    refine ⟨1, 12, rfl, at_end _ _, 2, by rw [nI2], ⟨_, rfl⟩, ?_⟩
    show G_M_neutral [.ref 21, .int (iI x)] (cC :: cI (iI w) (iI g) :: aI np pf :: aI nl lf :: cF (iI fo) (iI le) (iI to) (iI ri) (iI bo) :: cY (iI co) (iI ro) (iI qu) :: cP a1 a2 a3 a4 :: cT (iI nt) :: aZ 16 zf :: aI 48 tp :: cN (iI fi) :: aL 3 fa :: aL 3 fb :: aL 3 fd :: cS b1 b2 b3 b4 b5 :: cR (iI rk) (iI sg) :: aC 20 tx :: aC 8 kf :: aC 8 wf :: aI 8 ll :: cS (iI dn) (lI sx) (lI sy) (lI sxx) (lI sxy) :: cM (iI th) (iI w) (iI g) (iI fo) (iI xle) (iI xto) (iI xri) (iI xbo) (iI co) (iI ro) (iI qu) (iI nt) (iI fi) (iI sg) (iI rk) (iI dn) ce su sq :: aI 2700 mp :: aI 900 ml :: aZ 16 mh :: aI 48 mt :: aL 3 ma :: aL 3 mb :: aL 3 md :: aI 20 mx_ :: aI 8 mk :: aI 8 mw :: aI 8 mi :: aI 40 my :: aI 40 mv :: aL 1 out :: (rest ++ [xS])) (PI 2)
    refine ⟨_, _, [cC, cI (iI w) (iI g), aI np pf, aI nl lf, cF (iI fo) (iI le) (iI to) (iI ri) (iI bo), cY (iI co) (iI ro) (iI qu), cP a1 a2 a3 a4, cT (iI nt), aZ 16 zf, aI 48 tp, cN (iI fi), aL 3 fa, aL 3 fb, aL 3 fd, cS b1 b2 b3 b4 b5, cR (iI rk) (iI sg), aC 20 tx, aC 8 kf, aC 8 wf, aI 8 ll, cS (iI dn) (lI sx) (lI sy) (lI sxx) (lI sxy)], _, _, _, _, _, _, _, _, _, _, _, _, _, _, _, _, _, _, _, _, _, _, _, rfl, rfl, rfl, h_x, hT.2.1, ?_, ?_, ?_⟩
    · intro q1
      exfalso; omega
    · intro q1 q2
      exact ⟨_, rfl, ⟨_, _, _, _, _, _, _, _, _, _, _, _, _, _, _, _, _, _, _, _, _, _, _, _, _, _, _, _, _, _, _, _, _, _, _, _, _, _, _, _, _, _, _, _, _, _, _, _, _, _, _, _, _, _, _, _, _, _, _, _, _, _, _, _, _, _, _, _, _, _, _, _, _, _, _, _, rfl, hP, hF, hL, hT, hN, hR, hD⟩, fun q => absurd q (by decide)⟩
    · intro q1
      exfalso
      rcases q1 with q1 | ⟨_, _, q1⟩
      · omega
      · rw [he] at q1; cases q1
  · have hx : x = -1 ∨ (0 ≤ x ∧ x ≤ 15 ∧ has x = true) := by
      rcases hc with hc | ⟨h1, h2, h3⟩
      · simp only [iI_toInt h_x] at hc
        exact Or.inl hc
      · simp only [iI_toInt h_x] at h1 h2
        have hz := hT1.1 x (by omega) (by omega)
        rw [iI_nat (by omega) (by omega), hz] at h3
        exact Or.inr ⟨h1, h2, has1 h3⟩
    have hb : -1 ≤ x ∧ x ≤ 15 := by rcases hx with hx | hx <;> omega
    refine ⟨_, out, rfl, rfl, 0, rfl, ⟨_, rfl⟩, ?_⟩
    show G_M_neutral [.ref 21, .int (iI x)] (cC :: cI (iI w) (iI g) :: aI np pf :: aI nl lf :: cF (iI fo) (iI le) (iI to) (iI ri) (iI bo) :: cY (iI co) (iI ro) (iI qu) :: cP a1 a2 a3 a4 :: cT (iI x) :: aZ 16 zf :: aI 48 tp :: cN (iI fi) :: aL 3 fa :: aL 3 fb :: aL 3 fd :: cS b1 b2 b3 b4 b5 :: cR (iI rk) (iI sg) :: aC 20 tx :: aC 8 kf :: aC 8 wf :: aI 8 ll :: cS (iI dn) (lI sx) (lI sy) (lI sxx) (lI sxy) :: cM (iI th) (iI w) (iI g) (iI fo) (iI xle) (iI xto) (iI xri) (iI xbo) (iI co) (iI ro) (iI qu) (iI nt) (iI fi) (iI sg) (iI rk) (iI dn) ce su sq :: aI 2700 mp :: aI 900 ml :: aZ 16 mh :: aI 48 mt :: aL 3 ma :: aL 3 mb :: aL 3 md :: aI 20 mx_ :: aI 8 mk :: aI 8 mw :: aI 8 mi :: aI 40 my :: aI 40 mv :: aL 1 (vp_updL out 0 (iI nt).toInt64) :: rest) (PI 0)
    refine ⟨_, _, [cC, cI (iI w) (iI g), aI np pf, aI nl lf, cF (iI fo) (iI le) (iI to) (iI ri) (iI bo), cY (iI co) (iI ro) (iI qu), cP a1 a2 a3 a4, cT (iI x), aZ 16 zf, aI 48 tp, cN (iI fi), aL 3 fa, aL 3 fb, aL 3 fd, cS b1 b2 b3 b4 b5, cR (iI rk) (iI sg), aC 20 tx, aC 8 kf, aC 8 wf, aI 8 ll, cS (iI dn) (lI sx) (lI sy) (lI sxx) (lI sxy)], _, _, _, _, _, _, _, _, _, _, _, _, _, _, _, _, _, _, _, _, _, _, _, rfl, rfl, rfl, h_x, hT.2.1, ?_, ?_, ?_⟩
    · intro q1
      exfalso; omega
    · intro q1 q2
      exfalso
      rcases hx with hx | ⟨_, _, hx⟩
      · omega
      · rw [hx] at q2; cases q2
    · intro q1
      refine ⟨_, rfl, ⟨_, _, _, _, _, _, _, _, _, _, _, _, _, _, _, _, _, _, _, _, _, _, _, _, _, _, _, _, _, _, _, _, _, _, _, _, _, _, _, _, _, _, _, _, _, _, _, _, _, _, _, _, _, _, _, _, _, _, _, _, _, _, _, _, _, _, _, _, _, _, _, _, _, _, _, _, rfl, hP, hF, hL, ⟨⟨hT1.1, hT1.2.1, hT1.2.2.1, fun q => (by rcases hx with hx | hx; exact absurd q (by omega); exact hx.2.2), by omega, by omega⟩, hT.2⟩, hN, hR, hD⟩, fun _ => ⟨_, rfl, outz.trans ?_⟩⟩
      rfl
set_option maxHeartbeats 4000000 in
set_option maxRecDepth 100000 in
theorem st_fit {th : Int} {h : ah_H} {sa : Nat → Nat} (hI : InvT th h) : G_L_fit (fun _ => G_C_fit) sa [.ref 0, .ref 35] h (fun r_ h' => ∃ k : Int, r_ = .inl (some (.int (iI k))) ∧ (∃ fs, h'[21]? = some (.inr (9, fs))) ∧ G_M_fit [.ref 21] h' (PI k)) := by
  refine inv_el (P := fun h => G_L_fit (fun _ => G_C_fit) sa [.ref 0, .ref 35] h (fun r_ h' => ∃ k : Int, r_ = .inl (some (.int (iI k))) ∧ (∃ fs, h'[21]? = some (.inr (9, fs))) ∧ G_M_fit [.ref 21] h' (PI k))) hI ?_
  intro w g np nl pf lf fo le to ri bo co ro qu a1 a2 a3 a4 nt zf tp fi fa fb fd b1 b2 b3 b4 b5 rk sg tx kf wf ll dn sx sy sxx sxy xle xto xri xbo ce su sq mp ml mh mt ma mb md mx_ mk mw mi my mv out rest pic lig has tg A B D T kd wy lm X Y hP hF hL hT hN hR hD
  have hw := hP.1.1
  have hfo := hF.1
  have hfr : fo = 1 → frOk le to ri bo w g := fun q => (hF.2 q).1
  have hfm : fo = 1 → frOk xle xto xri xbo w g := fun q => by
    obtain ⟨a, b, c, d, e⟩ := hF.2 q
    rw [b, c, d, e]; exact a
  have hL' := hL
  unfold lyOk at hL'
  have mq := mbd (A := 4) (B := 4) (a := co) (b := ro) (by omega) (by omega)
  refine ⟨_, rfl, rfl, ?_⟩
  have hT1 := hT.1
  have hfi := hN.1
  refine ⟨_, _, _, _, _, _, _, _, _, _, _, _, _, _, _, _, _, _, _, _, _, _, _, _, _, _, _, _, _, _, _, _, _, _, _, rfl, rfl, hfo, hP.1, hL, hfr, hT1.1, hT1.2.1, hT1.2.2.1, hT1.2.2.2.1, hT1.2.2.2.2.1, hT1.2.2.2.2.2, fun hc => ?_, fun hc hd => ?_, fun hc hd a1 a2 a3 a4 b1 b2 b3 b4 b5 fa fb fd hq => ?_⟩
  · skip
    refine ⟨0, 12, rfl, at_end _ _, 1, by rw [nI1], ⟨_, rfl⟩, ?_⟩
    show G_M_fit [.ref 21] (cC :: cI (iI w) (iI g) :: aI np pf :: aI nl lf :: cF (iI fo) (iI le) (iI to) (iI ri) (iI bo) :: cY (iI co) (iI ro) (iI qu) :: cP a1 a2 a3 a4 :: cT (iI nt) :: aZ 16 zf :: aI 48 tp :: cN (iI fi) :: aL 3 fa :: aL 3 fb :: aL 3 fd :: cS b1 b2 b3 b4 b5 :: cR (iI rk) (iI sg) :: aC 20 tx :: aC 8 kf :: aC 8 wf :: aI 8 ll :: cS (iI dn) (lI sx) (lI sy) (lI sxx) (lI sxy) :: cM (iI th) (iI w) (iI g) (iI fo) (iI xle) (iI xto) (iI xri) (iI xbo) (iI co) (iI ro) (iI qu) (iI nt) (iI fi) (iI sg) (iI rk) (iI dn) ce su sq :: aI 2700 mp :: aI 900 ml :: aZ 16 mh :: aI 48 mt :: aL 3 ma :: aL 3 mb :: aL 3 md :: aI 20 mx_ :: aI 8 mk :: aI 8 mw :: aI 8 mi :: aI 40 my :: aI 40 mv :: aL 1 out :: (rest ++ [xS])) (PI 1)
    refine ⟨[cC, cI (iI w) (iI g), aI np pf, aI nl lf, cF (iI fo) (iI le) (iI to) (iI ri) (iI bo), cY (iI co) (iI ro) (iI qu), cP a1 a2 a3 a4, cT (iI nt), aZ 16 zf, aI 48 tp, cN (iI fi), aL 3 fa, aL 3 fb, aL 3 fd, cS b1 b2 b3 b4 b5, cR (iI rk) (iI sg), aC 20 tx, aC 8 kf, aC 8 wf, aI 8 ll, cS (iI dn) (lI sx) (lI sy) (lI sxx) (lI sxy)], _, _, _, _, _, _, _, _, _, _, _, _, _, _, _, _, _, _, _, _, _, _, _, _, _, _, _, _, _, _, _, _, _, rfl, rfl, rfl, hfo, hfi, hP.2, hL, hfm, ⟨hT.2.1, hT.2.2, hT1.2.2.1, hT1.2.2.2.1, hT1.2.2.2.2.1, hT1.2.2.2.2.2⟩, ?_, ?_, ?_⟩
    · intro q1
      exact ⟨_, rfl, ⟨_, _, _, _, _, _, _, _, _, _, _, _, _, _, _, _, _, _, _, _, _, _, _, _, _, _, _, _, _, _, _, _, _, _, _, _, _, _, _, _, _, _, _, _, _, _, _, _, _, _, _, _, _, _, _, _, _, _, _, _, _, _, _, _, _, _, _, _, _, _, _, _, _, _, _, _, rfl, hP, hF, hL, hT, hN, hR, hD⟩, fun q => absurd q (by decide)⟩
    · intro q1 q2
      exfalso; omega
    · intro q1 q2 ma mb md u1 u2 u3 hq2
      exfalso; omega
  · refine ⟨_, out, rfl, rfl, 0, rfl, ⟨_, rfl⟩, ?_⟩
    show G_M_fit [.ref 21] (cC :: cI (iI w) (iI g) :: aI np pf :: aI nl lf :: cF (iI fo) (iI le) (iI to) (iI ri) (iI bo) :: cY (iI co) (iI ro) (iI qu) :: cP a1 a2 a3 a4 :: cT (iI nt) :: aZ 16 zf :: aI 48 tp :: cN (iI fi) :: aL 3 fa :: aL 3 fb :: aL 3 fd :: cS b1 b2 b3 b4 b5 :: cR (iI rk) (iI sg) :: aC 20 tx :: aC 8 kf :: aC 8 wf :: aI 8 ll :: cS (iI dn) (lI sx) (lI sy) (lI sxx) (lI sxy) :: cM (iI th) (iI w) (iI g) (iI fo) (iI xle) (iI xto) (iI xri) (iI xbo) (iI co) (iI ro) (iI qu) (iI nt) (iI fi) (iI sg) (iI rk) (iI dn) ce su sq :: aI 2700 mp :: aI 900 ml :: aZ 16 mh :: aI 48 mt :: aL 3 ma :: aL 3 mb :: aL 3 md :: aI 20 mx_ :: aI 8 mk :: aI 8 mw :: aI 8 mi :: aI 40 my :: aI 40 mv :: aL 1 (vp_updL out 0 (iI (sh has (fun _ => 1) 0 (co * ro).toNat)).toInt64) :: rest) (PI 0)
    refine ⟨[cC, cI (iI w) (iI g), aI np pf, aI nl lf, cF (iI fo) (iI le) (iI to) (iI ri) (iI bo), cY (iI co) (iI ro) (iI qu), cP a1 a2 a3 a4, cT (iI nt), aZ 16 zf, aI 48 tp, cN (iI fi), aL 3 fa, aL 3 fb, aL 3 fd, cS b1 b2 b3 b4 b5, cR (iI rk) (iI sg), aC 20 tx, aC 8 kf, aC 8 wf, aI 8 ll, cS (iI dn) (lI sx) (lI sy) (lI sxx) (lI sxy)], _, _, _, _, _, _, _, _, _, _, _, _, _, _, _, _, _, _, _, _, _, _, _, _, _, _, _, _, _, _, _, _, _, rfl, rfl, rfl, hfo, hfi, hP.2, hL, hfm, ⟨hT.2.1, hT.2.2, hT1.2.2.1, hT1.2.2.2.1, hT1.2.2.2.2.1, hT1.2.2.2.2.2⟩, ?_, ?_, ?_⟩
    · intro q1
      exfalso; omega
    · intro q1 q2
      refine ⟨_, rfl, ⟨_, _, _, _, _, _, _, _, _, _, _, _, _, _, _, _, _, _, _, _, _, _, _, _, _, _, _, _, _, _, _, _, _, _, _, _, _, _, _, _, _, _, _, _, _, _, _, _, _, _, _, _, _, _, _, _, _, _, _, _, _, _, _, _, _, _, _, _, _, _, _, _, _, _, _, _, rfl, hP, hF, hL, hT, hN, hR, hD⟩, fun _ => ⟨_, rfl, outz.trans ?_⟩⟩
      rfl
    · intro q1 q2 ma mb md u1 u2 u3 hq2
      exfalso; omega
  · have fr := hfr hc
    have lb : ltB (ltI pic lig) := fun x y j => ltI_in hP.1.2.2.2.2.1 hP.1.2.2.2.2.2 x y j
    have hrd : rdB (rdI (ltI pic lig) le to ri bo co ro qu) (co * ro).toNat := fun p k h1 h2 => rdI_in lb fr hL h1 (by omega) k
    have o1 := fit_ok (n := (co * ro).toNat) (by omega) hrd hT1.2.2.1 hT1.2.2.2.1 (by omega) hq
    refine ⟨_, out, rfl, rfl, 0, rfl, ⟨_, rfl⟩, ?_⟩
    show G_M_fit [.ref 21] (cC :: cI (iI w) (iI g) :: aI np pf :: aI nl lf :: cF (iI fo) (iI le) (iI to) (iI ri) (iI bo) :: cY (iI co) (iI ro) (iI qu) :: cP a1 a2 a3 a4 :: cT (iI nt) :: aZ 16 zf :: aI 48 tp :: cN (iI 1) :: aL 3 fa :: aL 3 fb :: aL 3 fd :: cS b1 b2 b3 b4 b5 :: cR (iI rk) (iI sg) :: aC 20 tx :: aC 8 kf :: aC 8 wf :: aI 8 ll :: cS (iI dn) (lI sx) (lI sy) (lI sxx) (lI sxy) :: cM (iI th) (iI w) (iI g) (iI fo) (iI xle) (iI xto) (iI xri) (iI xbo) (iI co) (iI ro) (iI qu) (iI nt) (iI fi) (iI sg) (iI rk) (iI dn) ce su sq :: aI 2700 mp :: aI 900 ml :: aZ 16 mh :: aI 48 mt :: aL 3 ma :: aL 3 mb :: aL 3 md :: aI 20 mx_ :: aI 8 mk :: aI 8 mw :: aI 8 mi :: aI 40 my :: aI 40 mv :: aL 1 (vp_updL out 0 (iI (sh has (fun _ => 1) 0 (co * ro).toNat)).toInt64) :: rest) (PI 0)
    refine ⟨[cC, cI (iI w) (iI g), aI np pf, aI nl lf, cF (iI fo) (iI le) (iI to) (iI ri) (iI bo), cY (iI co) (iI ro) (iI qu), cP a1 a2 a3 a4, cT (iI nt), aZ 16 zf, aI 48 tp, cN (iI 1), aL 3 fa, aL 3 fb, aL 3 fd, cS b1 b2 b3 b4 b5, cR (iI rk) (iI sg), aC 20 tx, aC 8 kf, aC 8 wf, aI 8 ll, cS (iI dn) (lI sx) (lI sy) (lI sxx) (lI sxy)], _, _, _, _, _, _, _, _, _, _, _, _, _, _, _, _, _, _, _, _, _, _, _, _, _, _, _, _, _, _, _, _, _, rfl, rfl, rfl, hfo, hfi, hP.2, hL, hfm, ⟨hT.2.1, hT.2.2, hT1.2.2.1, hT1.2.2.2.1, hT1.2.2.2.2.1, hT1.2.2.2.2.2⟩, ?_, ?_, ?_⟩
    · intro q1
      exfalso; omega
    · intro q1 q2
      exfalso; omega
    · intro q1 q2 ma mb md u1 u2 u3 hq2
      obtain ⟨_, e1, e2, e3, e4⟩ := hF.2 hc
      rw [e1, e2, e3, e4] at hq2
      have o2 := fit_ok (n := (co * ro).toNat) (by omega) hrd hT1.2.2.1 hT1.2.2.2.1 (by omega) hq2
      refine ⟨_, rfl, ⟨_, _, _, _, _, _, _, _, _, _, _, _, _, _, _, _, _, _, _, _, _, _, _, _, _, _, _, _, _, _, _, _, _, _, _, _, _, _, _, _, _, _, _, _, _, _, _, _, _, _, _, _, _, _, _, _, _, _, _, _, _, _, _, _, _, _, _, _, _, _, _, _, _, _, _, _, rfl, hP, hF, hL, hT, ⟨Or.inr rfl, o1, o2⟩, hR, hD⟩, fun _ => ⟨_, rfl, outz.trans ?_⟩⟩
      rfl
set_option maxHeartbeats 4000000 in
set_option maxRecDepth 100000 in
theorem st_line {th : Int} {h : ah_H} {sa : Nat → Nat} (hI : InvT th h) (p x : Int) (h_p : inI p) (h_x : inI x) : G_L_line (fun _ => G_C_line) sa [.ref 0, .int (iI p), .int (iI x), .ref 35] h (fun r_ h' => ∃ k : Int, r_ = .inl (some (.int (iI k))) ∧ (∃ fs, h'[21]? = some (.inr (9, fs))) ∧ G_M_line [.ref 21, .int (iI p), .int (iI x)] h' (PJ k)) := by
  refine inv_el (P := fun h => G_L_line (fun _ => G_C_line) sa [.ref 0, .int (iI p), .int (iI x), .ref 35] h (fun r_ h' => ∃ k : Int, r_ = .inl (some (.int (iI k))) ∧ (∃ fs, h'[21]? = some (.inr (9, fs))) ∧ G_M_line [.ref 21, .int (iI p), .int (iI x)] h' (PJ k))) hI ?_
  intro w g np nl pf lf fo le to ri bo co ro qu a1 a2 a3 a4 nt zf tp fi fa fb fd b1 b2 b3 b4 b5 rk sg tx kf wf ll dn sx sy sxx sxy xle xto xri xbo ce su sq mp ml mh mt ma mb md mx_ mk mw mi my mv out rest pic lig has tg A B D T kd wy lm X Y hP hF hL hT hN hR hD
  have hw := hP.1.1
  have hfo := hF.1
  have hfr : fo = 1 → frOk le to ri bo w g := fun q => (hF.2 q).1
  have hfm : fo = 1 → frOk xle xto xri xbo w g := fun q => by
    obtain ⟨a, b, c, d, e⟩ := hF.2 q
    rw [b, c, d, e]; exact a
  have hL' := hL
  unfold lyOk at hL'
  have mq := mbd (A := 4) (B := 4) (a := co) (b := ro) (by omega) (by omega)
  have i_p := h_p
  unfold inI at i_p
  have i_x := h_x
  unfold inI at i_x
  refine ⟨iI p, iI x, _, rfl, rfl, ?_⟩
  have hfi := hN.1
  refine ⟨_, _, _, _, _, _, _, _, _, _, _, _, _, _, _, _, rfl, rfl, h_p, h_x, hfi, fun hc => ?_, fun hc hd => ?_, fun hc hd => ?_⟩
  · skip
    refine ⟨0, 10, rfl, at_end _ _, 1, by rw [nI1], ⟨_, rfl⟩, ?_⟩
    show G_M_line [.ref 21, .int (iI p), .int (iI x)] (cC :: cI (iI w) (iI g) :: aI np pf :: aI nl lf :: cF (iI fo) (iI le) (iI to) (iI ri) (iI bo) :: cY (iI co) (iI ro) (iI qu) :: cP a1 a2 a3 a4 :: cT (iI nt) :: aZ 16 zf :: aI 48 tp :: cN (iI fi) :: aL 3 fa :: aL 3 fb :: aL 3 fd :: cS b1 b2 b3 b4 b5 :: cR (iI rk) (iI sg) :: aC 20 tx :: aC 8 kf :: aC 8 wf :: aI 8 ll :: cS (iI dn) (lI sx) (lI sy) (lI sxx) (lI sxy) :: cM (iI th) (iI w) (iI g) (iI fo) (iI xle) (iI xto) (iI xri) (iI xbo) (iI co) (iI ro) (iI qu) (iI nt) (iI fi) (iI sg) (iI rk) (iI dn) ce su sq :: aI 2700 mp :: aI 900 ml :: aZ 16 mh :: aI 48 mt :: aL 3 ma :: aL 3 mb :: aL 3 md :: aI 20 mx_ :: aI 8 mk :: aI 8 mw :: aI 8 mi :: aI 40 my :: aI 40 mv :: aL 1 out :: (rest ++ [xB])) (PJ 1)
    refine ⟨_, _, _, _, [cC, cI (iI w) (iI g), aI np pf, aI nl lf, cF (iI fo) (iI le) (iI to) (iI ri) (iI bo), cY (iI co) (iI ro) (iI qu), cP a1 a2 a3 a4, cT (iI nt), aZ 16 zf, aI 48 tp, cN (iI fi), aL 3 fa, aL 3 fb, aL 3 fd, cS b1 b2 b3 b4 b5, cR (iI rk) (iI sg), aC 20 tx, aC 8 kf, aC 8 wf, aI 8 ll, cS (iI dn) (lI sx) (lI sy) (lI sxx) (lI sxy)], _, _, _, _, _, _, _, _, _, _, _, _, _, _, _, _, _, _, _, _, _, _, _, _, _, rfl, rfl, rfl, h_p, h_x, hfi, ?_, ?_, ?_⟩
    · intro q1
      exact ⟨_, rfl, ⟨_, _, _, _, _, _, _, _, _, _, _, _, _, _, _, _, _, _, _, _, _, _, _, _, _, _, _, _, _, _, _, _, _, _, _, _, _, _, _, _, _, _, _, _, _, _, _, _, _, _, _, _, _, _, _, _, _, _, _, _, _, _, _, _, _, _, _, _, _, _, _, _, _, _, _, _, rfl, hP, hF, hL, hT, hN, hR, hD⟩, fun q => absurd q (by decide)⟩
    · intro q1 q2
      exfalso; omega
    · intro q1 q2
      exfalso; omega
  · skip
    refine ⟨1, 12, rfl, at_end _ _, 2, by rw [nI2], ⟨_, rfl⟩, ?_⟩
    show G_M_line [.ref 21, .int (iI p), .int (iI x)] (cC :: cI (iI w) (iI g) :: aI np pf :: aI nl lf :: cF (iI fo) (iI le) (iI to) (iI ri) (iI bo) :: cY (iI co) (iI ro) (iI qu) :: cP a1 a2 a3 a4 :: cT (iI nt) :: aZ 16 zf :: aI 48 tp :: cN (iI fi) :: aL 3 fa :: aL 3 fb :: aL 3 fd :: cS b1 b2 b3 b4 b5 :: cR (iI rk) (iI sg) :: aC 20 tx :: aC 8 kf :: aC 8 wf :: aI 8 ll :: cS (iI dn) (lI sx) (lI sy) (lI sxx) (lI sxy) :: cM (iI th) (iI w) (iI g) (iI fo) (iI xle) (iI xto) (iI xri) (iI xbo) (iI co) (iI ro) (iI qu) (iI nt) (iI fi) (iI sg) (iI rk) (iI dn) ce su sq :: aI 2700 mp :: aI 900 ml :: aZ 16 mh :: aI 48 mt :: aL 3 ma :: aL 3 mb :: aL 3 md :: aI 20 mx_ :: aI 8 mk :: aI 8 mw :: aI 8 mi :: aI 40 my :: aI 40 mv :: aL 1 out :: (rest ++ [xS])) (PJ 2)
    refine ⟨_, _, _, _, [cC, cI (iI w) (iI g), aI np pf, aI nl lf, cF (iI fo) (iI le) (iI to) (iI ri) (iI bo), cY (iI co) (iI ro) (iI qu), cP a1 a2 a3 a4, cT (iI nt), aZ 16 zf, aI 48 tp, cN (iI fi), aL 3 fa, aL 3 fb, aL 3 fd, cS b1 b2 b3 b4 b5, cR (iI rk) (iI sg), aC 20 tx, aC 8 kf, aC 8 wf, aI 8 ll, cS (iI dn) (lI sx) (lI sy) (lI sxx) (lI sxy)], _, _, _, _, _, _, _, _, _, _, _, _, _, _, _, _, _, _, _, _, _, _, _, _, _, rfl, rfl, rfl, h_p, h_x, hfi, ?_, ?_, ?_⟩
    · intro q1
      exfalso; omega
    · intro q1 q2
      exact ⟨_, rfl, ⟨_, _, _, _, _, _, _, _, _, _, _, _, _, _, _, _, _, _, _, _, _, _, _, _, _, _, _, _, _, _, _, _, _, _, _, _, _, _, _, _, _, _, _, _, _, _, _, _, _, _, _, _, _, _, _, _, _, _, _, _, _, _, _, _, _, _, _, _, _, _, _, _, _, _, _, _, rfl, hP, hF, hL, hT, hN, hR, hD⟩, fun q => absurd q (by decide)⟩
    · intro q1 q2
      exfalso; omega
  · refine ⟨_, out, rfl, rfl, 0, rfl, ⟨_, rfl⟩, ?_⟩
    show G_M_line [.ref 21, .int (iI p), .int (iI x)] (cC :: cI (iI w) (iI g) :: aI np pf :: aI nl lf :: cF (iI fo) (iI le) (iI to) (iI ri) (iI bo) :: cY (iI co) (iI ro) (iI qu) :: cP a1 a2 a3 a4 :: cT (iI nt) :: aZ 16 zf :: aI 48 tp :: cN (iI fi) :: aL 3 fa :: aL 3 fb :: aL 3 fd :: cS b1 b2 b3 b4 b5 :: cR (iI rk) (iI sg) :: aC 20 tx :: aC 8 kf :: aC 8 wf :: aI 8 ll :: cS (iI dn) (lI sx) (lI sy) (lI sxx) (lI sxy) :: cM (iI th) (iI w) (iI g) (iI fo) (iI xle) (iI xto) (iI xri) (iI xbo) (iI co) (iI ro) (iI qu) (iI nt) (iI fi) (iI sg) (iI rk) (iI dn) ce su sq :: aI 2700 mp :: aI 900 ml :: aZ 16 mh :: aI 48 mt :: aL 3 ma :: aL 3 mb :: aL 3 md :: aI 20 mx_ :: aI 8 mk :: aI 8 mw :: aI 8 mi :: aI 40 my :: aI 40 mv :: aL 1 (vp_updL out 0 ((if x = 0 then fa else if x = 1 then fb else fd) p.toNat)) :: rest) (PJ 0)
    refine ⟨_, _, _, _, [cC, cI (iI w) (iI g), aI np pf, aI nl lf, cF (iI fo) (iI le) (iI to) (iI ri) (iI bo), cY (iI co) (iI ro) (iI qu), cP a1 a2 a3 a4, cT (iI nt), aZ 16 zf, aI 48 tp, cN (iI fi), aL 3 fa, aL 3 fb, aL 3 fd, cS b1 b2 b3 b4 b5, cR (iI rk) (iI sg), aC 20 tx, aC 8 kf, aC 8 wf, aI 8 ll, cS (iI dn) (lI sx) (lI sy) (lI sxx) (lI sxy)], _, _, _, _, _, _, _, _, _, _, _, _, _, _, _, _, _, _, _, _, _, _, _, _, _, rfl, rfl, rfl, h_p, h_x, hfi, ?_, ?_, ?_⟩
    · intro q1
      exfalso; omega
    · intro q1 q2
      exfalso; omega
    · intro q1 q2
      refine ⟨_, rfl, ⟨_, _, _, _, _, _, _, _, _, _, _, _, _, _, _, _, _, _, _, _, _, _, _, _, _, _, _, _, _, _, _, _, _, _, _, _, _, _, _, _, _, _, _, _, _, _, _, _, _, _, _, _, _, _, _, _, _, _, _, _, _, _, _, _, _, _, _, _, _, _, _, _, _, _, _, _, rfl, hP, hF, hL, hT, hN, hR, hD⟩, fun _ => ⟨_, rfl, outz.trans ?_⟩⟩
      obtain ⟨l1, l2, l3, _⟩ := hN.2.1 hd p (by omega) (by omega)
      obtain ⟨g1, g2, g3, _⟩ := hN.2.2 hd p (by omega) (by omega)
      split
      · rw [l1, g1]
      · split
        · rw [l2, g2]
        · rw [l3, g3]
set_option maxHeartbeats 4000000 in
set_option maxRecDepth 100000 in
theorem st_colour {th : Int} {h : ah_H} {sa : Nat → Nat} (hI : InvT th h) (p v : Int) (h_p : inI p) (h_v : inI v) : G_L_colour (fun _ => G_C_colour) sa [.ref 0, .int (iI p), .int (iI v), .ref 35] h (fun r_ h' => ∃ k : Int, r_ = .inl (some (.int (iI k))) ∧ (∃ fs, h'[21]? = some (.inr (9, fs))) ∧ G_M_colour [.ref 21, .int (iI p), .int (iI v)] h' (PI k)) := by
  refine inv_el (P := fun h => G_L_colour (fun _ => G_C_colour) sa [.ref 0, .int (iI p), .int (iI v), .ref 35] h (fun r_ h' => ∃ k : Int, r_ = .inl (some (.int (iI k))) ∧ (∃ fs, h'[21]? = some (.inr (9, fs))) ∧ G_M_colour [.ref 21, .int (iI p), .int (iI v)] h' (PI k))) hI ?_
  intro w g np nl pf lf fo le to ri bo co ro qu a1 a2 a3 a4 nt zf tp fi fa fb fd b1 b2 b3 b4 b5 rk sg tx kf wf ll dn sx sy sxx sxy xle xto xri xbo ce su sq mp ml mh mt ma mb md mx_ mk mw mi my mv out rest pic lig has tg A B D T kd wy lm X Y hP hF hL hT hN hR hD
  have hw := hP.1.1
  have hfo := hF.1
  have hfr : fo = 1 → frOk le to ri bo w g := fun q => (hF.2 q).1
  have hfm : fo = 1 → frOk xle xto xri xbo w g := fun q => by
    obtain ⟨a, b, c, d, e⟩ := hF.2 q
    rw [b, c, d, e]; exact a
  have hL' := hL
  unfold lyOk at hL'
  have mq := mbd (A := 4) (B := 4) (a := co) (b := ro) (by omega) (by omega)
  have i_p := h_p
  unfold inI at i_p
  have i_v := h_v
  unfold inI at i_v
  refine ⟨iI p, iI v, _, rfl, rfl, ?_⟩
  have hfi := hN.1
  refine ⟨_, _, _, _, _, _, _, _, _, _, _, _, _, _, _, _, _, _, _, rfl, rfl, h_p, h_v, hfi, hN.2.1, fun hc => ?_, fun hc hd => ?_, fun hc hd he => ?_, fun hc hd he => ?_⟩
  · skip
    refine ⟨0, 10, rfl, at_end _ _, 1, by rw [nI1], ⟨_, rfl⟩, ?_⟩
    show G_M_colour [.ref 21, .int (iI p), .int (iI v)] (cC :: cI (iI w) (iI g) :: aI np pf :: aI nl lf :: cF (iI fo) (iI le) (iI to) (iI ri) (iI bo) :: cY (iI co) (iI ro) (iI qu) :: cP a1 a2 a3 a4 :: cT (iI nt) :: aZ 16 zf :: aI 48 tp :: cN (iI fi) :: aL 3 fa :: aL 3 fb :: aL 3 fd :: cS b1 b2 b3 b4 b5 :: cR (iI rk) (iI sg) :: aC 20 tx :: aC 8 kf :: aC 8 wf :: aI 8 ll :: cS (iI dn) (lI sx) (lI sy) (lI sxx) (lI sxy) :: cM (iI th) (iI w) (iI g) (iI fo) (iI xle) (iI xto) (iI xri) (iI xbo) (iI co) (iI ro) (iI qu) (iI nt) (iI fi) (iI sg) (iI rk) (iI dn) ce su sq :: aI 2700 mp :: aI 900 ml :: aZ 16 mh :: aI 48 mt :: aL 3 ma :: aL 3 mb :: aL 3 md :: aI 20 mx_ :: aI 8 mk :: aI 8 mw :: aI 8 mi :: aI 40 my :: aI 40 mv :: aL 1 out :: (rest ++ [xB])) (PI 1)
    refine ⟨_, _, _, _, [cC, cI (iI w) (iI g), aI np pf, aI nl lf, cF (iI fo) (iI le) (iI to) (iI ri) (iI bo), cY (iI co) (iI ro) (iI qu), cP a1 a2 a3 a4, cT (iI nt), aZ 16 zf, aI 48 tp, cN (iI fi), aL 3 fa, aL 3 fb, aL 3 fd, cS b1 b2 b3 b4 b5, cR (iI rk) (iI sg), aC 20 tx, aC 8 kf, aC 8 wf, aI 8 ll, cS (iI dn) (lI sx) (lI sy) (lI sxx) (lI sxy)], _, _, _, _, _, _, _, _, _, _, _, _, _, _, _, _, _, _, _, _, _, _, _, _, _, _, _, _, rfl, rfl, rfl, h_p, h_v, hfi, hN.2.2, ?_, ?_, ?_, ?_⟩
    · intro q1
      exact ⟨_, rfl, ⟨_, _, _, _, _, _, _, _, _, _, _, _, _, _, _, _, _, _, _, _, _, _, _, _, _, _, _, _, _, _, _, _, _, _, _, _, _, _, _, _, _, _, _, _, _, _, _, _, _, _, _, _, _, _, _, _, _, _, _, _, _, _, _, _, _, _, _, _, _, _, _, _, _, _, _, _, rfl, hP, hF, hL, hT, hN, hR, hD⟩, fun q => absurd q (by decide)⟩
    · intro q1 q2
      exfalso; omega
    · intro q1 q2 q3
      exfalso; omega
    · intro q1 q2 q3
      exfalso; omega
  · skip
    refine ⟨1, 11, rfl, at_end _ _, 2, by rw [nI2], ⟨_, rfl⟩, ?_⟩
    show G_M_colour [.ref 21, .int (iI p), .int (iI v)] (cC :: cI (iI w) (iI g) :: aI np pf :: aI nl lf :: cF (iI fo) (iI le) (iI to) (iI ri) (iI bo) :: cY (iI co) (iI ro) (iI qu) :: cP a1 a2 a3 a4 :: cT (iI nt) :: aZ 16 zf :: aI 48 tp :: cN (iI fi) :: aL 3 fa :: aL 3 fb :: aL 3 fd :: cS b1 b2 b3 b4 b5 :: cR (iI rk) (iI sg) :: aC 20 tx :: aC 8 kf :: aC 8 wf :: aI 8 ll :: cS (iI dn) (lI sx) (lI sy) (lI sxx) (lI sxy) :: cM (iI th) (iI w) (iI g) (iI fo) (iI xle) (iI xto) (iI xri) (iI xbo) (iI co) (iI ro) (iI qu) (iI nt) (iI fi) (iI sg) (iI rk) (iI dn) ce su sq :: aI 2700 mp :: aI 900 ml :: aZ 16 mh :: aI 48 mt :: aL 3 ma :: aL 3 mb :: aL 3 md :: aI 20 mx_ :: aI 8 mk :: aI 8 mw :: aI 8 mi :: aI 40 my :: aI 40 mv :: aL 1 out :: (rest ++ [xA])) (PI 2)
    refine ⟨_, _, _, _, [cC, cI (iI w) (iI g), aI np pf, aI nl lf, cF (iI fo) (iI le) (iI to) (iI ri) (iI bo), cY (iI co) (iI ro) (iI qu), cP a1 a2 a3 a4, cT (iI nt), aZ 16 zf, aI 48 tp, cN (iI fi), aL 3 fa, aL 3 fb, aL 3 fd, cS b1 b2 b3 b4 b5, cR (iI rk) (iI sg), aC 20 tx, aC 8 kf, aC 8 wf, aI 8 ll, cS (iI dn) (lI sx) (lI sy) (lI sxx) (lI sxy)], _, _, _, _, _, _, _, _, _, _, _, _, _, _, _, _, _, _, _, _, _, _, _, _, _, _, _, _, rfl, rfl, rfl, h_p, h_v, hfi, hN.2.2, ?_, ?_, ?_, ?_⟩
    · intro q1
      exfalso; omega
    · intro q1 q2
      exact ⟨_, rfl, ⟨_, _, _, _, _, _, _, _, _, _, _, _, _, _, _, _, _, _, _, _, _, _, _, _, _, _, _, _, _, _, _, _, _, _, _, _, _, _, _, _, _, _, _, _, _, _, _, _, _, _, _, _, _, _, _, _, _, _, _, _, _, _, _, _, _, _, _, _, _, _, _, _, _, _, _, _, rfl, hP, hF, hL, hT, hN, hR, hD⟩, fun q => absurd q (by decide)⟩
    · intro q1 q2 q3
      exfalso; omega
    · intro q1 q2 q3
      exfalso; omega
  · skip
    refine ⟨2, 12, rfl, at_end _ _, 3, by rw [nI3], ⟨_, rfl⟩, ?_⟩
    show G_M_colour [.ref 21, .int (iI p), .int (iI v)] (cC :: cI (iI w) (iI g) :: aI np pf :: aI nl lf :: cF (iI fo) (iI le) (iI to) (iI ri) (iI bo) :: cY (iI co) (iI ro) (iI qu) :: cP a1 a2 a3 a4 :: cT (iI nt) :: aZ 16 zf :: aI 48 tp :: cN (iI fi) :: aL 3 fa :: aL 3 fb :: aL 3 fd :: cS b1 b2 b3 b4 b5 :: cR (iI rk) (iI sg) :: aC 20 tx :: aC 8 kf :: aC 8 wf :: aI 8 ll :: cS (iI dn) (lI sx) (lI sy) (lI sxx) (lI sxy) :: cM (iI th) (iI w) (iI g) (iI fo) (iI xle) (iI xto) (iI xri) (iI xbo) (iI co) (iI ro) (iI qu) (iI nt) (iI fi) (iI sg) (iI rk) (iI dn) ce su sq :: aI 2700 mp :: aI 900 ml :: aZ 16 mh :: aI 48 mt :: aL 3 ma :: aL 3 mb :: aL 3 md :: aI 20 mx_ :: aI 8 mk :: aI 8 mw :: aI 8 mi :: aI 40 my :: aI 40 mv :: aL 1 out :: (rest ++ [xS])) (PI 3)
    refine ⟨_, _, _, _, [cC, cI (iI w) (iI g), aI np pf, aI nl lf, cF (iI fo) (iI le) (iI to) (iI ri) (iI bo), cY (iI co) (iI ro) (iI qu), cP a1 a2 a3 a4, cT (iI nt), aZ 16 zf, aI 48 tp, cN (iI fi), aL 3 fa, aL 3 fb, aL 3 fd, cS b1 b2 b3 b4 b5, cR (iI rk) (iI sg), aC 20 tx, aC 8 kf, aC 8 wf, aI 8 ll, cS (iI dn) (lI sx) (lI sy) (lI sxx) (lI sxy)], _, _, _, _, _, _, _, _, _, _, _, _, _, _, _, _, _, _, _, _, _, _, _, _, _, _, _, _, rfl, rfl, rfl, h_p, h_v, hfi, hN.2.2, ?_, ?_, ?_, ?_⟩
    · intro q1
      exfalso; omega
    · intro q1 q2
      exfalso; omega
    · intro q1 q2 q3
      exact ⟨_, rfl, ⟨_, _, _, _, _, _, _, _, _, _, _, _, _, _, _, _, _, _, _, _, _, _, _, _, _, _, _, _, _, _, _, _, _, _, _, _, _, _, _, _, _, _, _, _, _, _, _, _, _, _, _, _, _, _, _, _, _, _, _, _, _, _, _, _, _, _, _, _, _, _, _, _, _, _, _, _, rfl, hP, hF, hL, hT, hN, hR, hD⟩, fun q => absurd q (by decide)⟩
    · intro q1 q2 q3
      exfalso; omega
  · refine ⟨_, out, rfl, rfl, 0, rfl, ⟨_, rfl⟩, ?_⟩
    show G_M_colour [.ref 21, .int (iI p), .int (iI v)] (cC :: cI (iI w) (iI g) :: aI np pf :: aI nl lf :: cF (iI fo) (iI le) (iI to) (iI ri) (iI bo) :: cY (iI co) (iI ro) (iI qu) :: cP a1 a2 a3 a4 :: cT (iI nt) :: aZ 16 zf :: aI 48 tp :: cN (iI fi) :: aL 3 fa :: aL 3 fb :: aL 3 fd :: cS b1 b2 b3 b4 b5 :: cR (iI rk) (iI sg) :: aC 20 tx :: aC 8 kf :: aC 8 wf :: aI 8 ll :: cS (iI dn) (lI sx) (lI sy) (lI sxx) (lI sxy) :: cM (iI th) (iI w) (iI g) (iI fo) (iI xle) (iI xto) (iI xri) (iI xbo) (iI co) (iI ro) (iI qu) (iI nt) (iI fi) (iI sg) (iI rk) (iI dn) ce su sq :: aI 2700 mp :: aI 900 ml :: aZ 16 mh :: aI 48 mt :: aL 3 ma :: aL 3 mb :: aL 3 md :: aI 20 mx_ :: aI 8 mk :: aI 8 mw :: aI 8 mi :: aI 40 my :: aI 40 mv :: aL 1 (vp_updL out 0 (iI (colI (A p) (B p) (D p) v)).toInt64) :: rest) (PI 0)
    refine ⟨_, _, _, _, [cC, cI (iI w) (iI g), aI np pf, aI nl lf, cF (iI fo) (iI le) (iI to) (iI ri) (iI bo), cY (iI co) (iI ro) (iI qu), cP a1 a2 a3 a4, cT (iI nt), aZ 16 zf, aI 48 tp, cN (iI fi), aL 3 fa, aL 3 fb, aL 3 fd, cS b1 b2 b3 b4 b5, cR (iI rk) (iI sg), aC 20 tx, aC 8 kf, aC 8 wf, aI 8 ll, cS (iI dn) (lI sx) (lI sy) (lI sxx) (lI sxy)], _, _, _, _, _, _, _, _, _, _, _, _, _, _, _, _, _, _, _, _, _, _, _, _, _, _, _, _, rfl, rfl, rfl, h_p, h_v, hfi, hN.2.2, ?_, ?_, ?_, ?_⟩
    · intro q1
      exfalso; omega
    · intro q1 q2
      exfalso; omega
    · intro q1 q2 q3
      exfalso; omega
    · intro q1 q2 q3
      refine ⟨_, rfl, ⟨_, _, _, _, _, _, _, _, _, _, _, _, _, _, _, _, _, _, _, _, _, _, _, _, _, _, _, _, _, _, _, _, _, _, _, _, _, _, _, _, _, _, _, _, _, _, _, _, _, _, _, _, _, _, _, _, _, _, _, _, _, _, _, _, _, _, _, _, _, _, _, _, _, _, _, _, rfl, hP, hF, hL, hT, hN, hR, hD⟩, fun _ => ⟨_, rfl, outz.trans ?_⟩⟩
      rfl
set_option maxHeartbeats 4000000 in
set_option maxRecDepth 100000 in
theorem st_difference {th : Int} {h : ah_H} {sa : Nat → Nat} (hI : InvT th h) (p : Int) (h_p : inI p) : G_L_difference (fun _ => G_C_difference) sa [.ref 0, .int (iI p), .ref 35] h (fun r_ h' => ∃ k : Int, r_ = .inl (some (.int (iI k))) ∧ (∃ fs, h'[21]? = some (.inr (9, fs))) ∧ G_M_difference [.ref 21, .int (iI p)] h' (PI k)) := by
  refine inv_el (P := fun h => G_L_difference (fun _ => G_C_difference) sa [.ref 0, .int (iI p), .ref 35] h (fun r_ h' => ∃ k : Int, r_ = .inl (some (.int (iI k))) ∧ (∃ fs, h'[21]? = some (.inr (9, fs))) ∧ G_M_difference [.ref 21, .int (iI p)] h' (PI k))) hI ?_
  intro w g np nl pf lf fo le to ri bo co ro qu a1 a2 a3 a4 nt zf tp fi fa fb fd b1 b2 b3 b4 b5 rk sg tx kf wf ll dn sx sy sxx sxy xle xto xri xbo ce su sq mp ml mh mt ma mb md mx_ mk mw mi my mv out rest pic lig has tg A B D T kd wy lm X Y hP hF hL hT hN hR hD
  have hw := hP.1.1
  have hfo := hF.1
  have hfr : fo = 1 → frOk le to ri bo w g := fun q => (hF.2 q).1
  have hfm : fo = 1 → frOk xle xto xri xbo w g := fun q => by
    obtain ⟨a, b, c, d, e⟩ := hF.2 q
    rw [b, c, d, e]; exact a
  have hL' := hL
  unfold lyOk at hL'
  have mq := mbd (A := 4) (B := 4) (a := co) (b := ro) (by omega) (by omega)
  have i_p := h_p
  unfold inI at i_p
  refine ⟨iI p, _, rfl, rfl, ?_⟩
  have hT1 := hT.1
  have hfi := hN.1
  refine ⟨_, _, _, _, _, _, _, _, _, _, _, _, _, _, _, _, _, _, _, _, _, _, _, _, _, _, _, _, _, _, _, _, _, _, rfl, rfl, h_p, hfo, hfi, hP.1, hL, hfr, hT1, hN.2.1, fun hc => ?_, fun hc hd => ?_, fun hc hd he hf => ?_, fun hc hd he hf a1 a2 a3 a4 => ?_⟩
  · skip
    refine ⟨0, 10, rfl, at_end _ _, 1, by rw [nI1], ⟨_, rfl⟩, ?_⟩
    show G_M_difference [.ref 21, .int (iI p)] (cC :: cI (iI w) (iI g) :: aI np pf :: aI nl lf :: cF (iI fo) (iI le) (iI to) (iI ri) (iI bo) :: cY (iI co) (iI ro) (iI qu) :: cP a1 a2 a3 a4 :: cT (iI nt) :: aZ 16 zf :: aI 48 tp :: cN (iI fi) :: aL 3 fa :: aL 3 fb :: aL 3 fd :: cS b1 b2 b3 b4 b5 :: cR (iI rk) (iI sg) :: aC 20 tx :: aC 8 kf :: aC 8 wf :: aI 8 ll :: cS (iI dn) (lI sx) (lI sy) (lI sxx) (lI sxy) :: cM (iI th) (iI w) (iI g) (iI fo) (iI xle) (iI xto) (iI xri) (iI xbo) (iI co) (iI ro) (iI qu) (iI nt) (iI fi) (iI sg) (iI rk) (iI dn) ce su sq :: aI 2700 mp :: aI 900 ml :: aZ 16 mh :: aI 48 mt :: aL 3 ma :: aL 3 mb :: aL 3 md :: aI 20 mx_ :: aI 8 mk :: aI 8 mw :: aI 8 mi :: aI 40 my :: aI 40 mv :: aL 1 out :: (rest ++ [xB])) (PI 1)
    refine ⟨[cC, cI (iI w) (iI g), aI np pf, aI nl lf, cF (iI fo) (iI le) (iI to) (iI ri) (iI bo), cY (iI co) (iI ro) (iI qu), cP a1 a2 a3 a4, cT (iI nt), aZ 16 zf, aI 48 tp, cN (iI fi), aL 3 fa, aL 3 fb, aL 3 fd, cS b1 b2 b3 b4 b5, cR (iI rk) (iI sg), aC 20 tx, aC 8 kf, aC 8 wf, aI 8 ll, cS (iI dn) (lI sx) (lI sy) (lI sxx) (lI sxy)], _, _, _, _, _, _, _, _, _, _, _, _, _, _, _, _, _, _, _, _, _, _, _, _, _, _, _, _, _, _, _, _, _, _, _, _, _, rfl, rfl, rfl, h_p, hfo, hfi, hP.2, hL, hfm, ⟨hT.2.1, hT.2.2, hT1.2.2.1, hT1.2.2.2.1, hT1.2.2.2.2.1, hT1.2.2.2.2.2⟩, hN.2.2, ?_, ?_, ?_, ?_⟩
    · intro q1
      exact ⟨_, rfl, ⟨_, _, _, _, _, _, _, _, _, _, _, _, _, _, _, _, _, _, _, _, _, _, _, _, _, _, _, _, _, _, _, _, _, _, _, _, _, _, _, _, _, _, _, _, _, _, _, _, _, _, _, _, _, _, _, _, _, _, _, _, _, _, _, _, _, _, _, _, _, _, _, _, _, _, _, _, rfl, hP, hF, hL, hT, hN, hR, hD⟩, fun q => absurd q (by decide)⟩
    · intro q1 q2
      exfalso; omega
    · intro q1 q2 q3 q4
      exfalso; omega
    · intro q1 q2 q3 q4 u1 u2 u3
      exfalso; omega
  · skip
    refine ⟨1, 12, rfl, at_end _ _, 2, by rw [nI2], ⟨_, rfl⟩, ?_⟩
    show G_M_difference [.ref 21, .int (iI p)] (cC :: cI (iI w) (iI g) :: aI np pf :: aI nl lf :: cF (iI fo) (iI le) (iI to) (iI ri) (iI bo) :: cY (iI co) (iI ro) (iI qu) :: cP a1 a2 a3 a4 :: cT (iI nt) :: aZ 16 zf :: aI 48 tp :: cN (iI fi) :: aL 3 fa :: aL 3 fb :: aL 3 fd :: cS b1 b2 b3 b4 b5 :: cR (iI rk) (iI sg) :: aC 20 tx :: aC 8 kf :: aC 8 wf :: aI 8 ll :: cS (iI dn) (lI sx) (lI sy) (lI sxx) (lI sxy) :: cM (iI th) (iI w) (iI g) (iI fo) (iI xle) (iI xto) (iI xri) (iI xbo) (iI co) (iI ro) (iI qu) (iI nt) (iI fi) (iI sg) (iI rk) (iI dn) ce su sq :: aI 2700 mp :: aI 900 ml :: aZ 16 mh :: aI 48 mt :: aL 3 ma :: aL 3 mb :: aL 3 md :: aI 20 mx_ :: aI 8 mk :: aI 8 mw :: aI 8 mi :: aI 40 my :: aI 40 mv :: aL 1 out :: (rest ++ [xS])) (PI 2)
    refine ⟨[cC, cI (iI w) (iI g), aI np pf, aI nl lf, cF (iI fo) (iI le) (iI to) (iI ri) (iI bo), cY (iI co) (iI ro) (iI qu), cP a1 a2 a3 a4, cT (iI nt), aZ 16 zf, aI 48 tp, cN (iI fi), aL 3 fa, aL 3 fb, aL 3 fd, cS b1 b2 b3 b4 b5, cR (iI rk) (iI sg), aC 20 tx, aC 8 kf, aC 8 wf, aI 8 ll, cS (iI dn) (lI sx) (lI sy) (lI sxx) (lI sxy)], _, _, _, _, _, _, _, _, _, _, _, _, _, _, _, _, _, _, _, _, _, _, _, _, _, _, _, _, _, _, _, _, _, _, _, _, _, rfl, rfl, rfl, h_p, hfo, hfi, hP.2, hL, hfm, ⟨hT.2.1, hT.2.2, hT1.2.2.1, hT1.2.2.2.1, hT1.2.2.2.2.1, hT1.2.2.2.2.2⟩, hN.2.2, ?_, ?_, ?_, ?_⟩
    · intro q1
      exfalso; omega
    · intro q1 q2
      exact ⟨_, rfl, ⟨_, _, _, _, _, _, _, _, _, _, _, _, _, _, _, _, _, _, _, _, _, _, _, _, _, _, _, _, _, _, _, _, _, _, _, _, _, _, _, _, _, _, _, _, _, _, _, _, _, _, _, _, _, _, _, _, _, _, _, _, _, _, _, _, _, _, _, _, _, _, _, _, _, _, _, _, rfl, hP, hF, hL, hT, hN, hR, hD⟩, fun q => absurd q (by decide)⟩
    · intro q1 q2 q3 q4
      exfalso; omega
    · intro q1 q2 q3 q4 u1 u2 u3
      exfalso; omega
  · refine ⟨_, out, rfl, rfl, 0, rfl, ⟨_, rfl⟩, ?_⟩
    show G_M_difference [.ref 21, .int (iI p)] (cC :: cI (iI w) (iI g) :: aI np pf :: aI nl lf :: cF (iI fo) (iI le) (iI to) (iI ri) (iI bo) :: cY (iI co) (iI ro) (iI qu) :: cP a1 a2 a3 a4 :: cT (iI nt) :: aZ 16 zf :: aI 48 tp :: cN (iI fi) :: aL 3 fa :: aL 3 fb :: aL 3 fd :: cS b1 b2 b3 b4 b5 :: cR (iI rk) (iI sg) :: aC 20 tx :: aC 8 kf :: aC 8 wf :: aI 8 ll :: cS (iI dn) (lI sx) (lI sy) (lI sxx) (lI sxy) :: cM (iI th) (iI w) (iI g) (iI fo) (iI xle) (iI xto) (iI xri) (iI xbo) (iI co) (iI ro) (iI qu) (iI nt) (iI fi) (iI sg) (iI rk) (iI dn) ce su sq :: aI 2700 mp :: aI 900 ml :: aZ 16 mh :: aI 48 mt :: aL 3 ma :: aL 3 mb :: aL 3 md :: aI 20 mx_ :: aI 8 mk :: aI 8 mw :: aI 8 mi :: aI 40 my :: aI 40 mv :: aL 1 (vp_updL out 0 (iI (-1)).toInt64) :: rest) (PI 0)
    refine ⟨[cC, cI (iI w) (iI g), aI np pf, aI nl lf, cF (iI fo) (iI le) (iI to) (iI ri) (iI bo), cY (iI co) (iI ro) (iI qu), cP a1 a2 a3 a4, cT (iI nt), aZ 16 zf, aI 48 tp, cN (iI fi), aL 3 fa, aL 3 fb, aL 3 fd, cS b1 b2 b3 b4 b5, cR (iI rk) (iI sg), aC 20 tx, aC 8 kf, aC 8 wf, aI 8 ll, cS (iI dn) (lI sx) (lI sy) (lI sxx) (lI sxy)], _, _, _, _, _, _, _, _, _, _, _, _, _, _, _, _, _, _, _, _, _, _, _, _, _, _, _, _, _, _, _, _, _, _, _, _, _, rfl, rfl, rfl, h_p, hfo, hfi, hP.2, hL, hfm, ⟨hT.2.1, hT.2.2, hT1.2.2.1, hT1.2.2.2.1, hT1.2.2.2.2.1, hT1.2.2.2.2.2⟩, hN.2.2, ?_, ?_, ?_, ?_⟩
    · intro q1
      exfalso; omega
    · intro q1 q2
      exfalso; omega
    · intro q1 q2 q3 q4
      refine ⟨_, rfl, ⟨_, _, _, _, _, _, _, _, _, _, _, _, _, _, _, _, _, _, _, _, _, _, _, _, _, _, _, _, _, _, _, _, _, _, _, _, _, _, _, _, _, _, _, _, _, _, _, _, _, _, _, _, _, _, _, _, _, _, _, _, _, _, _, _, _, _, _, _, _, _, _, _, _, _, _, _, rfl, hP, hF, hL, hT, hN, hR, hD⟩, fun _ => ⟨_, rfl, outz.trans ?_⟩⟩
      rfl
    · intro q1 q2 q3 q4 u1 u2 u3
      exfalso
      rw [hf] at q4
      cases q4
  · refine ⟨_, out, rfl, rfl, 0, rfl, ⟨_, rfl⟩, ?_⟩
    show G_M_difference [.ref 21, .int (iI p)] (cC :: cI (iI w) (iI g) :: aI np pf :: aI nl lf :: cF (iI fo) (iI le) (iI to) (iI ri) (iI bo) :: cY (iI co) (iI ro) (iI qu) :: cP a1 a2 a3 a4 :: cT (iI nt) :: aZ 16 zf :: aI 48 tp :: cN (iI fi) :: aL 3 fa :: aL 3 fb :: aL 3 fd :: cS b1 b2 b3 b4 b5 :: cR (iI rk) (iI sg) :: aC 20 tx :: aC 8 kf :: aC 8 wf :: aI 8 ll :: cS (iI dn) (lI sx) (lI sy) (lI sxx) (lI sxy) :: cM (iI th) (iI w) (iI g) (iI fo) (iI xle) (iI xto) (iI xri) (iI xbo) (iI co) (iI ro) (iI qu) (iI nt) (iI fi) (iI sg) (iI rk) (iI dn) ce su sq :: aI 2700 mp :: aI 900 ml :: aZ 16 mh :: aI 48 mt :: aL 3 ma :: aL 3 mb :: aL 3 md :: aI 20 mx_ :: aI 8 mk :: aI 8 mw :: aI 8 mi :: aI 40 my :: aI 40 mv :: aL 1 (vp_updL out 0 (iI (difI (rdI (ltI pic lig) le to ri bo co ro qu) tg A B D p)).toInt64) :: rest) (PI 0)
    refine ⟨[cC, cI (iI w) (iI g), aI np pf, aI nl lf, cF (iI fo) (iI le) (iI to) (iI ri) (iI bo), cY (iI co) (iI ro) (iI qu), cP a1 a2 a3 a4, cT (iI nt), aZ 16 zf, aI 48 tp, cN (iI fi), aL 3 fa, aL 3 fb, aL 3 fd, cS b1 b2 b3 b4 b5, cR (iI rk) (iI sg), aC 20 tx, aC 8 kf, aC 8 wf, aI 8 ll, cS (iI dn) (lI sx) (lI sy) (lI sxx) (lI sxy)], _, _, _, _, _, _, _, _, _, _, _, _, _, _, _, _, _, _, _, _, _, _, _, _, _, _, _, _, _, _, _, _, _, _, _, _, _, rfl, rfl, rfl, h_p, hfo, hfi, hP.2, hL, hfm, ⟨hT.2.1, hT.2.2, hT1.2.2.1, hT1.2.2.2.1, hT1.2.2.2.2.1, hT1.2.2.2.2.2⟩, hN.2.2, ?_, ?_, ?_, ?_⟩
    · intro q1
      exfalso; omega
    · intro q1 q2
      exfalso; omega
    · intro q1 q2 q3 q4
      exfalso
      rw [hf] at q4
      cases q4
    · intro q1 q2 q3 q4 u1 u2 u3
      refine ⟨_, rfl, ⟨_, _, _, _, _, _, _, _, _, _, _, _, _, _, _, _, _, _, _, _, _, _, _, _, _, _, _, _, _, _, _, _, _, _, _, _, _, _, _, _, _, _, _, _, _, _, _, _, _, _, _, _, _, _, _, _, _, _, _, _, _, _, _, _, _, _, _, _, _, _, _, _, _, _, _, _, rfl, hP, hF, hL, hT, hN, hR, hD⟩, fun _ => ⟨_, rfl, outz.trans ?_⟩⟩
      obtain ⟨_, e1, e2, e3, e4⟩ := hF.2 hd
      rw [e1, e2, e3, e4]
set_option maxHeartbeats 4000000 in
set_option maxRecDepth 100000 in
theorem st_unit {th : Int} {h : ah_H} {sa : Nat → Nat} (hI : InvT th h) (x : Int) (h_x : inI x) : G_L_unit (fun _ => G_C_unit) sa [.ref 0, .int (iI x), .ref 35] h (fun r_ h' => ∃ k : Int, r_ = .inl (some (.int (iI k))) ∧ (∃ fs, h'[21]? = some (.inr (9, fs))) ∧ G_M_unit [.ref 21, .int (iI x)] h' (PI k)) := by
  refine inv_el (P := fun h => G_L_unit (fun _ => G_C_unit) sa [.ref 0, .int (iI x), .ref 35] h (fun r_ h' => ∃ k : Int, r_ = .inl (some (.int (iI k))) ∧ (∃ fs, h'[21]? = some (.inr (9, fs))) ∧ G_M_unit [.ref 21, .int (iI x)] h' (PI k))) hI ?_
  intro w g np nl pf lf fo le to ri bo co ro qu a1 a2 a3 a4 nt zf tp fi fa fb fd b1 b2 b3 b4 b5 rk sg tx kf wf ll dn sx sy sxx sxy xle xto xri xbo ce su sq mp ml mh mt ma mb md mx_ mk mw mi my mv out rest pic lig has tg A B D T kd wy lm X Y hP hF hL hT hN hR hD
  have hw := hP.1.1
  have hfo := hF.1
  have hfr : fo = 1 → frOk le to ri bo w g := fun q => (hF.2 q).1
  have hfm : fo = 1 → frOk xle xto xri xbo w g := fun q => by
    obtain ⟨a, b, c, d, e⟩ := hF.2 q
    rw [b, c, d, e]; exact a
  have hL' := hL
  unfold lyOk at hL'
  have mq := mbd (A := 4) (B := 4) (a := co) (b := ro) (by omega) (by omega)
  have i_x := h_x
  unfold inI at i_x
  refine ⟨iI x, _, rfl, rfl, ?_⟩
  refine ⟨_, _, _, _, _, _, _, _, _, _, _, _, _, _, _, _, _, _, _, rfl, rfl, h_x, hR.2.1, fun hc => ?_, fun hc hd => ?_, fun hc hd => ?_⟩
  · skip
    refine ⟨0, 11, rfl, at_end _ _, 1, by rw [nI1], ⟨_, rfl⟩, ?_⟩
    show G_M_unit [.ref 21, .int (iI x)] (cC :: cI (iI w) (iI g) :: aI np pf :: aI nl lf :: cF (iI fo) (iI le) (iI to) (iI ri) (iI bo) :: cY (iI co) (iI ro) (iI qu) :: cP a1 a2 a3 a4 :: cT (iI nt) :: aZ 16 zf :: aI 48 tp :: cN (iI fi) :: aL 3 fa :: aL 3 fb :: aL 3 fd :: cS b1 b2 b3 b4 b5 :: cR (iI rk) (iI sg) :: aC 20 tx :: aC 8 kf :: aC 8 wf :: aI 8 ll :: cS (iI dn) (lI sx) (lI sy) (lI sxx) (lI sxy) :: cM (iI th) (iI w) (iI g) (iI fo) (iI xle) (iI xto) (iI xri) (iI xbo) (iI co) (iI ro) (iI qu) (iI nt) (iI fi) (iI sg) (iI rk) (iI dn) ce su sq :: aI 2700 mp :: aI 900 ml :: aZ 16 mh :: aI 48 mt :: aL 3 ma :: aL 3 mb :: aL 3 md :: aI 20 mx_ :: aI 8 mk :: aI 8 mw :: aI 8 mi :: aI 40 my :: aI 40 mv :: aL 1 out :: (rest ++ [xA])) (PI 1)
    refine ⟨_, _, _, _, _, _, _, [cC, cI (iI w) (iI g), aI np pf, aI nl lf, cF (iI fo) (iI le) (iI to) (iI ri) (iI bo), cY (iI co) (iI ro) (iI qu), cP a1 a2 a3 a4, cT (iI nt), aZ 16 zf, aI 48 tp, cN (iI fi), aL 3 fa, aL 3 fb, aL 3 fd, cS b1 b2 b3 b4 b5, cR (iI rk) (iI sg), aC 20 tx, aC 8 kf, aC 8 wf, aI 8 ll, cS (iI dn) (lI sx) (lI sy) (lI sxx) (lI sxy)], _, _, _, _, _, _, _, _, _, _, _, _, _, _, _, _, _, _, _, _, _, _, rfl, rfl, rfl, h_x, hR.2.1, ?_, ?_, ?_⟩
    · intro q1
      exact ⟨_, rfl, ⟨_, _, _, _, _, _, _, _, _, _, _, _, _, _, _, _, _, _, _, _, _, _, _, _, _, _, _, _, _, _, _, _, _, _, _, _, _, _, _, _, _, _, _, _, _, _, _, _, _, _, _, _, _, _, _, _, _, _, _, _, _, _, _, _, _, _, _, _, _, _, _, _, _, _, _, _, rfl, hP, hF, hL, hT, hN, hR, hD⟩, fun q => absurd q (by decide)⟩
    · intro q1 q2
      exfalso; omega
    · intro q1 q2
      exfalso; omega
  · skip
    refine ⟨1, 12, rfl, at_end _ _, 2, by rw [nI2], ⟨_, rfl⟩, ?_⟩
    show G_M_unit [.ref 21, .int (iI x)] (cC :: cI (iI w) (iI g) :: aI np pf :: aI nl lf :: cF (iI fo) (iI le) (iI to) (iI ri) (iI bo) :: cY (iI co) (iI ro) (iI qu) :: cP a1 a2 a3 a4 :: cT (iI nt) :: aZ 16 zf :: aI 48 tp :: cN (iI fi) :: aL 3 fa :: aL 3 fb :: aL 3 fd :: cS b1 b2 b3 b4 b5 :: cR (iI rk) (iI sg) :: aC 20 tx :: aC 8 kf :: aC 8 wf :: aI 8 ll :: cS (iI dn) (lI sx) (lI sy) (lI sxx) (lI sxy) :: cM (iI th) (iI w) (iI g) (iI fo) (iI xle) (iI xto) (iI xri) (iI xbo) (iI co) (iI ro) (iI qu) (iI nt) (iI fi) (iI sg) (iI rk) (iI dn) ce su sq :: aI 2700 mp :: aI 900 ml :: aZ 16 mh :: aI 48 mt :: aL 3 ma :: aL 3 mb :: aL 3 md :: aI 20 mx_ :: aI 8 mk :: aI 8 mw :: aI 8 mi :: aI 40 my :: aI 40 mv :: aL 1 out :: (rest ++ [xS])) (PI 2)
    refine ⟨_, _, _, _, _, _, _, [cC, cI (iI w) (iI g), aI np pf, aI nl lf, cF (iI fo) (iI le) (iI to) (iI ri) (iI bo), cY (iI co) (iI ro) (iI qu), cP a1 a2 a3 a4, cT (iI nt), aZ 16 zf, aI 48 tp, cN (iI fi), aL 3 fa, aL 3 fb, aL 3 fd, cS b1 b2 b3 b4 b5, cR (iI rk) (iI sg), aC 20 tx, aC 8 kf, aC 8 wf, aI 8 ll, cS (iI dn) (lI sx) (lI sy) (lI sxx) (lI sxy)], _, _, _, _, _, _, _, _, _, _, _, _, _, _, _, _, _, _, _, _, _, _, rfl, rfl, rfl, h_x, hR.2.1, ?_, ?_, ?_⟩
    · intro q1
      exfalso; omega
    · intro q1 q2
      exact ⟨_, rfl, ⟨_, _, _, _, _, _, _, _, _, _, _, _, _, _, _, _, _, _, _, _, _, _, _, _, _, _, _, _, _, _, _, _, _, _, _, _, _, _, _, _, _, _, _, _, _, _, _, _, _, _, _, _, _, _, _, _, _, _, _, _, _, _, _, _, _, _, _, _, _, _, _, _, _, _, _, _, rfl, hP, hF, hL, hT, hN, hR, hD⟩, fun q => absurd q (by decide)⟩
    · intro q1 q2
      exfalso; omega
  · refine ⟨_, out, rfl, rfl, 0, rfl, ⟨_, rfl⟩, ?_⟩
    show G_M_unit [.ref 21, .int (iI x)] (cC :: cI (iI w) (iI g) :: aI np pf :: aI nl lf :: cF (iI fo) (iI le) (iI to) (iI ri) (iI bo) :: cY (iI co) (iI ro) (iI qu) :: cP a1 a2 a3 a4 :: cT (iI nt) :: aZ 16 zf :: aI 48 tp :: cN (iI fi) :: aL 3 fa :: aL 3 fb :: aL 3 fd :: cS b1 b2 b3 b4 b5 :: cR (iI rk) (iI (sg + 1)) :: aC 20 (upd tx sg.toNat (iI x)) :: aC 8 kf :: aC 8 wf :: aI 8 ll :: cS (iI dn) (lI sx) (lI sy) (lI sxx) (lI sxy) :: cM (iI th) (iI w) (iI g) (iI fo) (iI xle) (iI xto) (iI xri) (iI xbo) (iI co) (iI ro) (iI qu) (iI nt) (iI fi) (iI sg) (iI rk) (iI dn) ce su sq :: aI 2700 mp :: aI 900 ml :: aZ 16 mh :: aI 48 mt :: aL 3 ma :: aL 3 mb :: aL 3 md :: aI 20 mx_ :: aI 8 mk :: aI 8 mw :: aI 8 mi :: aI 40 my :: aI 40 mv :: aL 1 (vp_updL out 0 (iI (sg + 1)).toInt64) :: rest) (PI 0)
    refine ⟨_, _, _, _, _, _, _, [cC, cI (iI w) (iI g), aI np pf, aI nl lf, cF (iI fo) (iI le) (iI to) (iI ri) (iI bo), cY (iI co) (iI ro) (iI qu), cP a1 a2 a3 a4, cT (iI nt), aZ 16 zf, aI 48 tp, cN (iI fi), aL 3 fa, aL 3 fb, aL 3 fd, cS b1 b2 b3 b4 b5, cR (iI rk) (iI (sg + 1)), aC 20 (upd tx sg.toNat (iI x)), aC 8 kf, aC 8 wf, aI 8 ll, cS (iI dn) (lI sx) (lI sy) (lI sxx) (lI sxy)], _, _, _, _, _, _, _, _, _, _, _, _, _, _, _, _, _, _, _, _, _, _, rfl, rfl, rfl, h_x, hR.2.1, ?_, ?_, ?_⟩
    · intro q1
      exfalso; omega
    · intro q1 q2
      exfalso; omega
    · intro q1 q2
      refine ⟨_, rfl, ⟨_, _, _, _, _, _, _, _, _, _, _, _, _, _, _, _, _, _, _, _, _, _, _, _, _, _, _, _, _, _, _, _, _, _, _, _, _, _, _, _, _, _, _, _, _, _, _, _, _, _, _, _, _, _, _, _, _, _, _, _, _, _, _, _, _, _, _, _, _, _, _, _, _, _, _, _, rfl, hP, hF, hL, hT, hN, unit_set hR (by omega) (by omega) (by omega), hD⟩, fun _ => ⟨_, rfl, outz.trans ?_⟩⟩
      rfl
set_option maxHeartbeats 4000000 in
set_option maxRecDepth 100000 in
theorem st_rule {th : Int} {h : ah_H} {sa : Nat → Nat} (hI : InvT th h) : G_L_rule (fun _ => G_C_rule) sa [.ref 0, .ref 35] h (fun r_ h' => ∃ k : Int, r_ = .inl (some (.int (iI k))) ∧ (∃ fs, h'[21]? = some (.inr (9, fs))) ∧ G_M_rule [.ref 21] h' (PI k)) := by
  refine inv_el (P := fun h => G_L_rule (fun _ => G_C_rule) sa [.ref 0, .ref 35] h (fun r_ h' => ∃ k : Int, r_ = .inl (some (.int (iI k))) ∧ (∃ fs, h'[21]? = some (.inr (9, fs))) ∧ G_M_rule [.ref 21] h' (PI k))) hI ?_
  intro w g np nl pf lf fo le to ri bo co ro qu a1 a2 a3 a4 nt zf tp fi fa fb fd b1 b2 b3 b4 b5 rk sg tx kf wf ll dn sx sy sxx sxy xle xto xri xbo ce su sq mp ml mh mt ma mb md mx_ mk mw mi my mv out rest pic lig has tg A B D T kd wy lm X Y hP hF hL hT hN hR hD
  have hw := hP.1.1
  have hfo := hF.1
  have hfr : fo = 1 → frOk le to ri bo w g := fun q => (hF.2 q).1
  have hfm : fo = 1 → frOk xle xto xri xbo w g := fun q => by
    obtain ⟨a, b, c, d, e⟩ := hF.2 q
    rw [b, c, d, e]; exact a
  have hL' := hL
  unfold lyOk at hL'
  have mq := mbd (A := 4) (B := 4) (a := co) (b := ro) (by omega) (by omega)
  refine ⟨_, rfl, rfl, ?_⟩
  refine ⟨_, _, _, _, _, _, _, _, _, _, _, _, _, _, _, _, _, _, _, _, _, _, rfl, rfl, hR.2.2.1, hR.2.2.2.2.1, hR.1, hR.2.1, fun hc => ?_, fun hc hd => ?_, fun hc hd => ?_⟩
  · skip
    refine ⟨0, 12, rfl, at_end _ _, 1, by rw [nI1], ⟨_, rfl⟩, ?_⟩
    show G_M_rule [.ref 21] (cC :: cI (iI w) (iI g) :: aI np pf :: aI nl lf :: cF (iI fo) (iI le) (iI to) (iI ri) (iI bo) :: cY (iI co) (iI ro) (iI qu) :: cP a1 a2 a3 a4 :: cT (iI nt) :: aZ 16 zf :: aI 48 tp :: cN (iI fi) :: aL 3 fa :: aL 3 fb :: aL 3 fd :: cS b1 b2 b3 b4 b5 :: cR (iI rk) (iI sg) :: aC 20 tx :: aC 8 kf :: aC 8 wf :: aI 8 ll :: cS (iI dn) (lI sx) (lI sy) (lI sxx) (lI sxy) :: cM (iI th) (iI w) (iI g) (iI fo) (iI xle) (iI xto) (iI xri) (iI xbo) (iI co) (iI ro) (iI qu) (iI nt) (iI fi) (iI sg) (iI rk) (iI dn) ce su sq :: aI 2700 mp :: aI 900 ml :: aZ 16 mh :: aI 48 mt :: aL 3 ma :: aL 3 mb :: aL 3 md :: aI 20 mx_ :: aI 8 mk :: aI 8 mw :: aI 8 mi :: aI 40 my :: aI 40 mv :: aL 1 out :: (rest ++ [xS])) (PI 1)
    refine ⟨_, _, _, _, _, _, _, [cC, cI (iI w) (iI g), aI np pf, aI nl lf, cF (iI fo) (iI le) (iI to) (iI ri) (iI bo), cY (iI co) (iI ro) (iI qu), cP a1 a2 a3 a4, cT (iI nt), aZ 16 zf, aI 48 tp, cN (iI fi), aL 3 fa, aL 3 fb, aL 3 fd, cS b1 b2 b3 b4 b5, cR (iI rk) (iI sg), aC 20 tx, aC 8 kf, aC 8 wf, aI 8 ll, cS (iI dn) (lI sx) (lI sy) (lI sxx) (lI sxy)], _, _, _, _, _, _, _, _, _, _, _, _, _, _, _, _, _, _, _, _, _, _, _, _, _, rfl, rfl, rfl, hR.2.2.2.1, hR.2.2.2.2.1, hR.1, hR.2.1, ?_, ?_, ?_⟩
    · intro q1
      exact ⟨_, rfl, ⟨_, _, _, _, _, _, _, _, _, _, _, _, _, _, _, _, _, _, _, _, _, _, _, _, _, _, _, _, _, _, _, _, _, _, _, _, _, _, _, _, _, _, _, _, _, _, _, _, _, _, _, _, _, _, _, _, _, _, _, _, _, _, _, _, _, _, _, _, _, _, _, _, _, _, _, _, rfl, hP, hF, hL, hT, hN, hR, hD⟩, fun q => absurd q (by decide)⟩
    · intro q1 q2
      exfalso; omega
    · intro q1 q2
      exfalso; omega
  · refine ⟨_, out, rfl, rfl, 0, rfl, ⟨_, rfl⟩, ?_⟩
    show G_M_rule [.ref 21] (cC :: cI (iI w) (iI g) :: aI np pf :: aI nl lf :: cF (iI fo) (iI le) (iI to) (iI ri) (iI bo) :: cY (iI co) (iI ro) (iI qu) :: cP a1 a2 a3 a4 :: cT (iI nt) :: aZ 16 zf :: aI 48 tp :: cN (iI fi) :: aL 3 fa :: aL 3 fb :: aL 3 fd :: cS b1 b2 b3 b4 b5 :: cR (iI (rk + 1)) (iI 0) :: aC 20 tx :: aC 8 (upd kf rk.toNat (iI (T 0))) :: aC 8 (upd wf rk.toNat (iI (T 1))) :: aI 8 (upd ll rk.toNat (iI (nmF T 2 (sg - 2).toNat 0))) :: cS (iI dn) (lI sx) (lI sy) (lI sxx) (lI sxy) :: cM (iI th) (iI w) (iI g) (iI fo) (iI xle) (iI xto) (iI xri) (iI xbo) (iI co) (iI ro) (iI qu) (iI nt) (iI fi) (iI sg) (iI rk) (iI dn) ce su sq :: aI 2700 mp :: aI 900 ml :: aZ 16 mh :: aI 48 mt :: aL 3 ma :: aL 3 mb :: aL 3 md :: aI 20 mx_ :: aI 8 mk :: aI 8 mw :: aI 8 mi :: aI 40 my :: aI 40 mv :: aL 1 (vp_updL out 0 (iI rk).toInt64) :: rest) (PI 0)
    refine ⟨_, _, _, _, _, _, _, [cC, cI (iI w) (iI g), aI np pf, aI nl lf, cF (iI fo) (iI le) (iI to) (iI ri) (iI bo), cY (iI co) (iI ro) (iI qu), cP a1 a2 a3 a4, cT (iI nt), aZ 16 zf, aI 48 tp, cN (iI fi), aL 3 fa, aL 3 fb, aL 3 fd, cS b1 b2 b3 b4 b5, cR (iI (rk + 1)) (iI 0), aC 20 tx, aC 8 (upd kf rk.toNat (iI (T 0))), aC 8 (upd wf rk.toNat (iI (T 1))), aI 8 (upd ll rk.toNat (iI (nmF T 2 (sg - 2).toNat 0))), cS (iI dn) (lI sx) (lI sy) (lI sxx) (lI sxy)], _, _, _, _, _, _, _, _, _, _, _, _, _, _, _, _, _, _, _, _, _, _, _, _, _, rfl, rfl, rfl, hR.2.2.2.1, hR.2.2.2.2.1, hR.1, hR.2.1, ?_, ?_, ?_⟩
    · intro q1
      exfalso; omega
    · intro q1 q2
      refine ⟨_, rfl, ⟨_, _, _, _, _, _, _, _, _, _, _, _, _, _, _, _, _, _, _, _, _, _, _, _, _, _, _, _, _, _, _, _, _, _, _, _, _, _, _, _, _, _, _, _, _, _, _, _, _, _, _, _, _, _, _, _, _, _, _, _, _, _, _, _, _, _, _, _, _, _, _, _, _, _, _, _, rfl, hP, hF, hL, hT, hN, rule_set hR hc hd, hD⟩, fun _ => ⟨_, rfl, outz.trans ?_⟩⟩
      rfl
    · intro q1 q2
      exact absurd hd q2
  · refine ⟨_, out, rfl, rfl, 0, rfl, ⟨_, rfl⟩, ?_⟩
    show G_M_rule [.ref 21] (cC :: cI (iI w) (iI g) :: aI np pf :: aI nl lf :: cF (iI fo) (iI le) (iI to) (iI ri) (iI bo) :: cY (iI co) (iI ro) (iI qu) :: cP a1 a2 a3 a4 :: cT (iI nt) :: aZ 16 zf :: aI 48 tp :: cN (iI fi) :: aL 3 fa :: aL 3 fb :: aL 3 fd :: cS b1 b2 b3 b4 b5 :: cR (iI rk) (iI 0) :: aC 20 tx :: aC 8 kf :: aC 8 wf :: aI 8 ll :: cS (iI dn) (lI sx) (lI sy) (lI sxx) (lI sxy) :: cM (iI th) (iI w) (iI g) (iI fo) (iI xle) (iI xto) (iI xri) (iI xbo) (iI co) (iI ro) (iI qu) (iI nt) (iI fi) (iI sg) (iI rk) (iI dn) ce su sq :: aI 2700 mp :: aI 900 ml :: aZ 16 mh :: aI 48 mt :: aL 3 ma :: aL 3 mb :: aL 3 md :: aI 20 mx_ :: aI 8 mk :: aI 8 mw :: aI 8 mi :: aI 40 my :: aI 40 mv :: aL 1 (vp_updL out 0 (iI (-1)).toInt64) :: rest) (PI 0)
    refine ⟨_, _, _, _, _, _, _, [cC, cI (iI w) (iI g), aI np pf, aI nl lf, cF (iI fo) (iI le) (iI to) (iI ri) (iI bo), cY (iI co) (iI ro) (iI qu), cP a1 a2 a3 a4, cT (iI nt), aZ 16 zf, aI 48 tp, cN (iI fi), aL 3 fa, aL 3 fb, aL 3 fd, cS b1 b2 b3 b4 b5, cR (iI rk) (iI 0), aC 20 tx, aC 8 kf, aC 8 wf, aI 8 ll, cS (iI dn) (lI sx) (lI sy) (lI sxx) (lI sxy)], _, _, _, _, _, _, _, _, _, _, _, _, _, _, _, _, _, _, _, _, _, _, _, _, _, rfl, rfl, rfl, hR.2.2.2.1, hR.2.2.2.2.1, hR.1, hR.2.1, ?_, ?_, ?_⟩
    · intro q1
      exfalso; omega
    · intro q1 q2
      exact absurd q2 hd
    · intro q1 q2
      refine ⟨_, rfl, ⟨_, _, _, _, _, _, _, _, _, _, _, _, _, _, _, _, _, _, _, _, _, _, _, _, _, _, _, _, _, _, _, _, _, _, _, _, _, _, _, _, _, _, _, _, _, _, _, _, _, _, _, _, _, _, _, _, _, _, _, _, _, _, _, _, _, _, _, _, _, _, _, _, _, _, _, _, rfl, hP, hF, hL, hT, hN, okR_clear hR, hD⟩, fun _ => ⟨_, rfl, outz.trans ?_⟩⟩
      rfl
set_option maxHeartbeats 4000000 in
set_option maxRecDepth 100000 in
theorem st_reject {th : Int} {h : ah_H} {sa : Nat → Nat} (hI : InvT th h) : G_L_reject (fun _ => G_C_reject) sa [.ref 0, .ref 35] h (fun r_ h' => ∃ k : Int, r_ = .inl (some (.int (iI k))) ∧ (∃ fs, h'[21]? = some (.inr (9, fs))) ∧ G_M_reject [.ref 21] h' (PI k)) := by
  refine inv_el (P := fun h => G_L_reject (fun _ => G_C_reject) sa [.ref 0, .ref 35] h (fun r_ h' => ∃ k : Int, r_ = .inl (some (.int (iI k))) ∧ (∃ fs, h'[21]? = some (.inr (9, fs))) ∧ G_M_reject [.ref 21] h' (PI k))) hI ?_
  intro w g np nl pf lf fo le to ri bo co ro qu a1 a2 a3 a4 nt zf tp fi fa fb fd b1 b2 b3 b4 b5 rk sg tx kf wf ll dn sx sy sxx sxy xle xto xri xbo ce su sq mp ml mh mt ma mb md mx_ mk mw mi my mv out rest pic lig has tg A B D T kd wy lm X Y hP hF hL hT hN hR hD
  have hw := hP.1.1
  have hfo := hF.1
  have hfr : fo = 1 → frOk le to ri bo w g := fun q => (hF.2 q).1
  have hfm : fo = 1 → frOk xle xto xri xbo w g := fun q => by
    obtain ⟨a, b, c, d, e⟩ := hF.2 q
    rw [b, c, d, e]; exact a
  have hL' := hL
  unfold lyOk at hL'
  have mq := mbd (A := 4) (B := 4) (a := co) (b := ro) (by omega) (by omega)
  refine ⟨_, rfl, rfl, ?_⟩
  have hT1 := hT.1
  have hfi := hN.1
  refine ⟨_, _, _, _, _, _, _, _, _, _, _, _, _, _, _, _, _, _, _, _, _, _, _, _, _, _, _, _, _, _, _, _, _, _, _, _, _, _, _, _, _, _, _, rfl, rfl, hfo, hfi, hP.1, hL, hfr, hT1, hN.2.1, hR.2.2.2.2.2.1, hR.1, fun hc => ?_, fun hc hd a a1 a2 a3 a4 ha => ?_⟩
  · skip
    refine ⟨0, 12, rfl, at_end _ _, 1, by rw [nI1], ⟨_, rfl⟩, ?_⟩
    show G_M_reject [.ref 21] (cC :: cI (iI w) (iI g) :: aI np pf :: aI nl lf :: cF (iI fo) (iI le) (iI to) (iI ri) (iI bo) :: cY (iI co) (iI ro) (iI qu) :: cP a1 a2 a3 a4 :: cT (iI nt) :: aZ 16 zf :: aI 48 tp :: cN (iI fi) :: aL 3 fa :: aL 3 fb :: aL 3 fd :: cS b1 b2 b3 b4 b5 :: cR (iI rk) (iI sg) :: aC 20 tx :: aC 8 kf :: aC 8 wf :: aI 8 ll :: cS (iI dn) (lI sx) (lI sy) (lI sxx) (lI sxy) :: cM (iI th) (iI w) (iI g) (iI fo) (iI xle) (iI xto) (iI xri) (iI xbo) (iI co) (iI ro) (iI qu) (iI nt) (iI fi) (iI sg) (iI rk) (iI dn) ce su sq :: aI 2700 mp :: aI 900 ml :: aZ 16 mh :: aI 48 mt :: aL 3 ma :: aL 3 mb :: aL 3 md :: aI 20 mx_ :: aI 8 mk :: aI 8 mw :: aI 8 mi :: aI 40 my :: aI 40 mv :: aL 1 out :: (rest ++ [xS])) (PI 1)
    refine ⟨_, [cC, cI (iI w) (iI g), aI np pf, aI nl lf, cF (iI fo) (iI le) (iI to) (iI ri) (iI bo), cY (iI co) (iI ro) (iI qu), cP a1 a2 a3 a4, cT (iI nt), aZ 16 zf, aI 48 tp, cN (iI fi), aL 3 fa, aL 3 fb, aL 3 fd, cS b1 b2 b3 b4 b5, cR (iI rk) (iI sg), aC 20 tx, aC 8 kf, aC 8 wf, aI 8 ll, cS (iI dn) (lI sx) (lI sy) (lI sxx) (lI sxy)], _, _, _, _, _, _, _, _, _, _, _, _, _, _, _, _, _, _, _, _, _, _, _, _, _, _, _, _, _, _, _, _, _, _, _, _, _, _, _, _, _, _, rfl, rfl, rfl, hfo, hfi, hP.2, hL, hfm, ⟨hT.2.1, hT.2.2, hT1.2.2.1, hT1.2.2.2.1, hT1.2.2.2.2.1, hT1.2.2.2.2.2⟩, hN.2.2, hR.2.2.2.2.2.2.1, hR.1, hR.2.2.2.2.2.2.2, ?_, ?_⟩
    · intro q1
      exact ⟨_, rfl, ⟨_, _, _, _, _, _, _, _, _, _, _, _, _, _, _, _, _, _, _, _, _, _, _, _, _, _, _, _, _, _, _, _, _, _, _, _, _, _, _, _, _, _, _, _, _, _, _, _, _, _, _, _, _, _, _, _, _, _, _, _, _, _, _, _, _, _, _, _, _, _, _, _, _, _, _, _, rfl, hP, hF, hL, hT, hN, hR, hD⟩, fun q => absurd q (by decide)⟩
    · intro q1 q2 a2_ u1 u2 u3 ha2
      exfalso; omega
  · refine ⟨_, out, rfl, rfl, 0, rfl, ⟨_, rfl⟩, ?_⟩
    show G_M_reject [.ref 21] (cC :: cI (iI w) (iI g) :: aI np pf :: aI nl lf :: cF (iI fo) (iI le) (iI to) (iI ri) (iI bo) :: cY (iI co) (iI ro) (iI qu) :: cP a1 a2 a3 a4 :: cT (iI nt) :: aZ 16 zf :: aI 48 tp :: cN (iI fi) :: aL 3 fa :: aL 3 fb :: aL 3 fd :: cS b1 b2 b3 b4 b5 :: cR (iI rk) (iI sg) :: aC 20 tx :: aC 8 kf :: aC 8 wf :: aI 8 ll :: cS (iI dn) (lI sx) (lI sy) (lI sxx) (lI sxy) :: cM (iI th) (iI w) (iI g) (iI fo) (iI xle) (iI xto) (iI xri) (iI xbo) (iI co) (iI ro) (iI qu) (iI nt) (iI fi) (iI sg) (iI rk) (iI dn) ce su sq :: aI 2700 mp :: aI 900 ml :: aZ 16 mh :: aI 48 mt :: aL 3 ma :: aL 3 mb :: aL 3 md :: aI 20 mx_ :: aI 8 mk :: aI 8 mw :: aI 8 mi :: aI 40 my :: aI 40 mv :: aL 1 (vp_updL out 0 (iI a).toInt64) :: rest) (PI 0)
    refine ⟨_, [cC, cI (iI w) (iI g), aI np pf, aI nl lf, cF (iI fo) (iI le) (iI to) (iI ri) (iI bo), cY (iI co) (iI ro) (iI qu), cP a1 a2 a3 a4, cT (iI nt), aZ 16 zf, aI 48 tp, cN (iI fi), aL 3 fa, aL 3 fb, aL 3 fd, cS b1 b2 b3 b4 b5, cR (iI rk) (iI sg), aC 20 tx, aC 8 kf, aC 8 wf, aI 8 ll, cS (iI dn) (lI sx) (lI sy) (lI sxx) (lI sxy)], _, _, _, _, _, _, _, _, _, _, _, _, _, _, _, _, _, _, _, _, _, _, _, _, _, _, _, _, _, _, _, _, _, _, _, _, _, _, _, _, _, _, rfl, rfl, rfl, hfo, hfi, hP.2, hL, hfm, ⟨hT.2.1, hT.2.2, hT1.2.2.1, hT1.2.2.2.1, hT1.2.2.2.2.1, hT1.2.2.2.2.2⟩, hN.2.2, hR.2.2.2.2.2.2.1, hR.1, hR.2.2.2.2.2.2.2, ?_, ?_⟩
    · intro q1
      exfalso; omega
    · intro q1 q2 a2_ u1 u2 u3 ha2
      obtain ⟨_, e1, e2, e3, e4⟩ := hF.2 hc
      rw [e1, e2, e3, e4] at ha2
      have ea := rjA_uniq ha ha2
      refine ⟨_, rfl, ⟨_, _, _, _, _, _, _, _, _, _, _, _, _, _, _, _, _, _, _, _, _, _, _, _, _, _, _, _, _, _, _, _, _, _, _, _, _, _, _, _, _, _, _, _, _, _, _, _, _, _, _, _, _, _, _, _, _, _, _, _, _, _, _, _, _, _, _, _, _, _, _, _, _, _, _, _, rfl, hP, hF, hL, hT, hN, hR, hD⟩, fun _ => ⟨_, rfl, outz.trans ?_⟩⟩
      rw [ea]
set_option maxHeartbeats 4000000 in
set_option maxRecDepth 100000 in
theorem st_day {th : Int} {h : ah_H} {sa : Nat → Nat} (hI : InvT th h) (x y : Int) (h_x : inI x) (h_y : inI y) : G_L_day (fun _ => G_C_day) sa [.ref 0, .int (iI x), .int (iI y), .ref 35] h (fun r_ h' => ∃ k : Int, r_ = .inl (some (.int (iI k))) ∧ (∃ fs, h'[21]? = some (.inr (9, fs))) ∧ G_M_day [.ref 21, .int (iI x), .int (iI y)] h' (PI k)) := by
  refine inv_el (P := fun h => G_L_day (fun _ => G_C_day) sa [.ref 0, .int (iI x), .int (iI y), .ref 35] h (fun r_ h' => ∃ k : Int, r_ = .inl (some (.int (iI k))) ∧ (∃ fs, h'[21]? = some (.inr (9, fs))) ∧ G_M_day [.ref 21, .int (iI x), .int (iI y)] h' (PI k))) hI ?_
  intro w g np nl pf lf fo le to ri bo co ro qu a1 a2 a3 a4 nt zf tp fi fa fb fd b1 b2 b3 b4 b5 rk sg tx kf wf ll dn sx sy sxx sxy xle xto xri xbo ce su sq mp ml mh mt ma mb md mx_ mk mw mi my mv out rest pic lig has tg A B D T kd wy lm X Y hP hF hL hT hN hR hD
  have hw := hP.1.1
  have hfo := hF.1
  have hfr : fo = 1 → frOk le to ri bo w g := fun q => (hF.2 q).1
  have hfm : fo = 1 → frOk xle xto xri xbo w g := fun q => by
    obtain ⟨a, b, c, d, e⟩ := hF.2 q
    rw [b, c, d, e]; exact a
  have hL' := hL
  unfold lyOk at hL'
  have mq := mbd (A := 4) (B := 4) (a := co) (b := ro) (by omega) (by omega)
  have i_x := h_x
  unfold inI at i_x
  have i_y := h_y
  unfold inI at i_y
  refine ⟨iI x, iI y, _, rfl, rfl, ?_⟩
  refine ⟨_, _, _, _, _, _, _, _, _, _, _, _, _, _, _, _, _, _, _, _, _, _, _, _, _, _, _, rfl, rfl, h_x, h_y, hD.1, fun hc => ?_, fun hc hd => ?_, fun hc hd => ?_⟩
  · skip
    refine ⟨0, 11, rfl, at_end _ _, 1, by rw [nI1], ⟨_, rfl⟩, ?_⟩
    show G_M_day [.ref 21, .int (iI x), .int (iI y)] (cC :: cI (iI w) (iI g) :: aI np pf :: aI nl lf :: cF (iI fo) (iI le) (iI to) (iI ri) (iI bo) :: cY (iI co) (iI ro) (iI qu) :: cP a1 a2 a3 a4 :: cT (iI nt) :: aZ 16 zf :: aI 48 tp :: cN (iI fi) :: aL 3 fa :: aL 3 fb :: aL 3 fd :: cS b1 b2 b3 b4 b5 :: cR (iI rk) (iI sg) :: aC 20 tx :: aC 8 kf :: aC 8 wf :: aI 8 ll :: cS (iI dn) (lI sx) (lI sy) (lI sxx) (lI sxy) :: cM (iI th) (iI w) (iI g) (iI fo) (iI xle) (iI xto) (iI xri) (iI xbo) (iI co) (iI ro) (iI qu) (iI nt) (iI fi) (iI sg) (iI rk) (iI dn) ce su sq :: aI 2700 mp :: aI 900 ml :: aZ 16 mh :: aI 48 mt :: aL 3 ma :: aL 3 mb :: aL 3 md :: aI 20 mx_ :: aI 8 mk :: aI 8 mw :: aI 8 mi :: aI 40 my :: aI 40 mv :: aL 1 out :: (rest ++ [xA])) (PI 1)
    refine ⟨_, _, _, _, _, _, _, _, _, _, _, [cC, cI (iI w) (iI g), aI np pf, aI nl lf, cF (iI fo) (iI le) (iI to) (iI ri) (iI bo), cY (iI co) (iI ro) (iI qu), cP a1 a2 a3 a4, cT (iI nt), aZ 16 zf, aI 48 tp, cN (iI fi), aL 3 fa, aL 3 fb, aL 3 fd, cS b1 b2 b3 b4 b5, cR (iI rk) (iI sg), aC 20 tx, aC 8 kf, aC 8 wf, aI 8 ll, cS (iI dn) (lI sx) (lI sy) (lI sxx) (lI sxy)], _, _, _, _, _, _, _, _, _, _, _, _, _, _, _, _, _, _, _, _, _, _, _, _, rfl, rfl, rfl, h_x, h_y, hD.1, ?_, ?_, ?_⟩
    · intro q1
      exact ⟨_, rfl, ⟨_, _, _, _, _, _, _, _, _, _, _, _, _, _, _, _, _, _, _, _, _, _, _, _, _, _, _, _, _, _, _, _, _, _, _, _, _, _, _, _, _, _, _, _, _, _, _, _, _, _, _, _, _, _, _, _, _, _, _, _, _, _, _, _, _, _, _, _, _, _, _, _, _, _, _, _, rfl, hP, hF, hL, hT, hN, hR, hD⟩, fun q => absurd q (by decide)⟩
    · intro q1 q2
      exfalso; omega
    · intro q1 q2
      exfalso; omega
  · skip
    refine ⟨1, 12, rfl, at_end _ _, 2, by rw [nI2], ⟨_, rfl⟩, ?_⟩
    show G_M_day [.ref 21, .int (iI x), .int (iI y)] (cC :: cI (iI w) (iI g) :: aI np pf :: aI nl lf :: cF (iI fo) (iI le) (iI to) (iI ri) (iI bo) :: cY (iI co) (iI ro) (iI qu) :: cP a1 a2 a3 a4 :: cT (iI nt) :: aZ 16 zf :: aI 48 tp :: cN (iI fi) :: aL 3 fa :: aL 3 fb :: aL 3 fd :: cS b1 b2 b3 b4 b5 :: cR (iI rk) (iI sg) :: aC 20 tx :: aC 8 kf :: aC 8 wf :: aI 8 ll :: cS (iI dn) (lI sx) (lI sy) (lI sxx) (lI sxy) :: cM (iI th) (iI w) (iI g) (iI fo) (iI xle) (iI xto) (iI xri) (iI xbo) (iI co) (iI ro) (iI qu) (iI nt) (iI fi) (iI sg) (iI rk) (iI dn) ce su sq :: aI 2700 mp :: aI 900 ml :: aZ 16 mh :: aI 48 mt :: aL 3 ma :: aL 3 mb :: aL 3 md :: aI 20 mx_ :: aI 8 mk :: aI 8 mw :: aI 8 mi :: aI 40 my :: aI 40 mv :: aL 1 out :: (rest ++ [xS])) (PI 2)
    refine ⟨_, _, _, _, _, _, _, _, _, _, _, [cC, cI (iI w) (iI g), aI np pf, aI nl lf, cF (iI fo) (iI le) (iI to) (iI ri) (iI bo), cY (iI co) (iI ro) (iI qu), cP a1 a2 a3 a4, cT (iI nt), aZ 16 zf, aI 48 tp, cN (iI fi), aL 3 fa, aL 3 fb, aL 3 fd, cS b1 b2 b3 b4 b5, cR (iI rk) (iI sg), aC 20 tx, aC 8 kf, aC 8 wf, aI 8 ll, cS (iI dn) (lI sx) (lI sy) (lI sxx) (lI sxy)], _, _, _, _, _, _, _, _, _, _, _, _, _, _, _, _, _, _, _, _, _, _, _, _, rfl, rfl, rfl, h_x, h_y, hD.1, ?_, ?_, ?_⟩
    · intro q1
      exfalso; omega
    · intro q1 q2
      exact ⟨_, rfl, ⟨_, _, _, _, _, _, _, _, _, _, _, _, _, _, _, _, _, _, _, _, _, _, _, _, _, _, _, _, _, _, _, _, _, _, _, _, _, _, _, _, _, _, _, _, _, _, _, _, _, _, _, _, _, _, _, _, _, _, _, _, _, _, _, _, _, _, _, _, _, _, _, _, _, _, _, _, rfl, hP, hF, hL, hT, hN, hR, hD⟩, fun q => absurd q (by decide)⟩
    · intro q1 q2
      exfalso; omega
  · refine ⟨_, out, rfl, rfl, 0, rfl, ⟨_, rfl⟩, ?_⟩
    show G_M_day [.ref 21, .int (iI x), .int (iI y)] (cC :: cI (iI w) (iI g) :: aI np pf :: aI nl lf :: cF (iI fo) (iI le) (iI to) (iI ri) (iI bo) :: cY (iI co) (iI ro) (iI qu) :: cP a1 a2 a3 a4 :: cT (iI nt) :: aZ 16 zf :: aI 48 tp :: cN (iI fi) :: aL 3 fa :: aL 3 fb :: aL 3 fd :: cS b1 b2 b3 b4 b5 :: cR (iI rk) (iI sg) :: aC 20 tx :: aC 8 kf :: aC 8 wf :: aI 8 ll :: cS (iI (dn + 1)) (lI (sx + x)) (lI (sy + y)) (lI (sxx + x * x)) (lI (sxy + x * y)) :: cM (iI th) (iI w) (iI g) (iI fo) (iI xle) (iI xto) (iI xri) (iI xbo) (iI co) (iI ro) (iI qu) (iI nt) (iI fi) (iI sg) (iI rk) (iI dn) ce su sq :: aI 2700 mp :: aI 900 ml :: aZ 16 mh :: aI 48 mt :: aL 3 ma :: aL 3 mb :: aL 3 md :: aI 20 mx_ :: aI 8 mk :: aI 8 mw :: aI 8 mi :: aI 40 my :: aI 40 mv :: aL 1 (vp_updL out 0 (iI (dn + 1)).toInt64) :: rest) (PI 0)
    refine ⟨_, _, _, _, _, _, _, _, _, _, _, [cC, cI (iI w) (iI g), aI np pf, aI nl lf, cF (iI fo) (iI le) (iI to) (iI ri) (iI bo), cY (iI co) (iI ro) (iI qu), cP a1 a2 a3 a4, cT (iI nt), aZ 16 zf, aI 48 tp, cN (iI fi), aL 3 fa, aL 3 fb, aL 3 fd, cS b1 b2 b3 b4 b5, cR (iI rk) (iI sg), aC 20 tx, aC 8 kf, aC 8 wf, aI 8 ll, cS (iI (dn + 1)) (lI (sx + x)) (lI (sy + y)) (lI (sxx + x * x)) (lI (sxy + x * y))], _, _, _, _, _, _, _, _, _, _, _, _, _, _, _, _, _, _, _, _, _, _, _, _, rfl, rfl, rfl, h_x, h_y, hD.1, ?_, ?_, ?_⟩
    · intro q1
      exfalso; omega
    · intro q1 q2
      exfalso; omega
    · intro q1 q2
      refine ⟨_, rfl, ⟨_, _, _, _, _, _, _, _, _, _, _, _, _, _, _, _, _, _, _, _, _, _, _, _, _, _, _, _, _, _, _, _, _, _, _, _, _, _, _, _, _, _, _, _, _, _, _, _, _, _, _, _, _, _, _, _, _, _, _, _, _, _, _, _, _, _, _, _, _, _, _, _, _, _, _, _, rfl, hP, hF, hL, hT, hN, hR, day_set hD (by omega) (by omega) (by omega)⟩, fun _ => ⟨_, rfl, outz.trans ?_⟩⟩
      rfl
set_option maxHeartbeats 4000000 in
set_option maxRecDepth 100000 in
theorem st_drift {th : Int} {h : ah_H} {sa : Nat → Nat} (hI : InvT th h) (t : Int) (h_t : inI t) : G_L_drift (fun _ => G_C_drift) sa [.ref 0, .int (iI t), .ref 35] h (fun r_ h' => ∃ k : Int, r_ = .inl (some (.int (iI k))) ∧ (∃ fs, h'[21]? = some (.inr (9, fs))) ∧ G_M_drift [.ref 21, .int (iI t)] h' (PJ k)) := by
  refine inv_el (P := fun h => G_L_drift (fun _ => G_C_drift) sa [.ref 0, .int (iI t), .ref 35] h (fun r_ h' => ∃ k : Int, r_ = .inl (some (.int (iI k))) ∧ (∃ fs, h'[21]? = some (.inr (9, fs))) ∧ G_M_drift [.ref 21, .int (iI t)] h' (PJ k))) hI ?_
  intro w g np nl pf lf fo le to ri bo co ro qu a1 a2 a3 a4 nt zf tp fi fa fb fd b1 b2 b3 b4 b5 rk sg tx kf wf ll dn sx sy sxx sxy xle xto xri xbo ce su sq mp ml mh mt ma mb md mx_ mk mw mi my mv out rest pic lig has tg A B D T kd wy lm X Y hP hF hL hT hN hR hD
  have hw := hP.1.1
  have hfo := hF.1
  have hfr : fo = 1 → frOk le to ri bo w g := fun q => (hF.2 q).1
  have hfm : fo = 1 → frOk xle xto xri xbo w g := fun q => by
    obtain ⟨a, b, c, d, e⟩ := hF.2 q
    rw [b, c, d, e]; exact a
  have hL' := hL
  unfold lyOk at hL'
  have mq := mbd (A := 4) (B := 4) (a := co) (b := ro) (by omega) (by omega)
  have i_t := h_t
  unfold inI at i_t
  refine ⟨iI t, _, rfl, rfl, ?_⟩
  have bd := okD_bd hD
  refine ⟨_, _, _, _, _, _, _, _, _, _, _, _, _, _, _, _, _, _, _, _, _, _, _, _, _, _, rfl, rfl, h_t, hD.1, bd.1, bd.2, fun hc => ?_, fun hc => ?_⟩
  · skip
    refine ⟨0, 10, rfl, at_end _ _, 1, by rw [nI1], ⟨_, rfl⟩, ?_⟩
    show G_M_drift [.ref 21, .int (iI t)] (cC :: cI (iI w) (iI g) :: aI np pf :: aI nl lf :: cF (iI fo) (iI le) (iI to) (iI ri) (iI bo) :: cY (iI co) (iI ro) (iI qu) :: cP a1 a2 a3 a4 :: cT (iI nt) :: aZ 16 zf :: aI 48 tp :: cN (iI fi) :: aL 3 fa :: aL 3 fb :: aL 3 fd :: cS b1 b2 b3 b4 b5 :: cR (iI rk) (iI sg) :: aC 20 tx :: aC 8 kf :: aC 8 wf :: aI 8 ll :: cS (iI dn) (lI sx) (lI sy) (lI sxx) (lI sxy) :: cM (iI th) (iI w) (iI g) (iI fo) (iI xle) (iI xto) (iI xri) (iI xbo) (iI co) (iI ro) (iI qu) (iI nt) (iI fi) (iI sg) (iI rk) (iI dn) ce su sq :: aI 2700 mp :: aI 900 ml :: aZ 16 mh :: aI 48 mt :: aL 3 ma :: aL 3 mb :: aL 3 md :: aI 20 mx_ :: aI 8 mk :: aI 8 mw :: aI 8 mi :: aI 40 my :: aI 40 mv :: aL 1 out :: (rest ++ [xB])) (PJ 1)
    refine ⟨_, _, _, _, _, _, _, _, _, _, _, [cC, cI (iI w) (iI g), aI np pf, aI nl lf, cF (iI fo) (iI le) (iI to) (iI ri) (iI bo), cY (iI co) (iI ro) (iI qu), cP a1 a2 a3 a4, cT (iI nt), aZ 16 zf, aI 48 tp, cN (iI fi), aL 3 fa, aL 3 fb, aL 3 fd, cS b1 b2 b3 b4 b5, cR (iI rk) (iI sg), aC 20 tx, aC 8 kf, aC 8 wf, aI 8 ll, cS (iI dn) (lI sx) (lI sy) (lI sxx) (lI sxy)], _, _, _, _, _, _, _, _, _, _, _, _, _, _, _, _, _, _, _, _, _, _, _, _, _, rfl, rfl, rfl, h_t, hD.1, hD.2.1, ?_, ?_⟩
    · intro q1
      exact ⟨_, rfl, ⟨_, _, _, _, _, _, _, _, _, _, _, _, _, _, _, _, _, _, _, _, _, _, _, _, _, _, _, _, _, _, _, _, _, _, _, _, _, _, _, _, _, _, _, _, _, _, _, _, _, _, _, _, _, _, _, _, _, _, _, _, _, _, _, _, _, _, _, _, _, _, _, _, _, _, _, _, rfl, hP, hF, hL, hT, hN, hR, hD⟩, fun q => absurd q (by decide)⟩
    · intro q1
      exfalso; omega
  · refine ⟨_, out, rfl, rfl, 0, rfl, ⟨_, rfl⟩, ?_⟩
    show G_M_drift [.ref 21, .int (iI t)] (cC :: cI (iI w) (iI g) :: aI np pf :: aI nl lf :: cF (iI fo) (iI le) (iI to) (iI ri) (iI bo) :: cY (iI co) (iI ro) (iI qu) :: cP a1 a2 a3 a4 :: cT (iI nt) :: aZ 16 zf :: aI 48 tp :: cN (iI fi) :: aL 3 fa :: aL 3 fb :: aL 3 fd :: cS b1 b2 b3 b4 b5 :: cR (iI rk) (iI sg) :: aC 20 tx :: aC 8 kf :: aC 8 wf :: aI 8 ll :: cS (iI dn) (lI sx) (lI sy) (lI sxx) (lI sxy) :: cM (iI th) (iI w) (iI g) (iI fo) (iI xle) (iI xto) (iI xri) (iI xbo) (iI co) (iI ro) (iI qu) (iI nt) (iI fi) (iI sg) (iI rk) (iI dn) ce su sq :: aI 2700 mp :: aI 900 ml :: aZ 16 mh :: aI 48 mt :: aL 3 ma :: aL 3 mb :: aL 3 md :: aI 20 mx_ :: aI 8 mk :: aI 8 mw :: aI 8 mi :: aI 40 my :: aI 40 mv :: aL 1 (vp_updL out 0 (lI (lessI (dn * sxy - sx * sy) (dn * sxx - sx * sx) t))) :: rest) (PJ 0)
    refine ⟨_, _, _, _, _, _, _, _, _, _, _, [cC, cI (iI w) (iI g), aI np pf, aI nl lf, cF (iI fo) (iI le) (iI to) (iI ri) (iI bo), cY (iI co) (iI ro) (iI qu), cP a1 a2 a3 a4, cT (iI nt), aZ 16 zf, aI 48 tp, cN (iI fi), aL 3 fa, aL 3 fb, aL 3 fd, cS b1 b2 b3 b4 b5, cR (iI rk) (iI sg), aC 20 tx, aC 8 kf, aC 8 wf, aI 8 ll, cS (iI dn) (lI sx) (lI sy) (lI sxx) (lI sxy)], _, _, _, _, _, _, _, _, _, _, _, _, _, _, _, _, _, _, _, _, _, _, _, _, _, rfl, rfl, rfl, h_t, hD.1, hD.2.1, ?_, ?_⟩
    · intro q1
      exfalso; omega
    · intro q1
      refine ⟨_, rfl, ⟨_, _, _, _, _, _, _, _, _, _, _, _, _, _, _, _, _, _, _, _, _, _, _, _, _, _, _, _, _, _, _, _, _, _, _, _, _, _, _, _, _, _, _, _, _, _, _, _, _, _, _, _, _, _, _, _, _, _, _, _, _, _, _, _, _, _, _, _, _, _, _, _, _, _, _, _, rfl, hP, hF, hL, hT, hN, hR, hD⟩, fun _ => ⟨_, rfl, outz.trans ?_⟩⟩
      obtain ⟨_, _, e1, e2, e3, e4⟩ := hD
      rw [e1, e2, e3, e4]
set_option maxHeartbeats 4000000 in
set_option maxRecDepth 100000 in
theorem st_count {th : Int} {h : ah_H} {sa : Nat → Nat} (hI : InvT th h) (t : Int) (h_t : inI t) : G_L_count (fun _ => G_C_count) sa [.ref 0, .int (iI t), .ref 35] h (fun r_ h' => ∃ k : Int, r_ = .inl (some (.int (iI k))) ∧ (∃ fs, h'[21]? = some (.inr (9, fs))) ∧ G_M_count [.ref 21, .int (iI t)] h' (PI k)) := by
  refine inv_el (P := fun h => G_L_count (fun _ => G_C_count) sa [.ref 0, .int (iI t), .ref 35] h (fun r_ h' => ∃ k : Int, r_ = .inl (some (.int (iI k))) ∧ (∃ fs, h'[21]? = some (.inr (9, fs))) ∧ G_M_count [.ref 21, .int (iI t)] h' (PI k))) hI ?_
  intro w g np nl pf lf fo le to ri bo co ro qu a1 a2 a3 a4 nt zf tp fi fa fb fd b1 b2 b3 b4 b5 rk sg tx kf wf ll dn sx sy sxx sxy xle xto xri xbo ce su sq mp ml mh mt ma mb md mx_ mk mw mi my mv out rest pic lig has tg A B D T kd wy lm X Y hP hF hL hT hN hR hD
  have hw := hP.1.1
  have hfo := hF.1
  have hfr : fo = 1 → frOk le to ri bo w g := fun q => (hF.2 q).1
  have hfm : fo = 1 → frOk xle xto xri xbo w g := fun q => by
    obtain ⟨a, b, c, d, e⟩ := hF.2 q
    rw [b, c, d, e]; exact a
  have hL' := hL
  unfold lyOk at hL'
  have mq := mbd (A := 4) (B := 4) (a := co) (b := ro) (by omega) (by omega)
  have i_t := h_t
  unfold inI at i_t
  refine ⟨iI t, _, rfl, rfl, ?_⟩
  refine ⟨_, _, _, _, _, _, _, _, _, _, _, _, _, _, _, _, _, _, _, _, _, _, _, _, _, _, _, _, _, rfl, rfl, h_t, hT.1.1, fun hc => ?_, fun hc => ?_, fun hc => ?_, fun hc => ?_, fun hc => ?_, fun hc => ?_, fun hc => ?_⟩
  · skip
    refine ⟨0, 10, rfl, at_end _ _, 1, by rw [nI1], ⟨_, rfl⟩, ?_⟩
    show G_M_count [.ref 21, .int (iI t)] (cC :: cI (iI w) (iI g) :: aI np pf :: aI nl lf :: cF (iI fo) (iI le) (iI to) (iI ri) (iI bo) :: cY (iI co) (iI ro) (iI qu) :: cP a1 a2 a3 a4 :: cT (iI nt) :: aZ 16 zf :: aI 48 tp :: cN (iI fi) :: aL 3 fa :: aL 3 fb :: aL 3 fd :: cS b1 b2 b3 b4 b5 :: cR (iI rk) (iI sg) :: aC 20 tx :: aC 8 kf :: aC 8 wf :: aI 8 ll :: cS (iI dn) (lI sx) (lI sy) (lI sxx) (lI sxy) :: cM (iI th) (iI w) (iI g) (iI fo) (iI xle) (iI xto) (iI xri) (iI xbo) (iI co) (iI ro) (iI qu) (iI nt) (iI fi) (iI sg) (iI rk) (iI dn) ce su sq :: aI 2700 mp :: aI 900 ml :: aZ 16 mh :: aI 48 mt :: aL 3 ma :: aL 3 mb :: aL 3 md :: aI 20 mx_ :: aI 8 mk :: aI 8 mw :: aI 8 mi :: aI 40 my :: aI 40 mv :: aL 1 out :: (rest ++ [xB])) (PI 1)
    refine ⟨_, _, [cC, cI (iI w) (iI g), aI np pf, aI nl lf, cF (iI fo) (iI le) (iI to) (iI ri) (iI bo), cY (iI co) (iI ro) (iI qu), cP a1 a2 a3 a4, cT (iI nt), aZ 16 zf, aI 48 tp, cN (iI fi), aL 3 fa, aL 3 fb, aL 3 fd, cS b1 b2 b3 b4 b5, cR (iI rk) (iI sg), aC 20 tx, aC 8 kf, aC 8 wf, aI 8 ll, cS (iI dn) (lI sx) (lI sy) (lI sxx) (lI sxy)], _, _, _, _, _, _, _, _, _, _, _, _, _, _, _, _, _, _, _, _, _, _, _, rfl, rfl, rfl, h_t, hT.2.1, ?_, ?_, ?_, ?_, ?_, ?_, ?_⟩
    · intro q1
      exact ⟨_, rfl, ⟨_, _, _, _, _, _, _, _, _, _, _, _, _, _, _, _, _, _, _, _, _, _, _, _, _, _, _, _, _, _, _, _, _, _, _, _, _, _, _, _, _, _, _, _, _, _, _, _, _, _, _, _, _, _, _, _, _, _, _, _, _, _, _, _, _, _, _, _, _, _, _, _, _, _, _, _, rfl, hP, hF, hL, hT, hN, hR, hD⟩, fun q => absurd q (by decide)⟩
    · intro q1
      exfalso; omega
    · intro q1
      exfalso; omega
    · intro q1
      exfalso; omega
    · intro q1
      exfalso; omega
    · intro q1
      exfalso; omega
    · intro q1
      exfalso; omega
  · refine ⟨_, out, rfl, rfl, 0, rfl, ⟨_, rfl⟩, ?_⟩
    show G_M_count [.ref 21, .int (iI t)] (cC :: cI (iI w) (iI g) :: aI np pf :: aI nl lf :: cF (iI fo) (iI le) (iI to) (iI ri) (iI bo) :: cY (iI co) (iI ro) (iI qu) :: cP a1 a2 a3 a4 :: cT (iI nt) :: aZ 16 zf :: aI 48 tp :: cN (iI fi) :: aL 3 fa :: aL 3 fb :: aL 3 fd :: cS b1 b2 b3 b4 b5 :: cR (iI rk) (iI sg) :: aC 20 tx :: aC 8 kf :: aC 8 wf :: aI 8 ll :: cS (iI dn) (lI sx) (lI sy) (lI sxx) (lI sxy) :: cM (iI th) (iI w) (iI g) (iI fo) (iI xle) (iI xto) (iI xri) (iI xbo) (iI co) (iI ro) (iI qu) (iI nt) (iI fi) (iI sg) (iI rk) (iI dn) ce su sq :: aI 2700 mp :: aI 900 ml :: aZ 16 mh :: aI 48 mt :: aL 3 ma :: aL 3 mb :: aL 3 md :: aI 20 mx_ :: aI 8 mk :: aI 8 mw :: aI 8 mi :: aI 40 my :: aI 40 mv :: aL 1 (vp_updL out 0 (iI (w)).toInt64) :: rest) (PI 0)
    refine ⟨_, _, [cC, cI (iI w) (iI g), aI np pf, aI nl lf, cF (iI fo) (iI le) (iI to) (iI ri) (iI bo), cY (iI co) (iI ro) (iI qu), cP a1 a2 a3 a4, cT (iI nt), aZ 16 zf, aI 48 tp, cN (iI fi), aL 3 fa, aL 3 fb, aL 3 fd, cS b1 b2 b3 b4 b5, cR (iI rk) (iI sg), aC 20 tx, aC 8 kf, aC 8 wf, aI 8 ll, cS (iI dn) (lI sx) (lI sy) (lI sxx) (lI sxy)], _, _, _, _, _, _, _, _, _, _, _, _, _, _, _, _, _, _, _, _, _, _, _, rfl, rfl, rfl, h_t, hT.2.1, ?_, ?_, ?_, ?_, ?_, ?_, ?_⟩
    · intro q1
      exfalso; omega
    · intro q1
      refine ⟨_, rfl, ⟨_, _, _, _, _, _, _, _, _, _, _, _, _, _, _, _, _, _, _, _, _, _, _, _, _, _, _, _, _, _, _, _, _, _, _, _, _, _, _, _, _, _, _, _, _, _, _, _, _, _, _, _, _, _, _, _, _, _, _, _, _, _, _, _, _, _, _, _, _, _, _, _, _, _, _, _, rfl, hP, hF, hL, hT, hN, hR, hD⟩, fun _ => ⟨_, rfl, outz.trans ?_⟩⟩
      rfl
    · intro q1
      exfalso; omega
    · intro q1
      exfalso; omega
    · intro q1
      exfalso; omega
    · intro q1
      exfalso; omega
    · intro q1
      exfalso; omega
  · refine ⟨_, out, rfl, rfl, 0, rfl, ⟨_, rfl⟩, ?_⟩
    show G_M_count [.ref 21, .int (iI t)] (cC :: cI (iI w) (iI g) :: aI np pf :: aI nl lf :: cF (iI fo) (iI le) (iI to) (iI ri) (iI bo) :: cY (iI co) (iI ro) (iI qu) :: cP a1 a2 a3 a4 :: cT (iI nt) :: aZ 16 zf :: aI 48 tp :: cN (iI fi) :: aL 3 fa :: aL 3 fb :: aL 3 fd :: cS b1 b2 b3 b4 b5 :: cR (iI rk) (iI sg) :: aC 20 tx :: aC 8 kf :: aC 8 wf :: aI 8 ll :: cS (iI dn) (lI sx) (lI sy) (lI sxx) (lI sxy) :: cM (iI th) (iI w) (iI g) (iI fo) (iI xle) (iI xto) (iI xri) (iI xbo) (iI co) (iI ro) (iI qu) (iI nt) (iI fi) (iI sg) (iI rk) (iI dn) ce su sq :: aI 2700 mp :: aI 900 ml :: aZ 16 mh :: aI 48 mt :: aL 3 ma :: aL 3 mb :: aL 3 md :: aI 20 mx_ :: aI 8 mk :: aI 8 mw :: aI 8 mi :: aI 40 my :: aI 40 mv :: aL 1 (vp_updL out 0 (iI (g)).toInt64) :: rest) (PI 0)
    refine ⟨_, _, [cC, cI (iI w) (iI g), aI np pf, aI nl lf, cF (iI fo) (iI le) (iI to) (iI ri) (iI bo), cY (iI co) (iI ro) (iI qu), cP a1 a2 a3 a4, cT (iI nt), aZ 16 zf, aI 48 tp, cN (iI fi), aL 3 fa, aL 3 fb, aL 3 fd, cS b1 b2 b3 b4 b5, cR (iI rk) (iI sg), aC 20 tx, aC 8 kf, aC 8 wf, aI 8 ll, cS (iI dn) (lI sx) (lI sy) (lI sxx) (lI sxy)], _, _, _, _, _, _, _, _, _, _, _, _, _, _, _, _, _, _, _, _, _, _, _, rfl, rfl, rfl, h_t, hT.2.1, ?_, ?_, ?_, ?_, ?_, ?_, ?_⟩
    · intro q1
      exfalso; omega
    · intro q1
      exfalso; omega
    · intro q1
      refine ⟨_, rfl, ⟨_, _, _, _, _, _, _, _, _, _, _, _, _, _, _, _, _, _, _, _, _, _, _, _, _, _, _, _, _, _, _, _, _, _, _, _, _, _, _, _, _, _, _, _, _, _, _, _, _, _, _, _, _, _, _, _, _, _, _, _, _, _, _, _, _, _, _, _, _, _, _, _, _, _, _, _, rfl, hP, hF, hL, hT, hN, hR, hD⟩, fun _ => ⟨_, rfl, outz.trans ?_⟩⟩
      rfl
    · intro q1
      exfalso; omega
    · intro q1
      exfalso; omega
    · intro q1
      exfalso; omega
    · intro q1
      exfalso; omega
  · refine ⟨_, out, rfl, rfl, 0, rfl, ⟨_, rfl⟩, ?_⟩
    show G_M_count [.ref 21, .int (iI t)] (cC :: cI (iI w) (iI g) :: aI np pf :: aI nl lf :: cF (iI fo) (iI le) (iI to) (iI ri) (iI bo) :: cY (iI co) (iI ro) (iI qu) :: cP a1 a2 a3 a4 :: cT (iI nt) :: aZ 16 zf :: aI 48 tp :: cN (iI fi) :: aL 3 fa :: aL 3 fb :: aL 3 fd :: cS b1 b2 b3 b4 b5 :: cR (iI rk) (iI sg) :: aC 20 tx :: aC 8 kf :: aC 8 wf :: aI 8 ll :: cS (iI dn) (lI sx) (lI sy) (lI sxx) (lI sxy) :: cM (iI th) (iI w) (iI g) (iI fo) (iI xle) (iI xto) (iI xri) (iI xbo) (iI co) (iI ro) (iI qu) (iI nt) (iI fi) (iI sg) (iI rk) (iI dn) ce su sq :: aI 2700 mp :: aI 900 ml :: aZ 16 mh :: aI 48 mt :: aL 3 ma :: aL 3 mb :: aL 3 md :: aI 20 mx_ :: aI 8 mk :: aI 8 mw :: aI 8 mi :: aI 40 my :: aI 40 mv :: aL 1 (vp_updL out 0 (iI (sm (fun p => bI (has p)) 0 16)).toInt64) :: rest) (PI 0)
    refine ⟨_, _, [cC, cI (iI w) (iI g), aI np pf, aI nl lf, cF (iI fo) (iI le) (iI to) (iI ri) (iI bo), cY (iI co) (iI ro) (iI qu), cP a1 a2 a3 a4, cT (iI nt), aZ 16 zf, aI 48 tp, cN (iI fi), aL 3 fa, aL 3 fb, aL 3 fd, cS b1 b2 b3 b4 b5, cR (iI rk) (iI sg), aC 20 tx, aC 8 kf, aC 8 wf, aI 8 ll, cS (iI dn) (lI sx) (lI sy) (lI sxx) (lI sxy)], _, _, _, _, _, _, _, _, _, _, _, _, _, _, _, _, _, _, _, _, _, _, _, rfl, rfl, rfl, h_t, hT.2.1, ?_, ?_, ?_, ?_, ?_, ?_, ?_⟩
    · intro q1
      exfalso; omega
    · intro q1
      exfalso; omega
    · intro q1
      exfalso; omega
    · intro q1
      refine ⟨_, rfl, ⟨_, _, _, _, _, _, _, _, _, _, _, _, _, _, _, _, _, _, _, _, _, _, _, _, _, _, _, _, _, _, _, _, _, _, _, _, _, _, _, _, _, _, _, _, _, _, _, _, _, _, _, _, _, _, _, _, _, _, _, _, _, _, _, _, _, _, _, _, _, _, _, _, _, _, _, _, rfl, hP, hF, hL, hT, hN, hR, hD⟩, fun _ => ⟨_, rfl, outz.trans ?_⟩⟩
      rfl
    · intro q1
      exfalso; omega
    · intro q1
      exfalso; omega
    · intro q1
      exfalso; omega
  · refine ⟨_, out, rfl, rfl, 0, rfl, ⟨_, rfl⟩, ?_⟩
    show G_M_count [.ref 21, .int (iI t)] (cC :: cI (iI w) (iI g) :: aI np pf :: aI nl lf :: cF (iI fo) (iI le) (iI to) (iI ri) (iI bo) :: cY (iI co) (iI ro) (iI qu) :: cP a1 a2 a3 a4 :: cT (iI nt) :: aZ 16 zf :: aI 48 tp :: cN (iI fi) :: aL 3 fa :: aL 3 fb :: aL 3 fd :: cS b1 b2 b3 b4 b5 :: cR (iI rk) (iI sg) :: aC 20 tx :: aC 8 kf :: aC 8 wf :: aI 8 ll :: cS (iI dn) (lI sx) (lI sy) (lI sxx) (lI sxy) :: cM (iI th) (iI w) (iI g) (iI fo) (iI xle) (iI xto) (iI xri) (iI xbo) (iI co) (iI ro) (iI qu) (iI nt) (iI fi) (iI sg) (iI rk) (iI dn) ce su sq :: aI 2700 mp :: aI 900 ml :: aZ 16 mh :: aI 48 mt :: aL 3 ma :: aL 3 mb :: aL 3 md :: aI 20 mx_ :: aI 8 mk :: aI 8 mw :: aI 8 mi :: aI 40 my :: aI 40 mv :: aL 1 (vp_updL out 0 (iI (rk)).toInt64) :: rest) (PI 0)
    refine ⟨_, _, [cC, cI (iI w) (iI g), aI np pf, aI nl lf, cF (iI fo) (iI le) (iI to) (iI ri) (iI bo), cY (iI co) (iI ro) (iI qu), cP a1 a2 a3 a4, cT (iI nt), aZ 16 zf, aI 48 tp, cN (iI fi), aL 3 fa, aL 3 fb, aL 3 fd, cS b1 b2 b3 b4 b5, cR (iI rk) (iI sg), aC 20 tx, aC 8 kf, aC 8 wf, aI 8 ll, cS (iI dn) (lI sx) (lI sy) (lI sxx) (lI sxy)], _, _, _, _, _, _, _, _, _, _, _, _, _, _, _, _, _, _, _, _, _, _, _, rfl, rfl, rfl, h_t, hT.2.1, ?_, ?_, ?_, ?_, ?_, ?_, ?_⟩
    · intro q1
      exfalso; omega
    · intro q1
      exfalso; omega
    · intro q1
      exfalso; omega
    · intro q1
      exfalso; omega
    · intro q1
      refine ⟨_, rfl, ⟨_, _, _, _, _, _, _, _, _, _, _, _, _, _, _, _, _, _, _, _, _, _, _, _, _, _, _, _, _, _, _, _, _, _, _, _, _, _, _, _, _, _, _, _, _, _, _, _, _, _, _, _, _, _, _, _, _, _, _, _, _, _, _, _, _, _, _, _, _, _, _, _, _, _, _, _, rfl, hP, hF, hL, hT, hN, hR, hD⟩, fun _ => ⟨_, rfl, outz.trans ?_⟩⟩
      rfl
    · intro q1
      exfalso; omega
    · intro q1
      exfalso; omega
  · refine ⟨_, out, rfl, rfl, 0, rfl, ⟨_, rfl⟩, ?_⟩
    show G_M_count [.ref 21, .int (iI t)] (cC :: cI (iI w) (iI g) :: aI np pf :: aI nl lf :: cF (iI fo) (iI le) (iI to) (iI ri) (iI bo) :: cY (iI co) (iI ro) (iI qu) :: cP a1 a2 a3 a4 :: cT (iI nt) :: aZ 16 zf :: aI 48 tp :: cN (iI fi) :: aL 3 fa :: aL 3 fb :: aL 3 fd :: cS b1 b2 b3 b4 b5 :: cR (iI rk) (iI sg) :: aC 20 tx :: aC 8 kf :: aC 8 wf :: aI 8 ll :: cS (iI dn) (lI sx) (lI sy) (lI sxx) (lI sxy) :: cM (iI th) (iI w) (iI g) (iI fo) (iI xle) (iI xto) (iI xri) (iI xbo) (iI co) (iI ro) (iI qu) (iI nt) (iI fi) (iI sg) (iI rk) (iI dn) ce su sq :: aI 2700 mp :: aI 900 ml :: aZ 16 mh :: aI 48 mt :: aL 3 ma :: aL 3 mb :: aL 3 md :: aI 20 mx_ :: aI 8 mk :: aI 8 mw :: aI 8 mi :: aI 40 my :: aI 40 mv :: aL 1 (vp_updL out 0 (iI (dn)).toInt64) :: rest) (PI 0)
    refine ⟨_, _, [cC, cI (iI w) (iI g), aI np pf, aI nl lf, cF (iI fo) (iI le) (iI to) (iI ri) (iI bo), cY (iI co) (iI ro) (iI qu), cP a1 a2 a3 a4, cT (iI nt), aZ 16 zf, aI 48 tp, cN (iI fi), aL 3 fa, aL 3 fb, aL 3 fd, cS b1 b2 b3 b4 b5, cR (iI rk) (iI sg), aC 20 tx, aC 8 kf, aC 8 wf, aI 8 ll, cS (iI dn) (lI sx) (lI sy) (lI sxx) (lI sxy)], _, _, _, _, _, _, _, _, _, _, _, _, _, _, _, _, _, _, _, _, _, _, _, rfl, rfl, rfl, h_t, hT.2.1, ?_, ?_, ?_, ?_, ?_, ?_, ?_⟩
    · intro q1
      exfalso; omega
    · intro q1
      exfalso; omega
    · intro q1
      exfalso; omega
    · intro q1
      exfalso; omega
    · intro q1
      exfalso; omega
    · intro q1
      refine ⟨_, rfl, ⟨_, _, _, _, _, _, _, _, _, _, _, _, _, _, _, _, _, _, _, _, _, _, _, _, _, _, _, _, _, _, _, _, _, _, _, _, _, _, _, _, _, _, _, _, _, _, _, _, _, _, _, _, _, _, _, _, _, _, _, _, _, _, _, _, _, _, _, _, _, _, _, _, _, _, _, _, rfl, hP, hF, hL, hT, hN, hR, hD⟩, fun _ => ⟨_, rfl, outz.trans ?_⟩⟩
      rfl
    · intro q1
      exfalso; omega
  · refine ⟨_, out, rfl, rfl, 0, rfl, ⟨_, rfl⟩, ?_⟩
    show G_M_count [.ref 21, .int (iI t)] (cC :: cI (iI w) (iI g) :: aI np pf :: aI nl lf :: cF (iI fo) (iI le) (iI to) (iI ri) (iI bo) :: cY (iI co) (iI ro) (iI qu) :: cP a1 a2 a3 a4 :: cT (iI nt) :: aZ 16 zf :: aI 48 tp :: cN (iI fi) :: aL 3 fa :: aL 3 fb :: aL 3 fd :: cS b1 b2 b3 b4 b5 :: cR (iI rk) (iI sg) :: aC 20 tx :: aC 8 kf :: aC 8 wf :: aI 8 ll :: cS (iI dn) (lI sx) (lI sy) (lI sxx) (lI sxy) :: cM (iI th) (iI w) (iI g) (iI fo) (iI xle) (iI xto) (iI xri) (iI xbo) (iI co) (iI ro) (iI qu) (iI nt) (iI fi) (iI sg) (iI rk) (iI dn) ce su sq :: aI 2700 mp :: aI 900 ml :: aZ 16 mh :: aI 48 mt :: aL 3 ma :: aL 3 mb :: aL 3 md :: aI 20 mx_ :: aI 8 mk :: aI 8 mw :: aI 8 mi :: aI 40 my :: aI 40 mv :: aL 1 (vp_updL out 0 (iI (sg)).toInt64) :: rest) (PI 0)
    refine ⟨_, _, [cC, cI (iI w) (iI g), aI np pf, aI nl lf, cF (iI fo) (iI le) (iI to) (iI ri) (iI bo), cY (iI co) (iI ro) (iI qu), cP a1 a2 a3 a4, cT (iI nt), aZ 16 zf, aI 48 tp, cN (iI fi), aL 3 fa, aL 3 fb, aL 3 fd, cS b1 b2 b3 b4 b5, cR (iI rk) (iI sg), aC 20 tx, aC 8 kf, aC 8 wf, aI 8 ll, cS (iI dn) (lI sx) (lI sy) (lI sxx) (lI sxy)], _, _, _, _, _, _, _, _, _, _, _, _, _, _, _, _, _, _, _, _, _, _, _, rfl, rfl, rfl, h_t, hT.2.1, ?_, ?_, ?_, ?_, ?_, ?_, ?_⟩
    · intro q1
      exfalso; omega
    · intro q1
      exfalso; omega
    · intro q1
      exfalso; omega
    · intro q1
      exfalso; omega
    · intro q1
      exfalso; omega
    · intro q1
      exfalso; omega
    · intro q1
      refine ⟨_, rfl, ⟨_, _, _, _, _, _, _, _, _, _, _, _, _, _, _, _, _, _, _, _, _, _, _, _, _, _, _, _, _, _, _, _, _, _, _, _, _, _, _, _, _, _, _, _, _, _, _, _, _, _, _, _, _, _, _, _, _, _, _, _, _, _, _, _, _, _, _, _, _, _, _, _, _, _, _, _, rfl, hP, hF, hL, hT, hN, hR, hD⟩, fun _ => ⟨_, rfl, outz.trans ?_⟩⟩
      rfl
theorem frame_of {d : Int → Int → Bool} {w g u v : Int} {s : Int × Int × Int × Int} (hw : 6 ≤ w ∧ w ≤ 30 ∧ 6 ≤ g ∧ g ≤ 30) (hb : bok w g w g s) (hf : fnd d s) : frOk s.1 s.2.1 s.2.2.1 s.2.2.2 w g := by
  have h1 := hf.1
  have h2 := hf.2.1
  rcases hb with rfl | hb
  · (try dsimp only at h1); omega
  · unfold frOk; omega
set_option maxHeartbeats 4000000 in
set_option maxRecDepth 100000 in
theorem st_find {th : Int} {h : ah_H} (hI : InvT th h) : G_C_find [.ref 0] h (fun r_ h' => ∃ f : Int, r_ = .inl (some (.int (iI f))) ∧ (∃ fs, h'[21]? = some (.inr (9, fs))) ∧ G_M_find [.ref 21] h' (fun r2 h2 => r2 = .inl (some (.int (iI f))) ∧ InvT 0 h2)) := by
  refine inv_el (P := fun h => G_C_find [.ref 0] h (fun r_ h' => ∃ f : Int, r_ = .inl (some (.int (iI f))) ∧ (∃ fs, h'[21]? = some (.inr (9, fs))) ∧ G_M_find [.ref 21] h' (fun r2 h2 => r2 = .inl (some (.int (iI f))) ∧ InvT 0 h2))) hI ?_
  intro w g np nl pf lf fo le to ri bo co ro qu a1 a2 a3 a4 nt zf tp fi fa fb fd b1 b2 b3 b4 b5 rk sg tx kf wf ll dn sx sy sxx sxy xle xto xri xbo ce su sq mp ml mh mt ma mb md mx_ mk mw mi my mv out rest pic lig has tg A B D T kd wy lm X Y hP hF hL hT hN hR hD
  have hw := hP.1.1
  refine ⟨_, _, _, _, _, _, _, _, _, _, _, _, _, _, rfl, rfl, hP.1, fun hb f hf => ⟨f, rfl, ⟨_, rfl⟩, ?_⟩⟩
  have rl := rel_all (d := dk pic) (w := w) (g := g) (by omega) (by omega) (by omega) g.toNat 0 (w, g, -1, -1) (99, 99, -1, -1) (by omega) (by omega) (Or.inl ⟨rfl, rfl⟩)
  have rf := rel_fnd (d := dk pic) (by omega) rl
  show G_M_find [.ref 21] (cC :: cI (iI w) (iI g) :: aI np pf :: aI nl lf :: cF (iI f) (iI (allF (dk pic) w.toNat 0 g.toNat (w, g, -1, -1)).1) (iI (allF (dk pic) w.toNat 0 g.toNat (w, g, -1, -1)).2.1) (iI (allF (dk pic) w.toNat 0 g.toNat (w, g, -1, -1)).2.2.1) (iI (allF (dk pic) w.toNat 0 g.toNat (w, g, -1, -1)).2.2.2) :: cY (iI co) (iI ro) (iI qu) :: cP a1 a2 a3 a4 :: cT (iI nt) :: aZ 16 zf :: aI 48 tp :: cN (iI fi) :: aL 3 fa :: aL 3 fb :: aL 3 fd :: cS b1 b2 b3 b4 b5 :: cR (iI rk) (iI sg) :: aC 20 tx :: aC 8 kf :: aC 8 wf :: aI 8 ll :: cS (iI dn) (lI sx) (lI sy) (lI sxx) (lI sxy) :: cM (iI th) (iI w) (iI g) (iI fo) (iI xle) (iI xto) (iI xri) (iI xbo) (iI co) (iI ro) (iI qu) (iI nt) (iI fi) (iI sg) (iI rk) (iI dn) ce su sq :: aI 2700 mp :: aI 900 ml :: aZ 16 mh :: aI 48 mt :: aL 3 ma :: aL 3 mb :: aL 3 md :: aI 20 mx_ :: aI 8 mk :: aI 8 mw :: aI 8 mi :: aI 40 my :: aI 40 mv :: aL 1 out :: rest) _
  refine ⟨[cC, cI (iI w) (iI g), aI np pf, aI nl lf, cF (iI f) (iI (allF (dk pic) w.toNat 0 g.toNat (w, g, -1, -1)).1) (iI (allF (dk pic) w.toNat 0 g.toNat (w, g, -1, -1)).2.1) (iI (allF (dk pic) w.toNat 0 g.toNat (w, g, -1, -1)).2.2.1) (iI (allF (dk pic) w.toNat 0 g.toNat (w, g, -1, -1)).2.2.2), cY (iI co) (iI ro) (iI qu), cP a1 a2 a3 a4, cT (iI nt), aZ 16 zf, aI 48 tp, cN (iI fi), aL 3 fa, aL 3 fb, aL 3 fd, cS b1 b2 b3 b4 b5, cR (iI rk) (iI sg), aC 20 tx, aC 8 kf, aC 8 wf, aI 8 ll, cS (iI dn) (lI sx) (lI sy) (lI sxx) (lI sxy)], _, _, _, _, _, _, _, _, _, _, _, _, _, _, _, _, _, _, _, _, _, _, _, _, rfl, rfl, rfl, hw, hP.2, fun hb2 f2 hf2 => ?_⟩
  have ef : f2 = f := by
    rcases hf with ⟨rfl, hf⟩ | ⟨rfl, hf⟩ <;> rcases hf2 with ⟨rfl, hf2⟩ | ⟨rfl, hf2⟩
    · rfl
    · exact absurd (rf.1.mp hf) hf2
    · exact absurd (rf.1.mpr hf2) hf
    · rfl
  subst ef
  have hF2 : okF f2 (allF (dk pic) w.toNat 0 g.toNat (w, g, -1, -1)).1 (allF (dk pic) w.toNat 0 g.toNat (w, g, -1, -1)).2.1 (allF (dk pic) w.toNat 0 g.toNat (w, g, -1, -1)).2.2.1 (allF (dk pic) w.toNat 0 g.toNat (w, g, -1, -1)).2.2.2 (allF (dk pic) w.toNat 0 g.toNat (99, 99, -1, -1)).1 (allF (dk pic) w.toNat 0 g.toNat (99, 99, -1, -1)).2.1 (allF (dk pic) w.toNat 0 g.toNat (99, 99, -1, -1)).2.2.1 (allF (dk pic) w.toNat 0 g.toNat (99, 99, -1, -1)).2.2.2 w g := by
    refine ⟨by rcases hf with hf | hf <;> omega, fun q => ?_⟩
    rcases hf with ⟨_, hf⟩ | ⟨hf, _⟩
    · have es := rf.2 hf
      rw [← es]
      exact ⟨frame_of (u := w) (v := g) hw hb hf, rfl, rfl, rfl, rfl⟩
    · omega
  exact ⟨rfl, ⟨_, _, _, _, _, _, _, _, _, _, _, _, _, _, _, _, _, _, _, _, _, _, _, _, _, _, _, _, _, _, _, _, _, _, _, _, _, _, _, _, _, _, _, _, _, _, _, _, _, _, _, _, _, _, _, _, _, _, _, _, _, _, _, _, _, _, _, _, _, _, _, _, _, _, _, _, rfl, hP, hF2, hL, hT, hN, hR, hD⟩⟩
set_option maxHeartbeats 4000000 in
set_option maxRecDepth 100000 in
theorem st_thrown {th : Int} {h : ah_H} {K : ah_R → ah_H → Prop} (hI : InvT th h) (hK : K (.inl (some (.int (iI th)))) h) : G_M_thrown [.ref 21] h K := by
  revert hK
  refine inv_el (P := fun h => K (.inl (some (.int (iI th)))) h → G_M_thrown [.ref 21] h K) hI ?_
  intro w g np nl pf lf fo le to ri bo co ro qu a1 a2 a3 a4 nt zf tp fi fa fb fd b1 b2 b3 b4 b5 rk sg tx kf wf ll dn sx sy sxx sxy xle xto xri xbo ce su sq mp ml mh mt ma mb md mx_ mk mw mi my mv out rest pic lig has tg A B D T kd wy lm X Y hP hF hL hT hN hR hD hK
  exact ⟨[cC, cI (iI w) (iI g), aI np pf, aI nl lf, cF (iI fo) (iI le) (iI to) (iI ri) (iI bo), cY (iI co) (iI ro) (iI qu), cP a1 a2 a3 a4, cT (iI nt), aZ 16 zf, aI 48 tp, cN (iI fi), aL 3 fa, aL 3 fb, aL 3 fd, cS b1 b2 b3 b4 b5, cR (iI rk) (iI sg), aC 20 tx, aC 8 kf, aC 8 wf, aI 8 ll, cS (iI dn) (lI sx) (lI sy) (lI sxx) (lI sxy)], _, _, _, _, _, _, _, _, _, _, _, _, _, _, _, _, _, _, _, _, rfl, rfl, rfl, hK⟩
theorem inv_0 {th : Int} {h : ah_H} (hI : InvT th h) : h[0]? = some cC := by
  refine inv_el (P := fun h => h[0]? = some cC) hI ?_
  intros
  rfl
theorem inv_21 {th : Int} {h : ah_H} (hI : InvT th h) : ∃ fs, h[21]? = some (.inr (9, fs)) := by
  refine inv_el (P := fun h => ∃ fs, h[21]? = some (.inr (9, fs))) hI ?_
  intros
  exact ⟨_, rfl⟩
