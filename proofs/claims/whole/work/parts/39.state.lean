/-! What each call does to the state that class and reference share. -/
theorem cell_inj {a b x y w : Int} (a0 : 0 ≤ a) (a1 : a < w) (x0 : 0 ≤ x) (x1 : x < w) (h : b * w + a = y * w + x) : a = x ∧ b = y := by
  have h1 := (dm_iff (m := w) (a := b) (b := a) (p := y * w + x) (by omega) a0 a1).mp (by rw [Int.mul_comm w b]; exact h)
  have h2 := (dm_iff (m := w) (a := y) (b := x) (p := y * w + x) (by omega) x0 x1).mp (by rw [Int.mul_comm w y])
  exact ⟨h1.2.trans h2.2.symm, h1.1.trans h2.1.symm⟩
def pset (pic : Int → Int → Int → Int) (x y p v : Int) : Int → Int → Int → Int := fun a b c => if a = x ∧ b = y ∧ c = p then v else pic a b c
def lset (lig : Int → Int → Int) (x y v : Int) : Int → Int → Int := fun a b => if a = x ∧ b = y then v else lig a b
theorem upd_same {f : Nat → Int32} {i : Nat} {x : Int32} : upd f i x i = x := by simp [upd]
theorem upd_other {f : Nat → Int32} {i j : Nat} {x : Int32} (h : j ≠ i) : upd f i x j = f j := by simp [upd, h]
theorem pic_set {w g : Int} {np nl : Nat} {pf lf : Nat → Int32} {pic : Int → Int → Int → Int} {lig : Int → Int → Int} {x y p v : Int} (h : picOk w g np nl pf lf pic lig) (x0 : 0 ≤ x) (x1 : x < w) (y0 : 0 ≤ y) (y1 : y < g) (p0 : 0 ≤ p) (p1 : p < 3) (v0 : 0 ≤ v) (v1 : v ≤ 255) : picOk w g np nl (upd pf ((y * w + x) * 3 + p).toNat (iI v)) lf (pset pic x y p v) lig := by
  obtain ⟨hw, hn, hp, hl, bp, bl⟩ := h
  refine ⟨hw, hn, fun a b c a0 a1 b0 b1 c0 c1 => ?_, hl, fun a b c => ?_, bl⟩
  · have ca := cell_in hw a0 a1 b0 b1
    have cx := cell_in hw x0 x1 y0 y1
    unfold pset
    by_cases e : a = x ∧ b = y ∧ c = p
    · rw [if_pos e]
      obtain ⟨rfl, rfl, rfl⟩ := e
      exact upd_same
    · rw [if_neg e]
      have hne : ((b * w + a) * 3 + c).toNat ≠ ((y * w + x) * 3 + p).toNat := by
        intro q
        have q3 : b * w + a = y * w + x ∧ c = p := by omega
        have q4 := cell_inj a0 a1 x0 x1 q3.1
        exact e ⟨q4.1, q4.2, q3.2⟩
      rw [upd_other hne]
      exact hp a b c a0 a1 b0 b1 c0 c1
  · unfold pset
    split
    · exact ⟨v0, v1⟩
    · exact bp a b c
theorem lig_set {w g : Int} {np nl : Nat} {pf lf : Nat → Int32} {pic : Int → Int → Int → Int} {lig : Int → Int → Int} {x y v : Int} (h : picOk w g np nl pf lf pic lig) (x0 : 0 ≤ x) (x1 : x < w) (y0 : 0 ≤ y) (y1 : y < g) (v0 : 0 ≤ v) (v1 : v ≤ 255) : picOk w g np nl pf (upd lf (y * w + x).toNat (iI v)) pic (lset lig x y v) := by
  obtain ⟨hw, hn, hp, hl, bp, bl⟩ := h
  refine ⟨hw, hn, hp, fun a b a0 a1 b0 b1 => ?_, bp, fun a b => ?_⟩
  · have ca := cell_in hw a0 a1 b0 b1
    have cx := cell_in hw x0 x1 y0 y1
    unfold lset
    by_cases e : a = x ∧ b = y
    · rw [if_pos e]
      obtain ⟨rfl, rfl⟩ := e
      exact upd_same
    · rw [if_neg e]
      have hne : (b * w + a).toNat ≠ (y * w + x).toNat := by
        intro q
        have q4 := cell_inj a0 a1 x0 x1 (show b * w + a = y * w + x by omega)
        exact e q4
      rw [upd_other hne]
      exact hl a b a0 a1 b0 b1
  · unfold lset
    split
    · exact ⟨v0, v1⟩
    · exact bl a b
theorem mp_set {mp ml : Nat → Int32} {pic : Int → Int → Int → Int} {lig : Int → Int → Int} {x y p v : Int} (h : mpOk mp ml pic lig) (x0 : 0 ≤ x) (x1 : x < 30) (y0 : 0 ≤ y) (y1 : y < 30) (p0 : 0 ≤ p) (p1 : p < 3) (v0 : 0 ≤ v) (v1 : v ≤ 255) : mpOk (upd mp (3 * (30 * y + x) + p).toNat (iI v)) ml (pset pic x y p v) lig := by
  obtain ⟨hp, hl, bp, bl⟩ := h
  refine ⟨fun a b c a0 a1 b0 b1 c0 c1 => ?_, hl, fun a b c => ?_, bl⟩
  · unfold pset
    by_cases e : a = x ∧ b = y ∧ c = p
    · rw [if_pos e]
      obtain ⟨rfl, rfl, rfl⟩ := e
      exact upd_same
    · rw [if_neg e, upd_other (by omega)]
      exact hp a b c a0 a1 b0 b1 c0 c1
  · unfold pset
    split
    · exact ⟨v0, v1⟩
    · exact bp a b c
theorem ml_set {mp ml : Nat → Int32} {pic : Int → Int → Int → Int} {lig : Int → Int → Int} {x y v : Int} (h : mpOk mp ml pic lig) (x0 : 0 ≤ x) (x1 : x < 30) (y0 : 0 ≤ y) (y1 : y < 30) (v0 : 0 ≤ v) (v1 : v ≤ 255) : mpOk mp (upd ml (30 * y + x).toNat (iI v)) pic (lset lig x y v) := by
  obtain ⟨hp, hl, bp, bl⟩ := h
  refine ⟨hp, fun a b a0 a1 b0 b1 => ?_, bp, fun a b => ?_⟩
  · unfold lset
    by_cases e : a = x ∧ b = y
    · rw [if_pos e]
      obtain ⟨rfl, rfl⟩ := e
      exact upd_same
    · rw [if_neg e, upd_other (by omega)]
      exact hl a b a0 a1 b0 b1
  · unfold lset
    split
    · exact ⟨v0, v1⟩
    · exact bl a b
/-- targets, of class and of reference -/
def okT (nt : Int) (zf tp mh mt : Nat → Int32) (has : Int → Bool) (tg : Int → Int → Int) : Prop := (zOk 16 zf has ∧ tOk tp has tg ∧ tgB tg has ∧ (0 ≤ nt → has nt = true) ∧ -1 ≤ nt ∧ nt < 16) ∧ zOk 16 mh has ∧ tOk mt has tg
def hset (has : Int → Bool) (x : Int) (b : Bool) : Int → Bool := fun a => if a = x then b else has a
def tset (tg : Int → Int → Int) (x r g b : Int) : Int → Int → Int := fun a c => if a = x then (if c = 0 then r else if c = 1 then g else b) else tg a c
theorem z_set {zf : Nat → Int32} {has : Int → Bool} {x : Int} {b : Bool} {v : Int32} (h : zOk 16 zf has) (x0 : 0 ≤ x) (hv : v = if b then iI 1 else iI 0) : zOk 16 (upd zf x.toNat v) (hset has x b) := by
  intro a a0 a1
  unfold hset
  by_cases e : a = x
  · subst e
    rw [if_pos rfl, upd_same]
    exact hv
  · rw [if_neg e, upd_other (by omega)]
    exact h a a0 a1
theorem t_drop {tp : Nat → Int32} {has : Int → Bool} {tg : Int → Int → Int} {x : Int} (h : tOk tp has tg) : tOk tp (hset has x false) tg := by
  intro a c a0 a1 c0 c1 ha
  unfold hset at ha
  by_cases e : a = x
  · rw [if_pos e] at ha; cases ha
  · rw [if_neg e] at ha; exact h a c a0 a1 c0 c1 ha
theorem tb_drop {tg : Int → Int → Int} {has : Int → Bool} {x : Int} (h : tgB tg has) : tgB tg (hset has x false) := by
  intro a c a0 a1 c0 c1 ha
  unfold hset at ha
  by_cases e : a = x
  · rw [if_pos e] at ha; cases ha
  · rw [if_neg e] at ha; exact h a c a0 a1 c0 c1 ha
theorem t_dropM {mt : Nat → Int32} {has : Int → Bool} {tg : Int → Int → Int} {x : Int} {u v w : Int32} (h : tOk mt has tg) (x0 : 0 ≤ x) : tOk (upd (upd (upd mt (3 * x).toNat u) (3 * x + 1).toNat v) (3 * x + 2).toNat w) (hset has x false) tg := by
  intro a c a0 a1 c0 c1 ha
  unfold hset at ha
  by_cases e : a = x
  · rw [if_pos e] at ha; cases ha
  · rw [if_neg e] at ha
    rw [upd_other (by omega), upd_other (by omega), upd_other (by omega)]
    exact h a c a0 a1 c0 c1 ha
theorem tt_set {mt : Nat → Int32} {has : Int → Bool} {tg : Int → Int → Int} {x r g b : Int} {i j k : Nat} (h : tOk mt has tg) (x0 : 0 ≤ x) (hi : i = (x * 3).toNat) (hj : j = (x * 3 + 1).toNat) (hk : k = (x * 3 + 2).toNat) : tOk (upd (upd (upd mt i (iI r)) j (iI g)) k (iI b)) (hset has x true) (tset tg x r g b) := by
  intro a c a0 a1 c0 c1 ha
  subst hi; subst hj; subst hk
  unfold hset at ha
  unfold tset
  by_cases e : a = x
  · subst e
    rw [if_pos rfl]
    rcases (by omega : c = 0 ∨ c = 1 ∨ c = 2) with rfl | rfl | rfl
    · rw [if_pos rfl, upd_other (by omega), upd_other (by omega), Int.add_zero, upd_same]
    · rw [if_neg (by omega), if_pos rfl, upd_other (by omega), upd_same]
    · rw [if_neg (by omega), if_neg (by omega), upd_same]
  · rw [if_neg e] at ha ⊢
    rw [upd_other (by omega), upd_other (by omega), upd_other (by omega)]
    exact h a c a0 a1 c0 c1 ha
theorem tb_set {tg : Int → Int → Int} {has : Int → Bool} {x r g b : Int} (h : tgB tg has) (hr : 0 ≤ r ∧ r ≤ 255) (hg : 0 ≤ g ∧ g ≤ 255) (hb : 0 ≤ b ∧ b ≤ 255) : tgB (tset tg x r g b) (hset has x true) := by
  intro a c a0 a1 c0 c1 ha
  unfold hset at ha
  unfold tset
  by_cases e : a = x
  · rw [if_pos e]
    split
    · exact hr
    · split
      · exact hg
      · exact hb
  · rw [if_neg e] at ha ⊢
    exact h a c a0 a1 c0 c1 ha
/-- the frame, of class and of reference -/
def okF (fo le to ri bo xle xto xri xbo w g : Int) : Prop := (fo = 0 ∨ fo = 1) ∧ (fo = 1 → frOk le to ri bo w g ∧ xle = le ∧ xto = to ∧ xri = ri ∧ xbo = bo)
def okN (fi : Int) (fa fb fd ma mb md : Nat → Int64) (A B D : Int → Int) : Prop := (fi = 0 ∨ fi = 1) ∧ lnOk fi fa fb fd A B D ∧ lnOk fi ma mb md A B D
def okR (rk sg : Int) (tx kf wf ll mx_ mk mw mi : Nat → Int32) (T kd wy lm : Int → Int) : Prop := (0 ≤ rk ∧ rk ≤ 8) ∧ (0 ≤ sg ∧ sg ≤ 20) ∧ txOk tx T ∧ txOk mx_ T ∧ txB T ∧ ruOk rk kf wf ll kd wy lm ∧ ruOk rk mk mw mi kd wy lm ∧ ∀ j : Int, 0 ≤ j → j < rk → (kd j = 100 ∨ kd j = 110 ∨ kd j = 109)
def okD (n x y xx xy : Int) (my mv : Nat → Int32) (X Y : Int → Int) : Prop := (0 ≤ n ∧ n ≤ 40) ∧ dyOk n my mv X Y ∧ x = sm X 0 n.toNat ∧ y = sm Y 0 n.toNat ∧ xx = sm (fun z => X z * X z) 0 n.toNat ∧ xy = sm (fun z => X z * Y z) 0 n.toNat
def iset (f : Int → Int) (i v : Int) : Int → Int := fun j => if j = i then v else f j
theorem iset_same {f : Int → Int} {i v : Int} : iset f i v i = v := if_pos rfl
theorem iset_other {f : Int → Int} {i j v : Int} (h : ¬ j = i) : iset f i v j = f j := if_neg h
theorem unit_set {rk sg x : Int} {tx kf wf ll mx_ mk mw mi : Nat → Int32} {T kd wy lm : Int → Int} (h : okR rk sg tx kf wf ll mx_ mk mw mi T kd wy lm) (x0 : 33 ≤ x) (x1 : x ≤ 126) (hs : sg < 20) : okR rk (sg + 1) (upd tx sg.toNat (iI x)) kf wf ll (upd mx_ sg.toNat (iI x)) mk mw mi (iset T sg x) kd wy lm := by
  obtain ⟨h1, h2, h3, h4, h5, h6⟩ := h
  have key : ∀ t : Nat → Int32, txOk t T → txOk (upd t sg.toNat (iI x)) (iset T sg x) := by
    intro t ht j j0 j1
    by_cases e : j = sg
    · rw [e, upd_same, iset_same]
    · rw [upd_other (by omega), iset_other e]; exact ht j j0 j1
  refine ⟨h1, ⟨by omega, by omega⟩, key tx h3, key mx_ h4, fun j => ?_, h6⟩
  by_cases e : j = sg
  · rw [e, iset_same]; omega
  · rw [iset_other e]; exact h5 j
theorem rule_set {rk sg : Int} {tx kf wf ll mx_ mk mw mi : Nat → Int32} {T kd wy lm : Int → Int} {v : Int} (h : okR rk sg tx kf wf ll mx_ mk mw mi T kd wy lm) (hk : rk < 8) (hr : isRule T sg) : okR (rk + 1) 0 tx (upd kf rk.toNat (iI (T 0))) (upd wf rk.toNat (iI (T 1))) (upd ll rk.toNat (iI v)) mx_ (upd mk rk.toNat (iI (T 0))) (upd mw rk.toNat (iI (T 1))) (upd mi rk.toNat (iI v)) T (iset kd rk (T 0)) (iset wy rk (T 1)) (iset lm rk (iI v).toInt) := by
  obtain ⟨h1, h2, h3, h4, h5, h6, h7, h8⟩ := h
  have key : ∀ a b c : Nat → Int32, ruOk rk a b c kd wy lm → ruOk (rk + 1) (upd a rk.toNat (iI (T 0))) (upd b rk.toNat (iI (T 1))) (upd c rk.toNat (iI v)) (iset kd rk (T 0)) (iset wy rk (T 1)) (iset lm rk (iI v).toInt) := by
    intro a b c ha j j0 j1
    by_cases e : j = rk
    · subst e
      rw [upd_same, upd_same, upd_same, iset_same, iset_same, iset_same]
      exact ⟨rfl, rfl, (iI_of _).symm, h5 0, h5 1, iI_in _⟩
    · rw [upd_other (by omega), upd_other (by omega), upd_other (by omega), iset_other e, iset_other e, iset_other e]
      exact ha j j0 (by omega)
  refine ⟨⟨by omega, by omega⟩, ⟨by omega, by omega⟩, h3, h4, h5, key kf wf ll h6, key mk mw mi h7, fun j j0 j1 => ?_⟩
  by_cases e : j = rk
  · rw [e, iset_same]; exact hr.2.1
  · rw [iset_other e]; exact h8 j j0 (by omega)
theorem okR_clear {rk sg : Int} {tx kf wf ll mx_ mk mw mi : Nat → Int32} {T kd wy lm : Int → Int} (h : okR rk sg tx kf wf ll mx_ mk mw mi T kd wy lm) : okR rk 0 tx kf wf ll mx_ mk mw mi T kd wy lm := ⟨h.1, ⟨by omega, by omega⟩, h.2.2⟩
theorem sm_iset {f : Int → Int} {n : Int} {v : Int} (h : 0 ≤ n) (F : Int → Int) (hF : ∀ j, 0 ≤ j → j < n → F j = f j) (hv : F n = v) : sm F 0 (n + 1).toNat = sm f 0 n.toNat + v := by
  obtain ⟨k, rfl⟩ : ∃ k : Nat, n = k := ⟨n.toNat, by omega⟩
  rw [show ((k : Int) + 1).toNat = k + 1 by omega, Int.toNat_natCast, sm_last, Int.zero_add, hv, sm_congr k 0 (fun j h1 h2 => hF j h1 (by omega))]
theorem day_set {n x y xx xy d v : Int} {my mv : Nat → Int32} {X Y : Int → Int} (h : okD n x y xx xy my mv X Y) (hn : n < 40) (hd : 0 ≤ d ∧ d ≤ 100000) (hv : 0 ≤ v ∧ v ≤ 1000) : okD (n + 1) (x + d) (y + v) (xx + d * d) (xy + d * v) (upd my n.toNat (iI d)) (upd mv n.toNat (iI v)) (iset X n d) (iset Y n v) := by
  obtain ⟨h1, ⟨h2, h3⟩, rfl, rfl, rfl, rfl⟩ := h
  refine ⟨⟨by omega, by omega⟩, ⟨fun j j0 j1 => ?_, fun j => ?_⟩, ?_, ?_, ?_, ?_⟩
  · by_cases e : j = n
    · subst e; rw [upd_same, upd_same, iset_same, iset_same]; exact ⟨rfl, rfl⟩
    · rw [upd_other (by omega), upd_other (by omega), iset_other e, iset_other e]; exact h2 j j0 (by omega)
  · by_cases e : j = n
    · rw [e, iset_same, iset_same]; exact ⟨hd, hv⟩
    · rw [iset_other e, iset_other e]; exact h3 j
  · exact (sm_iset h1.1 (iset X n d) (fun j _ j1 => iset_other (by omega)) iset_same).symm
  · exact (sm_iset h1.1 (iset Y n v) (fun j _ j1 => iset_other (by omega)) iset_same).symm
  · exact (sm_iset h1.1 (fun z => iset X n d z * iset X n d z) (fun j _ j1 => by show iset X n d j * iset X n d j = _; rw [iset_other (by omega)]) (by show iset X n d n * iset X n d n = _; rw [iset_same])).symm
  · exact (sm_iset h1.1 (fun z => iset X n d z * iset Y n v z) (fun j _ j1 => by show iset X n d j * iset Y n v j = _; rw [iset_other (by omega), iset_other (by omega)]) (by show iset X n d n * iset Y n v n = _; rw [iset_same, iset_same])).symm
theorem okD_bd {n x y xx xy : Int} {my mv : Nat → Int32} {X Y : Int → Int} (h : okD n x y xx xy my mv X Y) : (((n * xy - x * y).natAbs : Nat) : Int) < 9223372036854775808 ∧ (((n * xx - x * x).natAbs : Nat) : Int) < 9223372036854775808 := by
  obtain ⟨h1, ⟨h2, h3⟩, rfl, rfl, rfl, rfl⟩ := h
  obtain ⟨k, rfl⟩ : ∃ k : Nat, n = k := ⟨n.toNat, by omega⟩
  rw [Int.toNat_natCast]
  exact day_bd h3 (by omega)
/-- the lines of a fit -/
theorem fit_ok {rd tg : Int → Int → Int} {has : Int → Bool} {nt : Int} {n : Nat} {fa fb fd : Nat → Int64} (hn : n ≤ 16) (hr : rdB rd n) (ht : tgB tg has) (hnt : 0 ≤ nt → has nt = true) (h0 : 0 < sh has (fun _ => 1) 0 n) (h : ∀ j : Int, 0 ≤ j → j < 3 → fa j.toNat = lI (fitK rd tg has nt n j).1 ∧ fb j.toNat = lI (fitK rd tg has nt n j).2.1 ∧ fd j.toNat = lI (fitK rd tg has nt n j).2.2) : lnOk 1 fa fb fd (fun j => (fitK rd tg has nt n j).1) (fun j => (fitK rd tg has nt n j).2.1) (fun j => (fitK rd tg has nt n j).2.2) := by
  intro _ p p0 p1
  obtain ⟨a, b, c⟩ := h p p0 p1
  obtain ⟨d, e, f, g⟩ := fitK_ok hn hr ht hnt h0 p0 p1
  exact ⟨a, b, c, d, e, f, g⟩
theorem at_end (h : ah_H) (x : ah_E) : (h ++ [x])[h.length]? = some x := by simp
theorem nI1 : nI (0 + 1) = iI 1 := by decide
theorem nI2 : nI (1 + 1) = iI 2 := by decide
theorem nI3 : nI (2 + 1) = iI 3 := by decide
theorem outz {out : Nat → Int64} {v : Int64} : vp_updL out 0 v 0 = v := vp_updL_same _ _ _
