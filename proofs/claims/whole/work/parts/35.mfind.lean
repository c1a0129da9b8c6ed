/-! The reference's box by one walk over all cells; rows for its making. -/
section BEHIND2
variable {p : Program} {l : Launch} {e : Env} {R : Room} {s : State} {m : MethodId} {args : Array Value} {below : List Frame} {meth : Method} {c : Code} {z : Nat} {sa : Nat → Nat} {D : va_G} {dA : Nat → ClassId} {mc ms : Nat} {K : ah_R → ah_H → Prop}
variable {cc : ByteArray} {own nm : String} {nL : Nat} {ret : Option FieldType} {hh : List (Nat × Nat × Nat × Nat)} {pc : Nat} {lv : List (Option Value)} {st : List Value} {pre : ah_H} {n1 n2 : Nat}
theorem rn_putFM (C : rn_Ok p l e s m args meth c z sa D dA cc own "<init>" nL ret hh) (hp : pre.length = 21) {i k : Nat} {fs fs' : List Value} {r : ah_H} {v : Value} {ty : Nat → FieldType} (f : rn_fo own i 9 k) (ft : rn_ft 9 ty) (fn : rn_fin 9 k true) (d : decode cc pc = .ok (.putfield i, 3)) (hlen : k < fs.length) (hn : ∀ z sa, narrow (ty k) (ah_v z sa v) = ah_v z sa v ∧ fits (ty k) (ah_v z sa v) = true) (hs : fs.set k v = fs')
    (kk : Run p l e R s m args below meth c z sa D dA mc ms K nL (pc + 3) lv st (pre ++ .inr (9, fs') :: r) n1 n2) : Run p l e R s m args below meth c z sa D dA mc ms K nL pc lv (v :: .ref 21 :: st) (pre ++ .inr (9, fs) :: r) n1 n2 := by
  refine rn_putF C f ft fn d (mH 0 hp rfl rfl) hlen hn ?_
  rw [mS 0 hp rfl, hs]
  exact kk
theorem rn_naM_int (C : rn_Ok p l e s m args meth c z sa D dA cc own nm nL ret hh) (hp : pre.length = 21) {n : Int32} {N q : Nat} {r r' : ah_H} (hn : ¬ n < 0) (hN : n.toNatClampNeg = N) (hb : N * 4 ≤ 536870912) (d : decode cc pc = .ok (.newarray .int, 2)) (hcells : n1 + 1 ≤ R.cells) (hslots : n2 + N ≤ R.slots) (hq : 21 + r.length = q) (hr : r ++ [aI N (fun _ => 0)] = r') (kk : Run p l e R s m args below meth c z sa D dA mc ms K nL (pc + 2) lv (.ref q :: st) (pre ++ r') (n1 + 1) (n2 + N)) : Run p l e R s m args below meth c z sa D dA mc ms K nL pc lv (.int n :: st) (pre ++ r) n1 n2 := by
  refine rn_na_int C hn hN hb d hcells hslots ?_
  rw [List.length_append, hp, hq, List.append_assoc]
  subst hr
  exact kk
theorem rn_naM_long (C : rn_Ok p l e s m args meth c z sa D dA cc own nm nL ret hh) (hp : pre.length = 21) {n : Int32} {N q : Nat} {r r' : ah_H} (hn : ¬ n < 0) (hN : n.toNatClampNeg = N) (hb : N * 8 ≤ 536870912) (d : decode cc pc = .ok (.newarray .long, 2)) (hcells : n1 + 1 ≤ R.cells) (hslots : n2 + N ≤ R.slots) (hq : 21 + r.length = q) (hr : r ++ [aL N (fun _ => 0)] = r') (kk : Run p l e R s m args below meth c z sa D dA mc ms K nL (pc + 2) lv (.ref q :: st) (pre ++ r') (n1 + 1) (n2 + N)) : Run p l e R s m args below meth c z sa D dA mc ms K nL pc lv (.int n :: st) (pre ++ r) n1 n2 := by
  refine rn_na_long C hn hN hb d hcells hslots ?_
  rw [List.length_append, hp, hq, List.append_assoc]
  subst hr
  exact kk
theorem rn_naM_boolean (C : rn_Ok p l e s m args meth c z sa D dA cc own nm nL ret hh) (hp : pre.length = 21) {n : Int32} {N q : Nat} {r r' : ah_H} (hn : ¬ n < 0) (hN : n.toNatClampNeg = N) (hb : N * 1 ≤ 536870912) (d : decode cc pc = .ok (.newarray .boolean, 2)) (hcells : n1 + 1 ≤ R.cells) (hslots : n2 + N ≤ R.slots) (hq : 21 + r.length = q) (hr : r ++ [aZ N (fun _ => 0)] = r') (kk : Run p l e R s m args below meth c z sa D dA mc ms K nL (pc + 2) lv (.ref q :: st) (pre ++ r') (n1 + 1) (n2 + N)) : Run p l e R s m args below meth c z sa D dA mc ms K nL pc lv (.int n :: st) (pre ++ r) n1 n2 := by
  refine rn_na_boolean C hn hN hb d hcells hslots ?_
  rw [List.length_append, hp, hq, List.append_assoc]
  subst hr
  exact kk
end BEHIND2
def linF (d : Int → Int → Bool) (w : Int) : Int → Nat → Int × Int × Int × Int → Int × Int × Int × Int
  | _, 0, s => s
  | i, k + 1, s => linF d w (i + 1) k (wd d (i % w) (i / w) s)
theorem lin_add (d : Int → Int → Bool) (w : Int) : ∀ (k n : Nat) (i : Int) (s : Int × Int × Int × Int), linF d w i (k + n) s = linF d w (i + k) n (linF d w i k s)
  | 0, n, i, s => by rw [Nat.zero_add]; simp [linF]
  | k + 1, n, i, s => by
    rw [show k + 1 + n = (k + n) + 1 by omega, linF, linF, lin_add d w k n (i + 1), show i + 1 + (k : Int) = i + ((k + 1 : Nat) : Int) by omega]
theorem lin_row (d : Int → Int → Bool) (W : Nat) (y : Int) : ∀ (k : Nat) (x : Int) (s : Int × Int × Int × Int), 0 ≤ x → x + k ≤ W → linF d W (W * y + x) k s = rowF d y x k s
  | 0, _, _, _, _ => rfl
  | k + 1, x, s, h0, h1 => by
    have e1 : ((W : Int) * y + x) % (W : Int) = x := by
      rw [Int.add_comm, Int.add_mul_emod_self_left, Int.emod_eq_of_lt h0 (by omega)]
    have e2 : ((W : Int) * y + x) / (W : Int) = y := by
      rw [Int.add_comm, Int.add_mul_ediv_left _ _ (by omega), Int.ediv_eq_zero_of_lt h0 (by omega), Int.zero_add]
    rw [linF, rowF, e1, e2, Int.add_assoc, lin_row d W y k (x + 1) _ (by omega) (by omega)]
theorem lin_all (d : Int → Int → Bool) (W : Nat) : ∀ (k : Nat) (y : Int) (s : Int × Int × Int × Int), linF d W (W * y) (W * k) s = allF d W y k s
  | 0, _, _ => by rw [Nat.mul_zero]; rfl
  | k + 1, y, s => by
    have h := lin_row d W y W 0 s (by omega) (by omega)
    rw [Int.add_zero] at h
    rw [Nat.mul_succ, Nat.add_comm, lin_add, h, allF, ← lin_all d W k (y + 1), Int.mul_add, Int.mul_one]
theorem lin_is {d : Int → Int → Bool} {w g : Int} (w0 : 0 ≤ w) (g0 : 0 ≤ g) (s : Int × Int × Int × Int) : linF d w 0 (w * g).toNat s = allF d w.toNat 0 g.toNat s := by
  obtain ⟨W, rfl⟩ : ∃ W : Nat, w = W := ⟨w.toNat, by omega⟩
  obtain ⟨G, rfl⟩ : ∃ G : Nat, g = G := ⟨g.toNat, by omega⟩
  have h := lin_all d W G 0 s
  rw [Int.mul_zero] at h
  rw [show ((W : Int) * (G : Int)).toNat = W * G by rw [← Int.natCast_mul]; rfl, h]
  rfl
/-- two walks over the picture, from two starts outside of it -/
def relB (w g : Int) (s t : Int × Int × Int × Int) : Prop := (s = (w, g, -1, -1) ∧ t = (99, 99, -1, -1)) ∨ s = t
theorem rel_wd {d : Int → Int → Bool} {w g x y : Int} {s t : Int × Int × Int × Int} (hw : w ≤ 99) (hg : g ≤ 99) (x0 : 0 ≤ x) (x1 : x < w) (y0 : 0 ≤ y) (y1 : y < g) (h : relB w g s t) : relB w g (wd d x y s) (wd d x y t) := by
  rcases h with ⟨rfl, rfl⟩ | rfl
  · unfold wd
    cases hd : d x y with
    | false => exact Or.inl ⟨by simp, by simp⟩
    | true =>
      refine Or.inr ?_
      simp only [if_true]
      rw [show min w x = min 99 x by omega, show min g y = min 99 y by omega]
  · exact Or.inr rfl
theorem rel_row {d : Int → Int → Bool} {w g y : Int} (hw : w ≤ 99) (hg : g ≤ 99) (y0 : 0 ≤ y) (y1 : y < g) : ∀ (k : Nat) (x : Int) (s t : Int × Int × Int × Int), 0 ≤ x → x + k ≤ w → relB w g s t → relB w g (rowF d y x k s) (rowF d y x k t)
  | 0, _, _, _, _, _, h => h
  | k + 1, x, s, t, h0, h1, h => by
    rw [rowF, rowF]
    exact rel_row hw hg y0 y1 k (x + 1) _ _ (by omega) (by omega) (rel_wd hw hg h0 (by omega) y0 y1 h)
theorem rel_all {d : Int → Int → Bool} {w g : Int} (w0 : 0 ≤ w) (hw : w ≤ 99) (hg : g ≤ 99) : ∀ (k : Nat) (y : Int) (s t : Int × Int × Int × Int), 0 ≤ y → y + k ≤ g → relB w g s t → relB w g (allF d w.toNat y k s) (allF d w.toNat y k t)
  | 0, _, _, _, _, _, h => h
  | k + 1, y, s, t, h0, h1, h => by
    rw [allF, allF]
    exact rel_all w0 hw hg k (y + 1) _ _ (by omega) (by omega) (rel_row hw hg h0 (by omega) w.toNat 0 s t (by omega) (by omega) h)
theorem rel_fnd {d : Int → Int → Bool} {w g : Int} {s t : Int × Int × Int × Int} (w0 : 0 ≤ w) (h : relB w g s t) : (fnd d s ↔ fnd d t) ∧ (fnd d s → s = t) := by
  rcases h with ⟨rfl, rfl⟩ | rfl
  · have n1 : ¬ fnd d (w, g, -1, -1) := fun q => by have := q.1; (try dsimp only at this); omega
    have n2 : ¬ fnd d (99, 99, -1, -1) := fun q => by have := q.1; (try dsimp only at this); omega
    exact ⟨⟨fun q => absurd q n1, fun q => absurd q n2⟩, fun q => absurd q n1⟩
  · exact ⟨Iff.rfl, fun _ => rfl⟩
/-- a cell keeps what the frame asks of it -/
def okC (d : Int → Int → Bool) (s : Int × Int × Int × Int) (x y : Int) : Prop := (s.1 ≤ x ∧ x ≤ s.2.2.1 ∧ s.2.1 ≤ y ∧ y ≤ s.2.2.2) → (x = s.1 ∨ x = s.2.2.1 ∨ y = s.2.1 ∨ y = s.2.2.2) → d x y = true
theorem fnd_of {d : Int → Int → Bool} {w g u v : Int} {s : Int × Int × Int × Int} (hw : 6 ≤ w ∧ w ≤ 30 ∧ 6 ≤ g ∧ g ≤ 30) (hb : bok w g u v s) (hu : w ≤ u) (h1 : s.1 + 5 ≤ s.2.2.1) (h2 : s.2.1 + 5 ≤ s.2.2.2) (h : ∀ q : Int, 0 ≤ q → q < w * g → okC d s (q % w) (q / w)) : fnd d s := by
  have bx : 0 ≤ s.1 ∧ s.2.2.1 < w ∧ 0 ≤ s.2.1 ∧ s.2.2.2 < g := by
    rcases hb with rfl | hb
    · (try dsimp only at h1); omega
    · omega
  have all : ∀ x y, s.1 ≤ x → x ≤ s.2.2.1 → s.2.1 ≤ y → y ≤ s.2.2.2 → (x = s.1 ∨ x = s.2.2.1 ∨ y = s.2.1 ∨ y = s.2.2.2) → d x y = true := by
    intro x y a1 a2 a3 a4 he
    have ci := cell_in (x := x) (y := y) hw (by omega) (by omega) (by omega) (by omega)
    have hq := h (y * w + x) ci.1 ci.2.1
    have e1 : (y * w + x) % w = x := by
      rw [Int.add_comm, Int.mul_comm, Int.add_mul_emod_self_left, Int.emod_eq_of_lt (by omega) (by omega)]
    have e2 : (y * w + x) / w = y := by
      rw [Int.add_comm, Int.mul_comm, Int.add_mul_ediv_left _ _ (by omega), Int.ediv_eq_zero_of_lt (by omega) (by omega), Int.zero_add]
    rw [e1, e2] at hq
    exact hq ⟨a1, a2, a3, a4⟩ he
  refine ⟨h1, h2, fun x a1 a2 => ⟨all x _ a1 a2 (by omega) (by omega) (by omega), all x _ a1 a2 (by omega) (by omega) (by omega)⟩, fun y a1 a2 => ⟨all _ y (by omega) (by omega) a1 a2 (by omega), all _ y (by omega) (by omega) a1 a2 (by omega)⟩⟩
theorem fnd_ok {d : Int → Int → Bool} {s : Int × Int × Int × Int} (h : fnd d s) (x y : Int) : okC d s x y := by
  intro hi he
  obtain ⟨_, _, b1, b2⟩ := h
  rcases he with rfl | rfl | rfl | rfl
  · exact (b2 y hi.2.2.1 hi.2.2.2).1
  · exact (b2 y hi.2.2.1 hi.2.2.2).2
  · exact (b1 x hi.1 hi.2.1).1
  · exact (b1 x hi.1 hi.2.1).2
/-- sums over pairs of days -/
def prs (X Y : Int → Int) (n : Nat) : Int := sm (fun k => sm (fun z => (X k - X z) * (Y k - Y z)) 0 k.toNat) 0 n
theorem pr_in (X Y : Int → Int) (u v : Int) : ∀ n : Nat, sm (fun z => (u - X z) * (v - Y z)) 0 n = n * (u * v) - u * sm Y 0 n - v * sm X 0 n + sm (fun z => X z * Y z) 0 n
  | 0 => by simp [sm]
  | n + 1 => by
    rw [sm_last, sm_last, sm_last, sm_last, pr_in X Y u v n, Int.natCast_add]
    grind
theorem prs_eq (X Y : Int → Int) : ∀ n : Nat, prs X Y n = n * sm (fun z => X z * Y z) 0 n - sm X 0 n * sm Y 0 n
  | 0 => by simp [prs, sm]
  | n + 1 => by
    have ih := prs_eq X Y n
    unfold prs at ih ⊢
    rw [sm_last, ih, sm_last, sm_last, sm_last, Int.zero_add, Int.toNat_natCast, pr_in X Y (X n) (Y n) n, Int.natCast_add]
    grind
theorem sm_nn {f : Int → Int} : ∀ (k : Nat) (i : Int), (∀ j, i ≤ j → j < i + k → 0 ≤ f j) → 0 ≤ sm f i k
  | 0, _, _ => by simp [sm]
  | k + 1, i, h => by
    have a := sm_nn k (i + 1) (fun j h1 h2 => h j (by omega) (by omega))
    have b := h i (by omega) (by omega)
    rw [sm]
    omega
theorem sm_nz {f : Int → Int} : ∀ (k : Nat) (i : Int), (∀ j, i ≤ j → j < i + k → 0 ≤ f j) → sm f i k = 0 → ∀ j, i ≤ j → j < i + k → f j = 0
  | 0, _, _, _, j, h1, h2 => by omega
  | k + 1, i, h, e, j, h1, h2 => by
    have a := sm_nn k (i + 1) (fun j h1 h2 => h j (by omega) (by omega))
    have b := h i (by omega) (by omega)
    rw [sm] at e
    by_cases hj : j = i
    · subst hj; omega
    · exact sm_nz k (i + 1) (fun j h1 h2 => h j (by omega) (by omega)) (by omega) j (by omega) (by omega)
theorem prs_nn (X : Int → Int) (n : Nat) : 0 ≤ prs X X n := sm_nn n 0 (fun k _ _ => sm_nn _ 0 (fun z _ _ => sq_nn _))
theorem prs_z {X Y : Int → Int} {n : Nat} (h : prs X X n = 0) : prs X Y n = 0 := by
  refine sm_zero n 0 (fun k k0 k1 => sm_zero _ 0 (fun z z0 z1 => ?_))
  have h1 := sm_nz n 0 (fun k _ _ => sm_nn _ 0 (fun z _ _ => sq_nn (X k - X z))) h k k0 k1
  have h2 := sm_nz k.toNat 0 (fun z _ _ => sq_nn (X k - X z)) h1 z z0 z1
  have h3 : X k - X z = 0 := by
    rcases Int.mul_eq_zero.mp h2 with h | h <;> exact h
  rw [h3, Int.zero_mul]
def dyOk (n : Int) (my mv : Nat → Int32) (X Y : Int → Int) : Prop := (∀ j : Int, 0 ≤ j → j < n → my j.toNat = iI (X j) ∧ mv j.toNat = iI (Y j)) ∧ ∀ j : Int, (0 ≤ X j ∧ X j ≤ 100000) ∧ (0 ≤ Y j ∧ Y j ≤ 1000)
theorem day_bd {X Y : Int → Int} (h : ∀ j : Int, (0 ≤ X j ∧ X j ≤ 100000) ∧ (0 ≤ Y j ∧ Y j ≤ 1000)) {n : Nat} (hn : n ≤ 40) : ((((n : Int) * sm (fun z => X z * Y z) 0 n - sm X 0 n * sm Y 0 n).natAbs : Nat) : Int) < 9223372036854775808 ∧ ((((n : Int) * sm (fun z => X z * X z) 0 n - sm X 0 n * sm X 0 n).natAbs : Nat) : Int) < 9223372036854775808 := by
  have a := sm_le (f := X) (b := 100000) n 0 (fun j _ _ => (h j).1)
  have b := sm_le (f := Y) (b := 1000) n 0 (fun j _ _ => (h j).2)
  have c := sm_le (f := fun z => X z * Y z) (b := 100000000) n 0 (fun j _ _ => ⟨Int.mul_nonneg (h j).1.1 (h j).2.1, by have := mbd (A := 100000) (B := 1000) (a := X j) (b := Y j) (by have := (h j).1; omega) (by have := (h j).2; omega); omega⟩)
  have d := sm_le (f := fun z => X z * X z) (b := 10000000000) n 0 (fun j _ _ => ⟨sq_nn _, by have := mbd (A := 100000) (B := 100000) (a := X j) (b := X j) (by have := (h j).1; omega) (by have := (h j).1; omega); omega⟩)
  have m1 := mbd (A := 40) (B := 4000000000) (a := (n : Int)) (b := sm (fun z => X z * Y z) 0 n) (by omega) (by omega)
  have m2 := mbd (A := 40) (B := 400000000000) (a := (n : Int)) (b := sm (fun z => X z * X z) 0 n) (by omega) (by omega)
  have m3 := mbd (A := 4000000) (B := 40000) (a := sm X 0 n) (b := sm Y 0 n) (by omega) (by omega)
  have m4 := mbd (A := 4000000) (B := 4000000) (a := sm X 0 n) (b := sm X 0 n) (by omega) (by omega)
  omega
