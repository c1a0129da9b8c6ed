/-! A small logic over the kit's: a method's heap as a list of cells, a reference as the place of its cell there.
    Values are the machine's own; '.ref k' names the cell at place k (address z + k), '.retAddr j' the j-th table of constants. -/
abbrev ah_E : Type := (Nat × vp_A) ⊕ (Nat × List Value)
abbrev ah_H : Type := List ah_E
/-- how a method ends: with an answer, or with the object at a place thrown -/
abbrev ah_R : Type := Option Value ⊕ Nat
def ah_v (z : Nat) (sa : Nat → Nat) : Value → Value
  | .ref k => .ref (z + k)
  | .retAddr j => .ref (sa j)
  | .int x => .int x
  | .long x => .long x
  | .float x => .float x
  | .double x => .double x
  | .null => .null
theorem ah_cat (z : Nat) (sa : Nat → Nat) (v : Value) : (ah_v z sa v).category = v.category := by cases v <;> rfl
theorem ah_catsum (z : Nat) (sa : Nat → Nat) (st : List Value) : (((st.map (ah_v z sa)).map fun v => v.category).sum) = ((st.map fun v => v.category).sum) := by
  induction st with
  | nil => rfl
  | cons v t ih => simp only [List.map_cons, List.sum_cons, ah_cat, ih]
def ah_e (z : Nat) (sa : Nat → Nat) (dA : Nat → ClassId) : ah_E → va_E
  | .inl a => .inl (dA a.1, a.2)
  | .inr o => .inr (o.1, o.2.map (ah_v z sa))
def ah_w (z : Nat) (sa : Nat → Nat) (dA : Nat → ClassId) (h : ah_H) : va_W := h.mapIdx fun k e => (z + k, ah_e z sa dA e)
section AH
variable {z : Nat} {sa : Nat → Nat} {dA : Nat → ClassId} {h : ah_H} {k : Nat} {e : ah_E}
theorem ah_get (hk : h[k]? = some e) : (ah_w z sa dA h)[k]? = some (z + k, ah_e z sa dA e) := by
  simp [ah_w, List.getElem?_mapIdx, hk]
theorem ah_of {q : Nat × va_E} (hk : (ah_w z sa dA h)[k]? = some q) : ∃ e, h[k]? = some e ∧ q = (z + k, ah_e z sa dA e) := by
  simp only [ah_w, List.getElem?_mapIdx] at hk
  cases he : h[k]? with
  | none => rw [he] at hk; cases hk
  | some e => rw [he] at hk; exact ⟨e, rfl, (Option.some.inj hk).symm⟩
theorem ah_set : (ah_w z sa dA h).set k (z + k, ah_e z sa dA e) = ah_w z sa dA (h.set k e) := by
  apply List.ext_getElem?
  intro i
  simp only [ah_w, List.getElem?_set, List.getElem?_mapIdx, List.length_mapIdx]
  by_cases hi : k = i
  · subst hi
    by_cases hl : k < h.length <;> simp [hl]
  · simp [hi]
theorem ah_push : ah_w z sa dA h ++ [(z + h.length, ah_e z sa dA e)] = ah_w z sa dA (h ++ [e]) := by
  simp [ah_w, List.mapIdx_append]
theorem ah_D : va_D (fun q => z ≤ q) (ah_w z sa dA h) := by
  refine ⟨fun i j x y hx hy hxy => ?_, fun i x hx => ?_⟩
  · obtain ⟨e1, -, rfl⟩ := ah_of hx
    obtain ⟨e2, -, rfl⟩ := ah_of hy
    have : z + i = z + j := hxy
    omega
  · obtain ⟨e1, -, rfl⟩ := ah_of hx
    exact Nat.le_add_right z i
end AH
/-- the types of arrays, by their places -/
abbrev ah_T (dA : Nat → ClassId) : List (ClassId × FieldType) := [(dA 0, .int), (dA 1, .long), (dA 2, .boolean), (dA 3, .char)]
/-- the heap from z on holds these cells, and no more -/
def rn_H (z : Nat) (sa : Nat → Nat) (D : va_G) (dA : Nat → ClassId) (h : ah_H) (H : Heap) : Prop := H.size = z + h.length ∧ va_P D ccl (ah_w z sa dA h) H
/-- locals by their places; 'none': nothing is known -/
def lv_kill : Nat → List (Option Value) → List (Option Value)
  | 0, l => l
  | _, [] => []
  | 1, o :: l => (match o with | some (.long _) => none | some (.double _) => none | o => o) :: l
  | n + 2, o :: l => o :: lv_kill (n + 1) l
def lv_place : Nat → Option Value → List (Option Value) → List (Option Value)
  | 0, o, [] => [o]
  | 0, o, _ :: l => o :: l
  | n + 1, o, [] => none :: lv_place n o []
  | n + 1, o, a :: l => a :: lv_place n o l
def lv_st (i : Nat) (v : Value) (l : List (Option Value)) : List (Option Value) := lv_place i (some v) (lv_kill i l)
def lv_st2 (i : Nat) (v : Value) (l : List (Option Value)) : List (Option Value) := lv_place (i + 1) none (lv_place i (some v) (lv_kill i l))
theorem lv_kill_get : ∀ (i : Nat) (l : List (Option Value)) (j : Nat) (v : Value), (lv_kill i l)[j]? = some (some v) → l[j]? = some (some v) ∧ ¬ (j + 1 = i ∧ v.category = 2)
  | 0, l, j, v, h => ⟨h, fun q => by omega⟩
  | n + 1, [], j, v, h => by cases n <;> simp [lv_kill] at h
  | 1, o :: l, 0, v, h => by
    cases o with
    | none => simp [lv_kill] at h
    | some w => cases w <;> simp [lv_kill] at h <;> subst h <;> simp [Value.category]
  | 1, o :: l, j + 1, v, h => ⟨by simpa [lv_kill] using h, fun q => by omega⟩
  | n + 2, o :: l, 0, v, h => ⟨by simpa [lv_kill] using h, fun q => by omega⟩
  | n + 2, o :: l, j + 1, v, h => by
    have := lv_kill_get (n + 1) l j v (by simpa [lv_kill] using h)
    exact ⟨by simpa using this.1, fun q => this.2 ⟨by omega, q.2⟩⟩
theorem lv_place_get : ∀ (i : Nat) (o : Option Value) (l : List (Option Value)) (j : Nat) (v : Value), (lv_place i o l)[j]? = some (some v) → (j = i ∧ o = some v) ∨ (j ≠ i ∧ l[j]? = some (some v))
  | 0, o, [], 0, v, h => Or.inl ⟨rfl, by simpa [lv_place] using h⟩
  | 0, o, [], j + 1, v, h => by simp [lv_place] at h
  | 0, o, a :: l, 0, v, h => Or.inl ⟨rfl, by simpa [lv_place] using h⟩
  | 0, o, a :: l, j + 1, v, h => Or.inr ⟨by omega, by simpa [lv_place] using h⟩
  | n + 1, o, [], 0, v, h => by simp [lv_place] at h
  | n + 1, o, [], j + 1, v, h => by
    rcases lv_place_get n o [] j v (by simpa [lv_place] using h) with q | q
    · exact Or.inl ⟨by omega, q.2⟩
    · simp at q
  | n + 1, o, a :: l, 0, v, h => Or.inr ⟨by omega, by simpa [lv_place] using h⟩
  | n + 1, o, a :: l, j + 1, v, h => by
    rcases lv_place_get n o l j v (by simpa [lv_place] using h) with q | q
    · exact Or.inl ⟨by omega, q.2⟩
    · exact Or.inr ⟨by omega, by simpa using q.2⟩
def rn_L (z : Nat) (sa : Nat → Nat) (ls : Array Slot) (nL : Nat) (lv : List (Option Value)) : Prop := ls.size = nL ∧ lv_wf ls ∧ ∀ (i : Nat) (v : Value), lv[i]? = some (some v) → ls[i]? = some (Slot.val (ah_v z sa v))
/-- the kit's list of known locals -/
def lv_as (z : Nat) (sa : Nat → Nat) (lv : List (Option Value)) : List (Nat × Value) := (lv.mapIdx fun j o => o.map fun v => (j, ah_v z sa v)).filterMap id
theorem lv_as_mem {z : Nat} {sa : Nat → Nat} {lv : List (Option Value)} {q : Nat × Value} : q ∈ lv_as z sa lv ↔ ∃ v, lv[q.1]? = some (some v) ∧ q.2 = ah_v z sa v := by
  simp only [lv_as, List.mem_filterMap, id]
  constructor
  · rintro ⟨o, ho, rfl⟩
    obtain ⟨j, hj⟩ := List.getElem?_of_mem ho
    simp only [List.getElem?_mapIdx] at hj
    cases hl : lv[j]? with
    | none => rw [hl] at hj; cases hj
    | some o =>
      rw [hl] at hj
      cases o with
      | none => cases hj
      | some v => cases hj; exact ⟨v, hl, rfl⟩
  · rintro ⟨v, h1, h2⟩
    refine ⟨some q, ?_, rfl⟩
    apply List.mem_of_getElem? (i := q.1)
    simp only [List.getElem?_mapIdx, h1]
    simp [← h2]
theorem rn_L.has {z : Nat} {sa : Nat → Nat} {ls : Array Slot} {nL : Nat} {lv : List (Option Value)} (h : rn_L z sa ls nL lv) : lv_has ls nL (lv_as z sa lv) :=
  ⟨h.1, h.2.1, fun q hq => by obtain ⟨v, h1, h2⟩ := lv_as_mem.mp hq; rw [h2]; exact h.2.2 _ _ h1⟩
theorem rn_L.st1 {z : Nat} {sa : Nat → Nat} {ls' : Array Slot} {nL i : Nat} {v : Value} {lv : List (Option Value)}
    (h' : lv_has ls' nL ((i, ah_v z sa v) :: (lv_as z sa lv).filter (fun q => !(q.1 == i) && !(q.1 + 1 == i && q.2.category == 2)))) : rn_L z sa ls' nL (lv_st i v lv) := by
  refine ⟨h'.1, h'.2.1, fun j w hj => ?_⟩
  rcases lv_place_get _ _ _ _ _ hj with ⟨rfl, e⟩ | ⟨hne, hl⟩
  · cases e
    exact h'.2.2 (j, ah_v z sa v) List.mem_cons_self
  · obtain ⟨h1, h2⟩ := lv_kill_get _ _ _ _ hl
    refine h'.2.2 (j, ah_v z sa w) (List.mem_cons_of_mem _ (List.mem_filter.mpr ⟨lv_as_mem.mpr ⟨w, h1, rfl⟩, ?_⟩))
    simp only [Bool.and_eq_true, Bool.not_eq_true', beq_eq_false_iff_ne, ne_eq, Bool.and_eq_false_iff, ah_cat]
    refine ⟨hne, ?_⟩
    by_cases q : j + 1 = i
    · exact Or.inr fun c => h2 ⟨q, c⟩
    · exact Or.inl q
theorem rn_L.st2 {z : Nat} {sa : Nat → Nat} {ls' : Array Slot} {nL i : Nat} {v : Value} {lv : List (Option Value)}
    (h' : lv_has ls' nL ((i, ah_v z sa v) :: (lv_as z sa lv).filter (fun q => !(q.1 == i) && (!(q.1 == i + 1) && !(q.1 + 1 == i && q.2.category == 2))))) : rn_L z sa ls' nL (lv_st2 i v lv) := by
  refine ⟨h'.1, h'.2.1, fun j w hj => ?_⟩
  rcases lv_place_get _ _ _ _ _ hj with ⟨-, e⟩ | ⟨hn1, hj⟩
  · cases e
  rcases lv_place_get _ _ _ _ _ hj with ⟨rfl, e⟩ | ⟨hne, hl⟩
  · cases e
    exact h'.2.2 (j, ah_v z sa v) List.mem_cons_self
  · obtain ⟨h1, h2⟩ := lv_kill_get _ _ _ _ hl
    refine h'.2.2 (j, ah_v z sa w) (List.mem_cons_of_mem _ (List.mem_filter.mpr ⟨lv_as_mem.mpr ⟨w, h1, rfl⟩, ?_⟩))
    simp only [Bool.and_eq_true, Bool.not_eq_true', beq_eq_false_iff_ne, ne_eq, Bool.and_eq_false_iff, ah_cat]
    refine ⟨hne, hn1, ?_⟩
    by_cases q : j + 1 = i
    · exact Or.inr fun c => h2 ⟨q, c⟩
    · exact Or.inl q
/-- the locals with which a method begins -/
def lv_in : List Value → List (Option Value)
  | [] => []
  | .long x :: vs => some (.long x) :: none :: lv_in vs
  | .double x :: vs => some (.double x) :: none :: lv_in vs
  | v :: vs => some v :: lv_in vs
theorem lv_in_cons2 {v : Value} (vs : List Value) (h : v.category = 2) : lv_in (v :: vs) = some v :: none :: lv_in vs := by cases v <;> first | rfl | (simp [Value.category] at h)
theorem lv_in_cons1 {v : Value} (vs : List Value) (h : ¬ v.category = 2) : lv_in (v :: vs) = some v :: lv_in vs := by cases v <;> first | rfl | (simp [Value.category] at h)
theorem lv_in_args (z : Nat) (sa : Nat → Nat) : ∀ (vs : List Value) (n j : Nat) (v : Value), (lv_in vs)[j]? = some (some v) → (n + j, ah_v z sa v) ∈ lv_args n (vs.map (ah_v z sa))
  | [], n, j, v, h => by simp [lv_in] at h
  | w :: vs, n, j, v, h => by
    by_cases hc : w.category = 2
    · rw [lv_in_cons2 vs hc] at h
      simp only [List.map_cons, lv_args, ah_cat, hc, if_true]
      match j, h with
      | 0, h => simp at h; subst h; exact List.mem_cons_self
      | 1, h => simp at h
      | j + 2, h =>
        have := lv_in_args z sa vs (n + 2) j v (by simpa using h)
        rw [show n + (j + 2) = n + 2 + j by omega]
        exact List.mem_cons_of_mem _ this
    · rw [lv_in_cons1 vs hc] at h
      simp only [List.map_cons, lv_args, ah_cat, hc, if_false]
      match j, h with
      | 0, h => simp at h; subst h; exact List.mem_cons_self
      | j + 1, h =>
        have := lv_in_args z sa vs (n + 1) j v (by simpa using h)
        rw [show n + (j + 1) = n + 1 + j by omega]
        exact List.mem_cons_of_mem _ this
theorem lv_in_len (z : Nat) (sa : Nat → Nat) : ∀ (vs : List Value), (lg_sl (vs.map (ah_v z sa))).length = (lv_in vs).length
  | [] => rfl
  | w :: vs => by
    have ih := lv_in_len z sa vs
    simp only [lg_sl] at ih ⊢
    by_cases hc : w.category = 2
    · rw [lv_in_cons2 vs hc]
      simp [ah_cat, hc, ih]
    · rw [lv_in_cons1 vs hc]
      simp [ah_cat, hc, ih]
theorem rn_L.entry {z : Nat} {sa : Nat → Nat} {vs : List Value} {n : Nat} (h : (lv_in vs).length ≤ n) : rn_L z sa ((lg_sl (vs.map (ah_v z sa)) ++ List.replicate (n - (lg_sl (vs.map (ah_v z sa))).length) Slot.unset).toArray) n (lv_in vs) := by
  have hl := lv_entry (vs.map (ah_v z sa)) (n := n) (by rw [lv_in_len]; exact h)
  refine ⟨hl.1, hl.2.1, fun i v hi => ?_⟩
  have := hl.2.2 _ (lv_in_args z sa vs 0 i v hi)
  simpa using this
/-- fewer locals are known -/
def lv_le : List (Option Value) → List (Option Value) → Prop
  | [], _ => True
  | none :: a, [] => lv_le a []
  | none :: a, _ :: b => lv_le a b
  | some _ :: _, [] => False
  | some v :: a, o :: b => o = some v ∧ lv_le a b
theorem lv_le_get : ∀ (a b : List (Option Value)), lv_le a b → ∀ (j : Nat) (v : Value), a[j]? = some (some v) → b[j]? = some (some v)
  | [], _, _, j, v, h => by simp at h
  | none :: a, [], hl, 0, v, h => by simp at h
  | none :: a, [], hl, j + 1, v, h => by
    have := lv_le_get a [] hl j v (by simpa using h)
    simp at this
  | none :: a, o :: b, hl, 0, v, h => by simp at h
  | none :: a, o :: b, hl, j + 1, v, h => by simpa using lv_le_get a b hl j v (by simpa using h)
  | some w :: a, [], hl, j, v, h => by cases hl
  | some w :: a, o :: b, hl, 0, v, h => by rw [hl.1]; simpa using h
  | some w :: a, o :: b, hl, j + 1, v, h => by simpa using lv_le_get a b hl.2 j v (by simpa using h)
