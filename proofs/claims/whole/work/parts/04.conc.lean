/-! ===== THE PURE MACHINE AND THE MACHINE: how cells, values, locals are held ===== -/
def c_V (base : Nat) (ex : Nat → Nat) : Value → Value
  | .ref k => .ref (base + k)
  | .retAddr j => .ref (ex j)
  | .int x => .int x
  | .long x => .long x
  | .float _ => if ex 100000 = 0 then .null else .ref (ex 100001)
  | .double x => .double x
  | .null => .null
theorem c_V_cat (base : Nat) (ex : Nat → Nat) (v : Value) : (c_V base ex v).category = v.category := by
  cases v <;> first | rfl | (show (if ex 100000 = 0 then Value.null else Value.ref (ex 100001)).category = 1; split <;> rfl)
def c_E (base : Nat) (ex : Nat → Nat) (cA : FieldType → ClassId) : pE → va_E
  | .inl (ty, a) => .inl (cA ty, a)
  | .inr (ci, fs) => .inr (ci, fs.map (c_V base ex))
/-- the heap holds the cells, one behind the other from base on, and nothing above them -/
def P_R (D : va_G) (base : Nat) (ex : Nat → Nat) (cA : FieldType → ClassId) (h : List pE) (H : Heap) : Prop := H.size = base + h.length ∧ ∀ (k : Nat) (e : pE), h[k]? = some e → va_at D vwCl (base + k, c_E base ex cA e) H
theorem P_R.set {D : va_G} {base : Nat} {ex : Nat → Nat} {cA : FieldType → ClassId} {h : List pE} {H H1 : Heap} (hP : P_R D base ex cA h H) {k : Nat} {e : pE} (hat : va_at D vwCl (base + k, c_E base ex cA e) H1) (hz : H1.size = H.size) (oq : ∀ q : Nat, q ≠ base + k → H1[q]? = H[q]?) : P_R D base ex cA (h.set k e) H1 := by
  refine ⟨by rw [hz, List.length_set]; exact hP.1, fun j e' hj => ?_⟩
  by_cases hjk : k = j
  · subst hjk
    rw [List.getElem?_set_self' ] at hj
    cases hh : h[k]? with
    | none => rw [hh] at hj; cases hj
    | some q => rw [hh] at hj; cases hj; exact hat
  · rw [List.getElem?_set_ne hjk] at hj
    exact (hP.2 j e' hj).kept (oq _ (by omega))
theorem P_R.push {D : va_G} {base : Nat} {ex : Nat → Nat} {cA : FieldType → ClassId} {h : List pE} {H H1 : Heap} (hP : P_R D base ex cA h H) {e : pE} (hat : va_at D vwCl (base + h.length, c_E base ex cA e) H1) (hz : H1.size = H.size + 1) (oq : ∀ q : Nat, q < H.size → H1[q]? = H[q]?) : P_R D base ex cA (h ++ [e]) H1 := by
  refine ⟨by rw [hz, List.length_append, hP.1]; simp; omega, fun j e' hj => ?_⟩
  by_cases hl : j < h.length
  · rw [List.getElem?_append_left hl] at hj
    exact (hP.2 j e' hj).kept (oq _ (by rw [hP.1]; omega))
  · rw [List.getElem?_append_right (by omega)] at hj
    have hz : j - h.length < 1 := (List.getElem?_eq_some_iff.mp hj).1
    have hj0 : j = h.length := by omega
    subst hj0
    rw [Nat.sub_self] at hj
    cases hj
    exact hat
/-- the locals as the kit's rows have them -/
def c_L (base : Nat) (ex : Nat → Nat) : Nat → pL → List (Nat × Value)
  | _, [] => []
  | i, none :: t => c_L base ex (i + 1) t
  | i, some v :: t => (i, c_V base ex v) :: c_L base ex (i + 1) t
theorem c_L_mem {base : Nat} {ex : Nat → Nat} : ∀ (ls : pL) (i j : Nat) (w : Value), (j, w) ∈ c_L base ex i ls ↔ ∃ (k : Nat) (v : Value), j = i + k ∧ p_get ls k = some v ∧ w = c_V base ex v := by
  intro ls
  induction ls with
  | nil =>
    intro i j w
    simp [c_L, p_get]
  | cons o t ih =>
    intro i j w
    cases o with
    | none =>
      show (j, w) ∈ c_L base ex (i + 1) t ↔ _
      rw [ih]
      constructor
      · rintro ⟨k, v, h1, h2, h3⟩
        exact ⟨k + 1, v, by omega, h2, h3⟩
      · rintro ⟨k, v, h1, h2, h3⟩
        cases k with
        | zero => cases h2
        | succ k => exact ⟨k, v, by omega, h2, h3⟩
    | some v0 =>
      show (j, w) ∈ (i, c_V base ex v0) :: c_L base ex (i + 1) t ↔ _
      rw [List.mem_cons, ih]
      constructor
      · rintro (h | ⟨k, v, h1, h2, h3⟩)
        · cases h
          exact ⟨0, v0, by omega, rfl, rfl⟩
        · exact ⟨k + 1, v, by omega, h2, h3⟩
      · rintro ⟨k, v, h1, h2, h3⟩
        cases k with
        | zero =>
          cases h2
          left
          rw [h3, h1]
          rfl
        | succ k => exact Or.inr ⟨k, v, by omega, h2, h3⟩
theorem p_put_len : ∀ (ls : pL) (i : Nat) (o : Option Value), (p_put ls i o).length = ls.length := by
  intro ls
  induction ls with
  | nil => intro i o; rfl
  | cons a t ih =>
    intro i o
    cases i with
    | zero => rfl
    | succ i => show (p_put t i o).length + 1 = t.length + 1; rw [ih]
theorem p_get_put : ∀ (ls : pL) (i j : Nat) (o : Option Value) (v : Value), p_get (p_put ls i o) j = some v → (j = i ∧ o = some v) ∨ (j ≠ i ∧ p_get ls j = some v) := by
  intro ls
  induction ls with
  | nil => intro i j o v h; cases h
  | cons a t ih =>
    intro i j o v h
    cases i with
    | zero =>
      cases j with
      | zero => exact Or.inl ⟨rfl, h⟩
      | succ j => exact Or.inr ⟨by omega, h⟩
    | succ i =>
      cases j with
      | zero => exact Or.inr ⟨by omega, h⟩
      | succ j =>
        rcases ih i j o v h with ⟨h1, h2⟩ | ⟨h1, h2⟩
        · exact Or.inl ⟨by omega, h2⟩
        · exact Or.inr ⟨by omega, h2⟩
theorem p_clr_succ (ls : pL) (i : Nat) : p_clr ls (i + 1) = bif p_two (p_get ls i) then p_put ls i none else ls := rfl
theorem p_clr_len (ls : pL) (i : Nat) : (p_clr ls i).length = ls.length := by
  cases i with
  | zero => rfl
  | succ i =>
    rw [p_clr_succ]
    cases p_two (p_get ls i) with
    | false => rfl
    | true => exact p_put_len ls i none
theorem p_two_cat {v : Value} (h : v.category = 2) : p_two (some v) = true := by
  cases v <;> first | rfl | (simp [Value.category] at h)
theorem p_get_clr {ls : pL} {i j : Nat} {v : Value} (h : p_get (p_clr ls i) j = some v) : p_get ls j = some v ∧ (j + 1 = i → ¬ v.category = 2) := by
  cases i with
  | zero => exact ⟨h, fun z => by omega⟩
  | succ i =>
    rw [p_clr_succ] at h
    cases h2 : p_two (p_get ls i) with
    | false =>
      rw [h2] at h
      dsimp only [cond_false] at h
      refine ⟨h, fun z hv => ?_⟩
      have hij : j = i := by omega
      subst hij
      rw [h, p_two_cat hv] at h2
      cases h2
    | true =>
      rw [h2] at h
      dsimp only [cond_true] at h
      rcases p_get_put ls i j none v h with ⟨-, h1⟩ | ⟨h1, h3⟩
      · cases h1
      · exact ⟨h3, fun z => by omega⟩
/-- the frame's locals hold the pure ones -/
def P_L (base : Nat) (ex : Nat → Nat) (nL : Nat) (ls : pL) (lsA : Array Slot) : Prop := ls.length = nL ∧ lv_has lsA nL (c_L base ex 0 ls)
theorem P_L.get {base nL : Nat} {ex : Nat → Nat} {ls : pL} {lsA : Array Slot} (h : P_L base ex nL ls lsA) {i : Nat} {v : Value} (hi : p_get ls i = some v) : lsA[i]? = some (.val (c_V base ex v)) :=
  h.2.2.2 (i, c_V base ex v) ((c_L_mem ls 0 i _).mpr ⟨i, v, by omega, hi, rfl⟩)
theorem P_L.st1 {base nL : Nat} {ex : Nat → Nat} {ls : pL} {lsA lsB : Array Slot} (h : P_L base ex nL ls lsA) {i : Nat} {v : Value} (hB : lv_has lsB nL ((i, c_V base ex v) :: (c_L base ex 0 ls).filter (fun q => !(q.1 == i) && !(q.1 + 1 == i && q.2.category == 2)))) : P_L base ex nL (p_st1 ls i v) lsB := by
  refine ⟨by unfold p_st1; rw [p_put_len, p_clr_len]; exact h.1, hB.1, hB.2.1, fun q hq => ?_⟩
  obtain ⟨j, w⟩ := q
  obtain ⟨k, v', h1, h2, h3⟩ := (c_L_mem _ 0 j w).mp hq
  have hk : j = k := by omega
  subst hk
  refine hB.2.2 (j, w) ?_
  rcases p_get_put _ i j (some v) v' h2 with ⟨e1, e2⟩ | ⟨e1, e2⟩
  · cases e2
    rw [h3, e1]
    exact List.mem_cons_self
  · obtain ⟨g1, g2⟩ := p_get_clr e2
    refine List.mem_cons_of_mem _ (List.mem_filter.mpr ⟨(c_L_mem ls 0 j w).mpr ⟨j, v', by omega, g1, h3⟩, ?_⟩)
    rw [h3]
    simp only [c_V_cat]
    by_cases hj : j + 1 = i
    · simp [e1, g2 hj]
    · simp [e1, hj]
theorem P_L.st2 {base nL : Nat} {ex : Nat → Nat} {ls : pL} {lsA lsB : Array Slot} (h : P_L base ex nL ls lsA) {i : Nat} {v : Value} (hB : lv_has lsB nL ((i, c_V base ex v) :: (c_L base ex 0 ls).filter (fun q => !(q.1 == i) && (!(q.1 == i + 1) && !(q.1 + 1 == i && q.2.category == 2))))) : P_L base ex nL (p_st2 ls i v) lsB := by
  refine ⟨by unfold p_st2; rw [p_put_len, p_put_len, p_clr_len]; exact h.1, hB.1, hB.2.1, fun q hq => ?_⟩
  obtain ⟨j, w⟩ := q
  obtain ⟨k, v', h1, h2, h3⟩ := (c_L_mem _ 0 j w).mp hq
  have hk : j = k := by omega
  subst hk
  refine hB.2.2 (j, w) ?_
  rcases p_get_put _ (i + 1) j none v' h2 with ⟨e1, e2⟩ | ⟨e0, e2⟩
  · cases e2
  · rcases p_get_put _ i j (some v) v' e2 with ⟨e1, e2⟩ | ⟨e1, e2⟩
    · cases e2
      rw [h3, e1]
      exact List.mem_cons_self
    · obtain ⟨g1, g2⟩ := p_get_clr e2
      refine List.mem_cons_of_mem _ (List.mem_filter.mpr ⟨(c_L_mem ls 0 j w).mpr ⟨j, v', by omega, g1, h3⟩, ?_⟩)
      rw [h3]
      simp only [c_V_cat]
      by_cases hj : j + 1 = i
      · simp [e0, e1, g2 hj]
      · simp [e0, e1, hj]
/-- a method's entry -/
theorem p_pad_get : ∀ (n : Nat) (l : pL) (k : Nat) (v : Value), p_get (p_pad n l) k = some v → p_get l k = some v := by
  intro n
  induction n with
  | zero => intro l k v h; exact h
  | succ n ih =>
    intro l k v h
    cases l with
    | nil =>
      cases k with
      | zero => cases h
      | succ k => exact absurd (ih [] k v h) (by simp [p_get])
    | cons o t =>
      cases k with
      | zero => exact h
      | succ k => exact ih t k v h
theorem p_pad_len : ∀ (n : Nat) (l : pL), l.length ≤ n → (p_pad n l).length = n := by
  intro n
  induction n with
  | zero => intro l h; cases l with
    | nil => rfl
    | cons o t => simp at h
  | succ n ih =>
    intro l h
    cases l with
    | nil => show (p_pad n []).length + 1 = n + 1; rw [ih [] (by simp)]
    | cons o t => show (p_pad n t).length + 1 = n + 1; rw [ih t (by simpa using h)]
theorem p_args_mem {base : Nat} {ex : Nat → Nat} : ∀ (as : List Value) (i k : Nat) (v : Value), p_get (p_args as) k = some v → (i + k, c_V base ex v) ∈ lv_args i (as.map (c_V base ex)) := by
  intro as
  induction as with
  | nil => intro i k v h; cases h
  | cons a t ih =>
    intro i k v h
    show _ ∈ (i, c_V base ex a) :: lv_args (if (c_V base ex a).category = 2 then i + 2 else i + 1) (t.map (c_V base ex))
    rw [c_V_cat]
    cases a with
    | long x =>
      rw [if_pos (show (Value.long x).category = 2 from rfl)]
      cases k with
      | zero => cases h; exact List.mem_cons_self
      | succ k =>
        cases k with
        | zero => cases h
        | succ k =>
          refine List.mem_cons_of_mem _ ?_
          have := ih (i + 2) k v h
          rw [show i + (k + 1 + 1) = i + 2 + k by omega]
          exact this
    | double x =>
      rw [if_pos (show (Value.double x).category = 2 from rfl)]
      cases k with
      | zero => cases h; exact List.mem_cons_self
      | succ k =>
        cases k with
        | zero => cases h
        | succ k =>
          refine List.mem_cons_of_mem _ ?_
          have := ih (i + 2) k v h
          rw [show i + (k + 1 + 1) = i + 2 + k by omega]
          exact this
    | _ =>
      rw [if_neg (by simp [Value.category])]
      cases k with
      | zero => cases h; exact List.mem_cons_self
      | succ k =>
        refine List.mem_cons_of_mem _ ?_
        have := ih (i + 1) k v h
        rw [show i + (k + 1) = i + 1 + k by omega]
        exact this
theorem p_args_len {base : Nat} {ex : Nat → Nat} : ∀ (as : List Value), (lg_sl (as.map (c_V base ex))).length = (p_args as).length := by
  intro as
  induction as with
  | nil => rfl
  | cons a t ih =>
    show ((if (c_V base ex a).category = 2 then [Slot.val (c_V base ex a), .second] else [.val (c_V base ex a)]) ++ lg_sl (t.map (c_V base ex))).length = _
    rw [c_V_cat]
    cases a <;> simp [Value.category, p_args, ih] <;> omega
theorem P_L_entry {base n : Nat} {ex : Nat → Nat} {as : List Value} (hl : (p_args as).length ≤ n) : P_L base ex n (p_pad n (p_args as)) ((lg_sl (as.map (c_V base ex)) ++ List.replicate (n - (lg_sl (as.map (c_V base ex))).length) Slot.unset).toArray) := by
  have h1 := lv_entry (as.map (c_V base ex)) (n := n) (by rw [p_args_len]; exact hl)
  refine ⟨p_pad_len _ _ hl, h1.1, h1.2.1, fun q hq => ?_⟩
  obtain ⟨j, w⟩ := q
  obtain ⟨k, v, e1, e2, e3⟩ := (c_L_mem _ 0 j w).mp hq
  have e4 := p_args_mem (base := base) (ex := ex) as 0 k v (p_pad_get _ _ _ _ e2)
  rw [e3, e1]
  exact h1.2.2 _ e4
