/-! ===== the model's nodes as they are made: left, right, node ===== -/
def mtr (a : Nat → Nat → Int32) : Nat → Nat → List pN → Prop
  | 0, _, _ => False
  | f + 1, b, ns => (∃ v, ns = [v] ∧ lfOk v ∧ mv a b v ∧ a 18 b = -1 ∧ a 19 b = -1) ∨ ∃ v l r, ns = v :: (l ++ r) ∧ inOk v l.length ∧ mtr a f b l ∧ mtr a f (b + l.length) r ∧ mv a (b + l.length + r.length) v ∧ a 18 (b + l.length + r.length) = nI (b + l.length - 1) ∧ a 19 (b + l.length + r.length) = nI (b + l.length + r.length - 1)
def MT (a : Nat → Nat → Int32) (b : Nat) (ns : List pN) : Prop := ∃ f, mtr a f b ns
theorem mtr_mono {a : Nat → Nat → Int32} : ∀ f g b ns, f ≤ g → mtr a f b ns → mtr a g b ns := by
  intro f
  induction f with
  | zero => intro g b ns _ h; exact h.elim
  | succ f ih =>
    intro g b ns hg h
    obtain ⟨g, rfl⟩ : ∃ g', g = g' + 1 := ⟨g - 1, by omega⟩
    rcases h with h | ⟨v, l, r, h1, h2, h3, h4, h5⟩
    · exact Or.inl h
    · exact Or.inr ⟨v, l, r, h1, h2, ih g b l (by omega) h3, ih g _ r (by omega) h4, h5⟩
theorem MT_leaf {a : Nat → Nat → Int32} {b : Nat} {v : pN} (h : lfOk v) (h1 : mv a b v) (h2 : a 18 b = -1) (h3 : a 19 b = -1) : MT a b [v] := ⟨1, Or.inl ⟨v, rfl, h, h1, h2, h3⟩⟩
theorem MT_node {a : Nat → Nat → Int32} {b : Nat} {v : pN} {l r : List pN} (h : inOk v l.length) (hl : MT a b l) (hr : MT a (b + l.length) r) (h1 : mv a (b + l.length + r.length) v) (h2 : a 18 (b + l.length + r.length) = nI (b + l.length - 1)) (h3 : a 19 (b + l.length + r.length) = nI (b + l.length + r.length - 1)) : MT a b (v :: (l ++ r)) := by
  obtain ⟨f, hl⟩ := hl
  obtain ⟨g, hr⟩ := hr
  exact ⟨max f g + 1, Or.inr ⟨v, l, r, rfl, h, mtr_mono f _ _ l (by omega) hl, mtr_mono g _ _ r (by omega) hr, h1, h2, h3⟩⟩
theorem MT_cases {a : Nat → Nat → Int32} {b : Nat} {ns : List pN} (h : MT a b ns) : (∃ v, ns = [v] ∧ lfOk v ∧ mv a b v ∧ a 18 b = -1 ∧ a 19 b = -1) ∨ ∃ v l r, ns = v :: (l ++ r) ∧ inOk v l.length ∧ MT a b l ∧ MT a (b + l.length) r ∧ mv a (b + l.length + r.length) v ∧ a 18 (b + l.length + r.length) = nI (b + l.length - 1) ∧ a 19 (b + l.length + r.length) = nI (b + l.length + r.length - 1) := by
  obtain ⟨f, h⟩ := h
  cases f with
  | zero => exact h.elim
  | succ f =>
    rcases h with h | ⟨v, l, r, h1, h2, h3, h4, h5⟩
    · exact Or.inl h
    · exact Or.inr ⟨v, l, r, h1, h2, ⟨f, h3⟩, ⟨f, h4⟩, h5⟩
theorem MT_tw {a : Nat → Nat → Int32} {b : Nat} {ns : List pN} (h : MT a b ns) : TW ns := by
  obtain ⟨f, h⟩ := h
  induction f generalizing b ns with
  | zero => exact h.elim
  | succ f ih =>
    rcases h with ⟨v, rfl, h1, _⟩ | ⟨v, l, r, rfl, h2, h3, h4, _⟩
    · exact TW_leaf h1
    · exact TW_node h2 (ih h3) (ih h4)
theorem mv_kept {a a' : Nat → Nat → Int32} {x : Nat} {v : pN} (h : mv a x v) (h6 : v.2.2.2.2.length ≤ 6) (e : mnv a' x = mnv a x) (er : ∀ i, 6 * x ≤ i → i < 6 * x + 6 → a' 21 i = a 21 i ∧ a' 22 i = a 22 i) : mv a' x v := by
  unfold mnv at e
  simp only [Prod.mk.injEq] at e
  obtain ⟨e0, e1, e2, e3, e4, e5⟩ := e
  obtain ⟨h0, h1, h2, h5, hr⟩ := h
  refine ⟨e0.trans h0, e1.trans h1, e2.trans h2, e5.trans h5, fun k q hk => ?_⟩
  have hl := getElem?_lt hk
  have := er (6 * x + k) (by omega) (by omega)
  rw [this.1, this.2]
  exact hr k q hk
theorem lfOk_rows {v : pN} (h : lfOk v) : v.2.2.2.2.length ≤ 6 := by
  rcases h.2.2 with h | h | h | h
  · rw [h.2.2.2]; simp
  · rw [h.2.2]; simp
  · rw [h.2.2.2]; simp
  · exact h.2.2.2.2.1
theorem inOk_rows {v : pN} {m : Nat} (h : inOk v m) : v.2.2.2.2.length ≤ 6 := by rw [h.2.2.2.2]; simp
/-- nodes that are not touched -/
theorem MT_kept {a a' : Nat → Nat → Int32} {b : Nat} {ns : List pN} (h : MT a b ns) (e : ∀ j, b ≤ j → j < b + ns.length → mnv a' j = mnv a j) (er : ∀ i, 6 * b ≤ i → i < 6 * (b + ns.length) → a' 21 i = a 21 i ∧ a' 22 i = a 22 i) : MT a' b ns := by
  obtain ⟨f, h⟩ := h
  refine ⟨f, ?_⟩
  induction f generalizing b ns with
  | zero => exact h.elim
  | succ f ih =>
    rcases h with ⟨v, rfl, h1, h2, h3, h4⟩ | ⟨v, l, r, rfl, h1, h2, h3, h4, h5, h6⟩
    · have e0 := e b (Nat.le_refl _) (by simp)
      refine Or.inl ⟨v, rfl, h1, mv_kept h2 (lfOk_rows h1) e0 (fun i hi1 hi2 => er i hi1 (by simp; omega)), ?_, ?_⟩
      · unfold mnv at e0; simp only [Prod.mk.injEq] at e0; rw [e0.2.2.2.1]; exact h3
      · unfold mnv at e0; simp only [Prod.mk.injEq] at e0; rw [e0.2.2.2.2.1]; exact h4
    · simp only [List.length_cons, List.length_append] at e er
      have e0 := e (b + l.length + r.length) (by omega) (by omega)
      refine Or.inr ⟨v, l, r, rfl, h1, ih (fun j h7 h8 => e j h7 (by omega)) (fun i h7 h8 => er i h7 (by omega)) h2, ih (fun j h7 h8 => e j (by omega) (by omega)) (fun i h7 h8 => er i (by omega) (by omega)) h3, mv_kept h4 (inOk_rows h1) e0 (fun i hi1 hi2 => er i (by omega) (by omega)), ?_, ?_⟩
      · unfold mnv at e0; simp only [Prod.mk.injEq] at e0; rw [e0.2.2.2.1]; exact h5
      · unfold mnv at e0; simp only [Prod.mk.injEq] at e0; rw [e0.2.2.2.2.1]; exact h6
/-! ===== numbering the nodes anew ===== -/
/-- the model holds the nodes ahead of their numbers -/
def Mp (a : Nat → Nat → Int32) (ns : List pN) : Prop := ∀ k v, ns[k]? = some v → mv a (60 + k) v ∧ a 18 (60 + k) = (if v.2.2.2.1 = 0 then -1 else nI (k + 1)) ∧ a 19 (60 + k) = (if v.2.2.2.1 = 0 then -1 else nI (k + v.2.2.2.1))
abbrev pK : Type := List (Nat × List pN)
def kLen (S : pK) : Nat := (S.map (fun e => e.2.length)).sum
/-- where x's number stands, or will -/
def RN (a : Nat → Nat → Int32) (S : pK) (n x s : Nat) : Prop := (a 28 x = nI s ∧ ∀ e ∈ S, ¬ (e.1 ≤ x ∧ x < e.1 + e.2.length)) ∨ ∃ S1 e S2, S = S1 ++ e :: S2 ∧ x = e.1 + e.2.length - 1 ∧ s = n + kLen S1
def NI (a : Nat → Nat → Int32) (N : Nat) (ns pre : List pN) (S : pK) : Prop :=
  ns = pre ++ (S.map (fun e => e.2)).flatten ∧ pre.length + kLen S = N ∧ (∀ e ∈ S, MT a e.1 e.2 ∧ e.1 + e.2.length ≤ N) ∧
  (∀ i e, S[i]? = some e → a 27 (S.length - 1 - i) = nI (e.1 + e.2.length - 1)) ∧
  S.Pairwise (fun e f => e.1 + e.2.length ≤ f.1 ∨ f.1 + f.2.length ≤ e.1) ∧
  ∀ k v, pre[k]? = some v → mv a (60 + k) v ∧ (v.2.2.2.1 = 0 → a 18 (60 + k) = -1 ∧ a 19 (60 + k) = -1) ∧ (¬ v.2.2.2.1 = 0 → ∃ xl xr, a 18 (60 + k) = nI xl ∧ a 19 (60 + k) = nI xr ∧ xl < N ∧ xr < N ∧ RN a S pre.length xl (k + 1) ∧ RN a S pre.length xr (k + v.2.2.2.1))
/-- what one turn writes -/
def NW (a a' : Nat → Nat → Int32) (n x : Nat) : Prop :=
  mnv a' (60 + n) = mnv a x ∧ (∀ j, j ≠ 60 + n → mnv a' j = mnv a j) ∧ (∀ i, i < 6 * (60 + n) → a' 21 i = a 21 i ∧ a' 22 i = a 22 i) ∧ (∀ i, i < 6 → nI i < a 20 x → a' 21 (6 * (60 + n) + i) = a 21 (6 * x + i) ∧ a' 22 (6 * (60 + n) + i) = a 22 (6 * x + i)) ∧ a' 28 = upd (a 28) x (nI n)
theorem kLen_cons (e : Nat × List pN) (S : pK) : kLen (e :: S) = e.2.length + kLen S := by unfold kLen; simp
theorem NI_mv {a a' : Nat → Nat → Int32} {n x : Nat} {v : pN} (h : NW a a' n x) (hv : mv a x v) (h6 : v.2.2.2.2.length ≤ 6) : mv a' (60 + n) v := by
  obtain ⟨h1, _, _, h4, _⟩ := h
  unfold mnv at h1
  simp only [Prod.mk.injEq] at h1
  obtain ⟨e0, e1, e2, e3, e4, e5⟩ := h1
  obtain ⟨g0, g1, g2, g3, g4⟩ := hv
  refine ⟨e0.trans g0, e1.trans g1, e2.trans g2, e5.trans g3, fun k q hk => ?_⟩
  have hl := getElem?_lt hk
  have := h4 k (by omega) (by rw [g3]; exact (kI_lt (by omega) (by omega)).mpr hl)
  rw [this.1, this.2]
  exact g4 k q hk
theorem NI_keep {a a' : Nat → Nat → Int32} {n x : Nat} (h : NW a a' n x) {b : Nat} {ns : List pN} (hm : MT a b ns) (hb : b + ns.length ≤ 60) : MT a' b ns :=
  MT_kept hm (fun j _ h2 => h.2.1 j (by omega)) (fun i _ h2 => h.2.2.1 i (by omega))
theorem NI_done {a a' : Nat → Nat → Int32} {n x k : Nat} {v : pN} (h : NW a a' n x) (hk : k < n) (hv : mv a (60 + k) v) (h6 : v.2.2.2.2.length ≤ 6) : mv a' (60 + k) v ∧ a' 18 (60 + k) = a 18 (60 + k) ∧ a' 19 (60 + k) = a 19 (60 + k) := by
  have e := h.2.1 (60 + k) (by omega)
  refine ⟨mv_kept hv h6 e (fun i h1 h2 => h.2.2.1 i (by omega)), ?_, ?_⟩
  · unfold mnv at e; simp only [Prod.mk.injEq] at e; exact e.2.2.2.1
  · unfold mnv at e; simp only [Prod.mk.injEq] at e; exact e.2.2.2.2.1
theorem kLen_app (P S : pK) : kLen (P ++ S) = kLen P + kLen S := by unfold kLen; simp
theorem RN_step {a a' : Nat → Nat → Int32} {P S : pK} {b n x s : Nat} {t : List pN} (h28 : a' 28 = upd (a 28) (b + t.length - 1) (nI n)) (ht : 1 ≤ t.length) (hP : ∀ e ∈ P, b ≤ e.1 ∧ e.1 + e.2.length ≤ b + t.length - 1) (hk : kLen P + 1 = t.length) (hd : ∀ e ∈ S, b + t.length ≤ e.1 ∨ e.1 + e.2.length ≤ b) (h : RN a ((b, t) :: S) n x s) : RN a' (P ++ S) (n + 1) x s := by
  rcases h with ⟨h1, h2⟩ | ⟨S1, e, S2, h1, h2, h3⟩
  · have hx := h2 (b, t) List.mem_cons_self
    dsimp only at hx
    refine Or.inl ⟨?_, fun e he => ?_⟩
    · rw [h28]
      unfold upd
      rw [if_neg (by omega)]
      exact h1
    · rcases List.mem_append.mp he with he | he
      · have := hP e he; omega
      · exact h2 e (List.mem_cons_of_mem _ he)
  · cases S1 with
    | nil =>
      rw [List.nil_append] at h1
      injection h1 with h4 h5
      subst h5
      rw [← h4] at h2
      dsimp only at h2
      have hs : s = n := by rw [h3]; rfl
      subst hs
      refine Or.inl ⟨?_, fun e he => ?_⟩
      · rw [h28, h2]; unfold upd; rw [if_pos rfl]
      · rcases List.mem_append.mp he with he | he
        · have := hP e he; omega
        · have := hd e he; omega
    | cons c S1 =>
      rw [List.cons_append] at h1
      injection h1 with h4 h5
      refine Or.inr ⟨P ++ S1, e, S2, by rw [h5, List.append_assoc], h2, ?_⟩
      rw [h3, kLen_cons, kLen_app, ← h4]
      dsimp only
      omega
theorem NI_rows {ns : List pN} (h : ∀ v ∈ ns, v.2.2.2.2.length ≤ 6) {pre : List pN} {rest : List pN} (e : ns = pre ++ rest) {k : Nat} {v : pN} (hk : pre[k]? = some v) : v.2.2.2.2.length ≤ 6 :=
  h v (by rw [e]; exact List.mem_append.mpr (Or.inl (List.mem_of_getElem? hk)))
theorem TW_rows {ns : List pN} (h : TW ns) : ∀ v ∈ ns, v.2.2.2.2.length ≤ 6 := by
  refine TW_ind (C := fun ns => ∀ v ∈ ns, v.2.2.2.2.length ≤ 6) ?_ ?_ h
  · intro v hv x hx; rw [List.mem_singleton.mp hx]; exact lfOk_rows hv
  · intro v l r hv _ _ il ir x hx
    rcases List.mem_cons.mp hx with h | h
    · rw [h]; exact inOk_rows hv
    · rcases List.mem_append.mp h with h | h
      · exact il x h
      · exact ir x h
theorem NI_start {a : Nat → Nat → Int32} {ns : List pN} (h : MT a 0 ns) (h27 : a 27 0 = nI (ns.length - 1)) : NI a ns.length ns [] [(0, ns)] := by
  refine ⟨by simp, by unfold kLen; simp, fun e he => ?_, fun i e hi => ?_, List.pairwise_singleton _ _, fun k v hk => by simp at hk⟩
  · rw [List.mem_singleton.mp he]; exact ⟨h, by simp⟩
  · have hl := getElem?_lt hi
    have hi0 : i = 0 := by simp at hl; omega
    subst hi0
    cases hi
    simp only [List.length_singleton, Nat.zero_add]
    exact h27
theorem NI_step {a a' : Nat → Nat → Int32} {N b : Nat} {ns pre t : List pN} {v : pN} {P S : pK} (hN : N ≤ 60) (hr : ∀ v ∈ ns, v.2.2.2.2.length ≤ 6) (h : NI a N ns pre ((b, t) :: S)) (hw : NW a a' pre.length (b + t.length - 1)) (htl : t = v :: (P.map (fun e => e.2)).flatten)
    (hmv : mv a (b + t.length - 1) v) (hP : ∀ e ∈ P, b ≤ e.1 ∧ e.1 + e.2.length ≤ b + t.length - 1 ∧ MT a e.1 e.2)
    (hpw : P.Pairwise (fun e f => e.1 + e.2.length ≤ f.1 ∨ f.1 + f.2.length ≤ e.1))
    (hpl : ∀ i e, (P ++ S)[i]? = some e → i < P.length → a' 27 ((P ++ S).length - 1 - i) = nI (e.1 + e.2.length - 1)) (hpl2 : ∀ i, i < S.length → a' 27 i = a 27 i)
    (hl : (v.2.2.2.1 = 0 → a 18 (b + t.length - 1) = -1 ∧ a 19 (b + t.length - 1) = -1) ∧ (¬ v.2.2.2.1 = 0 → ∃ xl xr, a 18 (b + t.length - 1) = nI xl ∧ a 19 (b + t.length - 1) = nI xr ∧ xl < N ∧ xr < N ∧ RN a' (P ++ S) (pre.length + 1) xl (pre.length + 1) ∧ RN a' (P ++ S) (pre.length + 1) xr (pre.length + v.2.2.2.1))) : NI a' N ns (pre ++ [v]) (P ++ S) := by
  obtain ⟨h1, h2, h3, h4, h5, h6⟩ := h
  have hkP : kLen P + 1 = t.length := by
    rw [htl]
    unfold kLen
    rw [List.length_cons, List.length_flatten, List.map_map]
    rfl
  have ht1 : 1 ≤ t.length := by omega
  rw [kLen_cons] at h2
  dsimp only at h2
  have hd : ∀ e ∈ S, b + t.length ≤ e.1 ∨ e.1 + e.2.length ≤ b := fun e he => (List.rel_of_pairwise_cons h5) he
  have hv6 : v.2.2.2.2.length ≤ 6 := hr v (by rw [h1]; refine List.mem_append.mpr (Or.inr ?_); rw [List.map_cons, List.flatten_cons]; refine List.mem_append.mpr (Or.inl ?_); rw [htl]; exact List.mem_cons_self)
  have hbN : b + t.length ≤ N := (h3 (b, t) List.mem_cons_self).2
  refine ⟨?_, ?_, fun e he => ?_, fun i e hi => ?_, ?_, fun k x hk => ?_⟩
  · rw [h1, List.map_cons, List.flatten_cons, List.map_append, List.flatten_append]
    dsimp only
    conv => lhs; rw [htl]
    simp
  · rw [List.length_append, kLen_app]
    simp only [List.length_singleton]
    omega
  · rcases List.mem_append.mp he with he | he
    · obtain ⟨q1, q2, q3⟩ := hP e he
      exact ⟨NI_keep hw q3 (by omega), by omega⟩
    · obtain ⟨q1, q2⟩ := h3 e (List.mem_cons_of_mem _ he)
      exact ⟨NI_keep hw q1 (by omega), q2⟩
  · by_cases hiP : i < P.length
    · exact hpl i e hi hiP
    · rw [List.getElem?_append_right (by omega)] at hi
      have hil := getElem?_lt hi
      have := h4 (i - P.length + 1) e (by rw [List.getElem?_cons_succ]; exact hi)
      rw [List.length_append, show P.length + S.length - 1 - i = S.length - 1 - (i - P.length) by omega, hpl2 _ (by omega)]
      rw [List.length_cons, show S.length + 1 - 1 - (i - P.length + 1) = S.length - 1 - (i - P.length) by omega] at this
      exact this
  · rw [List.pairwise_append]
    refine ⟨hpw, (List.pairwise_cons.mp h5).2, fun e he f hf => ?_⟩
    have q1 := hP e he
    have q2 := hd f hf
    omega
  · rw [List.length_append, List.length_singleton]
    by_cases hkl : k < pre.length
    · rw [List.getElem?_append_left hkl] at hk
      obtain ⟨g1, g2, g3⟩ := h6 k x hk
      obtain ⟨d1, d2, d3⟩ := NI_done hw hkl g1 (NI_rows hr h1 hk)
      refine ⟨d1, fun h0 => ?_, fun h0 => ?_⟩
      · rw [d2, d3]; exact g2 h0
      · obtain ⟨xl, xr, f1, f2, f3, f4, f5, f6⟩ := g3 h0
        exact ⟨xl, xr, d2.trans f1, d3.trans f2, f3, f4, RN_step hw.2.2.2.2 ht1 (fun e he => ⟨(hP e he).1, (hP e he).2.1⟩) hkP hd f5, RN_step hw.2.2.2.2 ht1 (fun e he => ⟨(hP e he).1, (hP e he).2.1⟩) hkP hd f6⟩
    · rw [List.getElem?_append_right (by omega)] at hk
      have hz : k - pre.length < 1 := getElem?_lt hk
      have hk0 : k = pre.length := by omega
      subst hk0
      rw [Nat.sub_self] at hk
      cases hk
      have e := hw.1
      unfold mnv at e
      simp only [Prod.mk.injEq] at e
      refine ⟨NI_mv hw hmv hv6, fun h0 => ?_, fun h0 => ?_⟩
      · rw [e.2.2.2.1, e.2.2.2.2.1]; exact hl.1 h0
      · obtain ⟨xl, xr, f1, f2, f3⟩ := hl.2 h0
        exact ⟨xl, xr, e.2.2.2.1.trans f1, e.2.2.2.2.1.trans f2, f3⟩
theorem NI_leaf {a a' : Nat → Nat → Int32} {N b : Nat} {ns pre : List pN} {v : pN} {S : pK} (hN : N ≤ 60) (hr : ∀ v ∈ ns, v.2.2.2.2.length ≤ 6) (h : NI a N ns pre ((b, [v]) :: S)) (hv : lfOk v) (hw : NW a a' pre.length b) (h27 : ∀ i, i < S.length → a' 27 i = a 27 i) : NI a' N ns (pre ++ [v]) S := by
  have hm := (h.2.2.1 (b, [v]) List.mem_cons_self).1
  rcases MT_cases hm with ⟨v', e, _, m1, m2, m3⟩ | ⟨v', l, r, e, g1, g2, g3, _⟩
  · have e : [v] = [v'] := e
    cases e
    exact NI_step (P := []) (t := [v]) hN hr h hw rfl m1 (fun e he => by simp at he) List.Pairwise.nil (fun i e _ hi => by simp at hi) h27 ⟨fun _ => ⟨m2, m3⟩, fun h0 => absurd hv.1 h0⟩
  · have e : [v] = v' :: (l ++ r) := e
    have h1 := congrArg List.length e
    have h2 := TW_ne (MT_tw g2)
    rw [List.length_singleton, List.length_cons, List.length_append] at h1
    omega
theorem NI_node {a a' : Nat → Nat → Int32} {N b : Nat} {ns pre l r : List pN} {v : pN} {S : pK} (hN : N ≤ 60) (hr : ∀ v ∈ ns, v.2.2.2.2.length ≤ 6) (h : NI a N ns pre ((b, v :: (l ++ r)) :: S)) (hv : inOk v l.length) (hm1 : MT a b l) (hm2 : MT a (b + l.length) r) (m1 : mv a (b + l.length + r.length) v) (m2 : a 18 (b + l.length + r.length) = nI (b + l.length - 1)) (m3 : a 19 (b + l.length + r.length) = nI (b + l.length + r.length - 1)) (hw : NW a a' pre.length (b + l.length + r.length)) (h27 : a' 27 = upd (upd (a 27) S.length (a 19 (b + l.length + r.length))) (S.length + 1) (a 18 (b + l.length + r.length))) : NI a' N ns (pre ++ [v]) ((b, l) :: (b + l.length, r) :: S) := by
  have hbN : b + (v :: (l ++ r)).length ≤ N := (h.2.2.1 _ List.mem_cons_self).2
  have hlen : b + (v :: (l ++ r)).length - 1 = b + l.length + r.length := by simp only [List.length_cons, List.length_append]; omega
  simp only [List.length_cons, List.length_append] at hbN
  have hl1 := TW_ne (MT_tw hm1)
  have hr1 := TW_ne (MT_tw hm2)
  refine NI_step (P := [(b, l), (b + l.length, r)]) (t := v :: (l ++ r)) hN hr h (by rw [hlen]; exact hw) (by simp) (by rw [hlen]; exact m1) (fun e he => ?_) ?_ (fun i e hi hiP => ?_) (fun i hi => ?_) ⟨fun h0 => ?_, fun _ => ⟨b + l.length - 1, b + l.length + r.length - 1, ?_, ?_, by omega, by omega, ?_, ?_⟩⟩
  · rw [hlen]
    rcases List.mem_cons.mp he with he | he
    · subst he; dsimp only; exact ⟨by omega, by omega, hm1⟩
    · rw [List.mem_singleton.mp he]; dsimp only; exact ⟨by omega, by omega, hm2⟩
  · rw [List.pairwise_pair]; left; dsimp only; omega
  · simp only [List.length_cons, List.length_nil, Nat.zero_add] at hiP
    have : i = 0 ∨ i = 1 := by omega
    rcases this with rfl | rfl
    · cases hi
      rw [h27, List.length_append]
      unfold upd
      rw [if_pos (by simp <;> omega), m2]
    · cases hi
      rw [h27, List.length_append]
      unfold upd
      rw [if_neg (by simp <;> omega), if_pos (by simp <;> omega), m3]
  · rw [h27]
    unfold upd
    rw [if_neg (by omega), if_neg (by omega)]
  · rw [hv.2.2.2.1] at h0; omega
  · rw [hlen]; exact m2
  · rw [hlen]; exact m3
  · exact Or.inr ⟨[], (b, l), (b + l.length, r) :: S, rfl, rfl, rfl⟩
  · refine Or.inr ⟨[(b, l)], (b + l.length, r), S, rfl, rfl, ?_⟩
    rw [hv.2.2.2.1, kLen_cons]
    show _ = _ + (l.length + 0)
    omega
theorem NI_end {a : Nat → Nat → Int32} {N : Nat} {ns pre : List pN} (h : NI a N ns pre []) : pre = ns ∧ N = ns.length ∧ ∀ k v, ns[k]? = some v → mv a (60 + k) v ∧ (v.2.2.2.1 = 0 → a 18 (60 + k) = -1 ∧ a 19 (60 + k) = -1) ∧ (¬ v.2.2.2.1 = 0 → ∃ xl xr, a 18 (60 + k) = nI xl ∧ a 19 (60 + k) = nI xr ∧ xl < N ∧ xr < N ∧ a 28 xl = nI (k + 1) ∧ a 28 xr = nI (k + v.2.2.2.1)) := by
  obtain ⟨h1, h2, _, _, _, h6⟩ := h
  have e : pre = ns := by rw [h1]; simp
  subst e
  refine ⟨rfl, by rw [← h2]; rfl, fun k v hk => ?_⟩
  obtain ⟨g1, g2, g3⟩ := h6 k v hk
  refine ⟨g1, g2, fun h0 => ?_⟩
  obtain ⟨xl, xr, f1, f2, f3, f4, f5, f6⟩ := g3 h0
  refine ⟨xl, xr, f1, f2, f3, f4, ?_, ?_⟩
  · rcases f5 with f | ⟨S1, e, S2, h, _⟩
    · exact f.1
    · exact absurd h (by simp)
  · rcases f6 with f | ⟨S1, e, S2, h, _⟩
    · exact f.1
    · exact absurd h (by simp)
