/-! ===== values ===== -/
def nL (n : Nat) : Int64 := Int64.ofNat n
theorem kL_add (a b : Nat) : nL a + nL b = nL (a + b) := by unfold nL; exact (Int64.ofNat_add a b).symm
theorem kL_mul (a b : Nat) : nL a * nL b = nL (a * b) := by unfold nL; exact (Int64.ofNat_mul a b).symm
theorem nL_toInt {n : Nat} (h : n < 9223372036854775808) : (nL n).toInt = n := Int64.toInt_ofNat_of_lt (by omega)
theorem kL_lt {a b : Nat} (ha : a < 9223372036854775808) (hb : b < 9223372036854775808) : nL a < nL b ↔ a < b := by
  rw [Int64.lt_iff_toInt_lt, nL_toInt ha, nL_toInt hb]; omega
theorem kL_inj {a b : Nat} (ha : a < 9223372036854775808) (hb : b < 9223372036854775808) : nL a = nL b ↔ a = b := by
  constructor
  · intro h
    have := congrArg Int64.toInt h
    rw [nL_toInt ha, nL_toInt hb] at this
    omega
  · intro h; rw [h]
theorem kL_of {x : Int64} (h : 0 ≤ x.toInt) : x = nL x.toInt.toNat := by
  have h2 := Int64.toInt_lt x
  rw [← Int64.toInt_inj, nL_toInt (by omega)]
  omega
theorem kL_of2 {x : Int64} (h : ¬ x < nL 0) : x = nL x.toInt.toNat ∧ x.toInt.toNat < 9223372036854775808 := by
  rw [Int64.lt_iff_toInt_lt, nL_toInt (by omega)] at h
  have h2 := Int64.toInt_lt x
  exact ⟨kL_of (by omega), by omega⟩
theorem kL_sub {a b : Nat} (h : b ≤ a) : nL a - nL b = nL (a - b) := by
  have : nL a = nL (a - b) + nL b := by rw [kL_add]; congr 1; omega
  rw [this]; exact Int64.add_sub_cancel _ _
theorem kL_neg {a : Nat} (h : a < 9223372036854775808) : ¬ nL a < nL 0 := by
  rw [kL_lt h (by omega)]; omega
theorem kL_m1 {a : Nat} (h : a < 9223372036854775808) : ¬ nL a = -1 := by
  intro he
  have := congrArg Int64.toInt he
  rw [nL_toInt h] at this
  have e : (-1 : Int64).toInt = -1 := by decide
  omega
theorem kL_div {a b : Nat} (ha : a < 9223372036854775808) (hb : b < 9223372036854775808) : nL a / nL b = nL (a / b) := by
  have hq : a / b < 9223372036854775808 := Nat.lt_of_le_of_lt (Nat.div_le_self a b) ha
  rw [← Int64.toInt_inj, Int64.toInt_div_of_ne_right _ _ (by
    intro h
    have := congrArg Int64.toInt h
    rw [nL_toInt hb] at this
    have e : (-1 : Int64).toInt = -1 := by decide
    omega), nL_toInt ha, nL_toInt hb, nL_toInt hq]
  exact (Int.ofNat_tdiv a b).symm
theorem kL_mod {a b : Nat} (ha : a < 9223372036854775808) (hb : b < 9223372036854775808) : nL a % nL b = nL (a % b) := by
  have hq : a % b < 9223372036854775808 := Nat.lt_of_le_of_lt (Nat.mod_le a b) ha
  rw [← Int64.toInt_inj, Int64.toInt_mod, nL_toInt ha, nL_toInt hb, nL_toInt hq]
  exact (Int.ofNat_tmod a b).symm
theorem kI_i2l {a : Nat} (h : a < 2147483648) : (nI a).toInt64 = nL a := by
  rw [← Int64.toInt_inj, Int32.toInt_toInt64, nI_toInt h, nL_toInt (by omega)]
theorem kI_div {a b : Nat} (ha : a < 2147483648) (hb : b < 2147483648) : nI a / nI b = nI (a / b) := by
  have hq : a / b < 2147483648 := Nat.lt_of_le_of_lt (Nat.div_le_self a b) ha
  rw [← Int32.toInt_inj, Int32.toInt_div_of_ne_right _ _ (by
    intro h
    have := congrArg Int32.toInt h
    rw [nI_toInt hb] at this
    have e : (-1 : Int32).toInt = -1 := by decide
    omega), nI_toInt ha, nI_toInt hb, nI_toInt hq]
  exact (Int.ofNat_tdiv a b).symm
theorem kI_mod {a b : Nat} (ha : a < 2147483648) (hb : b < 2147483648) : nI a % nI b = nI (a % b) := by
  have hq : a % b < 2147483648 := Nat.lt_of_le_of_lt (Nat.mod_le a b) ha
  rw [← Int32.toInt_inj, Int32.toInt_mod, nI_toInt ha, nI_toInt hb, nI_toInt hq]
  exact (Int.ofNat_tmod a b).symm
/-- the cents of steps -/
def stC (pc en : Nat) : List (Nat × Nat) → Nat → Nat
  | [], c => c
  | q :: t, c => stC pc en t (if pc = 0 ∨ q.1 ≤ en * 100 / pc then q.2 else c)
theorem stC_lt {pc en m : Nat} : ∀ (rs : List (Nat × Nat)) (c : Nat), (∀ q ∈ rs, q.2 < m) → c < m → stC pc en rs c < m := by
  intro rs
  induction rs with
  | nil => intro c _ h; exact h
  | cons q t ih =>
    intro c h hc
    refine ih _ (fun q hq => h q (List.mem_cons_of_mem _ hq)) ?_
    split
    · exact h q List.mem_cons_self
    · exact hc
def vL (um : Nat → Option Nat) (pc : Nat) (v : pN) : Option Int64 :=
  if v.1 = 0 then some 0 else if v.1 = 1 then some (nL pc * nL v.2.1 * nL 10) else if v.1 = 2 then (um v.2.2.1).map (fun x => nL v.2.1 * nL x) else some (nL (stC pc v.2.1 v.2.2.2.2 0) * nL 1000000)
def vI (k : Nat) (a b : Int64) : Int64 := if k = 3 then a + b else if k = 4 then a - b else if k = 5 then (if a < b then a else b) else (if a < b then b else a)
def vB (k : Nat) (a b : Option Int64) : Option Int64 := match a, b with
  | some x, some x2 => some (vI k x x2)
  | _, _ => none
def ev (um : Nat → Option Nat) (pc : Nat) : Nat → List pN → Option Int64
  | 0, _ => none
  | _ + 1, [] => none
  | f + 1, v :: t => if v.2.2.2.1 = 0 then vL um pc v else vB v.1 (ev um pc f t) (ev um pc f (t.drop (v.2.2.2.1 - 1)))
def VAL (um : Nat → Option Nat) (pc : Nat) (t : List pN) : Option Int64 := ev um pc t.length t
theorem ev_app {um : Nat → Option Nat} {pc : Nat} {t : List pN} (h : TW t) : ∀ f s, t.length ≤ f → ev um pc f (t ++ s) = VAL um pc t := by
  refine TW_ind (C := fun t => ∀ f s, t.length ≤ f → ev um pc f (t ++ s) = VAL um pc t) ?_ ?_ h
  · intro v hv f s hf
    obtain ⟨f, rfl⟩ : ∃ g, f = g + 1 := ⟨f - 1, by simp at hf; omega⟩
    show (if v.2.2.2.1 = 0 then _ else _) = (if v.2.2.2.1 = 0 then _ else _)
    rw [if_pos hv.1, if_pos hv.1]
  · intro v l r hv hl hr il ir f s hf
    obtain ⟨f, rfl⟩ : ∃ g, f = g + 1 := ⟨f - 1, by simp at hf; omega⟩
    simp only [List.length_cons, List.length_append] at hf
    have hk : v.2.2.2.1 - 1 = l.length := by rw [hv.2.2.2.1]; omega
    have h0 : ¬ v.2.2.2.1 = 0 := by rw [hv.2.2.2.1]; omega
    have key : ∀ f s, l.length + r.length ≤ f → ev um pc (f + 1) (v :: (l ++ r) ++ s) = vB v.1 (VAL um pc l) (VAL um pc r) := by
      intro f s hf
      show (if v.2.2.2.1 = 0 then vL um pc v else vB v.1 (ev um pc f (l ++ r ++ s)) (ev um pc f ((l ++ r ++ s).drop (v.2.2.2.1 - 1)))) = _
      rw [if_neg h0, hk, List.append_assoc, List.drop_left, il f _ (by omega), ir f _ (by omega)]
    rw [key f s (by omega)]
    have := key (l ++ r).length [] (by simp)
    rw [List.append_nil] at this
    exact this.symm
theorem VAL_leaf {um : Nat → Option Nat} {pc : Nat} {v : pN} (h : lfOk v) : VAL um pc [v] = vL um pc v := by
  show (if v.2.2.2.1 = 0 then _ else _) = _
  rw [if_pos h.1]
theorem VAL_node {um : Nat → Option Nat} {pc : Nat} {v : pN} {l r : List pN} (h : inOk v l.length) (hl : TW l) (hr : TW r) : VAL um pc (v :: (l ++ r)) = vB v.1 (VAL um pc l) (VAL um pc r) := by
  have h0 : ¬ v.2.2.2.1 = 0 := by rw [h.2.2.2.1]; omega
  have hk : v.2.2.2.1 - 1 = l.length := by rw [h.2.2.2.1]; omega
  show (if v.2.2.2.1 = 0 then vL um pc v else vB v.1 (ev um pc (l ++ r).length (l ++ r)) (ev um pc (l ++ r).length ((l ++ r).drop (v.2.2.2.1 - 1)))) = _
  have e := ev_app (um := um) (pc := pc) hr (l ++ r).length [] (by simp)
  rw [List.append_nil] at e
  rw [if_neg h0, hk, List.drop_left, ev_app hl _ _ (by simp), e]
/-- a value is wanting just where a unit has no amount -/
theorem VAL_none {um : Nat → Option Nat} {pc : Nat} {t : List pN} (h : TW t) : VAL um pc t = none ↔ ∃ v ∈ t, v.1 = 2 ∧ um v.2.2.1 = none := by
  refine TW_ind (C := fun t => VAL um pc t = none ↔ ∃ v ∈ t, v.1 = 2 ∧ um v.2.2.1 = none) ?_ ?_ h
  · intro v hv
    rw [VAL_leaf hv]
    unfold vL
    by_cases h0 : v.1 = 0
    · rw [if_pos h0]
      simp [h0]
    · rw [if_neg h0]
      by_cases h1 : v.1 = 1
      · rw [if_pos h1]; simp [h1]
      · rw [if_neg h1]
        by_cases h2 : v.1 = 2
        · rw [if_pos h2]; simp [h2]
        · rw [if_neg h2]; simp [h2]
  · intro v l r hv hl hr il ir
    rw [VAL_node hv hl hr]
    have hk : ¬ v.1 = 2 := by rcases hv.1 with h | h | h | h <;> omega
    constructor
    · intro h
      cases hL : VAL um pc l with
      | none =>
        obtain ⟨x, hx, e⟩ := il.mp hL
        exact ⟨x, List.mem_cons_of_mem _ (List.mem_append.mpr (Or.inl hx)), e⟩
      | some a =>
        cases hR : VAL um pc r with
        | none =>
          obtain ⟨x, hx, e⟩ := ir.mp hR
          exact ⟨x, List.mem_cons_of_mem _ (List.mem_append.mpr (Or.inr hx)), e⟩
        | some b => rw [hL, hR] at h; cases h
    · rintro ⟨x, hx, e⟩
      rcases List.mem_cons.mp hx with h | h
      · subst h; exact absurd e.1 hk
      · rcases List.mem_append.mp h with h | h
        · rw [il.mpr ⟨x, h, e⟩]; rfl
        · rw [ir.mpr ⟨x, h, e⟩]
          cases VAL um pc l <;> rfl
/-- a tree stands at every place -/
theorem TW_at {ns : List pN} (h : TW ns) : ∀ i s, i < ns.length → ∃ t u, (ns ++ s).drop i = t ++ u ∧ TW t ∧ ∃ v t', t = v :: t' ∧ ns[i]? = some v := by
  refine TW_ind (C := fun ns => ∀ i s, i < ns.length → ∃ t u, (ns ++ s).drop i = t ++ u ∧ TW t ∧ ∃ v t', t = v :: t' ∧ ns[i]? = some v) ?_ ?_ h
  · intro v hv i s hi
    have hi0 : i = 0 := by simp at hi; omega
    subst hi0
    exact ⟨[v], s, rfl, TW_leaf hv, v, [], rfl, rfl⟩
  · intro v l r hv hl hr il ir i s hi
    cases i with
    | zero => exact ⟨v :: (l ++ r), s, rfl, TW_node hv hl hr, v, l ++ r, rfl, rfl⟩
    | succ i =>
      simp only [List.length_cons, List.length_append] at hi
      by_cases hil : i < l.length
      · obtain ⟨t, u, e, ht, x, t', e2, e3⟩ := il i (r ++ s) hil
        refine ⟨t, u, ?_, ht, x, t', e2, ?_⟩
        · show (l ++ r ++ s).drop i = _
          rw [List.append_assoc]; exact e
        · show (l ++ r)[i]? = some x
          rw [List.getElem?_append_left hil]; exact e3
      · obtain ⟨t, u, e, ht, x, t', e2, e3⟩ := ir (i - l.length) s (by omega)
        refine ⟨t, u, ?_, ht, x, t', e2, ?_⟩
        · show (l ++ r ++ s).drop i = _
          rw [List.append_assoc, List.drop_append, List.drop_eq_nil_of_le (by omega), List.nil_append]
          exact e
        · show (l ++ r)[i]? = some x
          rw [List.getElem?_append_right (by omega)]; exact e3
theorem TW_cases {t : List pN} (h : TW t) : (∃ v, t = [v] ∧ lfOk v) ∨ ∃ v l r, t = v :: (l ++ r) ∧ inOk v l.length ∧ TW l ∧ TW r := by
  obtain ⟨f, h⟩ := h
  cases f with
  | zero => exact h.elim
  | succ f =>
    rcases h with h | ⟨v, l, r, e, hv, hl, hr⟩
    · exact Or.inl h
    · exact Or.inr ⟨v, l, r, e, hv, ⟨f, hl⟩, ⟨f, hr⟩⟩
/-! ===== units ===== -/
/-- the chain from v ends within k units -/
def cl (M G : Nat → Nat) : Nat → Nat → Prop
  | 0, _ => False
  | k + 1, v => M v = 0 ∨ cl M G k (G v)
theorem cl_mono {M G : Nat → Nat} : ∀ k j v, k ≤ j → cl M G k v → cl M G j v := by
  intro k
  induction k with
  | zero => intro j v _ h; exact h.elim
  | succ k ih =>
    intro j v hj h
    obtain ⟨j, rfl⟩ : ∃ i, j = i + 1 := ⟨j - 1, by omega⟩
    rcases h with h | h
    · exact Or.inl h
    · exact Or.inr (ih j _ (by omega) h)
/-- as many as there are -/
theorem pig : ∀ m k (h : Nat → Nat), (∀ i, i < k → ∃ v, v < m ∧ h v = i) → k ≤ m := by
  intro m
  induction m with
  | zero => intro k h hk; exact Nat.le_of_not_lt (fun h0 => by obtain ⟨v, hv, _⟩ := hk 0 h0; omega)
  | succ m ih =>
    intro k h hk
    cases k with
    | zero => omega
    | succ k =>
      have := ih k (fun v => if h v = k then h m else h v) (fun i hi => by
        obtain ⟨v, hv, he⟩ := hk i (by omega)
        by_cases hvm : v = m
        · subst hvm
          obtain ⟨v', hv', he'⟩ := hk k (by omega)
          have : v' ≠ v := by intro h; subst h; omega
          exact ⟨v', by omega, by rw [if_pos he']; exact he⟩
        · exact ⟨v, by omega, by rw [if_neg (by omega)]; exact he⟩)
      omega
/-- a chain that ends ends within as many as there are -/
theorem cl_le {M G : Nat → Nat} {m : Nat} (hG : ∀ v, v < m → G v < m) {v : Nat} (hv : v < m) {k : Nat} (h : cl M G k v) : cl M G m v := by
  have ex : ∀ k v, v < m → cl M G k v → ¬ cl M G (k - 1) v → k ≠ 0 → ∀ i, i < k → ∃ x, x < m ∧ cl M G (i + 1) x ∧ ¬ cl M G i x := by
    intro k
    induction k with
    | zero => intro v _ _ _ h; exact absurd rfl h
    | succ k ih =>
      intro v hv h1 h2 _ i hi
      by_cases hik : i = k
      · subst hik; exact ⟨v, hv, h1, h2⟩
      · rcases h1 with h1 | h1
        · exfalso
          refine h2 ?_
          show cl M G k v
          obtain ⟨j, rfl⟩ : ∃ j, k = j + 1 := ⟨k - 1, by omega⟩
          exact Or.inl h1
        · refine ih (G v) (hG v hv) h1 (fun h => h2 ?_) (by omega) i (by omega)
          show cl M G k v
          obtain ⟨j, rfl⟩ : ∃ j, k = j + 1 := ⟨k - 1, by omega⟩
          exact Or.inr h
  have lst : ∀ k v, cl M G k v → ∃ j, j ≤ k ∧ cl M G j v ∧ ¬ cl M G (j - 1) v ∧ j ≠ 0 := by
    intro k
    induction k with
    | zero => intro v h; exact h.elim
    | succ k ih =>
      intro v h
      by_cases h1 : cl M G k v
      · obtain ⟨j, hj, e⟩ := ih v h1; exact ⟨j, by omega, e⟩
      · exact ⟨k + 1, Nat.le_refl _, h, h1, by omega⟩
  obtain ⟨j, _, h1, h2, h3⟩ := lst k v h
  have hx := ex j v hv h1 h2 h3
  have : ∀ x, ∃ i, (cl M G (i + 1) x ∧ ¬ cl M G i x) ∨ ∀ i, ¬ (cl M G (i + 1) x ∧ ¬ cl M G i x) := fun x => by
    by_cases h : ∃ i, cl M G (i + 1) x ∧ ¬ cl M G i x
    · obtain ⟨i, h⟩ := h; exact ⟨i, Or.inl h⟩
    · exact ⟨0, Or.inr (fun i hi => h ⟨i, hi⟩)⟩
  have hjm : j ≤ m := pig m j (fun x => Classical.choose (this x)) (fun i hi => by
    obtain ⟨x, hxm, hx1, hx2⟩ := hx i hi
    refine ⟨x, hxm, ?_⟩
    rcases Classical.choose_spec (this x) with h | h
    · obtain ⟨h4, h5⟩ := h
      refine Classical.byContradiction (fun hne => ?_)
      rcases Nat.lt_or_gt_of_ne hne with hlt | hlt
      · exact hx2 (cl_mono _ _ x (by omega) h4)
      · exact h5 (cl_mono _ _ x (by omega) hx1)
    · exact absurd ⟨hx1, hx2⟩ (h i))
  exact cl_mono j m v hjm h1
/-- following the chain from x one comes to u within k -/
def rl (M G : Nat → Nat) (u : Nat) : Nat → Nat → Prop
  | 0, x => x = u
  | k + 1, x => x = u ∨ (¬ M x = 0 ∧ rl M G u k (G x))
def un (f : Nat → Nat) (k x : Nat) : Nat → Nat := fun j => if j = k then x else f j
theorem un_s (f : Nat → Nat) (k x : Nat) : un f k x k = x := if_pos rfl
theorem un_n (f : Nat → Nat) {k j : Nat} (x : Nat) (h : j ≠ k) : un f k x j = f j := if_neg h
theorem cl_B {M G : Nat → Nat} {u t c K : Nat} (hK : cl (un M u c) (un G u t) K u) : ∀ k v, cl M G k v → cl (un M u c) (un G u t) (k + K) v := by
  intro k
  induction k with
  | zero => intro v h; exact h.elim
  | succ k ih =>
    intro v h
    by_cases hv : v = u
    · subst hv; exact cl_mono K _ _ (by omega) hK
    · rw [Nat.add_right_comm]
      rcases h with h | h
      · exact Or.inl (by rw [un_n _ _ hv]; exact h)
      · exact Or.inr (by rw [un_n _ _ hv]; exact ih _ h)
theorem cl_A {M G : Nat → Nat} {u t c : Nat} : ∀ k v, cl M G k v → ¬ rl M G u k v → cl (un M u c) (un G u t) k v := by
  intro k
  induction k with
  | zero => intro v h; exact h.elim
  | succ k ih =>
    intro v h hr
    have hv : v ≠ u := fun h => hr (Or.inl h)
    rcases h with h | h
    · exact Or.inl (by rw [un_n _ _ hv]; exact h)
    · by_cases h0 : M v = 0
      · exact Or.inl (by rw [un_n _ _ hv]; exact h0)
      · exact Or.inr (by rw [un_n _ _ hv]; exact ih _ h (fun h2 => hr (Or.inr ⟨h0, h2⟩)))
theorem cl_set {M G : Nat → Nat} {m u t c : Nat} (hG : ∀ v, v < m → G v < m) (hc : ∀ v, v < m → cl M G m v) (ht : t < m) (h : c = 0 ∨ ¬ rl M G u m t) : ∀ v, v < m → cl (un M u c) (un G u t) m v := by
  have hG2 : ∀ v, v < m → un G u t v < m := by
    intro v hv
    unfold un
    split
    · exact ht
    · exact hG v hv
  have hu : cl (un M u c) (un G u t) (m + 1) u := by
    rcases h with h | h
    · exact Or.inl (by rw [un_s]; exact h)
    · exact Or.inr (by rw [un_s]; exact cl_A m t (hc t ht) h)
  intro v hv
  exact cl_le hG2 hv (cl_B hu m v (hc v hv))
/-- the amount of a unit: none, or thousandths, up to a factor that stays at one more than the most -/
def amt (A : Nat → Option Nat) (M G : Nat → Nat) : Nat → Nat → Nat → Option Nat
  | 0, _, _ => none
  | k + 1, f, v => match A v with
    | some x => some (x * f)
    | none => if M v = 0 then none else amt A M G k (min (f * M v) 100000001) (G v)
theorem amt_cl {A : Nat → Option Nat} {M G : Nat → Nat} : ∀ k j f v, cl M G k v → k ≤ j → amt A M G j f v = amt A M G k f v := by
  intro k
  induction k with
  | zero => intro j f v h; exact h.elim
  | succ k ih =>
    intro j f v h hj
    obtain ⟨j, rfl⟩ : ∃ i, j = i + 1 := ⟨j - 1, by omega⟩
    show (match A v with | some x => some (x * f) | none => if M v = 0 then none else amt A M G j (min (f * M v) 100000001) (G v)) = (match A v with | some x => some (x * f) | none => if M v = 0 then none else amt A M G k (min (f * M v) 100000001) (G v))
    cases A v with
    | some x => rfl
    | none =>
      dsimp only
      by_cases h0 : M v = 0
      · rw [if_pos h0, if_pos h0]
      · rw [if_neg h0, if_neg h0]
        rcases h with h | h
        · exact absurd h h0
        · exact ih j _ _ h (by omega)
theorem amt_le {A : Nat → Option Nat} {M G : Nat → Nat} (hA : ∀ v x, A v = some x → x ≤ 100000000) : ∀ k f v x, f ≤ 100000001 → amt A M G k f v = some x → x ≤ 10000000100000000 := by
  intro k
  induction k with
  | zero => intro f v x _ h; cases h
  | succ k ih =>
    intro f v x hf h
    change (match A v with | some x => some (x * f) | none => if M v = 0 then none else amt A M G k (min (f * M v) 100000001) (G v)) = some x at h
    cases hv : A v with
    | some q =>
      rw [hv] at h
      cases h
      have := Nat.mul_le_mul (hA v q hv) hf
      omega
    | none =>
      rw [hv] at h
      dsimp only at h
      by_cases h0 : M v = 0
      · rw [if_pos h0] at h; cases h
      · rw [if_neg h0] at h; exact ih _ _ _ (by omega) h
/-! ===== the greatest common divisor ===== -/
def gc : Nat → Nat → Nat → Nat
  | 0, a, _ => a
  | k + 1, a, b => if b = 0 then a else gc k b (a % b)
theorem gc_gcd : ∀ k a b, b < 2 ^ k → gc (2 * k) a b = Nat.gcd a b := by
  intro k
  induction k with
  | zero => intro a b h; have : b = 0 := by simpa using h
            subst this; simp [gc]
  | succ k ih =>
    intro a b h
    show gc (2 * k + 1 + 1) a b = _
    unfold gc
    by_cases h0 : b = 0
    · rw [if_pos h0, h0, Nat.gcd_zero_right]
    · rw [if_neg h0]
      unfold gc
      by_cases h1 : a % b = 0
      · rw [if_pos h1, Nat.gcd_comm, Nat.gcd_rec, h1, Nat.gcd_zero_left]
      · rw [if_neg h1]
        have h2 : a % b < b := Nat.mod_lt _ (by omega)
        have h3 : b % (a % b) < 2 ^ k := by
          rw [Nat.pow_succ] at h
          have h4 : b % (a % b) < a % b := Nat.mod_lt _ (by omega)
          have h5 := Nat.div_add_mod b (a % b)
          have h6 : 1 ≤ b / (a % b) := (Nat.one_le_div_iff (by omega)).mpr (by omega)
          have h7 : a % b * 1 ≤ a % b * (b / (a % b)) := Nat.mul_le_mul_left _ h6
          omega
        rw [ih _ _ h3]
        rw [Nat.gcd_comm a b, Nat.gcd_rec b a, Nat.gcd_rec (a % b) b, Nat.gcd_comm]
