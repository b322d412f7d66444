/-! ===== what a text means: the grammar, read from the left ===== -/
/-- a node: kind, number, unit (0: none, else its letter from 1 on), how far its right side lies behind it (0: none), rows -/
abbrev pN : Type := Nat × Nat × Nat × Nat × List (Nat × Nat)
/-- a bad place; or the place behind, the nodes, the deepest -/
abbrev pS : Type := Nat ⊕ (Nat × List pN × Nat)
def rQ (T : Nat → Int32) (n p : Nat) : Nat := skn cB T n (wE T n p)
def rZ (T : Nat → Int32) (n p : Nat) : Nat := skn cB T n (wE T n (rQ T n p + 1))
def rRow (T : Nat → Int32) (n p : Nat) : Nat × Nat := (wV T n p, wV T n (rQ T n p + 1))
def rBad (T : Nat → Int32) (n p : Nat) (rs : List (Nat × Nat)) : Prop := rs.length = 6 ∨ ∃ r, rs.getLast? = some r ∧ wV T n p ≤ r.1
noncomputable def sRows (T : Nat → Int32) (n : Nat) : Nat → Nat → List (Nat × Nat) → Nat ⊕ (Nat × List (Nat × Nat))
  | 0, p, _ => .inl p
  | f + 1, p, rs =>
    p_if (¬ wG T n p) (.inl (wB T n p))
      (p_if (¬ sg T n (rQ T n p) = nI 61) (.inl (rQ T n p))
        (p_if (¬ wG T n (rQ T n p + 1)) (.inl (wB T n (rQ T n p + 1)))
          (p_if (rBad T n p rs) (.inl (wB T n p))
            (p_if (sg T n (rZ T n p) = nI 44) (sRows T n f (rZ T n p + 1) (rs ++ [rRow T n p])) (.inr (rZ T n p, rs ++ [rRow T n p]))))))
/-- step ( WHOLE : rows ), from behind the word: place behind, entry, rows -/
noncomputable def sStep (T : Nat → Int32) (n p : Nat) : Nat ⊕ (Nat × Nat × List (Nat × Nat)) :=
  p_if (¬ sg T n (skn cB T n p) = nI 40) (.inl (skn cB T n p))
    (p_if (¬ wG T n (skn cB T n p + 1)) (.inl (wB T n (skn cB T n p + 1)))
      (p_if (¬ sg T n (rQ T n (skn cB T n p + 1)) = nI 58) (.inl (rQ T n (skn cB T n p + 1)))
        (match sRows T n 7 (rQ T n (skn cB T n p + 1) + 1) [] with
        | .inl b => .inl b
        | .inr (p3, rs) => p_if (sg T n (skn cB T n p3) = nI 41) (.inr (skn cB T n p3 + 1, wV T n (skn cB T n p + 1), rs)) (.inl (skn cB T n p3)))))
def uOk (c : Int32) : Prop := 65 ≤ c.toInt ∧ c.toInt ≤ 72
def uN (c : Int32) : Nat := (c.toInt - 64).toNat
def nQ (T : Nat → Int32) (n p : Nat) : Nat → Nat := fun e => skn cB T n e
noncomputable def sNum (T : Nat → Int32) (n cnt p mx : Nat) : pS :=
  p_if (¬ tG T n p ∨ 60 ≤ cnt) (.inl p)
    (p_if (sg T n (skn cB T n (tN T n p)) = nI 37) (.inr (skn cB T n (tN T n p) + 1, [(1, tV T n p, 0, 0, [])], mx))
      (p_if (¬ sg T n (skn cB T n (tN T n p)) = nI 47) (.inl (skn cB T n (tN T n p)))
        (p_if (uOk (sg T n (skn cB T n (skn cB T n (tN T n p) + 1)))) (.inr (skn cB T n (skn cB T n (tN T n p) + 1) + 1, [(2, tV T n p, uN (sg T n (skn cB T n (skn cB T n (tN T n p) + 1))), 0, [])], mx))
          (.inl (skn cB T n (skn cB T n (tN T n p) + 1))))))
/-- behind a rate a sign must stand -/
noncomputable def sClose (T : Nat → Int32) (n : Nat) (c : Int32) (r : Option pS) (k : Nat → List pN → Nat → Option pS) : Option pS :=
  match r with
  | none => none
  | some (.inl b) => some (.inl b)
  | some (.inr (p, ns, mx)) => p_if (sg T n (skn cB T n p) = c) (k (skn cB T n p + 1) ns mx) (some (.inl (skn cB T n p)))
/-- min and max, from behind the word -/
noncomputable def sTwo (T : Nat → Int32) (n : Nat) (R : Nat → Nat → Nat → Nat → Option pS) (kd deep cnt p mx : Nat) : Option pS :=
  p_if (¬ sg T n (skn cB T n p) = nI 40) (some (.inl (skn cB T n p)))
    (sClose T n (nI 44) (R (deep + 1) (cnt + 1) (skn cB T n p + 1) mx) (fun p1 ls m1 =>
      sClose T n (nI 41) (R (deep + 1) (cnt + 1 + ls.length) p1 m1) (fun p2 rs m2 => some (.inr (p2, (kd, 0, 0, 1 + ls.length, []) :: (ls ++ rs), m2)))))
noncomputable def sWord (T : Nat → Int32) (n : Nat) (R : Nat → Nat → Nat → Nat → Option pS) (deep cnt q mx : Nat) : Option pS :=
  let e := skn cS T n q
  p_if (isW T q e 0) (p_if (60 ≤ cnt) (some (.inl q)) (some (.inr (e, [(0, 0, 0, 0, [])], mx))))
    (p_if (isW T q e 1) (p_if (60 ≤ cnt ∨ 12 ≤ deep) (some (.inl q)) (sTwo T n R 5 deep cnt e (max mx (deep + 1))))
      (p_if (isW T q e 2) (p_if (60 ≤ cnt ∨ 12 ≤ deep) (some (.inl q)) (sTwo T n R 6 deep cnt e (max mx (deep + 1))))
        (p_if (isW T q e 3) (p_if (60 ≤ cnt) (some (.inl q)) (match sStep T n e with
          | .inl b => some (.inl b)
          | .inr (p', en, rs) => some (.inr (p', [(7, en, 0, 0, rs)], mx))))
          (some (.inl q)))))
noncomputable def sPartB (T : Nat → Int32) (n : Nat) (R : Nat → Nat → Nat → Nat → Option pS) (deep cnt p mx : Nat) : Option pS :=
  let q := skn cB T n p
  p_if (sg T n q = nI 40) (p_if (12 ≤ deep) (some (.inl q)) (sClose T n (nI 41) (R (deep + 1) cnt (q + 1) (max mx (deep + 1))) (fun p1 ns m1 => some (.inr (p1, ns, m1)))))
    (p_if (cD (sg T n q) = true) (some (sNum T n cnt q mx)) (sWord T n R deep cnt q mx))
def sKind (c : Int32) : Nat := if c = nI 43 then 3 else if c = nI 45 then 4 else 0
noncomputable def sTailB (T : Nat → Int32) (n : Nat) (P : Nat → Nat → Nat → Nat → Option pS) (K : Nat → Nat → Nat → List pN → Nat → Option pS) (deep cnt p : Nat) (ns : List pN) (mx : Nat) : Option pS :=
  let q := skn cB T n p
  p_if (sKind (sg T n q) = 0) (some (.inr (q, ns, mx)))
    (p_if (60 ≤ cnt + ns.length) (some (.inl q))
      (match P deep (cnt + ns.length + 1) (q + 1) mx with
      | none => none
      | some (.inl b) => some (.inl b)
      | some (.inr (p2, ms, m2)) => K deep cnt p2 ((sKind (sg T n q), 0, 0, 1 + ns.length, []) :: (ns ++ ms)) m2))
noncomputable def sPT (T : Nat → Int32) (n : Nat) : Nat → (Nat → Nat → Nat → Nat → Option pS) × (Nat → Nat → Nat → List pN → Nat → Option pS)
  | 0 => (fun _ _ _ _ => none, fun _ _ _ _ _ => none)
  | f + 1 => (sPartB T n (fun deep cnt p mx => match (sPT T n f).1 deep cnt p mx with
      | none => none
      | some (.inl b) => some (.inl b)
      | some (.inr (p1, ns, m1)) => (sPT T n f).2 deep cnt p1 ns m1), sTailB T n (sPT T n f).1 (sPT T n f).2)
noncomputable def sP (T : Nat → Int32) (n f : Nat) : Nat → Nat → Nat → Nat → Option pS := (sPT T n f).1
noncomputable def sT (T : Nat → Int32) (n f : Nat) : Nat → Nat → Nat → List pN → Nat → Option pS := (sPT T n f).2
noncomputable def sR (T : Nat → Int32) (n f deep cnt p mx : Nat) : Option pS := match sP T n f deep cnt p mx with
  | none => none
  | some (.inl b) => some (.inl b)
  | some (.inr (p1, ns, m1)) => sT T n f deep cnt p1 ns m1
theorem sP_succ (T : Nat → Int32) (n f : Nat) : sP T n (f + 1) = sPartB T n (sR T n f) := rfl
theorem sT_succ (T : Nat → Int32) (n f : Nat) : sT T n (f + 1) = sTailB T n (sP T n f) (sT T n f) := rfl
theorem skn_idem (P : Int32 → Bool) (T : Nat → Int32) {n p : Nat} (h : p ≤ n) : skn P T n (skn P T n p) = skn P T n p := by
  by_cases hl : skn P T n p < n
  · have h2 : P (T (skn P T n p)) = false := by
      have := sk_end P T (n - p) p (by unfold skn at hl; omega)
      exact this
    have h3 : skn P T n (skn P T n p) = sk P T (n - skn P T n p) (skn P T n p) := rfl
    rw [h3, sk_f h2]
  · have h2 := (skn_ge P T h).2
    have h3 : skn P T n (skn P T n p) = sk P T (n - skn P T n p) (skn P T n p) := rfl
    rw [h3, show n - skn P T n p = 0 by omega]
    rfl
theorem rQ_le {T : Nat → Int32} {n p : Nat} (h : p ≤ n) : wE T n p ≤ rQ T n p ∧ rQ T n p ≤ n := skn_ge cB T (wB_le h).2.2
/-! ===== the class's tree holds the nodes ===== -/
def CR (T : Nat → Int32) (n p cnt mx r : Nat) (z : Nat → Int32) (a : Nat → Nat → Int32) : Prop :=
  z 3 = nI n ∧ z 4 = nI p ∧ z 1 = nI cnt ∧ z 2 = nI mx ∧ z 0 = nI r ∧ a 9 = T ∧ n ≤ 300 ∧ p ≤ n ∧ cnt ≤ 60 ∧ mx ≤ 12 ∧ r ≤ p
/-- nothing of the rest has changed -/
def CF (z : Nat → Int32) (a : Nat → Nat → Int32) (z' : Nat → Int32) (a' : Nat → Nat → Int32) : Prop := (∀ k, 6 ≤ k → z' k = z k) ∧ z' 3 = z 3 ∧ (∀ k, 9 ≤ k → a' k = a k)
theorem CF.rf (z : Nat → Int32) (a : Nat → Nat → Int32) : CF z a z a := ⟨fun _ _ => rfl, rfl, fun _ _ => rfl⟩
theorem CF.tr {z z1 z2 : Nat → Int32} {a a1 a2 : Nat → Nat → Int32} (h : CF z a z1 a1) (h2 : CF z1 a1 z2 a2) : CF z a z2 a2 :=
  ⟨fun k hk => (h2.1 k hk).trans (h.1 k hk), h2.2.1.trans h.2.1, fun k hk => (h2.2.2 k hk).trans (h.2.2 k hk)⟩
theorem CF.u {z z1 : Nat → Int32} {a a1 : Nat → Nat → Int32} (h : CF z a z1 a1) {k : Nat} {v : Int32} (hk : k < 6) (h3 : k ≠ 3) : CF z a (u_ z1 k v) a1 :=
  ⟨fun j hj => (u_n _ _ (by omega)).trans (h.1 j hj), (u_n _ _ (Ne.symm h3)).trans h.2.1, h.2.2⟩
def rp (a : Nat → Nat → Int32) (r i : Nat) (v : pN) : Prop :=
  a 0 i = nI v.1 ∧ a 1 i = nI v.2.1 ∧ a 2 i = nI v.2.2.1 - nI 1 ∧ a 3 i = (if v.2.2.2.1 = 0 then -1 else nI (i + 1)) ∧ a 4 i = (if v.2.2.2.1 = 0 then -1 else nI (i + v.2.2.2.1)) ∧ a 6 i = nI v.2.2.2.2.length ∧
  ∃ fr, a 5 i = nI fr ∧ fr + v.2.2.2.2.length ≤ r ∧ ∀ k q, v.2.2.2.2[k]? = some q → a 7 (fr + k) = nI q.1 ∧ a 8 (fr + k) = nI q.2
def Rp (a : Nat → Nat → Int32) (r b : Nat) (ns : List pN) : Prop := ∀ k v, ns[k]? = some v → rp a r (b + k) v
/-- rows below r are the same -/
def RW (a a' : Nat → Nat → Int32) (r : Nat) : Prop := ∀ j, j < r → a' 7 j = a 7 j ∧ a' 8 j = a 8 j
theorem getElem?_lt {α : Type} {l : List α} {k : Nat} {v : α} (h : l[k]? = some v) : k < l.length := (List.getElem?_eq_some_iff.mp h).1
theorem rp.kept {a a' : Nat → Nat → Int32} {r r' i : Nat} {v : pN} (h : rp a r i v) (hn : nv a' i = nv a i) (hr : r ≤ r') (hw : RW a a' r) : rp a' r' i v := by
  unfold nv at hn
  simp only [Prod.mk.injEq] at hn
  obtain ⟨e0, e1, e2, e3, e4, e5, e6⟩ := hn
  obtain ⟨h0, h1, h2, h3, h4, h6, fr, h5, h7, h8⟩ := h
  refine ⟨e0.trans h0, e1.trans h1, e2.trans h2, e3.trans h3, e4.trans h4, e6.trans h6, fr, e5.trans h5, Nat.le_trans h7 hr, fun k q hq => ?_⟩
  have hl := getElem?_lt hq
  have := hw (fr + k) (by omega)
  rw [this.1, this.2]
  exact h8 k q hq
theorem rp.moved {a a' : Nat → Nat → Int32} {r r' i : Nat} {v : pN} (h : rp a r i v) (hi : i + v.2.2.2.1 < 1000) (hn : nv a' (i + 1) = mvd (nv a i)) (hr : r ≤ r') (hw : RW a a' r) : rp a' r' (i + 1) v := by
  unfold nv mvd at hn
  simp only [Prod.mk.injEq] at hn
  obtain ⟨e0, e1, e2, e3, e4, e5, e6⟩ := hn
  obtain ⟨h0, h1, h2, h3, h4, h6, fr, h5, h7, h8⟩ := h
  refine ⟨e0.trans h0, e1.trans h1, e2.trans h2, ?_, ?_, e6.trans h6, fr, e5.trans h5, Nat.le_trans h7 hr, fun k q hq => ?_⟩
  · rw [e3, h3]
    unfold mv1
    by_cases hv : v.2.2.2.1 = 0
    · rw [if_pos hv, if_pos hv, if_pos rfl]
    · rw [if_neg hv, if_neg hv, if_neg (kI_m1 (by omega)), kI_add]
  · rw [e4, h4]
    unfold mv1
    by_cases hv : v.2.2.2.1 = 0
    · rw [if_pos hv, if_pos hv, if_pos rfl]
    · rw [if_neg hv, if_neg hv, if_neg (kI_m1 (by omega)), kI_add, show i + v.2.2.2.1 + 1 = i + 1 + v.2.2.2.1 by omega]
  · have hl := getElem?_lt hq
    have := hw (fr + k) (by omega)
    rw [this.1, this.2]
    exact h8 k q hq
/-- what a part or rate leaves -/
def CPost (T : Nat → Int32) (n : Nat) (w : Nat → Nat → Int64) (y : Nat → Int64) (g : List pE) (z : Nat → Int32) (a : Nat → Nat → Int32) (cnt r : Nat) (res : pS) (q : pR) : Prop := match res with
  | .inl b => ∃ z' a', q = (.inl (some (.int (nI 0))), hp z' a' w y g) ∧ z' 5 = nI b ∧ CF z a z' a'
  | .inr (p', ns, mx') => ∃ z' a' r', q = (.inl (some (.int (nI 1))), hp z' a' w y g) ∧ CR T n p' (cnt + ns.length) mx' r' z' a' ∧ CF z a z' a' ∧ r ≤ r' ∧ (∀ i, i < cnt → nv a' i = nv a i) ∧ RW a a' r ∧ Rp a' r' cnt ns ∧ ns ≠ [] ∧ ∀ v ∈ ns, v.2.2.2.1 ≤ 60
