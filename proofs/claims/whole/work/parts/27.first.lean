/-! ===== a part's first step ===== -/
abbrev pO : Type := Nat ⊕ ((Nat × List pN) ⊕ (Nat × Nat × Nat × Nat))
noncomputable def oTwo (T : Nat → Int32) (n k deep cnt e mx : Nat) : pO := p_if (¬ sg T n (skn cB T n e) = nI 40) (.inl (skn cB T n e)) (.inr (.inr (k, skn cB T n e + 1, cnt + 1, max mx (deep + 1))))
noncomputable def oWord (T : Nat → Int32) (n deep cnt q mx : Nat) : pO :=
  p_if (isW T q (skn cS T n q) 0) (p_if (60 ≤ cnt) (.inl q) (.inr (.inl (skn cS T n q, [(0, 0, 0, 0, [])]))))
    (p_if (isW T q (skn cS T n q) 1) (p_if (60 ≤ cnt ∨ 12 ≤ deep) (.inl q) (oTwo T n 5 deep cnt (skn cS T n q) mx))
      (p_if (isW T q (skn cS T n q) 2) (p_if (60 ≤ cnt ∨ 12 ≤ deep) (.inl q) (oTwo T n 6 deep cnt (skn cS T n q) mx))
        (p_if (isW T q (skn cS T n q) 3) (p_if (60 ≤ cnt) (.inl q) (match sStep T n (skn cS T n q) with
          | .inl b => .inl b
          | .inr (p', en, rs) => .inr (.inl (p', [(7, en, 0, 0, rs)]))))
          (.inl q))))
noncomputable def oPart (T : Nat → Int32) (n deep cnt p mx : Nat) : pO :=
  p_if (sg T n (skn cB T n p) = nI 40) (p_if (12 ≤ deep) (.inl (skn cB T n p)) (.inr (.inr (8, skn cB T n p + 1, cnt, max mx (deep + 1)))))
    (p_if (cD (sg T n (skn cB T n p)) = true) (match sNum T n cnt (skn cB T n p) mx with
      | .inl b => .inl b
      | .inr (p', ns, _) => .inr (.inl (p', ns))) (oWord T n deep cnt (skn cB T n p) mx))
noncomputable def oFin (T : Nat → Int32) (n : Nat) (R : Nat → Nat → Nat → Nat → Option pS) (deep mx : Nat) (o : pO) : Option pS := match o with
  | .inl b => some (.inl b)
  | .inr (.inl (p', ns)) => some (.inr (p', ns, mx))
  | .inr (.inr (k, p2, c2, m2)) => if k = 8 then sClose T n (nI 41) (R (deep + 1) c2 p2 m2) (fun p1 ns m1 => some (.inr (p1, ns, m1)))
    else sClose T n (nI 44) (R (deep + 1) c2 p2 m2) (fun p1 ls m1 => sClose T n (nI 41) (R (deep + 1) (c2 + ls.length) p1 m1) (fun p2 rs m2 => some (.inr (p2, (k, 0, 0, 1 + ls.length, []) :: (ls ++ rs), m2))))
theorem p_if_d {α : Type} {C : Prop} {x x2 y : α} (h1 : C → x = y) (h2 : ¬ C → x2 = y) : p_if C x x2 = y := by
  by_cases h : C
  · rw [p_if_t h]; exact h1 h
  · rw [p_if_f h]; exact h2 h
theorem sNum_mx {T : Nat → Int32} {n cnt p mx p' m' : Nat} {ns : List pN} (h : sNum T n cnt p mx = .inr (p', ns, m')) : m' = mx := by
  unfold sNum at h
  by_cases h0 : ¬ tG T n p ∨ 60 ≤ cnt
  · rw [p_if_t h0] at h; cases h
  · rw [p_if_f h0] at h
    by_cases h1 : sg T n (skn cB T n (tN T n p)) = nI 37
    · rw [p_if_t h1] at h; cases h; rfl
    · rw [p_if_f h1] at h
      by_cases h2 : ¬ sg T n (skn cB T n (tN T n p)) = nI 47
      · rw [p_if_t h2] at h; cases h
      · rw [p_if_f h2] at h
        by_cases h3 : uOk (sg T n (skn cB T n (skn cB T n (tN T n p) + 1)))
        · rw [p_if_t h3] at h; cases h; rfl
        · rw [p_if_f h3] at h; cases h
theorem oTwo_fin {T : Nat → Int32} {n k deep cnt e mx : Nat} {R : Nat → Nat → Nat → Nat → Option pS} (hk : ¬ k = 8) : sTwo T n R k deep cnt e (max mx (deep + 1)) = oFin T n R deep mx (oTwo T n k deep cnt e mx) := by
  unfold sTwo oTwo
  by_cases h : ¬ sg T n (skn cB T n e) = nI 40
  · rw [p_if_t h, p_if_t h]; rfl
  · rw [p_if_f h, p_if_f h]
    show _ = if k = 8 then _ else _
    rw [if_neg hk]
theorem sPartB_o (T : Nat → Int32) (n : Nat) (R : Nat → Nat → Nat → Nat → Option pS) (deep cnt p mx : Nat) : sPartB T n R deep cnt p mx = oFin T n R deep mx (oPart T n deep cnt p mx) := by
  unfold sPartB oPart
  dsimp only
  by_cases h1 : sg T n (skn cB T n p) = nI 40
  · rw [p_if_t h1, p_if_t h1]
    by_cases h2 : 12 ≤ deep
    · rw [p_if_t h2, p_if_t h2]; rfl
    · rw [p_if_f h2, p_if_f h2]; rfl
  · rw [p_if_f h1, p_if_f h1]
    by_cases h2 : cD (sg T n (skn cB T n p)) = true
    · rw [p_if_t h2, p_if_t h2]
      cases hs : sNum T n cnt (skn cB T n p) mx with
      | inl b => rfl
      | inr s =>
        obtain ⟨p', ns, m'⟩ := s
        have := sNum_mx hs
        subst this
        rfl
    · rw [p_if_f h2, p_if_f h2]
      unfold sWord oWord
      dsimp only
      by_cases g0 : isW T (skn cB T n p) (skn cS T n (skn cB T n p)) 0
      · rw [p_if_t g0, p_if_t g0]
        by_cases h : 60 ≤ cnt
        · rw [p_if_t h, p_if_t h]; rfl
        · rw [p_if_f h, p_if_f h]; rfl
      · rw [p_if_f g0, p_if_f g0]
        by_cases g1 : isW T (skn cB T n p) (skn cS T n (skn cB T n p)) 1
        · rw [p_if_t g1, p_if_t g1]
          by_cases h : 60 ≤ cnt ∨ 12 ≤ deep
          · rw [p_if_t h, p_if_t h]; rfl
          · rw [p_if_f h, p_if_f h]; exact oTwo_fin (by decide)
        · rw [p_if_f g1, p_if_f g1]
          by_cases g2 : isW T (skn cB T n p) (skn cS T n (skn cB T n p)) 2
          · rw [p_if_t g2, p_if_t g2]
            by_cases h : 60 ≤ cnt ∨ 12 ≤ deep
            · rw [p_if_t h, p_if_t h]; rfl
            · rw [p_if_f h, p_if_f h]; exact oTwo_fin (by decide)
          · rw [p_if_f g2, p_if_f g2]
            by_cases g3 : isW T (skn cB T n p) (skn cS T n (skn cB T n p)) 3
            · rw [p_if_t g3, p_if_t g3]
              by_cases h : 60 ≤ cnt
              · rw [p_if_t h, p_if_t h]; rfl
              · rw [p_if_f h, p_if_f h]
                cases sStep T n (skn cS T n (skn cB T n p)) with
                | inl b => rfl
                | inr s => rfl
            · rw [p_if_f g3, p_if_f g3]; rfl
/-- what stands in a part's first step -/
theorem oPart_ok {T : Nat → Int32} {n deep cnt p mx : Nat} (hd : deep ≤ 12) (hc : cnt ≤ 60) (hp : p ≤ n) (hm : mx ≤ 12) : match oPart T n deep cnt p mx with
    | .inl b => b ≤ n
    | .inr (.inl (p', ns)) => p' ≤ n ∧ cnt < 60 ∧ ∃ v, ns = [v] ∧ lfOk v
    | .inr (.inr (k, p2, c2, m2)) => p2 ≤ n ∧ deep < 12 ∧ c2 ≤ 60 ∧ m2 ≤ 12 ∧ ((k = 8 ∧ c2 = cnt) ∨ ((k = 5 ∨ k = 6) ∧ c2 = cnt + 1)) := by
  have b0 := skn_ge cB T hp
  have b1 := skn_ge cS T b0.2
  have two : ∀ k, (k = 5 ∨ k = 6) → ¬ (60 ≤ cnt ∨ 12 ≤ deep) → match oTwo T n k deep cnt (skn cS T n (skn cB T n p)) mx with
    | .inl b => b ≤ n
    | .inr (.inl (p', ns)) => p' ≤ n ∧ cnt < 60 ∧ ∃ v, ns = [v] ∧ lfOk v
    | .inr (.inr (k, p2, c2, m2)) => p2 ≤ n ∧ deep < 12 ∧ c2 ≤ 60 ∧ m2 ≤ 12 ∧ ((k = 8 ∧ c2 = cnt) ∨ ((k = 5 ∨ k = 6) ∧ c2 = cnt + 1)) := by
    intro k hk hf
    have b2 := skn_ge cB T b1.2
    unfold oTwo
    by_cases h : sg T n (skn cB T n (skn cS T n (skn cB T n p))) = nI 40
    · have l := (sg_lt (by decide) h).1
      rw [p_if_f (fun h' => h' h)]
      exact ⟨by omega, by omega, by omega, by omega, Or.inr ⟨hk, rfl⟩⟩
    · rw [p_if_t h]; exact b2.2
  unfold oPart
  by_cases h1 : sg T n (skn cB T n p) = nI 40
  · rw [p_if_t h1]
    have l := (sg_lt (by decide) h1).1
    by_cases h2 : 12 ≤ deep
    · rw [p_if_t h2]; exact b0.2
    · rw [p_if_f h2]
      exact ⟨by omega, by omega, hc, by omega, Or.inl ⟨rfl, rfl⟩⟩
  · rw [p_if_f h1]
    by_cases h2 : cD (sg T n (skn cB T n p)) = true
    · rw [p_if_t h2]
      have hk := sNum_ok (T := T) (n := n) (cnt := cnt) (p := skn cB T n p) (mx := mx) hm b0.2
      cases hs : sNum T n cnt (skn cB T n p) mx with
      | inl b => rw [hs] at hk; exact hk
      | inr s =>
        obtain ⟨p', ns, m'⟩ := s
        rw [hs] at hk
        obtain ⟨q1, q2, q3, q4, q5, q6, q7⟩ := hk
        have h1 := TW_ne q6
        refine ⟨q2, by omega, ?_⟩
        rcases TW_cases q6 with ⟨v, e, hv⟩ | ⟨v, l, r, e, hv, hl, hr⟩
        · exact ⟨v, e, hv⟩
        · exfalso
          unfold sNum at hs
          by_cases h0 : ¬ tG T n (skn cB T n p) ∨ 60 ≤ cnt
          · rw [p_if_t h0] at hs; cases hs
          · rw [p_if_f h0] at hs
            have hln : (l ++ r).length ≠ 0 := by have := TW_ne hl; rw [List.length_append]; omega
            by_cases h1 : sg T n (skn cB T n (tN T n (skn cB T n p))) = nI 37
            · rw [p_if_t h1] at hs
              cases hs
              simp only [List.cons.injEq] at e
              rw [← e.2] at hln
              exact hln rfl
            · rw [p_if_f h1] at hs
              by_cases h2 : ¬ sg T n (skn cB T n (tN T n (skn cB T n p))) = nI 47
              · rw [p_if_t h2] at hs; cases hs
              · rw [p_if_f h2] at hs
                by_cases h3 : uOk (sg T n (skn cB T n (skn cB T n (tN T n (skn cB T n p)) + 1)))
                · rw [p_if_t h3] at hs
                  cases hs
                  simp only [List.cons.injEq] at e
                  rw [← e.2] at hln
                  exact hln rfl
                · rw [p_if_f h3] at hs; cases hs
    · rw [p_if_f h2]
      unfold oWord
      by_cases g0 : isW T (skn cB T n p) (skn cS T n (skn cB T n p)) 0
      · rw [p_if_t g0]
        by_cases h : 60 ≤ cnt
        · rw [p_if_t h]; exact b0.2
        · rw [p_if_f h]
          exact ⟨b1.2, by omega, _, rfl, rfl, by decide, Or.inl ⟨rfl, rfl, rfl, rfl⟩⟩
      · rw [p_if_f g0]
        by_cases g1 : isW T (skn cB T n p) (skn cS T n (skn cB T n p)) 1
        · rw [p_if_t g1]
          by_cases h : 60 ≤ cnt ∨ 12 ≤ deep
          · rw [p_if_t h]; exact b0.2
          · rw [p_if_f h]; exact two 5 (Or.inl rfl) h
        · rw [p_if_f g1]
          by_cases g2 : isW T (skn cB T n p) (skn cS T n (skn cB T n p)) 2
          · rw [p_if_t g2]
            by_cases h : 60 ≤ cnt ∨ 12 ≤ deep
            · rw [p_if_t h]; exact b0.2
            · rw [p_if_f h]; exact two 6 (Or.inr rfl) h
          · rw [p_if_f g2]
            by_cases g3 : isW T (skn cB T n p) (skn cS T n (skn cB T n p)) 3
            · rw [p_if_t g3]
              by_cases h : 60 ≤ cnt
              · rw [p_if_t h]; exact b0.2
              · rw [p_if_f h]
                cases hs : sStep T n (skn cS T n (skn cB T n p)) with
                | inl b => exact sStep_bad b1.2 hs
                | inr s =>
                  obtain ⟨p', en, rs⟩ := s
                  have := sStep_ok b1.2 hs
                  exact ⟨this.2.1, by omega, _, rfl, this.2.2.1⟩
            · rw [p_if_f g3]; exact b0.2
