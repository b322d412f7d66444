/-! ===== fewer locals known, fewer frames: what runs then, runs with more ===== -/
def p_lle (ls ls' : pL) : Prop := ls.length = ls'.length ∧ ∀ i v, p_get ls i = some v → p_get ls' i = some v
theorem p_lle_rf (ls : pL) : p_lle ls ls := ⟨rfl, fun _ _ h => h⟩
theorem p_lle_nil : p_lle [] [] := p_lle_rf []
theorem p_lle_no {o : Option Value} {ls ls' : pL} (h : p_lle ls ls') : p_lle (none :: ls) (o :: ls') := by
  refine ⟨by simp [h.1], fun i v hv => ?_⟩
  cases i with
  | zero => cases hv
  | succ i => exact h.2 i v hv
theorem p_lle_eq {o : Option Value} {ls ls' : pL} (h : p_lle ls ls') : p_lle (o :: ls) (o :: ls') := by
  refine ⟨by simp [h.1], fun i v hv => ?_⟩
  cases i with
  | zero => exact hv
  | succ i => exact h.2 i v hv
theorem p_get_lt : ∀ (ls : pL) (i : Nat) (v : Value), p_get ls i = some v → i < ls.length := by
  intro ls
  induction ls with
  | nil => intro i v h; cases h
  | cons o t ih =>
    intro i v h
    cases i with
    | zero => simp
    | succ i => have := ih i v h; simp; omega
theorem p_gp_same : ∀ (ls : pL) (i : Nat) (o : Option Value), i < ls.length → p_get (p_put ls i o) i = o := by
  intro ls
  induction ls with
  | nil => intro i o h; simp at h
  | cons a t ih =>
    intro i o h
    cases i with
    | zero => rfl
    | succ i => exact ih i o (by simpa using h)
theorem p_gp_ne : ∀ (ls : pL) (i j : Nat) (o : Option Value), j ≠ i → p_get (p_put ls i o) j = p_get ls j := by
  intro ls
  induction ls with
  | nil => intro i j o h; rfl
  | cons a t ih =>
    intro i j o h
    cases i with
    | zero =>
      cases j with
      | zero => exact absurd rfl h
      | succ j => rfl
    | succ i =>
      cases j with
      | zero => rfl
      | succ j => exact ih i j o (by omega)
theorem p_lle_put {ls ls' : pL} (h : p_lle ls ls') (i : Nat) (o : Option Value) : p_lle (p_put ls i o) (p_put ls' i o) := by
  refine ⟨by rw [p_put_len, p_put_len]; exact h.1, fun j v hv => ?_⟩
  have hlt := p_get_lt _ _ _ hv
  rw [p_put_len] at hlt
  by_cases hj : j = i
  · subst hj
    rw [p_gp_same _ _ _ hlt] at hv
    rw [p_gp_same _ _ _ (by rw [← h.1]; exact hlt)]
    exact hv
  · rw [p_gp_ne _ _ _ _ hj] at hv ⊢
    exact h.2 _ _ hv
theorem p_cat_two {v : Value} (h : ¬ v.category = 2) : p_two (some v) = false := by
  cases v <;> first | rfl | exact absurd rfl h
theorem p_lle_clr {ls ls' : pL} (h : p_lle ls ls') (i : Nat) : p_lle (p_clr ls i) (p_clr ls' i) := by
  refine ⟨by rw [p_clr_len, p_clr_len]; exact h.1, fun j v hv => ?_⟩
  obtain ⟨g1, g2⟩ := p_get_clr hv
  have g3 := h.2 _ _ g1
  cases i with
  | zero => exact g3
  | succ i =>
    rw [p_clr_succ]
    cases h2 : p_two (p_get ls' i) with
    | false => exact g3
    | true =>
      show p_get (p_put ls' i none) j = some v
      by_cases hj : j = i
      · subst hj
        rw [g3, p_cat_two (g2 rfl)] at h2
        cases h2
      · rw [p_gp_ne _ _ _ _ hj]; exact g3
theorem p_lle_st1 {ls ls' : pL} (h : p_lle ls ls') (i : Nat) (v : Value) : p_lle (p_st1 ls i v) (p_st1 ls' i v) := p_lle_put (p_lle_clr h i) i _
theorem p_lle_st2 {ls ls' : pL} (h : p_lle ls ls') (i : Nat) (v : Value) : p_lle (p_st2 ls i v) (p_st2 ls' i v) := p_lle_put (p_lle_put (p_lle_clr h i) i _) (i + 1) none
set_option maxHeartbeats 4000000 in
theorem p_step_lle {X : pX} {d d' mi pc pc' len : Nat} {ls ls' ls1 : pL} {st st' : List Value} {h h' : List pE} {ins : Instr} {C : Prop} (hd : d ≤ d') (hl : p_lle ls ls') (hs : p_step X d mi pc ls st h ins len = some ((pc', ls1, st', h'), C)) (hC : C) :
    ∃ ls1' C', p_step X d' mi pc ls' st h ins len = some ((pc', ls1', st', h'), C') ∧ C' ∧ p_lle ls1 ls1' := by
  cases ins with
  | iload i =>
    dsimp only [p_step] at hs ⊢
    split at hs
    · next x hx => cases hs; rw [hl.2 _ _ hx]; exact ⟨_, _, rfl, trivial, hl⟩
    · cases hs
  | iload_n i =>
    dsimp only [p_step] at hs ⊢
    split at hs
    · next x hx => cases hs; rw [hl.2 _ _ hx]; exact ⟨_, _, rfl, trivial, hl⟩
    · cases hs
  | lload i =>
    dsimp only [p_step] at hs ⊢
    split at hs
    · next x hx => cases hs; rw [hl.2 _ _ hx]; exact ⟨_, _, rfl, trivial, hl⟩
    · cases hs
  | lload_n i =>
    dsimp only [p_step] at hs ⊢
    split at hs
    · next x hx => cases hs; rw [hl.2 _ _ hx]; exact ⟨_, _, rfl, trivial, hl⟩
    · cases hs
  | aload i =>
    dsimp only [p_step] at hs ⊢
    split at hs
    · next x hx => cases hs; rw [hl.2 _ _ hx]; exact ⟨_, _, rfl, trivial, hl⟩
    · next x hx => cases hs; rw [hl.2 _ _ hx]; exact ⟨_, _, rfl, trivial, hl⟩
    · cases hs
  | aload_n i =>
    dsimp only [p_step] at hs ⊢
    split at hs
    · next x hx => cases hs; rw [hl.2 _ _ hx]; exact ⟨_, _, rfl, trivial, hl⟩
    · next x hx => cases hs; rw [hl.2 _ _ hx]; exact ⟨_, _, rfl, trivial, hl⟩
    · cases hs
  | istore i =>
    dsimp only [p_step] at hs ⊢
    split at hs
    · next x r =>
      cases hlt : Nat.blt i ls.length with
      | false => rw [hlt] at hs; cases hs
      | true =>
        rw [hlt] at hs
        cases hs
        rw [← hl.1, hlt]
        exact ⟨_, _, rfl, trivial, p_lle_st1 hl _ _⟩
    · cases hs
  | istore_n i =>
    dsimp only [p_step] at hs ⊢
    split at hs
    · next x r =>
      cases hlt : Nat.blt (i : Nat) ls.length with
      | false => rw [hlt] at hs; cases hs
      | true =>
        rw [hlt] at hs
        cases hs
        rw [← hl.1, hlt]
        exact ⟨_, _, rfl, trivial, p_lle_st1 hl _ _⟩
    · cases hs
  | astore i =>
    dsimp only [p_step] at hs ⊢
    split at hs
    · next x r =>
      cases hlt : Nat.blt i ls.length with
      | false => rw [hlt] at hs; cases hs
      | true =>
        rw [hlt] at hs
        cases hs
        rw [← hl.1, hlt]
        exact ⟨_, _, rfl, trivial, p_lle_st1 hl _ _⟩
    · cases hs
  | astore_n i =>
    dsimp only [p_step] at hs ⊢
    split at hs
    · next x r =>
      cases hlt : Nat.blt (i : Nat) ls.length with
      | false => rw [hlt] at hs; cases hs
      | true =>
        rw [hlt] at hs
        cases hs
        rw [← hl.1, hlt]
        exact ⟨_, _, rfl, trivial, p_lle_st1 hl _ _⟩
    · cases hs
  | lstore i =>
    dsimp only [p_step] at hs ⊢
    split at hs
    · next x r =>
      cases hlt : Nat.blt (i + 1) ls.length with
      | false => rw [hlt] at hs; cases hs
      | true =>
        rw [hlt] at hs
        cases hs
        rw [← hl.1, hlt]
        exact ⟨_, _, rfl, trivial, p_lle_st2 hl _ _⟩
    · cases hs
  | lstore_n i =>
    dsimp only [p_step] at hs ⊢
    split at hs
    · next x r =>
      cases hlt : Nat.blt ((i : Nat) + 1) ls.length with
      | false => rw [hlt] at hs; cases hs
      | true =>
        rw [hlt] at hs
        cases hs
        rw [← hl.1, hlt]
        exact ⟨_, _, rfl, trivial, p_lle_st2 hl _ _⟩
    · cases hs
  | iinc i n =>
    dsimp only [p_step] at hs ⊢
    split at hs
    · next x hx =>
      cases hlt : Nat.blt i ls.length with
      | false => rw [hlt] at hs; cases hs
      | true =>
        rw [hlt] at hs
        cases hs
        rw [hl.2 _ _ hx, ← hl.1, hlt]
        exact ⟨_, _, rfl, trivial, p_lle_st1 hl _ _⟩
    · cases hs
  | _ =>
    revert hs
    dsimp only [p_step]
    try simp only [cond_eq_ite]
    (repeat' split) <;> intro hs <;> first | (cases hs; done) | (cases hs; exact ⟨_, _, rfl, hC, hl⟩) | (cases hs; exact ⟨_, _, rfl, ⟨Nat.le_trans hC.1 hd, hC.2⟩, hl⟩)
theorem p_ex_lle (X : pX) : ∀ (n d d' mi pc : Nat) (ls ls' : pL) (st : List Value) (h : List pE) (r : pR), d ≤ d' → p_lle ls ls' → p_ex X n d mi pc ls st h = some r → p_ex X n d' mi pc ls' st h = some r := by
  intro n
  induction n with
  | zero => intro d d' mi pc ls ls' st h r _ _ hh; cases hh
  | succ n ih =>
    intro d d' mi pc ls ls' st h r hd hl hh
    have hh : p_F X (p_ex X n) d mi pc ls st h = some r := hh
    show p_F X (p_ex X n) d' mi pc ls' st h = some r
    unfold p_F at hh ⊢
    cases hc : p_code mi pc with
    | none => rw [hc] at hh; cases hh
    | some q =>
      obtain ⟨ins, len⟩ := q
      rw [hc] at hh
      dsimp only at hh ⊢
      cases h1 : p_calls mi ins with
      | some q =>
        obtain ⟨cm, na⟩ := q
        rw [h1] at hh
        dsimp only at hh ⊢
        cases d with
        | zero => cases hh
        | succ d0 =>
          cases d' with
          | zero => omega
          | succ d1 =>
            dsimp only at hh ⊢
            cases h2 : p_pop na [] st with
            | none => rw [h2] at hh; cases hh
            | some q =>
              obtain ⟨as, rest⟩ := q
              rw [h2] at hh
              dsimp only at hh ⊢
              cases h3 : (p_recv cm as h && Nat.ble (p_words rest) 8 && Nat.beq len 3) with
              | false => rw [h3] at hh; cases hh
              | true =>
                rw [h3] at hh
                dsimp only [cond_true] at hh ⊢
                cases h4 : p_ex X n d0 cm 0 (p_in0 cm as) [] h with
                | none => rw [h4] at hh; cases hh
                | some q =>
                  rw [h4] at hh
                  rw [ih d0 d1 _ _ _ _ _ _ _ (by omega) (p_lle_rf _) h4]
                  obtain ⟨q1, h1⟩ := q
                  cases q1 with
                  | inl v =>
                    dsimp only at hh ⊢
                    exact ih _ _ _ _ _ _ _ _ _ hd hl hh
                  | inr k =>
                    dsimp only at hh ⊢
                    cases h5 : p_hdl mi pc k h1 with
                    | none => rw [h5] at hh; exact hh
                    | some t =>
                      rw [h5] at hh
                      dsimp only at hh ⊢
                      exact ih _ _ _ _ _ _ _ _ _ hd hl hh
      | none =>
        rw [h1] at hh
        dsimp only at hh ⊢
        cases h2 : p_ret mi ins st with
        | some q => obtain ⟨v, C⟩ := q; rw [h2] at hh; exact hh
        | none =>
          rw [h2] at hh
          dsimp only at hh ⊢
          cases h3 : p_jmp pc ins st with
          | some q =>
            obtain ⟨c, t, e, r', C⟩ := q
            rw [h3] at hh
            dsimp only at hh ⊢
            refine p_if_mono hh (fun hh => ?_)
            by_cases hc : c
            · rw [p_if_t hc] at hh ⊢; exact ih _ _ _ _ _ _ _ _ _ hd hl hh
            · rw [p_if_f hc] at hh ⊢; exact ih _ _ _ _ _ _ _ _ _ hd hl hh
          | none =>
            rw [h3] at hh
            dsimp only at hh ⊢
            cases h4 : p_swi pc ins st with
            | some q =>
              obtain ⟨t, r', C⟩ := q
              rw [h4] at hh
              dsimp only at hh ⊢
              exact p_if_mono hh (fun hh => ih _ _ _ _ _ _ _ _ _ hd hl hh)
            | none =>
              rw [h4] at hh
              dsimp only at hh ⊢
              cases h6 : p_thr mi pc ins with
              | some ci =>
                rw [h6] at hh
                dsimp only at hh ⊢
                obtain ⟨g1, g2⟩ := p_if_inv hh
                rw [p_if_t ⟨Nat.le_trans g1.1 hd, g1.2⟩]
                exact g2
              | none =>
                rw [h6] at hh
                dsimp only at hh ⊢
                cases h5 : p_step X d mi pc ls st h ins len with
                | none => rw [h5] at hh; cases hh
                | some q =>
                  obtain ⟨⟨pc', ls1, st', h'⟩, C⟩ := q
                  rw [h5] at hh
                  dsimp only at hh
                  obtain ⟨g1, g2⟩ := p_if_inv hh
                  obtain ⟨ls2, C2, k1, k2, k3⟩ := p_step_lle hd hl h5 g1
                  rw [k1]
                  dsimp only
                  rw [p_if_t k2]
                  exact ih _ _ _ _ _ _ _ _ _ hd k3 g2
/-- forget locals -/
theorem R_fg {X : pX} {d mi pc : Nat} {ls : pL} (ls' : pL) {st : List Value} {h : List pE} {Q : pR → Prop} (hl : p_lle ls' ls) (k : p_E X d mi pc ls' st h Q) : p_E X d mi pc ls st h Q := by
  obtain ⟨n, r, h1, h2⟩ := k
  exact ⟨n, r, p_ex_lle X n _ _ _ _ _ _ _ _ _ (Nat.le_refl _) hl h1, h2⟩
theorem p_E.up {X : pX} {d d' mi pc : Nat} {ls : pL} {st : List Value} {h : List pE} {Q : pR → Prop} (k : p_E X d mi pc ls st h Q) (hd : d ≤ d') : p_E X d' mi pc ls st h Q := by
  obtain ⟨n, r, h1, h2⟩ := k
  exact ⟨n, r, p_ex_lle X n _ _ _ _ _ _ _ _ _ hd (p_lle_rf _) h1, h2⟩
theorem p_M.up {X : pX} {d d' mi : Nat} {as : List Value} {h : List pE} {Q : pR → Prop} (k : p_M X d mi as h Q) (hd : d ≤ d') : p_M X d' mi as h Q := p_E.up k hd
