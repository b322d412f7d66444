/-! what a turn of the pure machine was -/
theorem p_if_inv {α : Type} {C : Prop} {a : Option α} {r : α} (h : p_if C a none = some r) : C ∧ a = some r := by
  by_cases hC : C
  · rw [p_if_t hC] at h; exact ⟨hC, h⟩
  · rw [p_if_f hC] at h; cases h
def P_call (f : pF) (d mi pc : Nat) (ls : pL) (st : List Value) (h : List pE) (r : pR) (ins : Instr) (len : Nat) : Prop :=
  ∃ (cm na d' : Nat) (as rest : List Value) (q : (Option Value) ⊕ Nat) (h1 : List pE), p_calls mi ins = some (cm, na) ∧ d = d' + 1 ∧ p_pop na [] st = some (as, rest) ∧ p_recv cm as h = true ∧ p_words rest ≤ 8 ∧ len = 3 ∧ f d' cm 0 (p_in0 cm as) [] h = some (q, h1) ∧
    ((∃ v, q = .inl v ∧ f d mi (pc + 3) ls (v.toList ++ rest) h1 = some r) ∨ (∃ k, q = .inr k ∧ ((∃ t, p_hdl mi pc k h1 = some t ∧ f d mi t ls [.ref k] h1 = some r) ∨ (p_hdl mi pc k h1 = none ∧ p_hh mi = [] ∧ r = (.inr k, h1)))))
def P_turn (X : pX) (f : pF) (d mi pc : Nat) (ls : pL) (st : List Value) (h : List pE) (r : pR) (ins : Instr) (len : Nat) : Prop :=
  P_call f d mi pc ls st h r ins len ∨
  (∃ (v : Option Value) (C : Prop), p_ret mi ins st = some (v, C) ∧ C ∧ r = (.inl v, h)) ∨
  (∃ (c : Prop) (t e : Nat) (r' : List Value) (C : Prop), p_jmp pc ins st = some (c, t, e, r', C) ∧ C ∧ ((c ∧ f d mi t ls r' h = some r) ∨ (¬ c ∧ f d mi e ls r' h = some r))) ∨
  (∃ (t : Nat) (r' : List Value) (C : Prop), p_swi pc ins st = some (t, r', C) ∧ C ∧ f d mi t ls r' h = some r) ∨
  (∃ ci : Nat, p_thr mi pc ins = some ci ∧ (8 ≤ d ∧ p_words st ≤ 4 ∧ p_hh mi = []) ∧ r = (.inr h.length, h ++ [.inr (ci, [])])) ∨
  (∃ (pc' : Nat) (ls' : pL) (st' : List Value) (h' : List pE) (C : Prop), p_step X d mi pc ls st h ins len = some ((pc', ls', st', h'), C) ∧ C ∧ f d mi pc' ls' st' h' = some r)
theorem p_F_inv (X : pX) {f : pF} {d mi pc : Nat} {ls : pL} {st : List Value} {h : List pE} {r : pR} (hh : p_F X f d mi pc ls st h = some r) : ∃ ins len, p_code mi pc = some (ins, len) ∧ P_turn X f d mi pc ls st h r ins len := by
  unfold p_F at hh
  cases hc : p_code mi pc with
  | none => rw [hc] at hh; cases hh
  | some q =>
    obtain ⟨ins, len⟩ := q
    refine ⟨ins, len, rfl, ?_⟩
    rw [hc] at hh
    dsimp only at hh
    cases h1 : p_calls mi ins with
    | some q =>
      obtain ⟨cm, na⟩ := q
      rw [h1] at hh
      dsimp only at hh
      cases d with
      | zero => cases hh
      | succ d' =>
        dsimp only at hh
        cases h2 : p_pop na [] st with
        | none => rw [h2] at hh; cases hh
        | some q =>
          obtain ⟨as, rest⟩ := q
          rw [h2] at hh
          dsimp only at hh
          cases h3 : (p_recv cm as h && Nat.ble (p_words rest) 8 && Nat.beq len 3) with
          | false => rw [h3] at hh; cases hh
          | true =>
            rw [h3] at hh
            dsimp only [cond_true] at hh
            rw [Bool.and_eq_true, Bool.and_eq_true] at h3
            cases h4 : f d' cm 0 (p_in0 cm as) [] h with
            | none => rw [h4] at hh; cases hh
            | some q =>
              rw [h4] at hh
              obtain ⟨q1, h5⟩ := q
              refine Or.inl ⟨cm, na, d', as, rest, q1, h5, h1, rfl, h2, h3.1.1, Nat.le_of_ble_eq_true h3.1.2, Nat.eq_of_beq_eq_true h3.2, h4, ?_⟩
              cases q1 with
              | inl v => exact Or.inl ⟨v, rfl, hh⟩
              | inr k =>
                dsimp only at hh
                refine Or.inr ⟨k, rfl, ?_⟩
                cases h6 : p_hdl mi pc k h5 with
                | none =>
                  rw [h6] at hh
                  obtain ⟨g1, g2⟩ := p_if_inv hh
                  cases g2
                  exact Or.inr ⟨rfl, g1, rfl⟩
                | some t => rw [h6] at hh; exact Or.inl ⟨t, rfl, hh⟩
    | none =>
      rw [h1] at hh
      dsimp only at hh
      cases h2 : p_ret mi ins st with
      | some q =>
        obtain ⟨v, C⟩ := q
        rw [h2] at hh
        dsimp only at hh
        obtain ⟨hC, hr⟩ := p_if_inv hh
        cases hr
        exact Or.inr (Or.inl ⟨v, C, h2, hC, rfl⟩)
      | none =>
        rw [h2] at hh
        dsimp only at hh
        cases h3 : p_jmp pc ins st with
        | some q =>
          obtain ⟨c, t, e, r', C⟩ := q
          rw [h3] at hh
          dsimp only at hh
          obtain ⟨hC, hr⟩ := p_if_inv hh
          refine Or.inr (Or.inr (Or.inl ⟨c, t, e, r', C, h3, hC, ?_⟩))
          by_cases hq : c
          · rw [p_if_t hq] at hr; exact Or.inl ⟨hq, hr⟩
          · rw [p_if_f hq] at hr; exact Or.inr ⟨hq, hr⟩
        | none =>
          rw [h3] at hh
          dsimp only at hh
          cases h4 : p_swi pc ins st with
          | some q =>
            obtain ⟨t, r', C⟩ := q
            rw [h4] at hh
            dsimp only at hh
            obtain ⟨hC, hr⟩ := p_if_inv hh
            exact Or.inr (Or.inr (Or.inr (Or.inl ⟨t, r', C, h4, hC, hr⟩)))
          | none =>
            rw [h4] at hh
            dsimp only at hh
            cases h6 : p_thr mi pc ins with
            | some ci =>
              rw [h6] at hh
              dsimp only at hh
              obtain ⟨hC, hr⟩ := p_if_inv hh
              cases hr
              exact Or.inr (Or.inr (Or.inr (Or.inr (Or.inl ⟨ci, h6, hC, rfl⟩))))
            | none =>
              rw [h6] at hh
              dsimp only at hh
              cases h5 : p_step X d mi pc ls st h ins len with
              | none => rw [h5] at hh; cases hh
              | some q =>
                obtain ⟨⟨pc', ls', st', h'⟩, C⟩ := q
                rw [h5] at hh
                dsimp only at hh
                obtain ⟨hC, hr⟩ := p_if_inv hh
                exact Or.inr (Or.inr (Or.inr (Or.inr (Or.inr ⟨pc', ls', st', h', C, h5, hC, hr⟩))))
/-! the cells only grow -/
theorem p_fput_ok {h h' : List pE} {k ci f : Nat} {v : Value} (hh : p_fput h k ci f v = some h') : ∃ fs, h[k]? = some (.inr (ci, fs)) ∧ f < fs.length ∧ h' = h.set k (.inr (ci, fs.set f v)) := by
  unfold p_fput at hh
  split at hh
  · next cj fs he =>
    cases hc : (Nat.beq ci cj && Nat.blt f fs.length) with
    | false => rw [hc] at hh; cases hh
    | true =>
      rw [hc] at hh
      rw [Bool.and_eq_true] at hc
      cases hh
      have e1 : ci = cj := Nat.eq_of_beq_eq_true hc.1
      subst e1
      exact ⟨fs, he, Nat.le_of_ble_eq_true hc.2, rfl⟩
  · cases hh
theorem p_fget_ok {h : List pE} {k ci f : Nat} {v : Value} (hh : p_fget h k ci f = some v) : ∃ fs, h[k]? = some (.inr (ci, fs)) ∧ fs[f]? = some v := by
  unfold p_fget at hh
  split at hh
  · next cj fs he =>
    cases hc : Nat.beq ci cj with
    | false => rw [hc] at hh; cases hh
    | true =>
      rw [hc] at hh
      have e1 : ci = cj := Nat.eq_of_beq_eq_true hc
      subst e1
      exact ⟨fs, he, hh⟩
  · cases hh
theorem p_blt {a b : Nat} (h : Nat.blt a b = true) : a < b := Nat.le_of_ble_eq_true h
theorem p_aty_ok {ty : FieldType} (h : p_aty ty = true) : ty = .int ∨ ty = .long ∨ ty = .boolean := by
  cases ty <;> simp_all [p_aty]
def p_le (h h' : List pE) : Prop := h.length ≤ h'.length ∧ p_S h ≤ p_S h'
theorem p_le_rf (h : List pE) : p_le h h := ⟨Nat.le_refl _, Nat.le_refl _⟩
theorem p_le_tr {a b c : List pE} (h1 : p_le a b) (h2 : p_le b c) : p_le a c := ⟨Nat.le_trans h1.1 h2.1, Nat.le_trans h1.2 h2.2⟩
theorem p_le_set {h : List pE} {k : Nat} {e e0 : pE} (h0 : h[k]? = some e0) (hz : p_sz e = p_sz e0) : p_le h (h.set k e) := ⟨by rw [List.length_set]; exact Nat.le_refl _, by rw [p_S_set h k e e0 h0 hz]; exact Nat.le_refl _⟩
theorem p_le_app (h b : List pE) : p_le h (h ++ b) := ⟨by rw [List.length_append]; exact Nat.le_add_right _ _, by rw [p_S_app]; exact Nat.le_add_right _ _⟩
set_option maxHeartbeats 4000000 in
theorem p_step_le {X : pX} {d mi pc pc' len : Nat} {ls ls' : pL} {st st' : List Value} {h h' : List pE} {ins : Instr} {C : Prop} (hs : p_step X d mi pc ls st h ins len = some ((pc', ls', st', h'), C)) : p_le h h' := by
  unfold p_step at hs
  simp only [cond_eq_ite] at hs
  split at hs
  all_goals (repeat' (first | (cases hs; exact p_le_rf _) | (cases hs; done) | (cases hs; exact p_le_app _ _) | (cases hs; rename_i heq; exact p_le_set heq rfl) | (cases hs; obtain ⟨fs, g1, g2, g3⟩ := p_fput_ok (by assumption); subst g3; exact p_le_set g1 rfl) | split at hs))
theorem p_ex_grow (X : pX) : ∀ (n d mi pc : Nat) (ls : pL) (st : List Value) (h : List pE) (r : pR), p_ex X n d mi pc ls st h = some r → p_le h r.2 := by
  intro n
  induction n with
  | zero => intro d mi pc ls st h r hh; cases hh
  | succ n ih =>
    intro d mi pc ls st h r hh
    obtain ⟨ins, len, hc, ht⟩ := p_F_inv X hh
    rcases ht with ⟨cm, na, d', as, rest, q, h1, -, -, -, -, -, -, h8, h9⟩ | ⟨v, C, -, -, h3⟩ | ⟨c, t, e, r', C, -, -, h3⟩ | ⟨t, r', C, -, -, h3⟩ | ⟨ci, -, -, h3⟩ | ⟨pc', ls', st', h', C, h1, -, h3⟩
    · have g := ih _ _ _ _ _ _ _ h8
      rcases h9 with ⟨v, -, h10⟩ | ⟨k, -, ⟨t, -, h10⟩ | ⟨-, -, h10⟩⟩
      · exact p_le_tr g (ih _ _ _ _ _ _ _ h10)
      · exact p_le_tr g (ih _ _ _ _ _ _ _ h10)
      · rw [h10]; exact g
    · rw [h3]; exact p_le_rf _
    · rcases h3 with ⟨-, h3⟩ | ⟨-, h3⟩ <;> exact ih _ _ _ _ _ _ _ h3
    · exact ih _ _ _ _ _ _ _ h3
    · rw [h3]; exact p_le_app _ _
    · exact p_le_tr (p_step_le h1) (ih _ _ _ _ _ _ _ h3)
