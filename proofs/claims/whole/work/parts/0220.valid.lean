/-! ===== the tables are right: by program (tools/gen3.py) ===== -/
theorem p_find_mem {α : Type} {k : Nat} {a : α} : ∀ {L : List (Nat × α)}, p_find k L = some a → (k, a) ∈ L := by
  intro L
  induction L with
  | nil => intro h; cases h
  | cons q t ih =>
    intro h
    obtain ⟨j, b⟩ := q
    unfold p_find at h
    cases hj : Nat.beq j k with
    | true =>
      rw [hj] at h
      dsimp only [cond_true] at h
      rw [Nat.eq_of_beq_eq_true hj, Option.some.inj h]
      exact List.mem_cons_self
    | false =>
      rw [hj] at h
      exact List.mem_cons_of_mem _ (ih h)
theorem p_two2_mem {α : Type} {L : List (Nat × List (Nat × α))} {o i : Nat} {a : α} (h : p_two2 L o i = some a) : ∃ l, (o, l) ∈ L ∧ (i, a) ∈ l := by
  unfold p_two2 at h
  cases hl : p_find o L with
  | none => rw [hl] at h; cases h
  | some l => rw [hl] at h; exact ⟨l, p_find_mem hl, p_find_mem h⟩
def p_all2 {α : Type} (L : List (Nat × List (Nat × α))) (P : Nat → Nat → α → Prop) : Prop := ∀ q ∈ L, ∀ z ∈ q.2, P q.1 z.1 z.2
theorem p_all2_ok {α : Type} {L : List (Nat × List (Nat × α))} {P : Nat → Nat → α → Prop} (hP : p_all2 L P) {o i : Nat} {a : α} (h : p_two2 L o i = some a) : P o i a := by
  obtain ⟨l, h1, h2⟩ := p_two2_mem h
  exact hP (o, l) h1 (i, a) h2
def p_dok (c : ByteArray) (q : Nat × Instr × Nat) : Bool := decide (decode c q.1 = .ok q.2) && (p_sw q.2.1 || Nat.beq q.2.2 (p_len q.2.1))
def p_vok (q : pMeth) : Prop := q.2.2.2.2.2.all (p_dok q.2.1) = true
