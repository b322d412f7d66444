theorem p_words_sum (base : Nat) (ex : Nat → Nat) : ∀ st : List Value, ((st.map (c_V base ex)).map fun v => v.category).sum = p_words st := by
  intro st
  induction st with
  | nil => rfl
  | cons v t ih =>
    simp only [List.map_cons, List.sum_cons, ih, c_V_cat]
    cases v <;> simp [p_words, Value.category] <;> omega
/-! ===== throw new E(text), walked ===== -/
theorem p_stref {C n d : String} {A : Nat → Prop} {s : State} {args : Array Value} (h : va_Zq C n d A s s.heap) : (Cond.isRef (.static C n d)).before args s = true := by
  rcases h with h | ⟨t, h⟩
  · obtain ⟨cf, kf, fi, f, a, cell, h1, h2, h3, h4, h5, h6, h7, -⟩ := h
    simp [Cond.before, Cond.holds, Cond.value, Term.eval, State.fieldNamed?, h1, h2, h4, h5, h6, h7, Value.isRef]
  · obtain ⟨cf, kf, fi, f, a, cell, h1, h2, h3, h4, h5, h6, h7, -⟩ := h
    simp [Cond.before, Cond.holds, Cond.value, Term.eval, State.fieldNamed?, h1, h2, h4, h5, h6, h7, Value.isRef]
theorem P_R.plain {D : va_G} {base : Nat} {ex : Nat → Nat} {cA : FieldType → ClassId} {h : List pE} {H : Heap} (hP : P_R D base ex cA h H) {q : Nat} (hq : base ≤ q) {cell : Cell} (hc : H[q]? = some cell) : cell.vm = .none := by
  have hlt : q < base + h.length := by rw [← hP.1]; exact (Array.getElem?_eq_some_iff.mp hc).1
  have hk : q - base < h.length := by omega
  have hat := hP.2 (q - base) h[q - base] (List.getElem?_eq_getElem hk)
  rw [show base + (q - base) = q by omega] at hat
  generalize h[q - base] = z at hat
  cases z with
  | inl z =>
    obtain ⟨ty, n, f⟩ := z
    have h1 : H[q]? = some (vp_cell (cA ty) (n, f)) := hat
    cases h1.symm.trans hc
    rcases f with f | f | f | f | f <;> rfl
  | inr z =>
    obtain ⟨r, -, cell', h1, -, h3, -⟩ := hat
    cases h1.symm.trans hc
    exact h3
def p_exN : List String := ["java/lang/RuntimeException", "java/lang/Exception"]
def p_exU : Cond := .isRef (.static Bundle.tN "UNASSIGNED_STACK" Bundle.steD)
def p_exS : Cond := .isRef (.static Bundle.tN "SUPPRESSED_SENTINEL" Bundle.listD)
def p_exU2 : Cond := .laysStatic Bundle.tN "UNASSIGNED_STACK" Bundle.steD
def p_exS2 : Cond := .laysStatic Bundle.tN "SUPPRESSED_SENTINEL" Bundle.listD
def p_exA (o q ci : Nat) : Prop := ∃ cls, vwCl[ci]? = some (cls, TE, 0) ∧ Bundle.fit cls = true ∧ (∀ w ∈ Bundle.ownAtoms (p_cn o) q cls p_exN, w ∈ lw_g ∨ w = p_exU ∨ w = p_exS ∨ w = p_exU2 ∨ w = p_exS2 ∨ w ∈ p_dcW) ∧ Cond.instantiable cls (p_csl ci) ∈ lw_g ∧ Cond.initialized cls ∈ lw_g
theorem p_exNf : ∀ n ∈ p_exN, Bundle.fit n = true := by decide +kernel
def p_exnP (o i : Nat) (a : Nat) : Prop := ∃ cls, vwCl[a]? = some (cls, TE, 0) ∧ Cond.classLink (p_cn o) i cls ∈ lw_g
theorem p_thr_inv {mi pc ci : Nat} {ins : Instr} (h : p_thr mi pc ins = some ci) : ∃ i j q sj, ins = .new i ∧ p_exn (p_own mi) i = some ci ∧ p_code mi (pc + 3) = some (.dup, 1) ∧ p_code mi (pc + 4) = some (.ldc j, 2) ∧ p_code mi (pc + 6) = some (.invokespecial q, 3) ∧ p_code mi (pc + 9) = some (.athrow, 1) ∧ (p_own mi, q, ci) ∈ p_exiL ∧ p_str (p_own mi) j = some sj := by
  unfold p_thr at h
  split at h
  · next i =>
    split at h
    · cases h
    · next cj h1 =>
      split at h
      · next h2 =>
        split at h
        · next j h3 =>
          split at h
          · next q h4 =>
            split at h
            · next h5 =>
              cases hb : p_exi (p_own mi) cj j q with
              | false => rw [hb] at h; cases h
              | true =>
                rw [hb] at h
                have e : cj = ci := Option.some.inj h
                subst e
                unfold p_exi at hb
                rw [Bool.and_eq_true] at hb
                obtain ⟨z, hz, hb1⟩ := List.any_eq_true.mp hb.1
                rw [Bool.and_eq_true, Bool.and_eq_true] at hb1
                obtain ⟨sj, hsj⟩ := Option.isSome_iff_exists.mp hb.2
                refine ⟨i, j, q, sj, rfl, h1, h2, h3, h4, h5, ?_, hsj⟩
                obtain ⟨z1, z2, z3⟩ := z
                have e1 := Nat.eq_of_beq_eq_true hb1.1.1
                have e2 := Nat.eq_of_beq_eq_true hb1.1.2
                have e3 := Nat.eq_of_beq_eq_true hb1.2
                dsimp only at e1 e2 e3
                rw [← e1, ← e2, ← e3]
                exact hz
            · cases h
          · cases h
        · cases h
      · cases h
  · cases h
