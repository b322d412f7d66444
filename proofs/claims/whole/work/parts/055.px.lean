/-! ===== what lies outside the pure cells: the script, the literals, four statics ===== -/
abbrev p_A (base : Nat) : Nat → Prop := fun q => base ≤ q
def p_lenL : List Nat := p_litL.map List.length
def P_X (X : pX) (base : Nat) (ex : Nat → Nat) (U : State) (H : Heap) : Prop :=
  va_X (ex 0) X.1 X.2 U H ∧ ex 0 < base ∧ (∃ adV : Nat → Nat, vk_S p_lits p_lenL p_litL (fun j => ex (j + 1)) adV (p_A base) U H) ∧ (∀ o i j, p_str o i = some j → ∃ tx, vk_R (p_cn o) i tx (ex (j + 1)) U) ∧
  va_Zq "java/lang/Throwable" "UNASSIGNED_STACK" "[Ljava/lang/StackTraceElement;" (p_A base) U H ∧ va_Zq "java/lang/Throwable" "SUPPRESSED_SENTINEL" "Ljava/util/List;" (p_A base) U H ∧
  va_Z "java/lang/String" "COMPACT_STRINGS" "Z" (.int 1) (p_A base) U H ∧ va_Zq "jdk/internal/util/Preconditions" "SIOOBE_FORMATTER" "Ljava/util/function/BiFunction;" (p_A base) U H ∧ (∀ w ∈ p_nestW, va_Nw w U) ∧ (∀ ci cj, p_exk ci = true → p_exk cj = true → ci ≠ cj → va_Nc (p_cn ci) (p_cn cj) U)
theorem p_nest_form : ∀ w ∈ p_nestW, ∃ a b c d, w = .methodLinkNest a b c d := by
  intro w hw
  simp only [p_nestW, List.mem_cons, List.not_mem_nil, or_false] at hw
  rcases hw with h | h | h <;> exact ⟨_, _, _, _, h⟩
theorem P_X.warm {X : pX} {base : Nat} {ex : Nat → Nat} {s U : State} {H : Heap} (hW : s.WarmedH U.vm) (h : P_X X base ex s H) : P_X X base ex U H := by
  obtain ⟨h1, h2, ⟨adV, h3⟩, h4, h5, h6, h7, h8, h9, h11⟩ := h
  refine ⟨va_X.moved hW.alike h1, h2, ⟨adV, vk_S.moved hW.alike h3⟩, fun o i j hj => ?_, va_Zq.moved hW.alike h5, va_Zq.moved hW.alike h6, va_Z.moved hW.alike h7, va_Zq.moved hW.alike h8, fun w hw => ?_, fun ci cj z1 z2 z3 => va_Nc.moved hW.alike (h11 ci cj z1 z2 z3)⟩
  rotate_left
  · obtain ⟨a, b, c, d, rfl⟩ := p_nest_form w hw
    exact va_Nw.warmM hW (h9 _ hw)
  obtain ⟨tx, h⟩ := h4 o i j hj
  exact ⟨tx, vk_R.warm hW h⟩
theorem P_X.same {X : pX} {base : Nat} {ex : Nat → Nat} {s U : State} {H : Heap} (hv : U.vm = s.vm) (h : P_X X base ex s H) : P_X X base ex U H := by
  have ha : s.vm.Alike U.vm := by rw [hv]; exact Vm.Alike.refl _
  obtain ⟨h1, h2, ⟨adV, h3⟩, h4, h5, h6, h7, h8, h9, h11⟩ := h
  refine ⟨va_X.moved ha h1, h2, ⟨adV, vk_S.moved ha h3⟩, fun o i j hj => ?_, va_Zq.moved ha h5, va_Zq.moved ha h6, va_Z.moved ha h7, va_Zq.moved ha h8, fun w hw => ?_, fun ci cj z1 z2 z3 => va_Nc.moved ha (h11 ci cj z1 z2 z3)⟩
  rotate_left
  · obtain ⟨a, b, c, d, rfl⟩ := p_nest_form w hw
    exact va_Nw.same rfl hv.symm (h9 _ hw)
  obtain ⟨tx, h⟩ := h4 o i j hj
  exact ⟨tx, vk_R.same hv h⟩
theorem P_X.kept {X : pX} {base : Nat} {ex : Nat → Nat} {U : State} {H0 H : Heap} {locs : List Loc} (h : P_X X base ex U H0) (hS : va_S (p_A base) H0 H locs) : P_X X base ex U H := by
  have hq : ∀ a : Nat, a < H0.size → ¬ p_A base a → H[a]? = H0[a]? := hS.2.1
  obtain ⟨h1, h2, ⟨adV, h3⟩, h4, h5, h6, h7, h8, h9, h11⟩ := h
  refine ⟨va_X.kept h1 (hq _ ?_ (Nat.not_le.mpr h2)), h2, ⟨adV, vk_S.kept h3 hq⟩, h4, va_Zq.kept h5 hq, va_Zq.kept h6 hq, va_Z.kept h7 hq, va_Zq.kept h8 hq, h9, h11⟩
  obtain ⟨scr, h10, -⟩ := h1
  exact (Array.getElem?_eq_some_iff.mp h10).1
