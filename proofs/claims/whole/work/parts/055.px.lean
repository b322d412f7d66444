/-! ===== what lies outside the pure cells: the script, the literals, four statics ===== -/
abbrev p_A (base : Nat) : Nat → Prop := fun q => base ≤ q
def p_lenL : List Nat := p_litL.map List.length
def P_LS (C n d : String) (A : Nat → Prop) (U : State) (H : Heap) : Prop := ∃ (k0 : ClassId) (k : Class) (i : Nat) (f : Field) (a : Nat) (cell : Cell), U.vm.findClass C = some k0 ∧ U.fieldFound? C n d = some (k0, k, i, f) ∧ f.isStatic = true ∧ k.statics = some a ∧ H[a]? = some cell ∧ cell.vm.isStatics = true ∧ cell.cls = k0 ∧ f.slot < cell.slots.size ∧ k.staticTypes[f.slot]? = some f.type ∧ ¬ A a
theorem P_LS.moved {C n d : String} {A : Nat → Prop} {u U : State} {H : Heap} (hvm : u.vm.Alike U.vm) (h : P_LS C n d A u H) : P_LS C n d A U H := by
  obtain ⟨k0, k, i, f, a, cell, h0, h1, h2, h3, h4, h5, h6, h7, h8, h9⟩ := h
  obtain ⟨k', hi', he⟩ := State.fieldFound?_setVm hvm h1
  exact ⟨k0, k', i, f, a, cell, by rw [hvm.findClass]; exact h0, hi', h2, by rw [he]; exact h3, h4, h5, h6, h7, by rw [he]; exact h8, h9⟩
theorem P_LS.kept {C n d : String} {A : Nat → Prop} {U : State} {H H1 : Heap} (h : P_LS C n d A U H) (hq : ∀ a : Nat, a < H.size → ¬ A a → H1[a]? = H[a]?) : P_LS C n d A U H1 := by
  obtain ⟨k0, k, i, f, a, cell, h0, h1, h2, h3, h4, h5, h6, h7, h8, h9⟩ := h
  exact ⟨k0, k, i, f, a, cell, h0, h1, h2, h3, by rw [hq a (Array.getElem?_eq_some_iff.mp h4).1 h9]; exact h4, h5, h6, h7, h8, h9⟩
theorem P_LS.use {C n d : String} {A : Nat → Prop} {s : State} {args : Array Value} (h : P_LS C n d A s s.heap) : (Cond.laysStatic C n d).before args s = true := by
  obtain ⟨k0, k, i, f, a, cell, h0, h1, h2, h3, h4, h5, h6, h7, h8, h9⟩ := h
  simp [Cond.before, Cond.holds, Cond.value, h0, h1, h2, h3, h4, h5, h6, h7, h8]
theorem P_LS.of {C n d : String} {A : Nat → Prop} {s : State} {args : Array Value} (hl : (Cond.laysStatic C n d).before args s = true) (hA : ∀ a : Nat, a < s.heap.size → ¬ A a) : P_LS C n d A s s.heap := by
  obtain ⟨c, k, i, f, a, cell, hc, hi, hst, ha, hcell, hs, hcls, hlt, hty⟩ := Cond.laysStatic_spec hl
  exact ⟨c, k, i, f, a, cell, hc, hi, hst, ha, hcell, hs, hcls, hlt, hty, hA a (Array.getElem?_eq_some_iff.mp hcell).1⟩
def p_dcW : List Cond := [.declares (Bundle.initS "java/lang/RuntimeException"), .declares (Bundle.initS "java/lang/Exception"), .declares (Bundle.initS Bundle.tN), .castable RE0 RE0, .castable RE1 RE1, .castable RE2 RE2, .castable RE3 RE3, .castable RE4 RE4]
theorem p_dc_form : ∀ w ∈ p_dcW, (∃ z, w = .declares z) ∨ (∃ a b, w = .castable a b) := by
  intro w hw
  simp only [p_dcW, List.mem_cons, List.not_mem_nil, or_false] at hw
  rcases hw with h | h | h | h | h | h | h | h <;> first | exact Or.inl ⟨_, h⟩ | exact Or.inr ⟨_, _, h⟩
def P_X (X : pX) (base : Nat) (ex : Nat → Nat) (U : State) (H : Heap) : Prop :=
  va_X (ex 0) X.1 X.2 U H ∧ ex 0 < base ∧ vk_S p_lits p_lenL p_litL (fun j => ex (j + 1)) (fun j => ex (p_lits + 1 + j)) (p_A base) U H ∧ (∀ o i j, p_str o i = some j → ∃ tx, vk_R (p_cn o) i tx (ex (j + 1)) U) ∧
  va_Zq "java/lang/Throwable" "UNASSIGNED_STACK" "[Ljava/lang/StackTraceElement;" (p_A base) U H ∧ va_Zq "java/lang/Throwable" "SUPPRESSED_SENTINEL" "Ljava/util/List;" (p_A base) U H ∧
  va_Z "java/lang/String" "COMPACT_STRINGS" "Z" (.int 1) (p_A base) U H ∧ va_Z "jdk/internal/util/Preconditions" "SIOOBE_FORMATTER" "Ljava/util/function/BiFunction;" (if ex 100000 = 0 then .null else .ref (ex 100001)) (p_A base) U H ∧ (∀ w ∈ p_nestW, va_Nw w U) ∧ (∀ ci cj, p_exk ci = true → p_exk cj = true → ci ≠ cj → va_Nc (p_cn ci) (p_cn cj) U) ∧
  P_LS "java/lang/Throwable" "UNASSIGNED_STACK" "[Ljava/lang/StackTraceElement;" (p_A base) U H ∧ P_LS "java/lang/Throwable" "SUPPRESSED_SENTINEL" "Ljava/util/List;" (p_A base) U H ∧ (∀ w ∈ p_dcW, va_Nw w U)
theorem p_nest_form : ∀ w ∈ p_nestW, ∃ a b c d, w = .methodLinkNest a b c d := by
  intro w hw
  simp only [p_nestW, List.mem_cons, List.not_mem_nil, or_false] at hw
  rcases hw with h | h | h <;> exact ⟨_, _, _, _, h⟩
theorem P_X.warm {X : pX} {base : Nat} {ex : Nat → Nat} {s U : State} {H : Heap} (hW : s.WarmedH U.vm) (h : P_X X base ex s H) : P_X X base ex U H := by
  obtain ⟨h1, h2, h3, h4, h5, h6, h7, h8, h9, h11, h12, h13, h14⟩ := h
  refine ⟨va_X.moved hW.alike h1, h2, vk_S.moved hW.alike h3, fun o i j hj => ?_, va_Zq.moved hW.alike h5, va_Zq.moved hW.alike h6, va_Z.moved hW.alike h7, va_Z.moved hW.alike h8, fun w hw => ?_, fun ci cj z1 z2 z3 => va_Nc.moved hW.alike (h11 ci cj z1 z2 z3), P_LS.moved hW.alike h12, P_LS.moved hW.alike h13, fun w hw => ?_⟩
  rotate_left 2
  · rcases p_dc_form w hw with ⟨z, rfl⟩ | ⟨a, b, rfl⟩
    · exact va_Nw.warmD hW (h14 _ hw)
    · exact va_Nw.warmC hW (h14 _ hw)
  rotate_left
  · obtain ⟨a, b, c, d, rfl⟩ := p_nest_form w hw
    exact va_Nw.warmM hW (h9 _ hw)
  obtain ⟨tx, h⟩ := h4 o i j hj
  exact ⟨tx, vk_R.warm hW h⟩
theorem P_X.same {X : pX} {base : Nat} {ex : Nat → Nat} {s U : State} {H : Heap} (hv : U.vm = s.vm) (h : P_X X base ex s H) : P_X X base ex U H := by
  have ha : s.vm.Alike U.vm := by rw [hv]; exact Vm.Alike.refl _
  obtain ⟨h1, h2, h3, h4, h5, h6, h7, h8, h9, h11, h12, h13, h14⟩ := h
  refine ⟨va_X.moved ha h1, h2, vk_S.moved ha h3, fun o i j hj => ?_, va_Zq.moved ha h5, va_Zq.moved ha h6, va_Z.moved ha h7, va_Z.moved ha h8, fun w hw => ?_, fun ci cj z1 z2 z3 => va_Nc.moved ha (h11 ci cj z1 z2 z3), P_LS.moved ha h12, P_LS.moved ha h13, fun w hw => ?_⟩
  rotate_left 2
  · rcases p_dc_form w hw with ⟨z, rfl⟩ | ⟨a, b, rfl⟩
    · exact va_Nw.same rfl hv.symm (h14 _ hw)
    · exact va_Nw.same rfl hv.symm (h14 _ hw)
  rotate_left
  · obtain ⟨a, b, c, d, rfl⟩ := p_nest_form w hw
    exact va_Nw.same rfl hv.symm (h9 _ hw)
  obtain ⟨tx, h⟩ := h4 o i j hj
  exact ⟨tx, vk_R.same hv h⟩
theorem P_X.kept {X : pX} {base : Nat} {ex : Nat → Nat} {U : State} {H0 H : Heap} {locs : List Loc} (h : P_X X base ex U H0) (hS : va_S (p_A base) H0 H locs) : P_X X base ex U H := by
  have hq : ∀ a : Nat, a < H0.size → ¬ p_A base a → H[a]? = H0[a]? := hS.2.1
  obtain ⟨h1, h2, h3, h4, h5, h6, h7, h8, h9, h11, h12, h13, h14⟩ := h
  refine ⟨va_X.kept h1 (hq _ ?_ (Nat.not_le.mpr h2)), h2, vk_S.kept h3 hq, h4, va_Zq.kept h5 hq, va_Zq.kept h6 hq, va_Z.kept h7 hq, va_Z.kept h8 hq, h9, h11, P_LS.kept h12 hq, P_LS.kept h13 hq, h14⟩
  obtain ⟨scr, h10, -⟩ := h1
  exact (Array.getElem?_eq_some_iff.mp h10).1
