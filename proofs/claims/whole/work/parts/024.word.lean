/-! the word of a method's code -/
def p_word (mi : Nat) : Cond := match p_raw mi with
  | [] => .code (p_y mi) (p_bytes mi) (p_maxL mi) (p_rty mi)
  | t => .codeWith (p_y mi) (p_bytes mi) (p_maxL mi) (p_rty mi) t
def p_ws (mi : Nat) : List Cond := p_word mi :: lw_g
theorem p_named {mi : Nat} {args : Array Value} {s : State} (h : (p_word mi).before args s = true) : ∃ mk, s.methodNamed? (p_y mi) = some mk := by
  unfold p_word at h
  split at h
  · exact Cond.code_named h
  · obtain ⟨mk, meth, c, h1, -⟩ := Cond.codeWith_spec h
    exact ⟨mk, h1⟩
/-- what the word of a method's code says -/
theorem p_word_spec {mi : Nat} {args : Array Value} {s : State} (h : (p_word mi).before args s = true) : ∃ mk meth c, s.methodNamed? (p_y mi) = some mk ∧ s.vm.method? mk = some meth ∧ meth.code = some c ∧ c.code = p_bytes mi ∧ c.maxLocals = p_maxL mi ∧ meth.sig.returnType = p_rty mi ∧ meth.locks = false ∧ c.exceptionTable.toList.map (fun h => (h.startPc, h.endPc, h.handlerPc, h.catchType)) = p_raw mi ∧ parseMethodDescriptor (p_y mi).desc = some meth.sig := by
  have hn0 := p_named h
  unfold p_word at h
  split at h
  · next hr =>
    obtain ⟨mk, hn⟩ := hn0
    obtain ⟨meth, c, h1, h2, h3, h4, h5, h6, h7, h8⟩ := Cond.code_spec hn h
    refine ⟨mk, meth, c, hn, h1, h2, h3, h4, h5, h6, ?_, h8⟩
    rw [hr]
    have : c.exceptionTable = #[] := Array.isEmpty_iff.mp h7
    rw [this]
    rfl
  · obtain ⟨mk, meth, c, h1, h2, h3, h4, h5, h6, h7, h8, h9⟩ := Cond.codeWith_spec h
    exact ⟨mk, meth, c, h1, h2, h3, h4, h5, h7, h8, h6, h9⟩
