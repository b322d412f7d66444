/-! ===== literals and Object's own constructor ===== -/
theorem p_oi : Cond.instanceMethod Lib.objectInit ∈ lw_g := p_t 28 (by decide +kernel)
theorem p_oc : Cond.code Lib.objectInit ⟨#[0xb1]⟩ 1 none ∈ lw_g := p_t 29 (by decide +kernel)
theorem p_lenL_eq (j : Nat) : p_lenL.getD j 0 = p_slen j := by
  unfold p_lenL p_slen
  rw [List.getD_eq_getElem?_getD, List.getD_eq_getElem?_getD, List.getElem?_map]
  cases p_litL[j]? <;> rfl
section PEX
variable {p : Program} {l : Launch} {e : Env} {R : Room} {s : State} {m : MethodId} {args : Array Value} {below : List Frame} {meth : Method} {c : Code} {H : Heap} {locs : List Loc} {cells slots : Nat} {Q : State → Prop}
variable {D : va_G} {base : Nat} {ex : Nat → Nat} {cA : FieldType → ClassId} {X : pX} {lsA : Array Slot} {ls : pL} {pc d mi o i j : Nat} {rest : List Value} {cc : ByteArray}
theorem s_ldcS (hx : p.tables.exec = Jvm.exec) (hb : c.code = cc) (hown : s.vm.findClass (p_cn o) = some m.cls) (hX : P_X X base ex s s.heap) (hj : p_str o i = some j) (hd : decode cc pc = .ok (.ldc i, 2)) (kk : W p l e R s m args below meth c H locs cells slots Q (F0 m (pc + 2) lsA (.ref (ex (j + 1)) :: rest))) : W p l e R s m args below meth c H locs cells slots Q (F0 m pc lsA rest) := by
  obtain ⟨tx, h⟩ := hX.2.2.2.1 _ _ _ hj
  exact va_ldcS hx hb hown h hd kk
theorem p_room0 (h : p_words rest ≤ 8) : 2 * (F0 m pc lsA (rest.map (c_V base ex))).monitorRoom + ((rest.map (c_V base ex)).map fun v => v.category).sum ≤ 8 := by
  have e : ((rest.map (c_V base ex)).map fun v => v.category).sum = p_words rest := by
    clear h
    induction rest with
    | nil => rfl
    | cons v t ih =>
      simp only [List.map_cons, List.sum_cons, ih, c_V_cat]
      cases v <;> simp [p_words, Value.category] <;> omega
  exact lv_room (by rw [e]; exact h)
theorem s_objInit (hx : p.tables.exec = Jvm.exec) (hb : c.code = cc) (hts : ∀ w ∈ lw_g, w.before args s = true) (hown : s.vm.findClass (p_cn o) = some m.cls) (hml : c.maxLocals = p_maxL mi) (hL : P_L base ex (p_maxL mi) ls lsA) (hlink : Cond.methodLink (p_cn o) i Lib.objectInit ∈ lw_g) (hR : d ≤ R.frames ∧ 60 * d ≤ R.locals) (hC : 1 ≤ d ∧ p_words rest ≤ 8) {k : Nat} (hd : decode cc pc = .ok (.invokespecial i, 3)) (kk : W p l e R s m args below meth c H locs cells slots Q (F0 m (pc + 3) lsA (rest.map (c_V base ex)))) : W p l e R s m args below meth c H locs cells slots Q (F0 m pc lsA (.ref k :: rest.map (c_V base ex))) := by
  have h8 := p_room0 (m := m) (pc := pc) (lsA := lsA) (base := base) (ex := ex) hC.2
  have h9 : 2 * (F0 m pc lsA (.ref k :: rest.map (c_V base ex))).monitorRoom + ((rest.map (c_V base ex)).map fun v => v.category).sum ≤ 8 := h8
  exact W.objInit hx hb hown (hts _ hlink) (hts _ p_oi) (hts _ p_oc) rfl (by rw [hml]; exact hL.2.1) rfl hd (by omega) (by omega) kk
end PEX
