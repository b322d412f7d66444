section PTH
variable {p : Program} {l : Launch} {e : Env} {R : Room} {s : State} {m : MethodId} {args : Array Value} {below : List Frame} {meth : Method} {c : Code} {H : Heap} {locs : List Loc} {cells slots : Nat} {Q : State → Prop}
variable {D : va_G} {base : Nat} {ex : Nat → Nat} {cA : FieldType → ClassId} {X : pX} {lsA : Array Slot} {ls : pL} {st : List Value} {h h0 : List pE} {mi pc ci d len : Nat} {ins : Instr}
set_option maxHeartbeats 2000000 in
theorem s_thrown (htr : ∀ e : Env, l.admits e → e.platform.stackTraces = false) (C : P_C X D base ex cA p s m args meth c mi) (hc : p_code mi pc = some (ins, len)) (ht : p_thr mi pc ins = some ci) (hC : 8 ≤ d ∧ p_words st ≤ 4 ∧ p_hh mi = []) (hP : P_R D base ex cA h H) (hS : va_S (p_A base) s.heap H locs) (hL : P_L base ex (p_maxL mi) ls lsA) (hR : d ≤ R.frames ∧ 60 * d ≤ R.locals) (hle0 : p_le h0 h) (hc1 : (h ++ [(.inr (ci, []) : pE)]).length - h0.length ≤ R.cells) (hc2 : p_S (h ++ [(.inr (ci, []) : pE)]) - p_S h0 ≤ R.slots)
    (hk : ∀ (H1 : Heap) (locs1 : List Loc) (pcr : Nat) (st1 : List Value), P_R D base ex cA (h ++ [.inr (ci, [])]) H1 → va_S (p_A base) s.heap H1 locs1 → P_WT p l e R s m args below meth c H1 locs1 ((h ++ [(.inr (ci, []) : pE)]).length - h0.length) (p_S (h ++ [(.inr (ci, []) : pE)]) - p_S h0) Q (F0 m pcr lsA st1) (base + h.length)) :
    W p l e R s m args below meth c H locs (h.length - h0.length) (p_S h - p_S h0) Q (F0 m pc lsA (st.map (c_V base ex))) := by
  obtain ⟨hx, hb, hts, hown, hret, hml, hlk, hctor, hK, hbase, hX, hraw, h00, hR00⟩ := C
  obtain ⟨i, j, q, sj, rfl, g1, g2, g3, g4, g5, g6, g7⟩ := p_thr_inv ht
  obtain ⟨cls, k1, k2, k3, k4, k5⟩ := p_exi_ok _ g6
  obtain ⟨cls', k6, k7⟩ := p_all2_ok p_exnA g1
  cases k1.symm.trans k6
  have hd := (p_code_ok hc).1
  have hl3 : len = 3 := (p_code_ok hc).2 rfl
  subst hl3
  obtain ⟨-, hfc, kC, hkC, hkind⟩ := hK.1 ci _ k1
  have a1 : (h ++ [(.inr (ci, []) : pE)]).length - h0.length = (h.length - h0.length) + 1 := by
    have := hle0.1
    simp only [List.length_append, List.length_cons, List.length_nil]
    omega
  have a2 : p_S (h ++ [(.inr (ci, []) : pE)]) - p_S h0 = (p_S h - p_S h0) + p_csl ci := by
    have := hle0.2
    rw [p_S_app]
    simp only [p_S, p_sz]
    omega
  rw [a1] at hc1 hk
  rw [a2] at hc2 hk
  refine W.newcK hx hb hown (hts _ k7) (hts _ k4) (hts _ k5) rfl hd hc1 hc2 (h := base + h.length) hfc hP.1 (fun H1 kX hkX e1 e2 e3 => ?_)
  refine W.eq (g2 := F0 m (pc + 3) lsA (.ref (base + h.length) :: st.map (c_V base ex))) rfl ?_
  refine lv_dup hx hb (p_code_ok g2).1 rfl ?_
  refine s_ldcS hx hb hown hX g7 (p_code_ok g3).1 ?_
  have hS1 : va_S (p_A base) s.heap H1 locs := by
    refine ⟨?_, fun q h1 h2 => ?_, hS.2.2⟩
    · rw [e2, ← hP.1]
      exact Nat.le_succ_of_le hS.1
    · rw [e3 q (by rw [← hP.1]; exact Nat.lt_of_lt_of_le h1 hS.1)]
      exact hS.2.1 q h1 h2
  have hw : ((Value.ref (base + h.length) :: st.map (c_V base ex)).map fun v => v.category).sum ≤ 5 := by
    have := p_words_sum base ex st
    simp only [List.map_cons, List.sum_cons]
    rw [this]
    show 1 + _ ≤ 5
    omega
  refine s_exinit (names := p_exN) hx hb htr hown k2 p_exNf (fun w hw2 => ?_) (fun z hz cell hcell => ?_) hfc hkX e1 (by rw [← hP.1]; exact hS.1) (by rw [hml]; exact hL.2.1) (p_code_ok g4).1 (by show 2 + 3 < _; omega) (by show _ + (13 * (2 + 1) + 42) ≤ _; omega) (fun H2 z1 z2 z3 => ?_)
  · obtain ⟨-, -, -, -, x5, x6, -, -, -, -, x12, x13, x14⟩ := hX
    rcases k3 w hw2 with k | k | k | k | k | k
    · exact hts w k
    · rw [k]; exact p_stref x5
    · rw [k]; exact p_stref x6
    · rw [k]; exact x12.use
    · rw [k]; exact x13.use
    · rcases p_dc_form w k with ⟨z, rfl⟩ | ⟨a, b, rfl⟩
      · exact va_Nw.use rfl (x14 _ k)
      · exact va_Nw.use rfl (x14 _ k)
  · rw [hR00.plain (hS.2.2 z hz) hcell]; rfl
  · obtain ⟨ce, y1, y2, y3⟩ := z3
    refine s_athrow hx hb (p_code_ok g5).1 ?_
    refine hk H2 locs (pc + 9) _ ⟨?_, fun k e9 hk9 => ?_⟩ ⟨?_, fun q9 h1 h2 => ?_, hS1.2.2⟩
    · rw [z1, e2, List.length_append, List.length_cons, List.length_nil]; omega
    · by_cases hkl : k < h.length
      · rw [List.getElem?_append_left hkl] at hk9
        refine (hP.2 k e9 hk9).kept ?_
        rw [z2 _ (by show base + k ≠ base + h.length; omega), e3 _ (by omega)]
      · rw [List.getElem?_append_right (by omega)] at hk9
        have hz : k - h.length < 1 := (List.getElem?_eq_some_iff.mp hk9).1
        have hk0 : k = h.length := by omega
        subst hk0
        rw [Nat.sub_self] at hk9
        cases hk9
        exact ⟨_, k1, ce, y1, y2, y3, fun k hk => absurd hk (Nat.not_lt_zero _)⟩
    · rw [z1]; exact hS1.1
    · rw [z2 q9 (by have := hS.1; rw [hP.1] at this; omega)]; exact hS1.2.1 q9 h1 h2
end PTH
