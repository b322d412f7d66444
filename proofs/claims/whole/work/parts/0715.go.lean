/-! ===== the step into a callee, out of the tables ===== -/
theorem p_pop_spec : ∀ (n : Nat) (acc st as rest : List Value), p_pop n acc st = some (as, rest) → ∃ t, as = t ++ acc ∧ st = t.reverse ++ rest ∧ t.length = n := by
  intro n
  induction n with
  | zero => intro acc st as rest h; cases h; exact ⟨[], rfl, rfl, rfl⟩
  | succ n ih =>
    intro acc st as rest h
    cases st with
    | nil => cases h
    | cons v st =>
      obtain ⟨t, h1, h2, h3⟩ := ih (v :: acc) st as rest h
      refine ⟨t ++ [v], ?_, ?_, ?_⟩
      · rw [h1]; simp
      · rw [h2]; simp
      · simp [h3]
theorem p_ctor_name {cm : Nat} (h : p_ctor cm = true) : (p_y cm).name = "<init>" := by
  obtain ⟨k, hk, e⟩ := List.any_eq_true.mp h
  have e := Nat.eq_of_beq_eq_true e
  subst e
  revert hk
  have : ∀ k ∈ p_ctorL, (p_y k).name = "<init>" := by decide +kernel
  exact this k
theorem p_recv_len {cm : Nat} {as : List Value} {h : List pE} (hr : p_recv cm as h = true) : (p_args as).length ≤ p_maxL cm := by
  unfold p_recv at hr
  rw [Bool.and_eq_true] at hr
  exact Nat.le_of_ble_eq_true hr.1
theorem p_recv_lit {cm : Nat} {as : List Value} {h : List pE} (hr : p_recv cm as h = true) (hs : p_isS cm = true) : ∃ j t, as = .retAddr (j + 1) :: t ∧ j < p_lits := by
  unfold p_recv at hr
  rw [hs] at hr
  rw [Bool.and_eq_true] at hr
  have h2 : p_hdlit as = true := hr.2
  unfold p_hdlit at h2
  split at h2
  · next j t => exact ⟨j, t, rfl, p_blt h2⟩
  · cases h2
theorem p_recv_at {cm ci : Nat} {as : List Value} {h : List pE} (hr : p_recv cm as h = true) (hs : p_isS cm = false) (hi : p_inst cm = some ci) : ∃ k t fs, as = .ref k :: t ∧ h[k]? = some (.inr (ci, fs)) := by
  unfold p_recv at hr
  rw [hs] at hr
  rw [Bool.and_eq_true, hi] at hr
  obtain ⟨-, hr⟩ := hr
  dsimp only [cond_false] at hr
  split at hr
  · next k t =>
    split at hr
    · next cj fs he =>
      have e := Nat.eq_of_beq_eq_true hr
      subst e
      exact ⟨k, t, fs, rfl, he⟩
    · cases hr
  · cases hr
theorem p_raw_none : ∀ k, p_raw k ≠ [] → k < p_ML.length := by
  intro k hk
  refine Nat.lt_of_not_le (fun hle => hk ?_)
  unfold p_raw
  cases h : p_find k p_rawL with
  | none => rfl
  | some q =>
    exfalso
    have hm := p_find_mem h
    have : ∀ z ∈ p_rawL, z.1 < p_ML.length := by decide +kernel
    exact absurd (this _ hm) (Nat.not_lt.mpr hle)
theorem p_mtV_lt : ∀ q ∈ p_mtVL, ∀ z ∈ q.2, z.2.1 < p_ML.length := by decide +kernel
theorem p_mtS_lt : ∀ q ∈ p_mtSL, ∀ z ∈ q.2, z.2.1 < p_ML.length := by decide +kernel
theorem p_mtI_lt : ∀ q ∈ p_mtIL, ∀ z ∈ q.2, z.2.1 < p_ML.length := by decide +kernel
theorem p_mth_in {mi cm na : Nat} {ins : Instr} (h : p_calls mi ins = some (cm, na)) : p_word cm ∈ lw_g ∧ Cond.initialized (p_y cm).cls ∈ lw_g ∧ p_maxL cm ≤ 41 ∧ plainFor (p_y cm) = true ∧ cm < p_ML.length := by
  unfold p_calls at h
  split at h
  · obtain ⟨⟨g1, g2, g3, g4, -⟩, -⟩ := p_all2_ok p_mtVA h
    obtain ⟨l, a1, a2⟩ := p_two2_mem h
    exact ⟨g1, g2, g3, g4, p_mtV_lt _ a1 _ a2⟩
  · obtain ⟨⟨g1, g2, g3, g4, -⟩, -⟩ := p_all2_ok p_mtSA h
    obtain ⟨l, a1, a2⟩ := p_two2_mem h
    exact ⟨g1, g2, g3, g4, p_mtS_lt _ a1 _ a2⟩
  · obtain ⟨⟨g1, g2, g3, g4, -⟩, -⟩ := p_all2_ok p_mtIA h
    obtain ⟨l, a1, a2⟩ := p_two2_mem h
    exact ⟨g1, g2, g3, g4, p_mtI_lt _ a1 _ a2⟩
  · cases h
theorem p_mtI_ctor0 : ∀ q ∈ p_mtIL, ∀ z ∈ q.2, p_ctor z.2.1 = true ∧ p_inst z.2.1 = none ∧ p_isS z.2.1 = false := by decide +kernel
theorem p_mtI_ctor {cm na : Nat} (o i : Nat) (h : p_mtI o i = some (cm, na)) : p_ctor cm = true ∧ p_inst cm = none ∧ p_isS cm = false := by
  obtain ⟨l, a1, a2⟩ := p_two2_mem h
  exact p_mtI_ctor0 _ a1 _ a2
theorem p_npar_sig {cm n : Nat} (h : p_npar cm n) {sig : MethodDescriptor} (hs : parseMethodDescriptor (p_y cm).desc = some sig) : n = sig.parameters.length := by
  unfold p_npar at h
  rw [hs] at h
  exact (Option.some.inj h).symm
theorem p_nest_at {X : pX} {base : Nat} {ex : Nat → Nat} {s : State} {args : Array Value} {o host : String} {i : Nat} {y : MethodName} (hX : P_X X base ex s s.heap) (h : Cond.methodLinkNest o i y host ∈ p_nestW) : (Cond.methodLinkNest o i y host).before args s = true := va_Nw.use rfl (hX.2.2.2.2.2.2.2.2.1 _ h)
section PGO
variable {p : Program} {l : Launch} {e : Env} {R : Room} {s : State} {m : MethodId} {args : Array Value} {below : List Frame} {meth : Method} {c : Code} {T : State} {locs : List Loc} {cells slots : Nat}
variable {D : va_G} {base : Nat} {ex : Nat → Nat} {cA : FieldType → ClassId} {X : pX} {lsA : Array Slot} {st as rest : List Value} {h : List pE} {mi pc cm na : Nat} {ins : Instr}
set_option maxHeartbeats 1000000 in
theorem p_go_ok (C : P_C X D base ex cA p s m args meth c mi) (hc : p_code mi pc = some (ins, 3)) (hm : p_calls mi ins = some (cm, na)) (hp : p_pop na [] st = some (as, rest)) (hr : p_recv cm as h = true) (hP : P_R D base ex cA h T.heap) (hST : va_S (p_A base) s.heap T.heap locs) (X0 : Stand p l e R s m args below meth c T locs cells slots) :
    P_go p l e R s m args below meth c T locs cells slots (F0 m pc lsA (st.map (c_V base ex))) (rest.map (c_V base ex)) (p_y cm) (as.map (c_V base ex)).toArray := by
  obtain ⟨hx, hb, hts, hown, hret, hml, hlk, hctor, hK, hbase, hX, hraw, hh00⟩ := C
  have hd : decode c.code pc = .ok (ins, 3) := by rw [hb]; exact (p_code_ok hc).1
  obtain ⟨t0, a1, a2, a3⟩ := p_pop_spec na [] st as rest hp
  rw [List.append_nil] at a1
  subst a1
  obtain ⟨gw, gi, gl, gp, gm⟩ := p_mth_in hm
  cases ins with
  | invokevirtual i =>
    obtain ⟨⟨-, -, -, -, g5⟩, b1, b2, b3, bb, ⟨n, b7, b8⟩⟩ := p_all2_ok p_mtVA hm
    have hlen : ∀ (v : Value) (t : List Value), as = v :: t → ∀ mk methM, s.methodNamed? (p_y cm) = some mk → s.vm.method? mk = some methM → (t.map (c_V base ex)).length = methM.sig.parameters.length := by
      intro v t et mk methM z1 z2
      obtain ⟨mk', meth', c', y1, y2, -, -, -, -, -, -, y3⟩ := p_word_spec (hts _ gw)
      cases z1.symm.trans y1
      cases z2.symm.trans y2
      rw [List.length_map, ← p_npar_sig b7 y3]
      rw [et] at a3
      simp only [List.length_cons] at a3
      dsimp only at b8
      omega
    rcases bb with ⟨ci, q, b4, b0, b5, b6⟩ | ⟨b0, b6⟩
    · obtain ⟨k, t, fs, e1, e2⟩ := p_recv_at hr b0 b4
      have hlen2 := hlen _ _ e1
      subst e1
      obtain ⟨r, h1, cell, q1, q2, q3, q4⟩ := hP.2 k _ e2
      have hr2 : r = q := Option.some.inj (h1.symm.trans b5)
      subst hr2
      obtain ⟨-, hfc, -⟩ := hK.1 ci _ b5
      refine i_virt X0 hx hown (hts _ b1) (hts _ b2) (hts _ b3) g5 (b := base + k) (cellB := cell) q1 (by rw [q3]; rfl) (by rw [← b6, q2]; exact hfc) rfl (argsL := t.map (c_V base ex)) hlen2 ?_ hd
      rw [a2]
      simp [c_V]
    · obtain ⟨j, t, e1, e2⟩ := p_recv_lit hr b0
      have hlen2 := hlen _ _ e1
      subst e1
      obtain ⟨cell, q1, q2, q3⟩ := vk_recv hX.2.2.1 e2 hST
      refine i_virt X0 hx hown (hts _ b1) (hts _ b2) (hts _ b3) g5 (b := ex (j + 1)) (cellB := cell) q1 q2 (by rw [b6]; exact q3) rfl (argsL := t.map (c_V base ex)) hlen2 ?_ hd
      rw [a2]
      simp [c_V]
  | invokestatic i =>
    obtain ⟨⟨-, -, -, -, g5⟩, b1, b2, b3⟩ := p_all2_ok p_mtSA hm
    obtain ⟨mk', meth', c', y1, y2, -, -, -, -, -, -, y3⟩ := p_word_spec (hts _ gw)
    refine i_stat X0 hx hown (hts _ b1) (hts _ b2) (hts _ gi) g5 y1 y2 rfl (argsL := as.map (c_V base ex)) ?_ ?_ hd
    · rw [List.length_map, ← p_npar_sig b3 y3]
      exact a3
    · rw [a2]
      simp
  | invokespecial i =>
    obtain ⟨⟨-, -, -, -, g5⟩, b1, b2, b3, b4, b5, ⟨n, b7, b8⟩⟩ := p_all2_ok p_mtIA hm
    have hcode : (Cond.code (p_y cm) (p_bytes cm) (p_maxL cm) none).before args s = true := by
      have := hts _ gw
      unfold p_word at this
      rw [b4, b5] at this
      exact this
    cases as with
    | nil => dsimp only at b8; simp at a3; omega
    | cons v t =>
      have hv : ∃ a, c_V base ex v = .ref a := by
        have hc2 := p_mtI_ctor _ _ hm
        unfold p_recv at hr
        rw [hc2.2.2] at hr
        rw [Bool.and_eq_true, hc2.2.1, hc2.1] at hr
        have h3 := hr.2
        dsimp only [cond_false] at h3
        cases v <;> first | exact ⟨_, rfl⟩ | cases h3
      obtain ⟨a, ha⟩ := hv
      have hl : ∀ sig, parseMethodDescriptor (p_y cm).desc = some sig → (t.map (c_V base ex)).length = sig.parameters.length := by
        intro sig hs
        rw [List.length_map, ← p_npar_sig b7 hs]
        simp only [List.length_cons] at a3
        dsimp only at b8
        omega
      rw [List.map_cons, ha]
      rcases b1 with b1 | ⟨host, b1⟩
      · exact i_init X0 hx hown b3 (hts _ b1) (hts _ b2) hcode g5 rfl hl (by rw [a2]; simp [ha]) hd
      · exact i_initN X0 hx hown b3 (p_nest_at hX b1) (hts _ b2) hcode g5 rfl hl (by rw [a2]; simp [ha]) hd
  | _ => cases hm
end PGO
