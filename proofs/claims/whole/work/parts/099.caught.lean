/-! ===== a callee's throw, caught ===== -/
theorem p_find_map {α β : Type} (g : α → β) (k : Nat) : ∀ L : List (Nat × α), p_find k (L.map (fun q => (q.1, g q.2))) = (p_find k L).map g := by
  intro L
  induction L with
  | nil => rfl
  | cons q t ih =>
    obtain ⟨j, b⟩ := q
    show (bif Nat.beq j k then some (g b) else p_find k (t.map _)) = Option.map g (bif Nat.beq j k then some b else p_find k t)
    rw [ih]
    cases Nat.beq j k <;> rfl
def p_hw (r : Nat × Nat × Nat × Nat) : Nat × Nat × Nat × Nat := (r.1, r.2.1, r.2.2.1, (p_exn 12 r.2.2.2).getD 0)
theorem p_hhL_eq : p_hhL = p_rawL.map (fun q => (q.1, q.2.map p_hw)) := by decide +kernel
theorem p_hh_eq (mi : Nat) : p_hh mi = (p_raw mi).map p_hw := by
  unfold p_hh p_raw
  rw [p_hhL_eq, p_find_map (fun l : List (Nat × Nat × Nat × Nat) => l.map p_hw)]
  cases p_find mi p_rawL <;> rfl
theorem p_hh_raw {mi : Nat} (h : p_hh mi = []) : p_raw mi = [] := by
  rw [p_hh_eq] at h
  exact List.map_eq_nil_iff.mp h
def p_rawOK (r : Nat × Nat × Nat × Nat) : Prop := r.2.2.2 ≠ 0 ∧ ∃ cj, p_exn 12 r.2.2.2 = some cj ∧ p_exk cj = true
theorem p_rawA : ∀ q ∈ p_rawL, p_own q.1 = 12 ∧ ∀ r ∈ q.2, r.2.2.2 ≠ 0 ∧ (p_exn 12 r.2.2.2).isSome = true ∧ p_exk ((p_exn 12 r.2.2.2).getD 0) = true := by decide +kernel
theorem p_raw_ok {mi : Nat} {r : Nat × Nat × Nat × Nat} (h : r ∈ p_raw mi) : p_own mi = 12 ∧ p_rawOK r := by
  unfold p_raw at h
  cases hf : p_find mi p_rawL with
  | none => rw [hf] at h; cases h
  | some l =>
    rw [hf] at h
    obtain ⟨g1, g2⟩ := p_rawA _ (p_find_mem hf)
    obtain ⟨g3, g4, g5⟩ := g2 r h
    obtain ⟨cj, hcj⟩ := Option.isSome_iff_exists.mp g4
    rw [hcj] at g5
    exact ⟨g1, g3, cj, hcj, g5⟩
theorem p_exk_cl : ∀ ci, p_exk ci = true → ∃ cls, vwCl[ci]? = some (cls, TE, 0) ∧ cls = p_cn ci := by
  intro ci h
  unfold p_exk at h
  rw [Bool.and_eq_true] at h
  have h1 := Nat.le_of_ble_eq_true h.1
  have h2 := Nat.le_of_ble_eq_true h.2
  have : ci = 7 ∨ ci = 8 ∨ ci = 9 ∨ ci = 10 ∨ ci = 11 := by omega
  rcases this with rfl | rfl | rfl | rfl | rfl <;> exact ⟨_, rfl, by decide +kernel⟩
theorem p_asg_rf (vm : Vm) (k : ClassId) : vm.assignable k k = true := by
  show vm.assignableAux (255 + 1) k k = true
  rw [Vm.assignableAux]
  simp
section PCT
variable {p : Program} {l : Launch} {e : Env} {R : Room} {s : State} {m : MethodId} {args : Array Value} {below : List Frame} {meth : Method} {c : Code} {H : Heap} {locs : List Loc} {cells slots : Nat} {Q : State → Prop}
variable {D : va_G} {base : Nat} {ex : Nat → Nat} {cA : FieldType → ClassId} {X : pX} {lsA : Array Slot} {st : List Value} {h : List pE} {mi pc k t : Nat}
theorem p_asg (hK : va_K D vwCl (c_T cA) s) (hX : P_X X base ex s s.heap) {ci cj : Nat} (hi : p_exk ci = true) (hj : p_exk cj = true) : s.vm.assignable (D.1 ci) (D.1 cj) = Nat.beq ci cj := by
  by_cases hij : ci = cj
  · subst hij
    rw [p_asg_rf, Nat.beq_refl]
  · obtain ⟨a1, b1, b2⟩ := p_exk_cl ci hi
    obtain ⟨a2, b3, b4⟩ := p_exk_cl cj hj
    obtain ⟨-, f1, -⟩ := hK.1 ci _ b1
    obtain ⟨-, f2, -⟩ := hK.1 cj _ b3
    obtain ⟨c1, c2, z1, z2, z3⟩ := hX.2.2.2.2.2.2.2.2.2.1 ci cj hi hj hij
    rw [← b2] at z1
    rw [← b4] at z2
    cases f1.symm.trans z1
    cases f2.symm.trans z2
    rw [z3]
    cases hb : Nat.beq ci cj with
    | false => rfl
    | true => exact absurd (Nat.eq_of_beq_eq_true hb) hij
theorem p_rows_ok {pl : Platform} (hpl : pl.magicAccessors = ({} : Platform).magicAccessors) (hts : ∀ w ∈ lw_g, w.before args s = true) {own : ClassId} (hown : s.vm.findClass (p_cn 12) = some own) (hK : va_K D vwCl (c_T cA) s) (hX : P_X X base ex s s.heap) {ci : Nat} (hi : p_exk ci = true) : ∀ (E0 : List ExceptionTableEntry) (rw0 : List (Nat × Nat × Nat × Nat)), E0.map (fun h => (h.startPc, h.endPc, h.handlerPc, h.catchType)) = rw0 → (∀ r ∈ rw0, p_rawOK r) → P_rows pl s own (D.1 ci) ci E0 (rw0.map p_hw) := by
  intro E0
  induction E0 with
  | nil => intro rw0 h1 h2; subst h1; exact trivial
  | cons z zs ih =>
    intro rw0 h1 h2
    subst h1
    refine ⟨?_, ih _ rfl (fun r hr => h2 r (List.mem_cons_of_mem _ hr))⟩
    obtain ⟨g1, cj, g2, g3⟩ := h2 _ List.mem_cons_self
    dsimp only at g1 g2
    obtain ⟨cls, k1, k2⟩ := p_all2_ok p_exnA g2
    obtain ⟨c', hc', hcl⟩ := Cond.classLink_spec hown (hts _ k2) pl hpl
    obtain ⟨-, f1, -⟩ := hK.1 cj _ k1
    cases f1.symm.trans hc'
    refine ⟨rfl, rfl, rfl, g1, D.1 cj, hcl, ?_⟩
    show s.vm.assignable (D.1 ci) (D.1 cj) = Nat.beq ci ((p_exn 12 z.catchType).getD 0)
    rw [g2]
    exact p_asg hK hX hi g3
theorem s_caught (C : P_C X D base ex cA p s m args meth c mi) (he : p_hdl mi pc k h = some t) (hP : P_R D base ex cA h H) (kW : W p l e R s m args below meth c H locs cells slots Q (F0 m t lsA (([.ref k] : List Value).map (c_V base ex)))) : P_WT p l e R s m args below meth c H locs cells slots Q (F0 m pc lsA st) (base + k) := by
  obtain ⟨hx, hb, hts, hown, hret, hml, hlk, hctor, hK, hbase, hX, hraw, hh00⟩ := C
  intro T hT X0
  unfold p_hdl at he
  split at he
  · next ci fs hk =>
    cases hi : p_exk ci with
    | false => rw [hi] at he; cases he
    | true =>
      rw [hi] at he
      dsimp only [cond_true] at he
      obtain ⟨r, g1, cell, q1, q2, q3, q4⟩ := hP.2 k _ hk
      obtain ⟨-, -, kC, hkC, -⟩ := hK.1 ci _ g1
      have hne : p_raw mi ≠ [] := by
        intro hz
        rw [p_hh_eq, hz] at he
        cases he
      obtain ⟨r0, hr0⟩ := List.exists_mem_of_ne_nil _ hne
      have ho := (p_raw_ok hr0).1
      rw [ho] at hown
      have hpl : e.platform.magicAccessors = ({} : Platform).magicAccessors := by rw [X0.admits.platform]
      have hrows := p_rows_ok (pl := e.platform) hpl hts hown hK hX hi c.exceptionTable.toList (p_raw mi) hraw (fun r hr => (p_raw_ok hr).2)
      rw [← p_hh_eq] at hrows
      have hvm0 : ∀ z, cell.vm ≠ .statics z := fun z hz => by rw [q3] at hz; cases hz
      obtain ⟨vm', hW', hf⟩ := p_search (e := e) (f := F0 m pc lsA st) (a := base + k) (cell := cell) (s₀ := s) (ci := ci) hvm0 ⟨kC, by rw [q2]; exact hkC⟩ c.exceptionTable.toList (p_hh mi) ((T.setTop (F0 m pc lsA st)).pushFrame (.throwing (base + k))) (by rw [q2]; exact hrows) X0.warmed (by show T.heap[base + k]? = _; rw [hT]; exact q1) he
      obtain ⟨u, h1, h2⟩ := kW (T.setVm vm') hT (X0.noted hW')
      exact ⟨u, p_caughtTo X0.here (fun Q E d acts => by rw [Jvm.W.findHandler_eq (meth := meth) (code := c) X0.method' X0.code]; exact hf Q E d acts) h1, h2⟩
  · cases he
end PCT
