/-! ===== a catch: the rows of the handler table one by one, their kinds linked by then or not yet ===== -/
section PCA
variable {e : Env} {f : JFrame} {a : Addr}
theorem p_rowNo {Q : Handler → Pre} {E : CtlPost} {d : Bool} {acts : List Action} {s : State} {z : ExceptionTableEntry} {t : List ExceptionTableEntry} {k : ClassId} {cell : Cell} (hz : covers z f.pc = true) (h0 : z.catchType ≠ 0) (hl : s.vm.ClassLinks e.platform f.method.cls z.catchType k) (hcell : s.heap[a]? = some cell) (hobj : ∀ q, cell.vm ≠ .statics q) (hk : ∃ q, s.vm.classes[cell.cls]? = some q) (hc : ∃ q, s.vm.classes[k]? = some q) (hno : s.vm.assignable cell.cls k = false) :
    wp (findHandler.go f a (z :: t)) Q E e d acts s ↔ wp (findHandler.go f a t) Q E e d acts (s.setVm (s.vm.noted f.method.cls z.catchType (.cls k))) := by
  simp only [covers] at hz
  obtain ⟨ha, ht⟩ := (resolveClass_links e.toSetting hl).op (op := VmOp.resolveClass f.method.cls z.catchType) rfl
  have hal : s.vm.Alike (s.vm.noted f.method.cls z.catchType (.cls k)) := (Vm.Alike.refl s.vm).noted _ _ _
  obtain ⟨k1, hk1⟩ := hk
  obtain ⟨k2, hk2⟩ := hc
  obtain ⟨q1, hq1, -⟩ := hal.2.2 _ _ hk1
  obtain ⟨q2, hq2, -⟩ := hal.2.2 _ _ hk2
  have hn : (s.vm.noted f.method.cls z.catchType (.cls k)).assignable cell.cls k = false := by rw [hal.assignable]; exact hno
  simp [findHandler.go, hz, h0, ha, ht, hcell, hobj, hq1, hq2, hn, VmOp.dirties, VmOp.acts]
theorem p_rowYes {Q : Handler → Pre} {E : CtlPost} {d : Bool} {acts : List Action} {s : State} {z : ExceptionTableEntry} {t : List ExceptionTableEntry} {k : ClassId} {cell : Cell} (hz : covers z f.pc = true) (h0 : z.catchType ≠ 0) (hl : s.vm.ClassLinks e.platform f.method.cls z.catchType k) (hcell : s.heap[a]? = some cell) (hobj : ∀ q, cell.vm ≠ .statics q) (hk : ∃ q, s.vm.classes[cell.cls]? = some q) (hc : ∃ q, s.vm.classes[k]? = some q) (hyes : s.vm.assignable cell.cls k = true) :
    wp (findHandler.go f a (z :: t)) Q E e d acts s ↔ Q (.found z.handlerPc) d acts (s.setVm (s.vm.noted f.method.cls z.catchType (.cls k))) := by
  simp only [covers] at hz
  obtain ⟨ha, ht⟩ := (resolveClass_links e.toSetting hl).op (op := VmOp.resolveClass f.method.cls z.catchType) rfl
  have hal : s.vm.Alike (s.vm.noted f.method.cls z.catchType (.cls k)) := (Vm.Alike.refl s.vm).noted _ _ _
  obtain ⟨k1, hk1⟩ := hk
  obtain ⟨k2, hk2⟩ := hc
  obtain ⟨q1, hq1, -⟩ := hal.2.2 _ _ hk1
  obtain ⟨q2, hq2, -⟩ := hal.2.2 _ _ hk2
  have hn : (s.vm.noted f.method.cls z.catchType (.cls k)).assignable cell.cls k = true := by rw [hal.assignable]; exact hyes
  simp [findHandler.go, hz, h0, ha, ht, hcell, hobj, hq1, hq2, hn, VmOp.dirties, VmOp.acts]
/-- what a row of the table is worth, at the method's start s₀, against a thrown object of the kind 'thrown' -/
def P_row (pl : Platform) (s₀ : State) (own : ClassId) (thrown : ClassId) (ci : Nat) (z : ExceptionTableEntry) (w : Nat × Nat × Nat × Nat) : Prop :=
  z.startPc = w.1 ∧ z.endPc = w.2.1 ∧ z.handlerPc = w.2.2.1 ∧ z.catchType ≠ 0 ∧ ∃ k : ClassId, s₀.vm.ClassLinks pl own z.catchType k ∧ s₀.vm.assignable thrown k = Nat.beq ci w.2.2.2
def P_rows (pl : Platform) (s₀ : State) (own : ClassId) (thrown : ClassId) (ci : Nat) : List ExceptionTableEntry → List (Nat × Nat × Nat × Nat) → Prop
  | [], [] => True
  | z :: zs, w :: ws => P_row pl s₀ own thrown ci z w ∧ P_rows pl s₀ own thrown ci zs ws
  | _, _ => False
theorem p_search {s₀ : State} {cell : Cell} {ci : Nat} (hobj : ∀ q, cell.vm ≠ .statics q) (hk0 : ∃ q, s₀.vm.classes[cell.cls]? = some q) {t : Nat} : ∀ (E0 : List ExceptionTableEntry) (hh : List (Nat × Nat × Nat × Nat)) (S : State), P_rows e.platform s₀ f.method.cls cell.cls ci E0 hh → s₀.WarmedH S.vm → S.heap[a]? = some cell → p_hfind ci f.pc hh = some t →
    ∃ vm', s₀.WarmedH vm' ∧ ∀ (Q : Handler → Pre) (E : CtlPost) (d : Bool) (acts : List Action), wp (findHandler.go f a E0) Q E e d acts S ↔ Q (.found t) d acts (S.setVm vm') := by
  obtain ⟨k0, hk0⟩ := hk0
  intro E0
  induction E0 with
  | nil =>
    intro hh S hf hW hc ht
    cases hh with
    | nil => cases ht
    | cons w ws => exact absurd hf (fun z => z)
  | cons z zs ih =>
    intro hh S hf hW hc ht
    cases hh with
    | nil => exact absurd hf (fun z => z)
    | cons w ws =>
      obtain ⟨hr, hrest⟩ := hf
      obtain ⟨r1, r2, r3, r4, k, r5, r6⟩ := hr
      obtain ⟨dk, _, _, kt, hd, _, _, _, _, hkt, _, hopen⟩ := r5.here
      obtain ⟨k0', hk0', -⟩ := hW.alike.2.2 _ _ hk0
      obtain ⟨kt', hkt', -⟩ := hW.alike.2.2 _ _ hkt
      obtain ⟨wa, wb, wt, wc⟩ := w
      dsimp only at r1 r2 r3 r6
      unfold p_hfind at ht
      by_cases hcov : covers z f.pc = true
      · have hcv : (Nat.ble wa f.pc && Nat.blt f.pc wb) = true := by
          simp only [covers, Bool.and_eq_true, decide_eq_true_eq] at hcov
          rw [Bool.and_eq_true]
          exact ⟨Nat.ble_eq_true_of_le (by rw [← r1]; exact hcov.1), Nat.ble_eq_true_of_le (by rw [← r2]; exact hcov.2)⟩
        rw [hcv, Bool.true_and] at ht
        cases hb : Nat.beq ci wc with
        | true =>
          rw [hb] at ht r6
          have e1 : wt = t := Option.some.inj ht
          refine ⟨_, hW.noted hd hopen (State.rightAt_cls r5), fun Q E d acts => ?_⟩
          rw [← e1, ← r3]
          exact p_rowYes hcov r4 (hW.classLinks r5) hc hobj ⟨k0', hk0'⟩ ⟨kt', hkt'⟩ (by rw [hW.alike.assignable]; exact r6)
        | false =>
          rw [hb] at ht r6
          obtain ⟨vm', hW', hq⟩ := ih ws (S.setVm (S.vm.noted f.method.cls z.catchType (.cls k))) hrest (hW.noted hd hopen (State.rightAt_cls r5)) hc ht
          refine ⟨vm', hW', fun Q E d acts => ?_⟩
          rw [p_rowNo hcov r4 (hW.classLinks r5) hc hobj ⟨k0', hk0'⟩ ⟨kt', hkt'⟩ (by rw [hW.alike.assignable]; exact r6)]
          exact hq Q E d acts
      · have hcv : (Nat.ble wa f.pc && Nat.blt f.pc wb) = false := by
          cases h9 : (Nat.ble wa f.pc && Nat.blt f.pc wb) with
          | false => rfl
          | true =>
            exfalso
            apply hcov
            rw [Bool.and_eq_true] at h9
            simp only [covers, Bool.and_eq_true, decide_eq_true_eq]
            exact ⟨by rw [r1]; exact Nat.le_of_ble_eq_true h9.1, by rw [r2]; exact Nat.le_of_ble_eq_true h9.2⟩
        rw [hcv, Bool.false_and] at ht
        obtain ⟨vm', hW', hq⟩ := ih ws S hrest hW hc ht
        refine ⟨vm', hW', fun Q E d acts => ?_⟩
        rw [Jvm.W.findHandler_go_skip (by simpa using hcov)]
        exact hq Q E d acts
theorem p_stepCatch {s : State} {r : List Frame} {pc : Nat} {vm' : Vm} (hfind : ∀ (Q : Handler → Pre) (E : CtlPost) (d : Bool) (acts : List Action), wp (findHandler f a) Q E e d acts s ↔ Q (.found pc) d acts (s.setVm vm')) :
    (stepThrowing e s a (.java f :: r)).Is ((s.setVm vm').setFrames (.java { f with pc := pc, stack := [.ref a] } :: r)) [] := by
  simp only [stepThrowing, searchFrame, vmDo]
  generalize hr : Sem.go _ e false [] s = res
  obtain ⟨as, rfl, ha⟩ := Sem.eq_ok_of hr (a := Handler.found pc) (s' := s.setVm vm') (acts' := []) (by simp [hfind _ _ _ _])
  exact ⟨rfl, ha⟩
theorem p_caughtTo {tb : Tables} {s target : State} {g : JFrame} {c : Code} {below : List Frame} (h : At s g.method c below) {pc : Nat} {vm' : Vm}
    (hfind : ∀ (Q : Handler → Pre) (E : CtlPost) (d : Bool) (acts : List Action), wp (findHandler g a) Q E e d acts ((s.setTop g).pushFrame (.throwing a)) ↔ Q (.found pc) d acts (((s.setTop g).pushFrame (.throwing a)).setVm vm')) (hrest : Steps tb e below ((s.setVm vm').setTop { g with pc := pc, stack := [.ref a] }) target) :
    Steps tb e below ((s.setTop g).pushFrame (.throwing a)) target := by
  obtain ⟨hgo, hw⟩ := h.throwing a
  refine Steps.head hgo hw ?_
  rw [stepThread_throwing (frames_entered h.top _), (p_stepCatch (s := (s.setTop g).pushFrame (.throwing a)) hfind).1]
  obtain ⟨g₀, hg⟩ := Option.isSome_iff_exists.mp h.top
  obtain ⟨r, hr⟩ := State.topJava?_eq_some.mp hg
  have hr' : (s.setVm vm').frames = .java g₀ :: r := hr
  rw [State.setTop_of_frames _ hr'] at hrest
  have key : ∀ (u : State) (F G : List Frame), ((u.setFrames F).setVm vm').setFrames G = (u.setVm vm').setFrames G := by
    intro u F G
    have h1 : (u.setFrames F).setVm vm' = (u.setVm vm').setFrames F := rfl
    rw [h1, State.setFrames_setFrames]
  rw [hr, List.tail_cons, State.pushFrame, key, State.setTop_of_frames _ hr, key]
  exact hrest
end PCA
