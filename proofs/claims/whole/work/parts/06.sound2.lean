/-! ===== the context of a walked method, and its plain instructions ===== -/
abbrev c_T (cA : FieldType → ClassId) : List (ClassId × FieldType) := [(cA .int, .int), (cA .long, .long), (cA .boolean, .boolean)]
def P_C (X : pX) (D : va_G) (base : Nat) (ex : Nat → Nat) (cA : FieldType → ClassId) (p : Program) (s : State) (m : MethodId) (args : Array Value) (meth : Method) (c : Code) (mi : Nat) : Prop :=
  p.tables.exec = Jvm.exec ∧ c.code = p_bytes mi ∧ (∀ w ∈ lw_g, w.before args s = true) ∧ s.vm.findClass (p_cn (p_own mi)) = some m.cls ∧ meth.sig.returnType = p_rty mi ∧ c.maxLocals = p_maxL mi ∧ meth.locks = false ∧ (p_ctor mi = true → meth.name = "<init>") ∧ va_K D vwCl (c_T cA) s ∧ base ≤ s.heap.size ∧ P_X X base ex s s.heap ∧ c.exceptionTable.toList.map (fun h => (h.startPc, h.endPc, h.handlerPc, h.catchType)) = p_raw mi ∧ ∃ h00, P_R D base ex cA h00 s.heap
def p_sz : pE → Nat
  | .inl (_, a) => a.1
  | .inr (ci, _) => p_csl ci
def p_S : List pE → Nat
  | [] => 0
  | e :: t => p_sz e + p_S t
theorem p_S_app : ∀ (a b : List pE), p_S (a ++ b) = p_S a + p_S b := by
  intro a b
  induction a with
  | nil => simp [p_S]
  | cons e t ih => simp [p_S, ih, Nat.add_assoc]
theorem p_S_set : ∀ (h : List pE) (k : Nat) (e e0 : pE), h[k]? = some e0 → p_sz e = p_sz e0 → p_S (h.set k e) = p_S h := by
  intro h
  induction h with
  | nil => intro k e e0 hk; simp at hk
  | cons a t ih =>
    intro k e e0 hk hz
    cases k with
    | zero =>
      simp at hk
      subst hk
      simp [p_S, hz]
    | succ k =>
      simp at hk
      simp [p_S, ih k e e0 hk hz]
theorem p_new_ok {base : Nat} {ex : Nat → Nat} {o i ci : Nat} {fs : List Value} (h : p_new o i = some (ci, fs)) : ∃ C T N n, vwCl[ci]? = some (C, T, N) ∧ (∀ w ∈ u_ws C T N, w ∈ lw_g) ∧ (∀ k, k < N → parseFieldDescriptor (T k).2.2.1 = some (p_fty ci k)) ∧ Cond.classLink (p_cn o) i C ∈ lw_g ∧ Cond.instantiable C n ∈ lw_g ∧ Cond.initialized C ∈ lw_g ∧ (∀ j, j < N → defaultValue (p_fty ci j) = vp_V (fs.map (c_V base ex)) j) ∧ p_csl ci = n := by
  obtain ⟨⟨C, T, N⟩, h1, h2, h3, h4, h5, h6⟩ := p_all2_ok p_newA h
  obtain ⟨g1, g2, g3, g4, g5⟩ := p_cl_ok ci _ h1
  have hm : ∀ (l : List Value), (∀ v ∈ l, v = .null ∨ v = .int 0 ∨ v = .long 0) → l.map (c_V base ex) = l := by
    intro l
    induction l with
    | nil => intro _; rfl
    | cons v t ih =>
      intro hl
      rw [List.map_cons, ih (fun w hw => hl w (List.mem_cons_of_mem _ hw))]
      rcases hl v List.mem_cons_self with e | e | e <;> rw [e] <;> rfl
  have hm := hm fs h6
  exact ⟨C, T, N, _, h1, g1, g2, h2, h3, h4, by rw [hm]; exact h5, rfl⟩
section PS2
variable {p : Program} {l : Launch} {e : Env} {R : Room} {s : State} {m : MethodId} {args : Array Value} {below : List Frame} {meth : Method} {c : Code} {H : Heap} {locs : List Loc} {cells slots : Nat} {Q : State → Prop}
variable {D : va_G} {base : Nat} {ex : Nat → Nat} {cA : FieldType → ClassId} {X : pX} {lsA : Array Slot} {ls : pL} {h : List pE} {pc : Nat} {rest : List Value} {cc : ByteArray}
theorem c_T_arr (hK : va_K D vwCl (c_T cA) s) {ty : FieldType} (h : ty = .int ∨ ty = .long ∨ ty = .boolean) : ArrOfT s (cA ty) ty := by
  rcases h with rfl | rfl | rfl
  · exact (hK.2 0 _ rfl).1
  · exact (hK.2 1 _ rfl).1
  · exact (hK.2 2 _ rfl).1
theorem p_inI_arr {i : Int32} {n : Nat} {cI : ClassId} {f : Nat → Value} (h : p_inI i n) : ¬ (i < 0 ∨ (arrV cI n f).slots.size ≤ i.toNatClampNeg) := by
  rw [arrV_size]; exact h
theorem p_inI_lt {i : Int32} {n : Nat} (h : p_inI i n) : i.toNatClampNeg < n := Nat.not_le.mp fun q => h (Or.inr q)
/-- fields -/
theorem s_get (hx : p.tables.exec = Jvm.exec) (hb : c.code = cc) {own C : String} {T : u_T} {N ci index f k : Nat} (hts : ∀ w ∈ lw_g, w.before args s = true) (hin : ∀ w ∈ u_ws C T N, w ∈ lw_g) (hown : s.vm.findClass own = some m.cls) (hK : va_K D vwCl (c_T cA) s) (hP : P_R D base ex cA h H) {fs : List Value} (he : h[k]? = some (.inr (ci, fs))) (hc : vwCl[ci]? = some (C, T, N)) (hf : f < N) (hlink : Cond.fieldLink own index (T f).1 (T f).2.1 (T f).2.2.1 ∈ lw_g) {v : Value} (hv : fs[f]? = some v) (hd : decode cc pc = .ok (.getfield index, 3))
    (kk : W p l e R s m args below meth c H locs cells slots Q (F0 m (pc + 3) lsA (c_V base ex v :: rest))) : W p l e R s m args below meth c H locs cells slots Q (F0 m pc lsA (.ref (base + k) :: rest)) := by
  obtain ⟨r, h1, cell, q1, q2, q3, q4⟩ := hP.2 k _ he
  have hr : r = (C, T, N) := Option.some.inj (h1.symm.trans hc)
  subst hr
  obtain ⟨hS, hfc, kC, hkC, hkind⟩ := hK.1 ci _ hc
  obtain ⟨cf, kf, fi, fd, hi, hsl⟩ := hS f hf
  refine W.getf hx hb hown (hts _ hlink) hi (u_facts hfc hkC (u_lays hts hin hf) hi).1 q1 (by rw [q3]; exact fun h => by cases h) (v := c_V base ex v) ?_ rfl rfl hd kk
  rw [hsl, q4 f hf]
  simp [vp_V, hv]
theorem p_fits_ok {ty : FieldType} {v : Value} (h : p_fits ty v = true) : narrow ty (c_V base ex v) = c_V base ex v ∧ fits ty (c_V base ex v) = true := by
  cases ty <;> cases v <;> first | exact ⟨rfl, rfl⟩ | cases h
theorem s_put (hx : p.tables.exec = Jvm.exec) (hb : c.code = cc) {own C : String} {T : u_T} {N ci index f k : Nat} (hts : ∀ w ∈ lw_g, w.before args s = true) (hin : ∀ w ∈ u_ws C T N, w ∈ lw_g) (ty0 : Nat → FieldType) (hty : ∀ k, k < N → parseFieldDescriptor (T k).2.2.1 = some (ty0 k)) (hnm : ∀ a, a < N → ∀ b, b < N → a ≠ b → (T a).2.1 ≠ (T b).2.1) (hown : s.vm.findClass own = some m.cls) (hK : va_K D vwCl (c_T cA) s) (hP : P_R D base ex cA h H) (hS0 : va_S (p_A base) s.heap H locs) {fs : List Value} (he : h[k]? = some (.inr (ci, fs))) (hc : vwCl[ci]? = some (C, T, N)) (hf : f < N) (hlink : Cond.fieldLink own index (T f).1 (T f).2.1 (T f).2.2.1 ∈ lw_g) (hfin : (T f).2.2.2 = true → meth.name = "<init>" ∧ (T f).1 = own) {v : Value} (hfit : p_fits (ty0 f) v = true) (hl : f < fs.length) (hd : decode cc pc = .ok (.putfield index, 3))
    (kk : ∀ (H1 : Heap) (locs1 : List Loc), P_R D base ex cA (h.set k (.inr (ci, fs.set f v))) H1 → va_S (p_A base) s.heap H1 locs1 → W p l e R s m args below meth c H1 locs1 cells slots Q (F0 m (pc + 3) lsA rest)) : W p l e R s m args below meth c H locs cells slots Q (F0 m pc lsA (c_V base ex v :: .ref (base + k) :: rest)) := by
  have hap := va_apart (own := own) hts hin ty0 hty hnm hK hc
  obtain ⟨hn, hft⟩ := p_fits_ok (base := base) (ex := ex) hfit
  obtain ⟨r, h1, cell, q1, q2, q3, q4⟩ := hP.2 k _ he
  have hr : r = (C, T, N) := Option.some.inj (h1.symm.trans hc)
  subst hr
  obtain ⟨hS, hfc, kC, hkC, hkind⟩ := hK.1 ci _ hc
  obtain ⟨cf, kf, fi, fd, hi, hsl⟩ := hS f hf
  have hlay := hts _ (hin _ (u_in_lay hf))
  have hst := (u_facts hfc hkC (u_lays hts hin hf) hi).1
  have key : ∀ H' : Heap, H'[base + k]? = some (cell.setSlot (D.2 ci f) (c_V base ex v)) → H'.size = H.size → (∀ q, q ≠ base + k → H'[q]? = H[q]?) → W p l e R s m args below meth c H' (locs ++ [⟨base + k, D.2 ci f⟩]) cells slots Q (F0 m (pc + 3) lsA rest) := by
    intro H' e1 e2 e3
    refine kk H' _ (hP.set (e := .inr (ci, fs.set f v)) ?_ e2 e3) (hS0.put e2 e3 (Nat.le_add_right _ _))
    refine ⟨_, hc, t_OB.to (V := updV (vp_V (fs.map (c_V base ex))) f (c_V base ex v)) ⟨_, e1, q2, q3, t_set q4 hap hf _⟩ (fun j _ => ?_)⟩
    rw [vp_updV_set (by rw [List.length_map]; exact hl)]
    show vp_V ((fs.map (c_V base ex)).set f (c_V base ex v)) j = vp_V ((fs.set f v).map (c_V base ex)) j
    rw [List.map_set]
  unfold u_lay at hlay
  by_cases hF : (T f).2.2.2 = true
  · rw [if_pos hF] at hlay
    obtain ⟨hm1, hm2⟩ := hfin hF
    have hcf : m.cls = cf := by
      obtain ⟨_, _, c', _, _, _, -, -, hf', -, -, -, hown2, -⟩ := Cond.laysFinal_spec hlay
      have e1 : c' = cf := by have := hi.symm.trans hf'; simp at this; exact this.1.symm
      rw [hm2] at hown2
      rw [← e1]; exact Option.some.inj (hown.symm.trans hown2)
    have h6 := u_fits hfc hkC hkind (Or.inr hlay) hi (hty f hf) hn hft
    refine W.putFinK hx hb hown (hts _ hlink) hi hst hcf hm1 (by rw [q2]; exact h6) q1 q3 (by rw [hsl]; exact k2_hasslot (q4 f hf)) rfl rfl hd fun H' e1 e2 e3 => ?_
    rw [hsl] at e1 ⊢
    exact key H' e1 e2 e3
  · rw [if_neg hF] at hlay
    have h6 := u_store hfc hkC hkind hlay hi (hty f hf) hn hft
    refine W.putK hx hb (f := fd) ⟨hown, hts _ hlink, ⟨_, _, _, hi⟩, hst⟩ (by rw [q2]; exact h6) q1 q3 (by rw [hsl]; exact k2_hasslot (q4 f hf)) rfl rfl hd fun H' e1 e2 e3 => ?_
    rw [hsl] at e1 ⊢
    exact key H' e1 e2 e3
/-- arrays -/
theorem s_upi (cI : ClassId) (n : Nat) (f : Nat → Int32) (k : Nat) (x : Int32) : (arrV cI n (fun j => .int (f j))).setSlot k (.int x) = vp_cell cI (n, .inl (upd f k x)) := by
  rw [arrV_store, vp_cell_i]
  congr 1
  funext q
  by_cases hq : q = k
  · subst hq; simp [updV, upd]
  · simp [updV, upd, hq]
theorem s_upl (cI : ClassId) (n : Nat) (f : Nat → Int64) (k : Nat) (x : Int64) : (arrV cI n (fun j => .long (f j))).setSlot k (.long x) = vp_cell cI (n, .inr (.inl (vp_updL f k x))) := by
  rw [arrV_store, vp_cell_l]
  congr 1
  funext q
  by_cases hq : q = k
  · subst hq; simp [updV, vp_updL]
  · simp [updV, vp_updL, hq]
theorem s_iald (hx : p.tables.exec = Jvm.exec) (hb : c.code = cc) (hK : va_K D vwCl (c_T cA) s) (hP : P_R D base ex cA h H) {k n : Nat} {f : Nat → Int32} (he : h[k]? = some (.inl (.int, n, .inl f))) {i : Int32} (hi : p_inI i n) (hd : decode cc pc = .ok (.iaload, 1)) (kk : W p l e R s m args below meth c H locs cells slots Q (F0 m (pc + 1) lsA (.int (f i.toNatClampNeg) :: rest))) : W p l e R s m args below meth c H locs cells slots Q (F0 m pc lsA (.int i :: .ref (base + k) :: rest)) :=
  W.iald (v := .int (f i.toNatClampNeg)) hx hb (hP.2 k _ he) (c_T_arr hK (Or.inl rfl) n (fun j => .int (f j))) (fun q => by cases q) (p_inI_arr hi) (by show (arrV _ _ _).slots[_]? = _; rw [arrV_read _ _ (p_inI_lt hi)]) rfl rfl hd kk
theorem s_lald (hx : p.tables.exec = Jvm.exec) (hb : c.code = cc) (hK : va_K D vwCl (c_T cA) s) (hP : P_R D base ex cA h H) {k n : Nat} {f : Nat → Int64} (he : h[k]? = some (.inl (.long, n, .inr (.inl f)))) {i : Int32} (hi : p_inI i n) (hd : decode cc pc = .ok (.laload, 1)) (kk : W p l e R s m args below meth c H locs cells slots Q (F0 m (pc + 1) lsA (.long (f i.toNatClampNeg) :: rest))) : W p l e R s m args below meth c H locs cells slots Q (F0 m pc lsA (.int i :: .ref (base + k) :: rest)) :=
  W.lald (v := .long (f i.toNatClampNeg)) hx hb (hP.2 k _ he) (c_T_arr hK (Or.inr (Or.inl rfl)) n (fun j => .long (f j))) (fun q => by cases q) (p_inI_arr hi) (by show (arrV _ _ _).slots[_]? = _; rw [arrV_read _ _ (p_inI_lt hi)]) rfl rfl hd kk
theorem s_zald (hx : p.tables.exec = Jvm.exec) (hb : c.code = cc) (hK : va_K D vwCl (c_T cA) s) (hP : P_R D base ex cA h H) {k n : Nat} {f : Nat → Int32} (he : h[k]? = some (.inl (.boolean, n, .inl f))) {i : Int32} (hi : p_inI i n) (hd : decode cc pc = .ok (.baload, 1)) (kk : W p l e R s m args below meth c H locs cells slots Q (F0 m (pc + 1) lsA (.int (f i.toNatClampNeg) :: rest))) : W p l e R s m args below meth c H locs cells slots Q (F0 m pc lsA (.int i :: .ref (base + k) :: rest)) :=
  W.zald (v := .int (f i.toNatClampNeg)) hx hb (hP.2 k _ he) (c_T_arr hK (Or.inr (Or.inr rfl)) n (fun j => .int (f j))) (fun q => by cases q) (p_inI_arr hi) (by show (arrV _ _ _).slots[_]? = _; rw [arrV_read _ _ (p_inI_lt hi)]) rfl rfl hd kk
theorem s_iast (hx : p.tables.exec = Jvm.exec) (hb : c.code = cc) (hK : va_K D vwCl (c_T cA) s) (hP : P_R D base ex cA h H) (hS : va_S (p_A base) s.heap H locs) {k n : Nat} {f : Nat → Int32} (he : h[k]? = some (.inl (.int, n, .inl f))) {i x : Int32} (hi : p_inI i n) (hd : decode cc pc = .ok (.iastore, 1)) (kk : ∀ (H1 : Heap) (locs1 : List Loc), P_R D base ex cA (h.set k (.inl (.int, n, .inl (upd f i.toNatClampNeg x)))) H1 → va_S (p_A base) s.heap H1 locs1 → W p l e R s m args below meth c H1 locs1 cells slots Q (F0 m (pc + 1) lsA rest)) : W p l e R s m args below meth c H locs cells slots Q (F0 m pc lsA (.int x :: .int i :: .ref (base + k) :: rest)) := by
  refine W.iast hx hb (hP.2 k _ he) (c_T_arr hK (Or.inl rfl) n (fun j => .int (f j))) (fun q => by cases q) (p_inI_arr hi) rfl rfl hd fun H1 e1 z oq => ?_
  refine kk H1 _ (hP.set ?_ z oq) (hS.put z oq (Nat.le_add_right _ _))
  exact e1.trans (congrArg some (s_upi _ _ _ _ _))
theorem s_last (hx : p.tables.exec = Jvm.exec) (hb : c.code = cc) (hK : va_K D vwCl (c_T cA) s) (hP : P_R D base ex cA h H) (hS : va_S (p_A base) s.heap H locs) {k n : Nat} {f : Nat → Int64} (he : h[k]? = some (.inl (.long, n, .inr (.inl f)))) {i : Int32} {x : Int64} (hi : p_inI i n) (hd : decode cc pc = .ok (.lastore, 1)) (kk : ∀ (H1 : Heap) (locs1 : List Loc), P_R D base ex cA (h.set k (.inl (.long, n, .inr (.inl (vp_updL f i.toNatClampNeg x))))) H1 → va_S (p_A base) s.heap H1 locs1 → W p l e R s m args below meth c H1 locs1 cells slots Q (F0 m (pc + 1) lsA rest)) : W p l e R s m args below meth c H locs cells slots Q (F0 m pc lsA (.long x :: .int i :: .ref (base + k) :: rest)) := by
  refine W.last hx hb (hP.2 k _ he) (c_T_arr hK (Or.inr (Or.inl rfl)) n (fun j => .long (f j))) (fun q => by cases q) (p_inI_arr hi) rfl rfl hd fun H1 e1 z oq => ?_
  refine kk H1 _ (hP.set ?_ z oq) (hS.put z oq (Nat.le_add_right _ _))
  exact e1.trans (congrArg some (s_upl _ _ _ _ _))
theorem p_nar_z (x : Int32) : narrow .boolean (.int x) = .int (vp_nar .boolean x) := rfl
theorem s_zast (hx : p.tables.exec = Jvm.exec) (hb : c.code = cc) (hK : va_K D vwCl (c_T cA) s) (hP : P_R D base ex cA h H) (hS : va_S (p_A base) s.heap H locs) {k n : Nat} {f : Nat → Int32} (he : h[k]? = some (.inl (.boolean, n, .inl f))) {i x : Int32} (hi : p_inI i n) (hd : decode cc pc = .ok (.bastore, 1)) (kk : ∀ (H1 : Heap) (locs1 : List Loc), P_R D base ex cA (h.set k (.inl (.boolean, n, .inl (upd f i.toNatClampNeg (vp_nar .boolean x))))) H1 → va_S (p_A base) s.heap H1 locs1 → W p l e R s m args below meth c H1 locs1 cells slots Q (F0 m (pc + 1) lsA rest)) : W p l e R s m args below meth c H locs cells slots Q (F0 m pc lsA (.int x :: .int i :: .ref (base + k) :: rest)) := by
  refine W.zast hx hb (hP.2 k _ he) (c_T_arr hK (Or.inr (Or.inr rfl)) n (fun j => .int (f j))) (fun q => by cases q) (p_inI_arr hi) rfl rfl hd fun H1 e1 z oq => ?_
  refine kk H1 _ (hP.set ?_ z oq) (hS.put z oq (Nat.le_add_right _ _))
  exact e1.trans (congrArg some (s_upi _ _ _ _ _))
theorem s_alen (hx : p.tables.exec = Jvm.exec) (hb : c.code = cc) (hK : va_K D vwCl (c_T cA) s) (hP : P_R D base ex cA h H) {k : Nat} {ty : FieldType} {a : vp_A} (he : h[k]? = some (.inl (ty, a))) (hty : ty = .int ∨ ty = .long ∨ ty = .boolean) (hd : decode cc pc = .ok (.arraylength, 1)) (kk : W p l e R s m args below meth c H locs cells slots Q (F0 m (pc + 1) lsA (.int (Int32.ofNat a.1) :: rest))) : W p l e R s m args below meth c H locs cells slots Q (F0 m pc lsA (.ref (base + k) :: rest)) := by
  have hA := c_T_arr hK hty
  obtain ⟨n, f⟩ := a
  have hc : ∃ z : Nat → Value, vp_cell (cA ty) (n, f) = arrV (cA ty) n z := by
    rcases f with f | f | f | f | f <;> first | exact ⟨_, vp_cell_i _ _ _⟩ | exact ⟨_, vp_cell_l _ _ _⟩ | exact ⟨_, vp_cell_f _ _ _⟩ | exact ⟨_, vp_cell_d _ _ _⟩ | exact ⟨_, vp_cell_q _ _ _⟩
  obtain ⟨z, hz⟩ := hc
  have hh : H[base + k]? = some (arrV (cA ty) n z) := by rw [← hz]; exact hP.2 k _ he
  exact W.alen hx hb hh (hA n z) (by rw [arrV_size]) rfl rfl hd kk
theorem s_newa (hx : p.tables.exec = Jvm.exec) (hb : c.code = cc) (hK : va_K D vwCl (c_T cA) s) (hP : P_R D base ex cA h H) (hS : va_S (p_A base) s.heap H locs) {t : ArrayType} {ty : FieldType} (ht : newarray.typeOf t = ty) (hcA : s.vm.findClass ("[" ++ ty.toString) = some (cA ty)) (harr : (Cond.arrayClass ty).before args s = true) {n : Int32} {a0 : vp_A} (ha : ∀ cI : ClassId, vp_cell cI a0 = arrV cI n.toNatClampNeg (fun _ => defaultValue ty)) (hn : ¬ n < 0) (hbytes : n.toNatClampNeg * componentBytes ty ≤ 536870912) (hcells : cells + 1 ≤ R.cells) (hslots : slots + n.toNatClampNeg ≤ R.slots) (hd : decode cc pc = .ok (.newarray t, 2))
    (kk : ∀ H1 : Heap, P_R D base ex cA (h ++ [.inl (ty, a0)]) H1 → va_S (p_A base) s.heap H1 locs → W p l e R s m args below meth c H1 locs (cells + 1) (slots + n.toNatClampNeg) Q (F0 m (pc + 2) lsA (.ref (base + h.length) :: rest))) : W p l e R s m args below meth c H locs cells slots Q (F0 m pc lsA (.int n :: rest)) := by
  subst ht
  refine va_newaK hx hb harr rfl hd rfl hn rfl hbytes hcells hslots (h := base + h.length) hP.1 (fun H1 cI e1 e2 e3 _ e5 => ?_)
  have hcI : cI = cA (newarray.typeOf t) := Option.some.inj (e5.symm.trans hcA)
  subst hcI
  refine kk H1 (hP.push ?_ (by rw [e2, hP.1]) (fun q hq => e3 q (by rw [← hP.1]; exact hq))) ⟨?_, fun q h1 h2 => ?_, hS.2.2⟩
  · show H1[base + h.length]? = some (vp_cell _ _)
    rw [ha]
    exact e1
  · rw [e2, ← hP.1]
    exact Nat.le_succ_of_le hS.1
  · rw [e3 q (by rw [← hP.1]; exact Nat.lt_of_lt_of_le h1 hS.1)]
    exact hS.2.1 q h1 h2
theorem s_new (hx : p.tables.exec = Jvm.exec) (hb : c.code = cc) {own C : String} {T : u_T} {N ci index n : Nat} (hts : ∀ w ∈ lw_g, w.before args s = true) (hin : ∀ w ∈ u_ws C T N, w ∈ lw_g) (ty0 : Nat → FieldType) (hty : ∀ k, k < N → parseFieldDescriptor (T k).2.2.1 = some (ty0 k)) (hown : s.vm.findClass own = some m.cls) (hK : va_K D vwCl (c_T cA) s) (hP : P_R D base ex cA h H) (hS : va_S (p_A base) s.heap H locs) (hc : vwCl[ci]? = some (C, T, N)) (hcl : Cond.classLink own index C ∈ lw_g) (hins : Cond.instantiable C n ∈ lw_g) (hini : Cond.initialized C ∈ lw_g) {fs : List Value} (hfs : ∀ j, j < N → defaultValue (ty0 j) = vp_V (fs.map (c_V base ex)) j) (hcells : cells + 1 ≤ R.cells) (hslots : slots + n ≤ R.slots) (hd : decode cc pc = .ok (.new index, 3))
    (kk : ∀ H1 : Heap, P_R D base ex cA (h ++ [.inr (ci, fs)]) H1 → va_S (p_A base) s.heap H1 locs → W p l e R s m args below meth c H1 locs (cells + 1) (slots + n) Q (F0 m (pc + 3) lsA (.ref (base + h.length) :: rest))) : W p l e R s m args below meth c H locs cells slots Q (F0 m pc lsA rest) := by
  have hKn := hK.1 ci _ hc
  refine W.newcK hx hb hown (hts _ hcl) (hts _ hins) (hts _ hini) rfl hd hcells hslots (h := base + h.length) hKn.2.1 hP.1 (fun H1 kC hkC e1 e2 e3 => ?_)
  refine kk H1 (hP.push ?_ (by rw [e2, hP.1]) (fun q hq => e3 q (by rw [← hP.1]; exact hq))) ⟨?_, fun q h1 h2 => ?_, hS.2.2⟩
  · exact ⟨_, hc, (u_born ty0 hts hin hKn hkC e1 hty).to hfs⟩
  · rw [e2, ← hP.1]
    exact Nat.le_succ_of_le hS.1
  · rw [e3 q (by rw [← hP.1]; exact Nat.lt_of_lt_of_le h1 hS.1)]
    exact hS.2.1 q h1 h2
end PS2
