/-! ===== THE PURE MACHINE IS SOUND: what it answers, the machine answers ===== -/
def c_O (base : Nat) (ex : Nat → Nat) : (Option Value) ⊕ Nat → Outcome
  | .inl v => .returned (v.map (c_V base ex))
  | .inr k => .threw (base + k)
def P_Pc (X : pX) (D : va_G) (base : Nat) (ex : Nat → Nat) (cA : FieldType → ClassId) (as : List Value) (h : List pE) : Array Value → State → Prop := fun v U => v = (as.map (c_V base ex)).toArray ∧ P_R D base ex cA h U.heap ∧ va_K D vwCl (c_T cA) U ∧ P_X X base ex U U.heap
def P_Qc (D : va_G) (base : Nat) (ex : Nat → Nat) (cA : FieldType → ClassId) (r : pR) : Array Value → State → Outcome → State → Prop := fun _ st o t => o = c_O base ex r.1 ∧ P_R D base ex cA r.2 t.heap ∧ va_F (p_A base) st t
def p_rm (d mc ms : Nat) : Room := { frames := d, cells := mc, slots := ms, locals := 60 * d }
theorem P_Pc_blind {X : pX} {D : va_G} {base : Nat} {ex : Nat → Nat} {cA : FieldType → ClassId} {as : List Value} {h : List pE} : FrameBlind (P_Pc X D base ex cA as h) := by
  intro a U g mk hp
  obtain ⟨h1, h2, h3, h4⟩ := hp
  exact ⟨h1, h2, va_K.moved (u := U) (U := U.calling g mk a) (Vm.Alike.refl U.vm) h3, P_X.same (s := U) (U := U.calling g mk a) rfl h4⟩
section PMA
variable {l : Launch} {X : pX} {D : va_G} {base : Nat} {ex : Nat → Nat} {cA : FieldType → ClassId}
/-- what follows at the end of a method's walk -/
def P_fin (p : Program) (l : Launch) (e : Env) (R : Room) (s : State) (m : MethodId) (args : Array Value) (below : List Frame) (meth : Method) (c : Code) (D : va_G) (base : Nat) (ex : Nat → Nat) (cA : FieldType → ClassId) (mi : Nat) (h0 : List pE) (r : pR) (Q : State → Prop) : Prop :=
  (∀ v, r.1 = .inl v → ∀ (H1 : Heap) (locs1 : List Loc) (lsB : Array Slot) (pcr : Nat) (ins : Instr) (st : List Value) (Co : Prop), p_code mi pcr = some (ins, 1) → p_ret mi ins st = some (v, Co) → Co → P_R D base ex cA r.2 H1 → va_S (p_A base) s.heap H1 locs1 → W p l e R s m args below meth c H1 locs1 (r.2.length - h0.length) (p_S r.2 - p_S h0) Q (F0 m pcr lsB (st.map (c_V base ex)))) ∧
  (∀ k, r.1 = .inr k → ∀ (H1 : Heap) (locs1 : List Loc) (lsB : Array Slot) (pcr : Nat) (st : List Value), p_hh mi = [] → P_R D base ex cA r.2 H1 → va_S (p_A base) s.heap H1 locs1 → P_WT p l e R s m args below meth c H1 locs1 (r.2.length - h0.length) (p_S r.2 - p_S h0) Q (F0 m pcr lsB st) (base + k))
variable {p : Program} {e : Env} {R : Room} {s : State} {m : MethodId} {args : Array Value} {below : List Frame} {meth : Method} {c : Code} {H : Heap} {locs : List Loc} {cells slots : Nat} {Q : State → Prop} {lsA : Array Slot} {mi pc cm na d' mc ms : Nat} {ins : Instr} {ls : pL} {st as rest : List Value} {h h1 : List pE} {q : (Option Value) ⊕ Nat}
set_option maxHeartbeats 1000000 in
theorem s_call (C : P_C X D base ex cA p s m args meth c mi) (hc : p_code mi pc = some (ins, 3)) (hm : p_calls mi ins = some (cm, na)) (hp : p_pop na [] st = some (as, rest)) (hr : p_recv cm as h = true) (hw : p_words rest ≤ 8) (hP : P_R D base ex cA h H) (hS : va_S (p_A base) s.heap H locs) (hL : P_L base ex (p_maxL mi) ls lsA)
    (hM : P_G l (p_y cm) (p_ws cm) (p_rm d' mc ms) (P_Pc X D base ex cA as h) (P_Qc D base ex cA (q, h1)) mc ms (p_A base)) (hR : d' + 1 ≤ R.frames ∧ 60 * (d' + 1) ≤ R.locals) (hcl : cells + mc ≤ R.cells) (hsl : slots + ms ≤ R.slots)
    (kr : ∀ v, q = .inl v → ∀ (H1 : Heap) (locs1 : List Loc), P_R D base ex cA h1 H1 → va_S (p_A base) s.heap H1 locs1 → W p l e R s m args below meth c H1 locs1 (cells + mc) (slots + ms) Q (F0 m (pc + 3) lsA ((v.toList ++ rest).map (c_V base ex))))
    (kt : ∀ k, q = .inr k → ∀ (H1 : Heap) (locs1 : List Loc), P_R D base ex cA h1 H1 → va_S (p_A base) s.heap H1 locs1 → P_WT p l e R s m args below meth c H1 locs1 (cells + mc) (slots + ms) Q (F0 m pc lsA (rest.map (c_V base ex))) (base + k)) :
    W p l e R s m args below meth c H locs cells slots Q (F0 m pc lsA (st.map (c_V base ex))) := by
  intro T hT X0
  obtain ⟨hx, hb, hts, hown, hret, hml, hlk, hctor, hK, hbase, hX, hraw, hh00⟩ := id C
  obtain ⟨gw, gi, gl, gp, gm⟩ := p_mth_in hm
  obtain ⟨mk, vm₁, hnamed, X₁, hstep⟩ := p_go_ok (lsA := lsA) C hc hm hp hr (by rw [hT]; exact hP) (by rw [hT]; exact hS) X0
  obtain ⟨mk', methY, cY, hn', hmY, hcY, hbY, hlY, -, -, -, -⟩ := p_word_spec (hts _ gw)
  cases hnamed.symm.trans hn'
  have hmY1 : (T.setVm vm₁).vm.method? mk = some methY := by rw [X₁.warmed.alike.method?]; exact hmY
  have hdg : decode c.code pc = .ok (ins, 3) := by rw [hb]; exact (p_code_ok hc).1
  obtain ⟨o, T', t, L, XT, hL2, e1, e2, ⟨ho, hP1, hF⟩, hret, hthr⟩ := p_enter X₁ (g := F0 m pc lsA (rest.map (c_V base ex))) rfl (by rw [hml]; exact hL.2.1) hdg (lv_room (by rw [p_words_sum]; exact hw)) (X₁.named hnamed) hmY1 hcY hlY (word_at X₁.warmed (p_good gi) (hts _ gi)) hM hR.1 (by show 8 + (p_maxL cm + 11) + 60 * d' ≤ _; omega) hcl hsl (a := (as.map (c_V base ex)).toArray) (atoms_intro (fun w hw2 => by
      rcases List.mem_cons.mp hw2 with h2 | h2
      · rw [h2]; exact word_at X₁.warmed (p_good gw) (hts _ gw)
      · exact word_at X₁.warmed (p_good h2) (hts _ h2))) (P_Pc_blind _ _ _ _ ⟨rfl, by show P_R D base ex cA h T.heap; rw [hT]; exact hP, va_K.moved X₁.warmed.alike hK, P_X.warm X₁.warmed (by show P_X X base ex s T.heap; rw [hT]; exact P_X.kept hX hS)⟩)
  have hheap : T.heap.size ≤ t.heap.size ∧ ∀ q : Nat, q < T.heap.size → ¬ p_A base q → t.heap[q]? = T.heap[q]? := hF
  have hS1 : va_S (p_A base) s.heap T'.heap (locs ++ L) := by
    rw [e1]
    rw [hT] at hheap
    refine ⟨Nat.le_trans hS.1 hheap.1, fun q h1 h2 => ?_, fun q hq => ?_⟩
    · rw [hheap.2 q (Nat.lt_of_lt_of_le h1 hS.1) h2]; exact hS.2.1 q h1 h2
    · rcases List.mem_append.mp hq with h | h
      · exact hS.2.2 q h
      · exact hL2 q h
  cases q with
  | inl v =>
    obtain ⟨t2, a1, b1⟩ := kr v rfl T'.heap (locs ++ L) (by rw [e1]; exact hP1) hS1 T' rfl XT
    refine ⟨t2, hstep _ (fun acts => ?_), b1⟩
    rw [doInvoke_state]
    refine (hret _ ho).trans ?_
    have ee : ((v.map (c_V base ex)).toList ++ rest.map (c_V base ex)) = (v.toList ++ rest).map (c_V base ex) := by cases v <;> rfl
    show Steps p.tables e below (T'.setTop (F0 m (pc + 3) lsA ((v.map (c_V base ex)).toList ++ rest.map (c_V base ex)))) t2
    rw [ee]
    exact a1
  | inr k =>
    obtain ⟨t2, a1, b1⟩ := kt k rfl T'.heap (locs ++ L) (by rw [e1]; exact hP1) hS1 T' rfl XT
    refine ⟨t2, hstep _ (fun acts => ?_), b1⟩
    rw [doInvoke_state]
    exact (hthr _ ho).trans a1
def P_snd (l : Launch) (X : pX) (D : va_G) (base : Nat) (ex : Nat → Nat) (cA : FieldType → ClassId) (f : pF) : Prop :=
  ∀ (d mi pc : Nat) (ls : pL) (st : List Value) (h : List pE) (r : pR), f d mi pc ls st h = some r → p_le h r.2 ∧
    ∀ (p : Program) (e : Env) (R : Room) (s : State) (m : MethodId) (args : Array Value) (below : List Frame) (meth : Method) (c : Code) (H : Heap) (locs : List Loc) (lsA : Array Slot) (h0 : List pE) (Q : State → Prop),
      P_C X D base ex cA p s m args meth c mi → P_R D base ex cA h H → va_S (p_A base) s.heap H locs → P_L base ex (p_maxL mi) ls lsA → d ≤ R.frames ∧ 60 * d ≤ R.locals → p_le h0 h → r.2.length - h0.length ≤ R.cells → p_S r.2 - p_S h0 ≤ R.slots → P_fin p l e R s m args below meth c D base ex cA mi h0 r Q →
      W p l e R s m args below meth c H locs (h.length - h0.length) (p_S h - p_S h0) Q (F0 m pc lsA (st.map (c_V base ex)))
theorem W_mono {Q' : State → Prop} {g : JFrame} (k : W p l e R s m args below meth c H locs cells slots Q g) (hq : ∀ t, Q t → Q' t) : W p l e R s m args below meth c H locs cells slots Q' g := by
  intro T hT X
  obtain ⟨t, a, b⟩ := k T hT X
  exact ⟨t, a, hq t b⟩
theorem p_nar_01 {x : Int32} (h : x = 0 ∨ x = 1) : narrow .boolean (.int x) = .int x := by
  rcases h with rfl | rfl <;> rfl
/-- the end of a method's walk -/
theorem p_fin_ok {h0 : List pE} {r : pR} (C : P_C X D base ex cA p s m args meth c mi) : P_fin p l e R s m args below meth c D base ex cA mi h0 r (P_Q below (P_Qc D base ex cA r) args s (r.2.length - h0.length) (p_S r.2 - p_S h0) (p_A base)) := by
  obtain ⟨hx, hb, hts, hown, hret, hml, hlk, hctor, hK, hbase, hX, hraw, hh00⟩ := C
  refine ⟨fun v hv H1 locs1 lsB pcr ins st Co hc hj hC hP hS => ?_, fun k hk H1 locs1 lsB pcr st hh hP hS => ?_⟩
  · refine W_mono (Q := MQ below (P_Qc D base ex cA r) args s (r.2.length - h0.length) (p_S r.2 - p_S h0) (p_A base)) ?_ (fun t ht => P_Q_of ht)
    have hq : ∀ t : State, t.heap = H1 → s.WarmedH t.vm → P_Qc D base ex cA r args s (.returned (v.map (c_V base ex))) t := fun t ht _ => ⟨by rw [hv]; rfl, by rw [ht]; exact hP, hS.F ht⟩
    have hd := (p_code_ok hc).1
    cases ins with
    | return_ =>
      dsimp only [p_ret] at hj
      split at hj
      · cases hj
        exact W.vret hx hb (hret.trans hC) hq hS.2.2 hd hlk
      · cases hj
    | ireturn =>
      dsimp only [p_ret] at hj
      split at hj
      · next x =>
        cases hj
        rcases hC with hC | ⟨ty, hC, h01⟩
        · exact W.iret hx hb (hret.trans hC) hq hS.2.2 hd hlk
        · exact W.zret hx hb (hret.trans hC) h01 hq hS.2.2 hd hlk
      · cases hj
    | lreturn =>
      dsimp only [p_ret] at hj
      split at hj
      · cases hj
        exact W.lret hx hb (hret.trans hC) hq hS.2.2 hd hlk
      · cases hj
    | _ => cases hj
  · refine s_leave hlk (fun z hz => ?_) (fun t ht _ => ⟨by rw [hk]; rfl, by rw [ht]; exact hP, hS.F ht⟩) hS.2.2
    have h1 : p_raw mi = [] := p_hh_raw hh
    rw [h1, List.map_eq_nil_iff] at hraw
    rw [hraw] at hz
    cases hz
/-- a contract out of a run of the pure machine -/
theorem p_contract {f : pF} (hf : P_snd l X D base ex cA f) {d : Nat} {r : pR} (hh : f d cm 0 (p_in0 cm as) [] h = some r) (hy : plainFor (p_y cm) = true) (hl : (p_args as).length ≤ p_maxL cm) (hcm : cm < p_ML.length) : P_G l (p_y cm) (p_ws cm) (p_rm d (r.2.length - h.length) (p_S r.2 - p_S h)) (P_Pc X D base ex cA as h) (P_Qc D base ex cA r) (r.2.length - h.length) (p_S r.2 - p_S h) (p_A base) := by
  refine MetFree.of_bodySF (code := p_bytes cm) (maxLocals := p_maxL cm) (ret := p_rty cm) hy ?_ ?_
  · intro args s m h hn
    obtain ⟨mk, meth, c, h1, h2, h3, h4, h5, h6, h7, -, -⟩ := p_word_spec (atoms_spec (ws := p_ws cm) h _ List.mem_cons_self)
    cases hn.symm.trans h1
    exact ⟨meth, c, h2, h3, h4, h5, h6, h7⟩
  · intro p e s m args below meth c s₁ B hml hP _
    obtain ⟨rfl, hR0, hK, hX⟩ := hP
    have hts := atoms_spec (ws := p_ws cm) B.pre
    have hh0 : s₁.heap = s.heap := by rw [B.state]; rfl
    obtain ⟨hle, hs⟩ := hf d cm 0 (p_in0 cm as) [] h r hh
    have hown : s.vm.findClass (p_y cm).cls = some m.cls := findClass_of_methodNamed B.named
    have hname : meth.name = (p_y cm).name := (name_of_methodNamed B.named B.method).1
    have X0 := Stand.of_body B
    obtain ⟨mk, meth2, c2, g1, g2, g3, g4, g5, g6, g7, g8, -⟩ := p_word_spec (hts _ List.mem_cons_self)
    cases B.named.symm.trans g1
    cases B.method.symm.trans g2
    cases X0.code.symm.trans g3
    have C : P_C X D base ex cA p s m ((as.map (c_V base ex)).toArray) meth c cm := ⟨B.exec, B.bytes, fun w hw => hts w (List.mem_cons_of_mem _ hw), by rw [p_y_cls hcm]; exact hown, B.returns, hml, B.notSynchronized, fun hc => by rw [hname]; exact p_ctor_name hc, hK, by rw [hR0.1]; exact Nat.le_add_right _ _, hX, g8, h, hR0⟩
    have hent := P_L_entry (base := base) (ex := ex) (n := p_maxL cm) hl
    have K := hs p e (p_rm d (r.2.length - h.length) (p_S r.2 - p_S h)) s m ((as.map (c_V base ex)).toArray) below meth c s.heap [] _ h (P_Q below (P_Qc D base ex cA r) ((as.map (c_V base ex)).toArray) s (r.2.length - h.length) (p_S r.2 - p_S h) (p_A base)) C hR0 va_S.rf hent ⟨Nat.le_refl _, Nat.le_refl _⟩ (p_le_rf h) (Nat.le_refl _) (Nat.le_refl _) (p_fin_ok C)
    rw [Nat.sub_self, Nat.sub_self] at K
    rw [List.map_nil, ← lg_entry_eq] at K
    obtain ⟨t, a1, o, b1, b2, b3⟩ := K s₁ hh0 X0
    exact ⟨t, o, a1, b1, b2, b3⟩
theorem p_ret_len {v : Option Value} {Co : Prop} (h : p_ret mi ins st = some (v, Co)) : p_sw ins = false ∧ p_len ins = 1 := by
  cases ins <;> first | exact ⟨rfl, rfl⟩ | cases h
/-- THE PURE MACHINE IS SOUND -/
theorem p_sound (htr : ∀ e : Env, l.admits e → e.platform.stackTraces = false) : ∀ n : Nat, P_snd l X D base ex cA (p_ex X n) := by
  intro n
  induction n with
  | zero => intro d mi pc ls st h r hh; cases hh
  | succ n ih =>
    intro d mi pc ls st h r hh
    refine ⟨p_ex_grow X (n + 1) d mi pc ls st h r hh, ?_⟩
    intro p e R s m args below meth c H locs lsA h0 Q C hP hS hL hR hle0 hc1 hc2 hfin
    obtain ⟨ins, len, hc, ht⟩ := p_F_inv X hh
    obtain ⟨hd, hlen⟩ := p_code_ok hc
    obtain ⟨hx, hb, hts, hown, hret, hml, hlk, hctor, hK, hbase, hX, hraw, hh00⟩ := id C
    rcases ht with ⟨cm, na, d', as, rest, q, h1, g1, g2, g3, g4, g5, g6, g7, g8⟩ | ⟨v, Co, g1, g2, g3⟩ | ⟨q, t, t2, r', Co, g1, g2, g3⟩ | ⟨t, r', Co, g1, g2, g3⟩ | ⟨ci, g1, g2, g3⟩ | ⟨pc', ls', st', h', Co, g1, g2, g3⟩
    · subst g2
      subst g6
      obtain ⟨gw, gi, gl, gp, gm⟩ := p_mth_in g1
      have le1 : p_le h h1 := (ih _ _ _ _ _ _ _ g7).1
      have hM := p_contract ih g7 gp (p_recv_len g4) gm
      have le2 : p_le h1 r.2 := by
        rcases g8 with ⟨v, -, g8⟩ | ⟨k, -, ⟨t, -, g8⟩ | ⟨-, -, g8⟩⟩
        · exact (ih _ _ _ _ _ _ _ g8).1
        · exact (ih _ _ _ _ _ _ _ g8).1
        · rw [g8]; exact p_le_rf _
      have a1 : h.length - h0.length + (h1.length - h.length) = h1.length - h0.length := by have := le1.1; have := hle0.1; omega
      have a2 : p_S h - p_S h0 + (p_S h1 - p_S h) = p_S h1 - p_S h0 := by have := le1.2; have := hle0.2; omega
      refine s_call C hc g1 g3 g4 g5 hP hS hL hM hR (by dsimp only; rw [a1]; have := le2.1; omega) (by dsimp only; rw [a2]; have := le2.2; omega) ?_ ?_
      · intro v hv H1 locs1 hP1 hS1
        rcases g8 with ⟨v', e1, g8⟩ | ⟨k, e1, -⟩
        · rw [hv] at e1
          cases e1
          dsimp only
          rw [a1, a2]
          exact (ih _ _ _ _ _ _ _ g8).2 p e R s m args below meth c H1 locs1 lsA h0 Q C hP1 hS1 hL hR (p_le_tr hle0 le1) hc1 hc2 hfin
        · rw [hv] at e1; cases e1
      · intro k hk H1 locs1 hP1 hS1
        rcases g8 with ⟨v', e1, -⟩ | ⟨k', e1, g8⟩
        · rw [hk] at e1; cases e1
        · rw [hk] at e1
          cases e1
          dsimp only
          rw [a1, a2]
          rcases g8 with ⟨t, e2, g8⟩ | ⟨e2, e3, g8⟩
          · exact s_caught C e2 hP1 ((ih _ _ _ _ _ _ _ g8).2 p e R s m args below meth c H1 locs1 lsA h0 Q C hP1 hS1 hL hR (p_le_tr hle0 le1) hc1 hc2 hfin)
          · subst g8
            exact hfin.2 k rfl H1 locs1 lsA pc _ e3 hP1 hS1
    · subst g3
      have hl1 : len = 1 := by
        obtain ⟨z1, z2⟩ := p_ret_len g1
        rw [hlen z1, z2]
      subst hl1
      exact hfin.1 v rfl H locs lsA pc ins st Co hc g1 g2 hP hS
    · refine s_jmp hx hb hd hlen g1 g2 (fun hq => ?_) (fun hq => ?_)
      · rcases g3 with ⟨-, g3⟩ | ⟨z, -⟩
        · exact (ih _ _ _ _ _ _ _ g3).2 p e R s m args below meth c H locs lsA h0 Q C hP hS hL hR hle0 hc1 hc2 hfin
        · exact absurd hq z
      · rcases g3 with ⟨z, -⟩ | ⟨-, g3⟩
        · exact absurd z hq
        · exact (ih _ _ _ _ _ _ _ g3).2 p e R s m args below meth c H locs lsA h0 Q C hP hS hL hR hle0 hc1 hc2 hfin
    · exact s_swi hx hb hd g1 g2 ((ih _ _ _ _ _ _ _ g3).2 p e R s m args below meth c H locs lsA h0 Q C hP hS hL hR hle0 hc1 hc2 hfin)
    · subst g3
      exact s_thrown htr C hc g1 g2 hP hS hL hR hle0 hc1 hc2 (fun H1 locs1 pcr st1 z1 z2 => hfin.2 _ rfl H1 locs1 lsA pcr st1 g2.2.2 z1 z2)
    · obtain ⟨le1, ih2⟩ := ih _ _ _ _ _ _ _ g3
      have le0 := p_step_le g1
      refine p_step_ok C hd hlen g1 g2 hP hS hL hR (by have := le1.1; have := le0.1; have := hle0.1; omega) (by have := le1.2; have := le0.2; have := hle0.2; omega) ?_
      intro H1 locs1 lsB cells1 slots1 e1 e2 hP1 hS1 hL1
      have a1 : cells1 = h'.length - h0.length := by have := le0.1; have := hle0.1; omega
      have a2 : slots1 = p_S h' - p_S h0 := by have := le0.2; have := hle0.2; omega
      rw [a1, a2]
      exact ih2 p e R s m args below meth c H1 locs1 lsB h0 Q C hP1 hS1 hL1 hR (p_le_tr hle0 le0) hc1 hc2 hfin
end PMA
