/-! one plain instruction, walked -/
section PS3
variable {p : Program} {l : Launch} {e : Env} {R : Room} {s : State} {m : MethodId} {args : Array Value} {below : List Frame} {meth : Method} {c : Code} {H : Heap} {locs : List Loc} {cells slots : Nat} {Q : State → Prop}
variable {D : va_G} {base : Nat} {ex : Nat → Nat} {cA : FieldType → ClassId} {X : pX} {lsA : Array Slot} {ls ls' : pL} {st st' : List Value} {h h' : List pE} {d mi pc pc' len : Nat} {ins : Instr} {Co : Prop}
/-- what comes behind an instruction -/
def P_K (p : Program) (l : Launch) (e : Env) (R : Room) (s : State) (m : MethodId) (args : Array Value) (below : List Frame) (meth : Method) (c : Code) (D : va_G) (base : Nat) (ex : Nat → Nat) (cA : FieldType → ClassId) (nL cells slots : Nat) (h : List pE) (Q : State → Prop) (pc' : Nat) (ls' : pL) (st' : List Value) (h' : List pE) : Prop :=
  ∀ (H1 : Heap) (locs1 : List Loc) (lsB : Array Slot) (cells1 slots1 : Nat), cells1 = cells + (h'.length - h.length) → slots1 = slots + (p_S h' - p_S h) → P_R D base ex cA h' H1 → va_S (p_A base) s.heap H1 locs1 → P_L base ex nL ls' lsB → W p l e R s m args below meth c H1 locs1 cells1 slots1 Q (F0 m pc' lsB (st'.map (c_V base ex)))
theorem P_K.same {nL : Nat} (kk : P_K p l e R s m args below meth c D base ex cA nL cells slots h Q pc' ls' st' h) (hP : P_R D base ex cA h H) (hS : va_S (p_A base) s.heap H locs) {lsB : Array Slot} (hL : P_L base ex nL ls' lsB) : W p l e R s m args below meth c H locs cells slots Q (F0 m pc' lsB (st'.map (c_V base ex))) :=
  kk H locs lsB cells slots (by rw [Nat.sub_self, Nat.add_zero]) (by rw [Nat.sub_self, Nat.add_zero]) hP hS hL
theorem P_K_upd {nL k : Nat} {x x0 : pE} (kk : P_K p l e R s m args below meth c D base ex cA nL cells slots h Q pc' ls' st' (h.set k x)) (h0 : h[k]? = some x0) (hz : p_sz x = p_sz x0) {H1 : Heap} {locs1 : List Loc} (hP : P_R D base ex cA (h.set k x) H1) (hS : va_S (p_A base) s.heap H1 locs1) {lsB : Array Slot} (hL : P_L base ex nL ls' lsB) : W p l e R s m args below meth c H1 locs1 cells slots Q (F0 m pc' lsB (st'.map (c_V base ex))) :=
  kk H1 locs1 lsB cells slots (by rw [List.length_set, Nat.sub_self, Nat.add_zero]) (by rw [p_S_set h k x x0 h0 hz, Nat.sub_self, Nat.add_zero]) hP hS hL
set_option maxHeartbeats 4000000 in
theorem p_step_ok (C : P_C X D base ex cA p s m args meth c mi) (hd : decode (p_bytes mi) pc = .ok (ins, len)) (hlen : p_sw ins = false → len = p_len ins) (hs : p_step X d mi pc ls st h ins len = some ((pc', ls', st', h'), Co)) (hC : Co) (hP : P_R D base ex cA h H) (hS : va_S (p_A base) s.heap H locs) (hL : P_L base ex (p_maxL mi) ls lsA) (hR : d ≤ R.frames ∧ 60 * d ≤ R.locals) (hc1 : cells + (h'.length - h.length) ≤ R.cells) (hc2 : slots + (p_S h' - p_S h) ≤ R.slots)
    (kk : P_K p l e R s m args below meth c D base ex cA (p_maxL mi) cells slots h Q pc' ls' st' h') : W p l e R s m args below meth c H locs cells slots Q (F0 m pc lsA (st.map (c_V base ex))) := by
  obtain ⟨hx, hb, hts, hown, hret, hml, hlk, hctor, hK, hbase, hX, hraw, hh00⟩ := C
  have hsw : p_sw ins = false := by
    cases hq : p_sw ins with
    | false => rfl
    | true => cases ins <;> first | (cases hq; done) | (dsimp only [p_step, p_alu] at hs; cases hs; done)
  have hlen := hlen hsw
  subst hlen
  clear hsw
  cases ins with
  | iconst n =>
    dsimp only [p_step, p_len] at hs
    cases hs
    exact lv_iconst hx hb hd rfl (kk.same hP hS hL)
  | bipush n =>
    dsimp only [p_step, p_len] at hs
    cases hs
    exact lv_bipush hx hb hd rfl (kk.same hP hS hL)
  | sipush n =>
    dsimp only [p_step, p_len] at hs
    cases hs
    exact lv_sipush hx hb hd rfl (kk.same hP hS hL)
  | lconst n =>
    dsimp only [p_step, p_len] at hs
    cases hs
    exact lv_lconst hx hb hd rfl (kk.same hP hS hL)
  | aconst_null =>
    dsimp only [p_step, p_len] at hs
    cases hs
    exact lv_null hx hb hd (kk.same hP hS hL)
  | ldc i =>
    dsimp only [p_step, p_len] at hs
    split at hs
    · next v hv => cases hs; exact lv_ldc hx hb hown (hts _ (p_int_ok hv)) hd (kk.same hP hS hL)
    · split at hs
      · next j hj => cases hs; exact s_ldcS hx hb hown hX hj hd (kk.same hP hS hL)
      · cases hs
  | ldc2_w i =>
    dsimp only [p_step, p_len] at hs
    split at hs
    · next v hv => cases hs; exact lv_ldc2 hx hb hown (hts _ (p_lng_ok hv)) hd (kk.same hP hS hL)
    · cases hs
  | iload i =>
    dsimp only [p_step, p_len] at hs
    split at hs
    · next x hx2 => cases hs; exact lv_iload hx hb hd (hL.get hx2) (kk.same hP hS hL)
    · cases hs
  | iload_n i =>
    dsimp only [p_step, p_len] at hs
    split at hs
    · next x hx2 => cases hs; exact lv_iload_n hx hb hd rfl (hL.get hx2) (kk.same hP hS hL)
    · cases hs
  | lload i =>
    dsimp only [p_step, p_len] at hs
    split at hs
    · next x hx2 => cases hs; exact lv_lload hx hb hd (hL.get hx2) (kk.same hP hS hL)
    · cases hs
  | lload_n i =>
    dsimp only [p_step, p_len] at hs
    split at hs
    · next x hx2 => cases hs; exact lv_lload_n hx hb hd rfl (hL.get hx2) (kk.same hP hS hL)
    · cases hs
  | aload i =>
    dsimp only [p_step, p_len] at hs
    split at hs
    · next x hx2 => cases hs; exact lv_aload hx hb hd (hL.get hx2) (kk.same hP hS hL)
    · next x hx2 => cases hs; exact lv_aload hx hb hd (hL.get hx2) (kk.same hP hS hL)
    · cases hs
  | aload_n i =>
    dsimp only [p_step, p_len] at hs
    split at hs
    · next x hx2 => cases hs; exact lv_aload_n hx hb hd rfl (hL.get hx2) (kk.same hP hS hL)
    · next x hx2 => cases hs; exact lv_aload_n hx hb hd rfl (hL.get hx2) (kk.same hP hS hL)
    · cases hs
  | istore i =>
    dsimp only [p_step, p_len] at hs
    split at hs
    · next x r =>
      cases hlt : Nat.blt i ls.length with
      | false => rw [hlt] at hs; cases hs
      | true =>
        rw [hlt] at hs
        cases hs
        have hlt2 := p_blt hlt
        rw [hL.1] at hlt2
        exact lv_istore hx hb hd hL.2 hlt2 rfl (fun lsB hB => kk.same hP hS (hL.st1 hB))
    · cases hs
  | istore_n i =>
    dsimp only [p_step, p_len] at hs
    split at hs
    · next x r =>
      cases hlt : Nat.blt (i : Nat) ls.length with
      | false => rw [hlt] at hs; cases hs
      | true =>
        rw [hlt] at hs
        cases hs
        have hlt2 := p_blt hlt
        rw [hL.1] at hlt2
        exact lv_istore_n hx hb hd rfl hL.2 hlt2 rfl (fun lsB hB => kk.same hP hS (hL.st1 hB))
    · cases hs
  | lstore i =>
    dsimp only [p_step, p_len] at hs
    split at hs
    · next x r =>
      cases hlt : Nat.blt (i + 1) ls.length with
      | false => rw [hlt] at hs; cases hs
      | true =>
        rw [hlt] at hs
        cases hs
        have hlt2 := p_blt hlt
        rw [hL.1] at hlt2
        exact lv_lstore hx hb hd hL.2 hlt2 rfl (fun lsB hB => kk.same hP hS (hL.st2 hB))
    · cases hs
  | lstore_n i =>
    dsimp only [p_step, p_len] at hs
    split at hs
    · next x r =>
      cases hlt : Nat.blt ((i : Nat) + 1) ls.length with
      | false => rw [hlt] at hs; cases hs
      | true =>
        rw [hlt] at hs
        cases hs
        have hlt2 := p_blt hlt
        rw [hL.1] at hlt2
        exact lv_lstore_n hx hb hd rfl hL.2 hlt2 rfl (fun lsB hB => kk.same hP hS (hL.st2 hB))
    · cases hs
  | astore i =>
    dsimp only [p_step, p_len] at hs
    split at hs
    · next x r =>
      cases hlt : Nat.blt i ls.length with
      | false => rw [hlt] at hs; cases hs
      | true =>
        rw [hlt] at hs
        cases hs
        have hlt2 := p_blt hlt
        rw [hL.1] at hlt2
        exact lv_astore hx hb hd hL.2 hlt2 rfl (fun lsB hB => kk.same hP hS (hL.st1 hB))
    · cases hs
  | astore_n i =>
    dsimp only [p_step, p_len] at hs
    split at hs
    · next x r =>
      cases hlt : Nat.blt (i : Nat) ls.length with
      | false => rw [hlt] at hs; cases hs
      | true =>
        rw [hlt] at hs
        cases hs
        have hlt2 := p_blt hlt
        rw [hL.1] at hlt2
        exact lv_astore_n hx hb hd rfl hL.2 hlt2 rfl (fun lsB hB => kk.same hP hS (hL.st1 hB))
    · cases hs
  | iinc i n =>
    dsimp only [p_step, p_len] at hs
    split at hs
    · next x hx2 =>
      cases hlt : Nat.blt i ls.length with
      | false => rw [hlt] at hs; cases hs
      | true =>
        rw [hlt] at hs
        cases hs
        have hlt2 := p_blt hlt
        rw [hL.1] at hlt2
        obtain ⟨k, hk⟩ := List.getElem?_of_mem ((c_L_mem (base := base) (ex := ex) ls 0 i _).mpr ⟨i, .int x, by omega, hx2, rfl⟩)
        exact lv_iinc hx hb hd hL.2 (k := k) hk rfl hlt2 rfl (fun lsB hB => kk.same hP hS (hL.st1 (v := .int (x + Int32.ofInt n)) hB))
    · cases hs
  | goto off =>
    dsimp only [p_step, p_len] at hs
    cases hs
    exact lv_goto hx hb hd (Int.toNat_of_nonneg hC).symm (kk.same hP hS hL)
  | getfield i =>
    dsimp only [p_step, p_len] at hs
    split at hs
    · next k r =>
      split at hs
      · next ci f hf =>
        split at hs
        · next v hv =>
          cases hs
          obtain ⟨C, T, N, g1, g2, g3, g4, g5, g6, g7, g8⟩ := p_fld_ok hf
          obtain ⟨fs, k1, k2⟩ := p_fget_ok hv
          exact s_get hx hb hts g2 hown hK hP k1 g1 g3 g4 k2 hd (kk.same hP hS hL)
        · cases hs
      · cases hs
    · next j r =>
      split at hs
      · next hf =>
        cases hs
        rcases p_all2_ok p_sfldA hf with ⟨-, hl⟩ | ⟨hz, -⟩
        · exact vk_getf (o := "java/lang/String") (ref := "java/lang/String") hx hb (hX.2.2.1.1 j hC).2.2.1 hS hown (hts _ hl) (fun _ h => h) hd (kk.same hP hS hL)
        · cases hz
      · next hf =>
        cases hs
        rcases p_all2_ok p_sfldA hf with ⟨hz, -⟩ | ⟨-, hl⟩
        · cases hz
        · exact vk_getf (o := "java/lang/String") (ref := "java/lang/String") hx hb (hX.2.2.1.1 j hC).2.1 hS hown (hts _ hl) (fun _ h => h) hd (kk.same hP hS hL)
      · cases hs
    · cases hs
  | putfield i =>
    dsimp only [p_step, p_len] at hs
    split at hs
    · next v k r =>
      split at hs
      · next ci f hf =>
        cases hfit : (p_fits (p_fty ci f) v && (!(p_fin ci f) || (p_ctor mi && Nat.beq ci (p_own mi)))) with
        | false => rw [hfit] at hs; cases hs
        | true =>
          rw [hfit] at hs
          dsimp only [cond_true] at hs
          rw [Bool.and_eq_true] at hfit
          split at hs
          · next h1 hv =>
            cases hs
            obtain ⟨C, T, N, g1, g2, g3, g4, g5, g6, g7, g8⟩ := p_fld_ok hf
            obtain ⟨fs, k1, k2, k3⟩ := p_fput_ok hv
            subst k3
            refine s_put hx hb hts g2 (p_fty ci) g5 g6 hown hK hP hS k1 g1 g3 g4 (fun hF => ?_) hfit.1 k2 hd (fun H1 locs1 hP1 hS1 => P_K_upd kk k1 rfl hP1 hS1 hL)
            have h2 := hfit.2
            rw [g7, hF] at h2
            simp only [Bool.not_true, Bool.false_or, Bool.and_eq_true] at h2
            exact ⟨hctor h2.1, by rw [g8, Nat.eq_of_beq_eq_true h2.2]⟩
          · cases hs
      · cases hs
    · cases hs
  | iaload =>
    dsimp only [p_step, p_len] at hs
    split at hs
    · next i k r =>
      split at hs
      · next n f he => cases hs; exact s_iald hx hb hK hP he hC hd (kk.same hP hS hL)
      · cases hs
    · next i r => cases hs; exact va_sld hx hb hX.1 (Nat.lt_of_lt_of_le hX.2.1 hbase) (Nat.not_le.mpr hX.2.1) hS hC hd (kk.same hP hS hL)
    · cases hs
  | laload =>
    dsimp only [p_step, p_len] at hs
    split at hs
    · next i k r =>
      split at hs
      · next n f he => cases hs; exact s_lald hx hb hK hP he hC hd (kk.same hP hS hL)
      · cases hs
    · cases hs
  | baload =>
    dsimp only [p_step, p_len] at hs
    split at hs
    · next i k r =>
      split at hs
      · next n f he => cases hs; exact s_zald hx hb hK hP he hC hd (kk.same hP hS hL)
      · cases hs
    · next i k r =>
      cases hs
      have hT := (hX.2.2.1.1 (k - p_lits) hC.2.1).2.2.2
      have hT : va_T .byte (ex (p_lits + 1 + (k - p_lits))) (p_lenL.getD (k - p_lits) 0) (fun j => .int ((p_litL.getD (k - p_lits) []).getD j 0)) (p_A base) s s.heap := hT
      rw [show p_lits + 1 + (k - p_lits) = k + 1 by have := hC.1; omega, p_lenL_eq] at hT
      exact va_tb hx hb hT hS hC.2.2 rfl hd (kk.same hP hS hL)
    · cases hs
  | iastore =>
    dsimp only [p_step, p_len] at hs
    split at hs
    · next x i k r =>
      split at hs
      · next n f he => cases hs; exact s_iast hx hb hK hP hS he hC hd (fun H1 locs1 hP1 hS1 => P_K_upd kk he rfl hP1 hS1 hL)
      · cases hs
    · cases hs
  | lastore =>
    dsimp only [p_step, p_len] at hs
    split at hs
    · next x i k r =>
      split at hs
      · next n f he => cases hs; exact s_last hx hb hK hP hS he hC hd (fun H1 locs1 hP1 hS1 => P_K_upd kk he rfl hP1 hS1 hL)
      · cases hs
    · cases hs
  | bastore =>
    dsimp only [p_step, p_len] at hs
    split at hs
    · next x i k r =>
      split at hs
      · next n f he => cases hs; exact s_zast hx hb hK hP hS he hC hd (fun H1 locs1 hP1 hS1 => P_K_upd kk he rfl hP1 hS1 hL)
      · cases hs
    · cases hs
  | arraylength =>
    dsimp only [p_step, p_len] at hs
    split at hs
    · next k r =>
      split at hs
      · next ty a he =>
        cases hty : p_aty ty with
        | false => rw [hty] at hs; cases hs
        | true =>
          rw [hty] at hs
          cases hs
          exact s_alen hx hb hK hP he (p_aty_ok hty) hd (kk.same hP hS hL)
      · cases hs
    · next r => cases hs; exact va_slen hx hb hX.1 (Nat.lt_of_lt_of_le hX.2.1 hbase) (Nat.not_le.mpr hX.2.1) hS hd (kk.same hP hS hL)
    · next k r =>
      cases hs
      have hT := (hX.2.2.1.1 (k - p_lits) hC.2).2.2.2
      have hT : va_T .byte (ex (p_lits + 1 + (k - p_lits))) (p_lenL.getD (k - p_lits) 0) (fun j => .int ((p_litL.getD (k - p_lits) []).getD j 0)) (p_A base) s s.heap := hT
      rw [show p_lits + 1 + (k - p_lits) = k + 1 by have := hC.1; omega, p_lenL_eq] at hT
      exact va_tlen hx hb hT hS rfl hd (kk.same hP hS hL)
    · cases hs
  | newarray t =>
    dsimp only [p_step, p_len] at hs
    split at hs
    · next n r =>
      cases t with
      | int =>
        cases hs
        have e1 : (h ++ [(.inl (.int, n.toNatClampNeg, .inl (fun _ => 0)) : pE)]).length - h.length = 1 := by simp
        have e2 : p_S (h ++ [(.inl (.int, n.toNatClampNeg, .inl (fun _ => 0)) : pE)]) - p_S h = n.toNatClampNeg := by rw [p_S_app]; simp [p_S, p_sz]
        rw [e1] at hc1
        rw [e2] at hc2
        exact s_newa (ty := .int) hx hb hK hP hS rfl (hK.2 0 _ rfl).2 (hts _ p_arr_int) (fun cI => rfl) hC.1 (Nat.le_trans (Nat.mul_le_mul_left _ (by decide)) hC.2) hc1 hc2 hd (fun H1 hP1 hS1 => kk H1 locs lsA _ _ (by rw [e1]) (by rw [e2]) hP1 hS1 hL)
      | long =>
        cases hs
        have e1 : (h ++ [(.inl (.long, n.toNatClampNeg, .inr (.inl (fun _ => 0))) : pE)]).length - h.length = 1 := by simp
        have e2 : p_S (h ++ [(.inl (.long, n.toNatClampNeg, .inr (.inl (fun _ => 0))) : pE)]) - p_S h = n.toNatClampNeg := by rw [p_S_app]; simp [p_S, p_sz]
        rw [e1] at hc1
        rw [e2] at hc2
        exact s_newa (ty := .long) hx hb hK hP hS rfl (hK.2 1 _ rfl).2 (hts _ p_arr_long) (fun cI => rfl) hC.1 (Nat.le_trans (Nat.mul_le_mul_left _ (by decide)) hC.2) hc1 hc2 hd (fun H1 hP1 hS1 => kk H1 locs lsA _ _ (by rw [e1]) (by rw [e2]) hP1 hS1 hL)
      | boolean =>
        cases hs
        have e1 : (h ++ [(.inl (.boolean, n.toNatClampNeg, .inl (fun _ => 0)) : pE)]).length - h.length = 1 := by simp
        have e2 : p_S (h ++ [(.inl (.boolean, n.toNatClampNeg, .inl (fun _ => 0)) : pE)]) - p_S h = n.toNatClampNeg := by rw [p_S_app]; simp [p_S, p_sz]
        rw [e1] at hc1
        rw [e2] at hc2
        exact s_newa (ty := .boolean) hx hb hK hP hS rfl (hK.2 2 _ rfl).2 (hts _ p_arr_boolean) (fun cI => rfl) hC.1 (Nat.le_trans (Nat.mul_le_mul_left _ (by decide)) hC.2) hc1 hc2 hd (fun H1 hP1 hS1 => kk H1 locs lsA _ _ (by rw [e1]) (by rw [e2]) hP1 hS1 hL)
      | _ => cases hs
    · cases hs
  | new i =>
    dsimp only [p_step, p_len] at hs
    split at hs
    · next ci fs hn =>
      cases hs
      obtain ⟨C, T, N, n, g1, g2, g3, g4, g5, g6, g7, g8⟩ := p_new_ok (base := base) (ex := ex) hn
      have e1 : (h ++ [(.inr (ci, fs) : pE)]).length - h.length = 1 := by simp
      have e2 : p_S (h ++ [(.inr (ci, fs) : pE)]) - p_S h = n := by rw [p_S_app]; simp [p_S, p_sz, g8]
      rw [e1] at hc1
      rw [e2] at hc2
      exact s_new hx hb hts g2 (p_fty ci) g3 hown hK hP hS g1 g4 g5 g6 g7 hc1 hc2 hd (fun H1 hP1 hS1 => kk H1 locs lsA _ _ (by rw [e1]) (by rw [e2]) hP1 hS1 hL)
    · cases hs
  | invokespecial i =>
    dsimp only [p_step, p_len] at hs
    split at hs
    · next he =>
      split at hs
      · next k r =>
        cases hs
        exact s_objInit (mi := mi) (d := d) hx hb hts hown hml hL (p_ext0_ok he) hR hC hd (kk.same hP hS hL)
      · cases hs
    · cases hs
  | getstatic i =>
    dsimp only [p_step, p_len] at hs
    split at hs
    · next hf =>
      cases hs
      rcases p_all2_ok p_statA hf with ⟨-, hl⟩ | ⟨hz, -⟩
      · exact va_gets (C := "java/lang/String") (ref := "java/lang/String") hx hb hX.2.2.2.2.2.2.1 hS hown (hts _ hl) (fun _ h => h) hd (kk.same hP hS hL)
      · cases hz
    · next hf =>
      cases hs
      rcases p_all2_ok p_statA hf with ⟨hz, -⟩ | ⟨-, hl⟩
      · cases hz
      · exact va_gets (C := "jdk/internal/util/Preconditions") (ref := "jdk/internal/util/Preconditions") hx hb hX.2.2.2.2.2.2.2.1 hS hown (hts _ hl) (fun _ h => h) hd (kk.same hP hS hL)
    · cases hs
  | _ =>
    dsimp only [p_step, p_len] at hs
    split at hs
    · next st1 C1 ha => first | (cases ha; done) | (cases hs; exact p_alu_ok hx hb hd ha hC (kk.same hP hS hL))
    · cases hs
end PS3
