/-! ===== what throws, what catches ===== -/
theorem hp_at {z : Nat → Int32} {a : Nat → Nat → Int32} {w : Nat → Nat → Int64} {y : Nat → Int64} {g : List pE} {e : pE} : (hp z a w y (g ++ [e]))[44 + g.length]? = some e := by
  have h : hp z a w y (g ++ [e]) = hp z a w y g ++ [e] := rfl
  rw [h, List.getElem?_append_right (by rw [hp_len]; omega), hp_len, Nat.sub_self]
  rfl
section THROW
variable {X : pX} {d mi pc : Nat} {ls : pL} {st : List Value} {h : List pE} {Q : pR → Prop}
/-- a call that may throw, where nothing is caught -/
theorem r_ct {cm na : Nat} {ins : Instr} {st1 as : List Value} {P : pR → Prop} (hc : p_code mi pc = some (ins, 3)) (hm : p_calls mi ins = some (cm, na)) (hp : p_pop na [] st1 = some (as, st)) (hr : p_recv cm as h = true) (hw : Nat.ble (p_words st) 8 = true) (hh : p_hh mi = []) (hM : p_M X d cm as h P) (k : ∀ v h1, P (.inl v, h1) → p_E X (d + 1) mi (pc + 3) ls (v.toList ++ st) h1 Q) (kt : ∀ x h1, P (.inr x, h1) → Q (.inr x, h1)) : p_E X (d + 1) mi pc ls st1 h Q := by
  refine R_call hc hm hp (by rw [hr, hw]; rfl) (hM.mono (fun q e => ?_))
  obtain ⟨q1, h1⟩ := q
  cases q1 with
  | inl v => exact k v h1 e
  | inr x =>
    dsimp only
    have : p_hdl mi pc x h1 = none := by
      unfold p_hdl
      rw [hh]
      cases h1[x]? with
      | none => rfl
      | some c =>
        cases c with
        | inl _ => rfl
        | inr c => obtain ⟨ci, _⟩ := c; dsimp only; cases p_exk ci <;> rfl
    rw [this]
    exact ⟨hh, kt x h1 e⟩
/-- a call that may throw, where it is caught -/
theorem r_ch {cm na : Nat} {ins : Instr} {st1 as : List Value} {P : pR → Prop} (hc : p_code mi pc = some (ins, 3)) (hm : p_calls mi ins = some (cm, na)) (hp : p_pop na [] st1 = some (as, st)) (hr : p_recv cm as h = true) (hw : Nat.ble (p_words st) 8 = true) (hM : p_M X d cm as h P) (k : ∀ v h1, P (.inl v, h1) → p_E X (d + 1) mi (pc + 3) ls (v.toList ++ st) h1 Q) (kt : ∀ x h1, P (.inr x, h1) → ∃ t, p_hdl mi pc x h1 = some t ∧ p_E X (d + 1) mi t ls [.ref x] h1 Q) : p_E X (d + 1) mi pc ls st1 h Q := by
  refine R_call hc hm hp (by rw [hr, hw]; rfl) (hM.mono (fun q e => ?_))
  obtain ⟨q1, h1⟩ := q
  cases q1 with
  | inl v => exact k v h1 e
  | inr x =>
    dsimp only
    obtain ⟨t, ht, hE⟩ := kt x h1 e
    rw [ht]
    exact hE
theorem hdl_of {z : Nat → Int32} {a : Nat → Nat → Int32} {w : Nat → Nat → Int64} {y : Nat → Int64} {g : List pE} {ci t : Nat} (hk : p_exk ci = true) (hf : p_hfind ci pc (p_hh mi) = some t) : p_hdl mi pc (44 + g.length) (hp z a w y (g ++ [.inr (ci, [])])) = some t := by
  unfold p_hdl
  rw [hp_at]
  dsimp only
  rw [hk]
  exact hf
end THROW
/-- a class method's answer: a value, or what it throws -/
def AN (z : Nat → Int32) (y : Nat → Int64) (g : List pE) (E : (Nat → Nat → Int32) → (Nat → Nat → Int64) → Prop) (res : Nat ⊕ Value) (q : pR) : Prop := match res with
  | .inr v => ∃ a' w', q = (.inl (some v), hp z a' w' y g) ∧ E a' w'
  | .inl ci => ∃ a' w', q = (.inr (44 + g.length), hp z a' w' y (g ++ [.inr (ci, [])])) ∧ E a' w'
/-- values alone change -/
def EV (a : Nat → Nat → Int32) (w : Nat → Nat → Int64) (a' : Nat → Nat → Int32) (w' : Nat → Nat → Int64) : Prop := (∀ j, j ≠ 12 → a' j = a j) ∧ ∀ j, j ≠ 1 → w' j = w j
/-- what the whole rate comes to -/
def rtS (um : Nat → Option Nat) (pc : Nat) (ns : List pN) : Nat ⊕ Nat := if ns = [] then .inl 8 else match VAL um pc ns with
  | none => .inl 9
  | some x => .inr (if 0 < x then x.toInt.toNat else 0)
theorem rtS_lt {um : Nat → Option Nat} {pc : Nat} {ns : List pN} {m : Nat} (h : rtS um pc ns = .inr m) : m < 9223372036854775808 := by
  unfold rtS at h
  split at h
  · cases h
  · split at h
    · cases h
    · next x _ =>
      injection h with h
      rw [← h]
      have := Int64.toInt_lt x
      split <;> omega
section THROW2
variable {X : pX} {z : Nat → Int32} {a : Nat → Nat → Int32} {w : Nat → Nat → Int64} {y : Nat → Int64} {g : List pE} {A : Nat → Option Nat} {M G : Nat → Nat} {ns : List pN} {pc r : Nat}
theorem M_workOut (hT : TW ns) (hl : ns.length ≤ 60) (h1 : z 1 = nI ns.length) (hU : UNI a w A M G) (hR : Rp a r 0 ns) (hr : r ≤ 300) (hpc : pc ≤ 100000000) : p_M X 2 65 [.ref 17, .ref 1, .ref 13, .long (nL pc)] (hp z a w y g) (fun q => ∃ a' w', q = (.inl none, hp z a' w' y g) ∧ (∀ j, j ≠ 12 → a' j = a j) ∧ (∀ j, j ≠ 1 → w' j = w j) ∧ ∀ j, j < ns.length → kv a' w' (vj (umF A M G) pc ns j) j) := by
  refine (r_in xin_65 (r_aln xc_65_0 rfl (r_get xc_65_1 xf_65_19 g_2_10 (r_ic xc_65_4 kc_1 (r_isub xc_65_5 (r_is [_, _, _, _, _, _] xc_65_6 rfl rfl ?_))))))
  rw [h1]
  exact L_work hT hl hU hR hr hpc ns.length a w (Nat.le_refl _) (fun _ _ => rfl) (fun _ _ => rfl) (fun j h1 h2 => by omega)
theorem M_nodeMic {i : Nat} (hT : TW ns) (hl : ns.length ≤ 60) (h1 : z 1 = nI ns.length) (hU : UNI a w A M G) (hR : Rp a r 0 ns) (hr : r ≤ 300) (hy : y 0 = nL pc) (hpc : pc ≤ 100000000) (hi : i < ns.length) : p_M X 8 64 [.ref 0, .int (nI i)] (hp z a w y g) (AN z y g (EV a w) (match vj (umF A M G) pc ns i with
    | none => .inl 9
    | some x => .inr (.long x))) := by
  refine (r_in xin_64 (r_aln xc_64_0 rfl (r_get xc_64_1 xf_64_35 g_5_3 (r_aln xc_64_4 rfl (r_get xc_64_5 xf_64_12 g_5_0 (r_aln xc_64_8 rfl (r_get xc_64_9 xf_64_28 g_5_2 (r_aln xc_64_12 rfl (r_get xc_64_13 xf_64_46 g_5_5 ?_)))))))))
  rw [hy]
  refine (r_cq xc_64_16 xm_64_16 rfl xrc_65 rfl (p_M.up (M_workOut hT hl h1 hU hR hr hpc) (by omega)) (fun v h1 hP => ?_) (fun _ _ h => by first | (obtain ⟨_, he, _⟩ := h; cases he; done) | (obtain ⟨_, he⟩ := h; cases he; done) | (obtain ⟨_, _, he, _⟩ := h; cases he; done) | (obtain ⟨_, _, _, he, _⟩ := h; cases he; done) | (simp only [Prod.mk.injEq, reduceCtorEq, false_and, exists_false] at h)))
  obtain ⟨a', w', he, e1, e2, e3⟩ := hP
  cases he
  have hk := e3 i hi
  have n1 := kv01 hk
  refine (r_aln xc_64_19 rfl (r_get xc_64_20 xf_64_35 g_5_3 (r_get xc_64_23 xf_64_179 g_4_1 (r_iln xc_64_26 rfl (r_ba xc_64_27 b_19 ?_ (r_zne xc_64_28 xj_64_28 (fun hc28 => (r_th xc_64_31 xth_64_31 xhh_64 (by omega) (by decide) ?_)) (fun hc28 => (r_aln xc_64_41 rfl (r_get xc_64_42 xf_64_35 g_5_3 (r_get xc_64_45 xf_64_188 g_4_0 (r_iln xc_64_48 rfl (r_la xc_64_49 b_18 ?_ (r_rl xc_64_50 xrt_64 ?_)))))))))))))
  · exact kI_in (by omega) (by omega)
  · rw [kI_cl (by omega), n1] at hc28
    rw [hc28]
    exact ⟨a', w', rfl, e1, e2⟩
  · exact kI_in (by omega) (by omega)
  · rw [kI_cl (by omega)] at hc28
    rw [kvx hk hc28, kI_cl (by omega)]
    exact ⟨a', w', rfl, e1, e2⟩
theorem AN.val {E : (Nat → Nat → Int32) → (Nat → Nat → Int64) → Prop} {res : Nat ⊕ Value} {v : Option Value} {h1 : List pE} (h : AN z y g E res (.inl v, h1)) : ∃ x a' w', res = .inr x ∧ v = some x ∧ h1 = hp z a' w' y g ∧ E a' w' := by
  cases res with
  | inl ci => obtain ⟨a', w', e, _⟩ := h; injection e with e1 e2; cases e1
  | inr x => obtain ⟨a', w', e, hE⟩ := h; injection e with e1 e2; injection e1 with e1; exact ⟨x, a', w', rfl, e1, e2, hE⟩
theorem AN.thr {E : (Nat → Nat → Int32) → (Nat → Nat → Int64) → Prop} {res : Nat ⊕ Value} {x : Nat} {h1 : List pE} (h : AN z y g E res (.inr x, h1)) : ∃ ci a' w', res = .inl ci ∧ x = 44 + g.length ∧ h1 = hp z a' w' y (g ++ [.inr (ci, [])]) ∧ E a' w' := by
  cases res with
  | inl ci => obtain ⟨a', w', e, hE⟩ := h; injection e with e1 e2; injection e1 with e1; exact ⟨ci, a', w', rfl, e1, e2, hE⟩
  | inr x => obtain ⟨a', w', e, _⟩ := h; injection e with e1 e2; cases e1
theorem M_rateMic (hT : ns = [] ∨ TW ns) (hl : ns.length ≤ 60) (h1 : z 1 = nI ns.length) (hU : UNI a w A M G) (hR : Rp a r 0 ns) (hr : r ≤ 300) (hy : y 0 = nL pc) (hpc : pc ≤ 100000000) : p_M X 9 63 [.ref 0] (hp z a w y g) (AN z y g (EV a w) (match rtS (umF A M G) pc ns with
    | .inl ci => .inl ci
    | .inr m => .inr (.long (nL m)))) := by
  refine (r_in xin_63 (r_aln xc_63_0 rfl (r_get xc_63_1 xf_63_12 g_5_0 (r_get xc_63_4 xf_63_134 g_2_10 (r_zne xc_63_7 xj_63_7 (fun hc7 => (r_th xc_63_10 xth_63_10 xhh_63 (by omega) (by decide) ?_)) (fun hc7 => (r_lc xc_63_20 kl_0 (r_aln xc_63_21 rfl (r_ic xc_63_22 kc_0 ?_)))))))))
  · rw [h1, kI_inj (by omega) (by omega)] at hc7
    have hn : ns = [] := List.length_eq_zero_iff.mp hc7
    unfold rtS
    rw [if_pos hn]
    exact ⟨a, w, rfl, fun _ _ => rfl, fun _ _ => rfl⟩
  · rw [h1, kI_inj (by omega) (by omega)] at hc7
    have hn : ¬ ns = [] := fun h => hc7 (by rw [h]; rfl)
    have hT : TW ns := hT.elim (fun h => absurd h hn) id
    refine r_ct xc_63_23 xm_63_23 rfl xrc_64 rfl xhh_63 (M_nodeMic (i := 0) hT hl h1 hU hR hr hy hpc (by omega)) (fun v h1 hP => ?_) (fun x h1 hP => ?_)
    · obtain ⟨x, a', w', e1, e2, e3, hE⟩ := hP.val
      subst e2
      subst e3
      rw [vj_0 hT hl] at e1
      unfold rtS
      rw [if_neg hn]
      cases hV : VAL (umF A M G) pc ns with
      | none => rw [hV] at e1; cases e1
      | some u =>
        rw [hV] at e1
        injection e1 with e1
        subst e1
        refine (r_cv xc_63_26 xm_63_26 rfl xrc_69 rfl (p_M.up (d' := 8) M_maxL (by omega)) (r_rl xc_63_29 xrt_63 ?_))
        refine ⟨a', w', ?_, hE⟩
        have e : (if (0 : Int64) < u then u else 0) = nL (if 0 < u then u.toInt.toNat else 0) := by
          by_cases h : (0 : Int64) < u
          · rw [if_pos h, if_pos h]
            rw [Int64.lt_iff_toInt_lt] at h
            have e0 : (0 : Int64).toInt = 0 := by decide
            exact kL_of (by omega)
          · rw [if_neg h, if_neg h]; exact nL_0
        rw [e]
    · obtain ⟨ci, a', w', e1, e2, e3, hE⟩ := hP.thr
      subst e2
      subst e3
      rw [vj_0 hT hl] at e1
      unfold rtS
      rw [if_neg hn]
      cases hV : VAL (umF A M G) pc ns with
      | none => rw [hV] at e1; injection e1 with e1; subst e1; exact ⟨a', w', rfl, hE⟩
      | some u => rw [hV] at e1; cases e1
end THROW2
