/-! ===== printing: the class's call; the model's leaves ===== -/
abbrev hm (z : Nat → Int32) (a : Nat → Nat → Int32) (w : Nat → Nat → Int64) (y : Nat → Int64) (g : List pE) (L : Nat) (l : List Nat) : List pE := hp (u_ z 17 (nI (L + l.length))) (u_ a 31 (apF (a 31) L l)) w y g
def wby (w : Int64) (k : Nat) : Int64 := (w.toUInt64 >>> ((nI (8 * k)).toInt64.toUInt64 &&& Int64.toUInt64 63)).toInt64 &&& 255
def wbOk (w : Int64) (bs : List Nat) : Prop := ∀ k, k < 8 → wby w k = nL (bs.getD k 0) ∧ (wby w k).toInt32 = nI (bs.getD k 0) ∧ bs.getD k 0 < 256
def wo (bs : List Nat) : Nat → List Nat
  | 0 => []
  | k + 1 => (if bs.getD k 0 = 0 then [] else [bs.getD k 0]) ++ wo bs k
theorem wb_free : wbOk 1718773093 [101, 101, 114, 102] := by unfold wbOk; decide +kernel
theorem wb_min : wbOk 1835626024 [40, 110, 105, 109] := by unfold wbOk; decide +kernel
theorem wb_max : wbOk 1835104296 [40, 120, 97, 109] := by unfold wbOk; decide +kernel
theorem wb_step : wbOk 495874043944 [40, 112, 101, 116, 115] := by unfold wbOk; decide +kernel
section MPRINT
variable {X : pX} {z : Nat → Int32} {a : Nat → Nat → Int32} {w : Nat → Nat → Int64} {y : Nat → Int64} {g : List pE} {L : Nat} {ns : List pN} {r : Nat}
theorem M_printTree (hT : TW ns) (hl : ns.length ≤ 60) (h1 : z 1 = nI ns.length) (hR : Rp a r 0 ns) (hr : r ≤ 300) (hp9 : (PR ns).length ≤ 900) : p_M X 67 79 [.ref 20, .ref 1] (hp z a w y g) (fun q => q = (.inl (some (.int (nI (PR ns).length))), hc z a w y g 0 (PR ns))) := by
  refine (r_in xin_79 (r_aln xc_79_0 rfl (r_ic xc_79_1 kc_0 (r_put xc_79_2 xf_79_15 rfl s_0_1 (r_aln xc_79_5 rfl (r_aln xc_79_6 rfl (r_ic xc_79_7 kc_0 (r_ic xc_79_8 kc_0 ?_))))))))
  have e : hp (u_ z 6 (nI 0)) a w y g = hc z a w y g 0 [] := by
    show _ = hp (u_ z 6 (nI (0 + 0))) (u_ a 13 (apF (a 13) 0 [])) w y g
    rw [apF_nil, u_id]
  rw [e]
  refine (r_c0 xc_79_9 xm_79_9 rfl xrc_80 rfl ((P_node (N := ns.length) h1 hl hr hT 66 0 0 [] (by omega) hR (by omega) (by omega) (by rw [List.nil_append]; omega))) (r_aln xc_79_12 rfl (r_get xc_79_13 xf_79_15 g_0_1 (r_ri xc_79_16 xrt_79 ?_))))
  rw [List.nil_append]
  have e2 : u_ z 6 (nI (0 + (PR ns).length)) 6 = nI (PR ns).length := by
    show nI (0 + (PR ns).length) = _
    rw [Nat.zero_add]
  rw [e2]
/-- print's answer -/
def prS (ns : List pN) : Nat ⊕ Nat := if ns = [] then .inl 8 else .inr (PR ns).length
theorem M_hPrint (hT : ns = [] ∨ TW ns) (hl : ns.length ≤ 60) (h1 : z 1 = nI ns.length) (hR : Rp a r 0 ns) (hr : r ≤ 300) (hp9 : (PR ns).length ≤ 900) : p_M X 69 77 [.ref 0, .ref 43] (hp z a w y g) (fun q => (ns = [] → q = (.inl (some (.int (nI 1))), hp z a w y (g ++ [.inr (8, [])]))) ∧ (¬ ns = [] → q = (.inl (some (.int (nI 0))), hp (u_ z 6 (nI (0 + (PR ns).length))) (u_ a 13 (apF (a 13) 0 (PR ns))) (u_ w 4 (vp_updL (w 4) 0 (nL (PR ns).length))) y g))) := by
  have key : p_M X 68 78 [.ref 0] (hp z a w y g) (fun q => (ns = [] → q = (.inr (44 + g.length), hp z a w y (g ++ [.inr (8, [])]))) ∧ (¬ ns = [] → q = (.inl (some (.int (nI (PR ns).length))), hc z a w y g 0 (PR ns)))) := by
    refine (r_in xin_78 (r_aln xc_78_0 rfl (r_get xc_78_1 xf_78_12 g_5_0 (r_get xc_78_4 xf_78_134 g_2_10 (r_zne xc_78_7 xj_78_7 (fun hc7 => (r_th xc_78_10 xth_78_10 xhh_78 (by omega) (by decide) ?_)) (fun hc7 => (r_aln xc_78_20 rfl (r_get xc_78_21 xf_78_42 g_5_4 (r_aln xc_78_24 rfl (r_get xc_78_25 xf_78_12 g_5_0 ?_))))))))))
    · rw [h1, kI_inj (by omega) (by omega)] at hc7
      have hn : ns = [] := List.length_eq_zero_iff.mp hc7
      exact ⟨fun _ => rfl, fun h => absurd hn h⟩
    · rw [h1, kI_inj (by omega) (by omega)] at hc7
      have hn : ¬ ns = [] := fun h => hc7 (by rw [h]; rfl)
      have hT : TW ns := hT.elim (fun h => absurd h hn) id
      refine (r_cv xc_78_28 xm_78_28 rfl xrc_79 rfl ((M_printTree hT hl h1 hR hr hp9)) (r_ri xc_78_31 xrt_78 ?_))
      exact ⟨fun h => absurd h hn, fun _ => rfl⟩
  refine (r_in xin_77 (r_aln xc_77_0 rfl (r_ic xc_77_1 kc_0 (r_aln xc_77_2 rfl ?_))))
  by_cases hn : ns = []
  · refine r_ch xc_77_3 xm_77_3 rfl xrc_78 rfl key (fun v h1 hP => ?_) (fun x h1 hP => ?_)
    · have := hP.1 hn
      injection this with e1 e2
      cases e1
    · have := hP.1 hn
      injection this with e1 e2
      injection e1 with e1
      subst e1
      subst e2
      refine ⟨11, hdl_of rfl (by rw [xhh_77]; rfl), ?_⟩
      refine (r_asn [_, _, _] xc_77_11 rfl rfl (r_ic xc_77_12 kc_1 (r_ri xc_77_13 xrt_77 ?_)))
      exact ⟨fun _ => rfl, fun h => absurd hn h⟩
  · refine r_ch xc_77_3 xm_77_3 rfl xrc_78 rfl key (fun v h1 hP => ?_) (fun x h1 hP => ?_)
    · have := hP.2 hn
      injection this with e1 e2
      injection e1 with e1
      subst e1
      subst e2
      refine (r_i2l xc_77_6 (r_las xc_77_7 b_43 t_43 ?_ (r_go xc_77_8 xj_77_8 (r_ic xc_77_14 kc_0 (r_ri xc_77_15 xrt_77 ?_)))))
      · exact kI_in (by omega) (by omega)
      · rw [kI_i2l (by omega)]
        exact ⟨fun h => absurd h hn, fun _ => rfl⟩
    · have := hP.2 hn
      injection this with e1 e2
      cases e1
/-! the model's leaves -/
theorem Q_put {l : List Nat} {c : Nat} (hL : L + l.length < 3000) : p_M X 0 134 [.ref 22, .int (nI c)] (hm z a w y g L l) (fun q => q = (.inl none, hm z a w y g L (l ++ [c]))) := by
  have e6 : u_ z 17 (nI (L + l.length)) 17 = nI (L + l.length) := rfl
  refine (r_in xin_134 (r_aln xc_134_0 rfl (r_get xc_134_1 xf_134_68 g_6_30 (r_aln xc_134_4 rfl (r_get xc_134_5 xf_134_232 g_6_31 (r_iln xc_134_8 rfl (r_ias xc_134_9 b_42 t_42 ?_ (r_aln xc_134_10 rfl (r_dup xc_134_11 rfl (r_get xc_134_12 xf_134_232 g_6_31 (r_ic xc_134_15 kc_1 (r_iadd xc_134_16 (r_put xc_134_17 xf_134_232 rfl s_6_31 (r_r0 xc_134_20 xrt_134 ?_))))))))))))))
  · rw [e6]; exact kI_in (by omega) (by omega)
  · rw [e6, kI_add, u_u, u_u, kI_cl (by omega)]
    show _ = (Sum.inl none, hp (u_ z 17 (nI (L + (l ++ [c]).length))) (u_ a 31 (apF (a 31) L (l ++ [c]))) w y g)
    rw [apF_snoc, List.length_append]
    rfl
theorem L_word2 {ww : Int64} {bs : List Nat} (hb : wbOk ww bs) : ∀ k l, k ≤ 8 → L + (l ++ wo bs k).length ≤ 2000 → p_E X 1 136 3 [some (.ref 22), some (.long ww), none, some (.int (nI (8 * k) - nI 8))] [] (hm z a w y g L l) (fun q => q = (.inl none, hm z a w y g L (l ++ wo bs k))) := by
  intro k
  induction k with
  | zero =>
    intro l hk hL
    have e : nI (8 * 0) - nI 8 = -8 := by decide
    rw [e]
    have e2 : l ++ wo bs 0 = l := List.append_nil l
    rw [e2]
    refine (r_iln xc_136_3 rfl (r_zlt xc_136_4 xj_136_4 (fun hc4 => (r_r0 xc_136_37 xrt_136 ?_)) (fun hc4 => (r_lln xc_136_7 rfl (r_iln xc_136_8 rfl (r_lushr xc_136_9 (r_ldl xc_136_10 xl_136_138 (r_land xc_136_13 (r_lc xc_136_14 kl_0 (r_leq xc_136_15 xc_136_16 xj_136_16 (fun hc16 => (r_inc [_, _, _, _] xc_136_31 rfl rfl (ki_m8 _) rfl (r_go xc_136_34 xj_136_34 ?_))) (fun hc16 => (r_aln xc_136_19 rfl (r_lln xc_136_20 rfl (r_iln xc_136_21 rfl (r_lushr xc_136_22 (r_ldl xc_136_23 xl_136_138 (r_land xc_136_26 (r_l2i xc_136_27 ?_))))))))))))))))))
    · rfl
    all_goals exact absurd (by decide) hc4
  | succ k ih =>
    intro l hk hL
    have e : nI (8 * (k + 1)) - nI 8 = nI (8 * k) := by rw [kI_sub (by omega)]; congr 1
    rw [e]
    obtain ⟨b1, b2, b3⟩ := hb k (by omega)
    have hwo : wo bs (k + 1) = (if bs.getD k 0 = 0 then [] else [bs.getD k 0]) ++ wo bs k := rfl
    rw [hwo] at hL ⊢
    refine (r_iln xc_136_3 rfl (r_zlt xc_136_4 xj_136_4 (fun hc4 => (r_r0 xc_136_37 xrt_136 ?_)) (fun hc4 => (r_lln xc_136_7 rfl (r_iln xc_136_8 rfl (r_lushr xc_136_9 (r_ldl xc_136_10 xl_136_138 (r_land xc_136_13 (r_lc xc_136_14 kl_0 (r_leq xc_136_15 xc_136_16 xj_136_16 (fun hc16 => (r_inc [_, _, _, _] xc_136_31 rfl rfl (ki_m8 _) rfl (r_go xc_136_34 xj_136_34 ?_))) (fun hc16 => (r_aln xc_136_19 rfl (r_lln xc_136_20 rfl (r_iln xc_136_21 rfl (r_lushr xc_136_22 (r_ldl xc_136_23 xl_136_138 (r_land xc_136_26 (r_l2i xc_136_27 ?_))))))))))))))))))
    · exact absurd hc4 (kI_neg (by omega))
    · have hc16 : wby ww k = 0 := hc16
      rw [b1, nL_0, kL_inj (by omega) (by omega)] at hc16
      rw [if_pos hc16, List.nil_append] at hL ⊢
      exact ih l (by omega) hL
    · have hc16 : ¬ wby ww k = 0 := hc16
      rw [b1, nL_0, kL_inj (by omega) (by omega)] at hc16
      rw [if_neg hc16] at hL ⊢
      have e2 : ((ww.toUInt64 >>> ((nI (8 * k)).toInt64.toUInt64 &&& Int64.toUInt64 63)).toInt64 &&& 255).toInt32 = nI (bs.getD k 0) := b2
      rw [e2]
      simp only [List.length_append, List.length_cons, List.length_nil] at hL
      refine (r_c0 xc_136_28 xm_136_28 rfl xrc_134 rfl (Q_put (by omega)) (r_inc [_, _, _, _] xc_136_31 rfl rfl (ki_m8 _) rfl (r_go xc_136_34 xj_136_34 ?_)))
      have := ih (l ++ [bs.getD k 0]) (by omega) (by simp only [List.length_append, List.length_cons, List.length_nil]; omega)
      rw [List.append_assoc] at this
      exact this
theorem Q_word {ww : Int64} {bs t l : List Nat} (hb : wbOk ww bs) (ht : wo bs 8 = t) (hL : L + (l ++ t).length ≤ 2000) : p_M X 1 136 [.ref 22, .long ww] (hm z a w y g L l) (fun q => q = (.inl none, hm z a w y g L (l ++ t))) := by
  subst ht
  refine (r_in xin_136 (r_bi xc_136_0 kb_56 (r_isn [_, _, _, _] xc_136_2 rfl rfl ?_)))
  exact L_word2 hb 8 l (by omega) hL
theorem p10 {j : Nat} (hj : j ≤ 5) : 10 ^ j ≤ 100000 ∧ 1 ≤ 10 ^ j := ⟨Nat.le_trans (Nat.pow_le_pow_right (by omega) hj) (by decide), Nat.one_le_pow _ _ (by omega)⟩
theorem L_mw2 {x : Nat} {x2 : Int32} (hx : x < 1000000) : ∀ j l, j ≤ 5 → L + (l ++ pd j x).length ≤ 2000 → p_E X 1 138 20 [some (.ref 22), some (.int (nI x)), some (.int x2), some (.int (nI (10 ^ j)))] [] (hm z a w y g L l) (fun q => q = (.inl none, hm z a w y g L (l ++ pd j x))) := by
  intro j
  induction j with
  | zero =>
    intro l hj hL
    have fin : ∀ l', p_E X 1 138 20 [some (.ref 22), some (.int (nI x)), some (.int x2), some (.int (nI (10 ^ 0) / nI 10))] [] (hm z a w y g L l') (fun q => q = (.inl none, hm z a w y g L l')) := by
      intro l'
      have e : nI (10 ^ 0) / nI 10 = nI 0 := by decide
      rw [e]
      refine (r_iln xc_138_20 rfl (r_zle xc_138_21 xj_138_21 (fun hc21 => (r_aln xc_138_24 rfl (r_bi xc_138_25 kb_48 (r_iln xc_138_27 rfl (r_iln xc_138_28 rfl (r_idiv xc_138_29 ?_ (r_bi xc_138_30 kb_10 (r_irem xc_138_32 (by decide) (r_iadd xc_138_33 ?_))))))))) (fun hc21 => (r_r0 xc_138_45 xrt_138 ?_))))
      · exact absurd hc21 (by decide)
      · exact absurd hc21 (by decide)
      · rfl
    have e1 : nI 48 + (nI x / nI (10 ^ 0) - nI x / nI (10 ^ 0) / nI 10 * nI 10) = nI (48 + x % 10) := by
      rw [kI_div (by omega) (by decide), kI_rem (by simp; omega) (by decide), kI_add, Nat.pow_zero, Nat.div_one]
    have hL2 : L + l.length + 1 ≤ 2000 := by
      have : (pd 0 x).length = 1 := rfl
      rw [List.length_append, this] at hL; omega
    refine (r_iln xc_138_20 rfl (r_zle xc_138_21 xj_138_21 (fun hc21 => (r_aln xc_138_24 rfl (r_bi xc_138_25 kb_48 (r_iln xc_138_27 rfl (r_iln xc_138_28 rfl (r_idiv xc_138_29 ?_ (r_bi xc_138_30 kb_10 (r_irem xc_138_32 (by decide) (r_iadd xc_138_33 ?_))))))))) (fun hc21 => (r_r0 xc_138_45 xrt_138 ?_))))
    · decide
    · rw [e1]
      refine (r_c0 xc_138_34 xm_138_34 rfl xrc_134 rfl (Q_put (by omega)) (r_iln xc_138_37 rfl (r_bi xc_138_38 kb_10 (r_idiv xc_138_40 (by decide) (r_isn [_, _, _, _] xc_138_41 rfl rfl (r_go xc_138_42 xj_138_42 ?_))))))
      exact fin _
    · exact absurd (by decide) hc21
  | succ j ih =>
    intro l hj hL
    obtain ⟨p1, p2⟩ := p10 hj
    have hp10 : 10 ^ (j + 1) = 10 ^ j * 10 := Nat.pow_succ 10 j
    have ed : nI (10 ^ (j + 1)) / nI 10 = nI (10 ^ j) := by
      rw [kI_div (by omega) (by omega)]
      congr 1
      omega
    have hcp : pd (j + 1) x = (48 + x / 10 ^ (j + 1) % 10) :: pd j x := rfl
    rw [hcp] at hL ⊢
    have e1 : nI 48 + (nI x / nI (10 ^ (j + 1)) - nI x / nI (10 ^ (j + 1)) / nI 10 * nI 10) = nI (48 + x / 10 ^ (j + 1) % 10) := by
      rw [kI_div (by omega) (by omega), kI_rem (Nat.lt_of_le_of_lt (Nat.div_le_self _ _) (by omega)) (by omega), kI_add]
    simp only [List.length_append, List.length_cons] at hL
    refine (r_iln xc_138_20 rfl (r_zle xc_138_21 xj_138_21 (fun hc21 => (r_aln xc_138_24 rfl (r_bi xc_138_25 kb_48 (r_iln xc_138_27 rfl (r_iln xc_138_28 rfl (r_idiv xc_138_29 ?_ (r_bi xc_138_30 kb_10 (r_irem xc_138_32 (by decide) (r_iadd xc_138_33 ?_))))))))) (fun hc21 => (r_r0 xc_138_45 xrt_138 ?_))))
    · exact nI_nz (by omega) (by omega)
    · rw [e1]
      refine (r_c0 xc_138_34 xm_138_34 rfl xrc_134 rfl (Q_put (by omega)) (r_iln xc_138_37 rfl (r_bi xc_138_38 kb_10 (r_idiv xc_138_40 (by decide) (r_isn [_, _, _, _] xc_138_41 rfl rfl (r_go xc_138_42 xj_138_42 ?_))))))
      rw [ed]
      have := ih (l ++ [48 + x / 10 ^ (j + 1) % 10]) (by omega) (by simp only [List.length_append, List.length_cons, List.length_nil]; omega)
      rw [List.append_assoc] at this
      exact this
    · exact absurd ((kI_lt (by omega) (by omega)).mpr (by omega)) hc21
theorem L_mw1 {x : Nat} {l : List Nat} (hx : x < 1000000) (hL : L + (l ++ dW x).length ≤ 2000) : ∀ r j, j + r = 5 → (j = 0 ∨ 10 ^ j ≤ x) → p_E X 1 138 2 [some (.ref 22), some (.int (nI x)), some (.int (nI (10 ^ j))), none] [] (hm z a w y g L l) (fun q => q = (.inl none, hm z a w y g L (l ++ dW x))) := by
  intro r
  induction r with
  | zero =>
    intro j hj hx2
    have : j = 5 := by omega
    subst this
    have ed : nI x / nI (10 ^ 5) = nI (x / 10 ^ 5) := kI_div (by omega) (by decide)
    have hd : x / 10 ^ 5 < 10 := (Nat.div_lt_iff_lt_mul (by decide)).mpr (by omega)
    refine (r_iln xc_138_2 rfl (r_iln xc_138_3 rfl (r_idiv xc_138_4 ?_ (r_bi xc_138_5 kb_9 (r_cle xc_138_7 xj_138_7 (fun hc7 => (r_iln xc_138_10 rfl (r_bi xc_138_11 kb_10 (r_imul xc_138_13 (r_isn [_, _, _, _] xc_138_14 rfl rfl (r_go xc_138_15 xj_138_15 ?_)))))) (fun hc7 => (r_iln xc_138_18 rfl (r_isn [_, _, _, _] xc_138_19 rfl rfl ?_))))))))
    · decide
    · rw [ed, kI_lt (by omega) (by omega)] at hc7; omega
    · rw [← pd_dW (Nat.le_refl 5) hx2 (by omega)] at hL ⊢
      exact L_mw2 hx 5 l (Nat.le_refl 5) hL
  | succ r ih =>
    intro j hj hx2
    obtain ⟨p1, p2⟩ := p10 (show j ≤ 5 by omega)
    have ed : nI x / nI (10 ^ j) = nI (x / 10 ^ j) := kI_div (by omega) (by omega)
    have hdl : x / 10 ^ j < 2147483648 := Nat.lt_of_le_of_lt (Nat.div_le_self _ _) (by omega)
    refine (r_iln xc_138_2 rfl (r_iln xc_138_3 rfl (r_idiv xc_138_4 ?_ (r_bi xc_138_5 kb_9 (r_cle xc_138_7 xj_138_7 (fun hc7 => (r_iln xc_138_10 rfl (r_bi xc_138_11 kb_10 (r_imul xc_138_13 (r_isn [_, _, _, _] xc_138_14 rfl rfl (r_go xc_138_15 xj_138_15 ?_)))))) (fun hc7 => (r_iln xc_138_18 rfl (r_isn [_, _, _, _] xc_138_19 rfl rfl ?_))))))))
    · exact nI_nz (by omega) (by omega)
    · rw [ed, kI_lt (by omega) hdl] at hc7
      rw [kI_mul, ← Nat.pow_succ]
      refine ih (j + 1) (by omega) (Or.inr ?_)
      rw [Nat.pow_succ, Nat.mul_comm]
      exact (Nat.le_div_iff_mul_le (by omega)).mp (by omega)
    · rw [ed, kI_lt (by omega) hdl] at hc7
      have hlt : x < 10 ^ (j + 1) := by
        rw [Nat.pow_succ, Nat.mul_comm]
        exact (Nat.div_lt_iff_lt_mul (by omega)).mp (by omega)
      rw [← pd_dW (by omega) hx2 hlt] at hL ⊢
      exact L_mw2 hx j l (by omega) hL
theorem Q_whole {x : Nat} {l : List Nat} (hx : x < 1000000) (hL : L + (l ++ dW x).length ≤ 2000) : p_M X 1 138 [.ref 22, .int (nI x)] (hm z a w y g L l) (fun q => q = (.inl none, hm z a w y g L (l ++ dW x))) := by
  refine (r_in xin_138 (r_ic xc_138_0 kc_1 (r_isn [_, _, _, _] xc_138_1 rfl rfl ?_)))
  exact L_mw1 hx hL 5 0 (by omega) (Or.inl rfl)
def tj (j : Nat) : Nat := match j with
  | 0 => 0
  | j + 1 => 10 ^ j
theorem L_mfrac {x1 : Int32} : ∀ j r l, j ≤ 3 → r < 1000 → L + (l ++ mf j r).length ≤ 2000 → p_E X 2 139 29 [some (.ref 22), some (.int x1), some (.int (nI r)), some (.int (nI (tj j)))] [] (hm z a w y g L l) (fun q => q = (.inl none, hm z a w y g L (l ++ mf j r))) := by
  intro j
  induction j with
  | zero =>
    intro r l hj hr hL
    refine (r_iln xc_139_29 rfl (r_zle xc_139_30 xj_139_30 (fun hc30 => (r_iln xc_139_33 rfl (r_zle xc_139_34 xj_139_34 (fun hc34 => (r_aln xc_139_37 rfl (r_bi xc_139_38 kb_48 (r_iln xc_139_40 rfl (r_iln xc_139_41 rfl (r_idiv xc_139_42 ?_ (r_iadd xc_139_43 ?_))))))) (fun hc34 => (r_r0 xc_139_59 xrt_139 ?_))))) (fun hc30 => (r_r0 xc_139_59 xrt_139 ?_))))
    · exact absurd hc30 (by decide)
    · exact absurd hc30 (by decide)
    · exact absurd hc30 (by decide)
    · show _ = (Sum.inl none, hm z a w y g L (l ++ []))
      rw [List.append_nil]
  | succ j ih =>
    intro r l hj hr hL
    obtain ⟨p1, p2⟩ := p10 (show j ≤ 5 by omega)
    have hmf : mf (j + 1) r = if r = 0 then [] else (48 + r / 10 ^ j) :: mf j (r % 10 ^ j) := rfl
    have ht : tj (j + 1) = 10 ^ j := rfl
    rw [hmf] at hL ⊢
    rw [ht]
    have etj : nI (10 ^ j) / nI 10 = nI (tj j) := by
      rw [kI_div (by omega) (by omega)]
      congr 1
      cases j with
      | zero => rfl
      | succ j =>
        show 10 ^ (j + 1) / 10 = 10 ^ j
        rw [Nat.pow_succ, Nat.mul_div_cancel _ (by omega)]
    refine (r_iln xc_139_29 rfl (r_zle xc_139_30 xj_139_30 (fun hc30 => (r_iln xc_139_33 rfl (r_zle xc_139_34 xj_139_34 (fun hc34 => (r_aln xc_139_37 rfl (r_bi xc_139_38 kb_48 (r_iln xc_139_40 rfl (r_iln xc_139_41 rfl (r_idiv xc_139_42 ?_ (r_iadd xc_139_43 ?_))))))) (fun hc34 => (r_r0 xc_139_59 xrt_139 ?_))))) (fun hc30 => (r_r0 xc_139_59 xrt_139 ?_))))
    · exact nI_nz (by omega) (by omega)
    · rw [kI_lt (by omega) (by omega)] at hc34
      rw [if_neg (by omega)] at hL ⊢
      rw [kI_div (by omega) (by omega), kI_add]
      simp only [List.length_append, List.length_cons] at hL
      refine (r_c0 xc_139_44 xm_139_44 rfl xrc_134 rfl ((p_M.up (Q_put (by omega)) (by omega))) (r_iln xc_139_47 rfl (r_iln xc_139_48 rfl (r_irem xc_139_49 ?_ (r_isn [_, _, _, _] xc_139_50 rfl rfl (r_iln xc_139_51 rfl (r_bi xc_139_52 kb_10 (r_idiv xc_139_54 (by decide) (r_isn [_, _, _, _] xc_139_55 rfl rfl (r_go xc_139_56 xj_139_56 ?_))))))))))
      · exact nI_nz (by omega) (by omega)
      · rw [kI_rem (by omega) (by omega), etj]
        have := ih (r % 10 ^ j) (l ++ [48 + r / 10 ^ j]) (by omega) (Nat.lt_of_le_of_lt (Nat.mod_le _ _) hr) (by simp only [List.length_append, List.length_cons, List.length_nil]; omega)
        rw [List.append_assoc] at this
        exact this
    · rw [kI_lt (by omega) (by omega)] at hc34
      rw [if_pos (by omega), List.append_nil]
    · exact absurd ((kI_lt (by omega) (by omega)).mpr (by omega)) hc30
theorem Q_number {x : Nat} {l : List Nat} (hx : x < 100000000) (hL : L + (l ++ dN x).length ≤ 2000) : p_M X 2 139 [.ref 22, .int (nI x)] (hm z a w y g L l) (fun q => q = (.inl none, hm z a w y g L (l ++ dN x))) := by
  have hN : dN x = dW (x / 1000) ++ dF (x % 1000) := rfl
  rw [hN] at hL ⊢
  rw [mf_dF] at hL ⊢
  refine (r_in xin_139 (r_aln xc_139_0 rfl (r_iln xc_139_1 rfl (r_si xc_139_2 ks_1000 (r_idiv xc_139_5 (by decide) ?_)))))
  rw [kI_div (by omega) (by omega)]
  refine (r_c0 xc_139_6 xm_139_6 rfl xrc_138 rfl ((Q_whole (by omega) (by simp only [List.length_append] at hL ⊢; omega))) (r_iln xc_139_9 rfl (r_si xc_139_10 ks_1000 (r_irem xc_139_13 (by decide) (r_isn [_, _, _, _] xc_139_14 rfl rfl (r_iln xc_139_15 rfl (r_zne xc_139_16 xj_139_16 (fun hc16 => (r_r0 xc_139_19 xrt_139 ?_)) (fun hc16 => (r_aln xc_139_20 rfl (r_bi xc_139_21 kb_46 ?_))))))))))
  · have hc16 : nI x - nI x / nI 1000 * nI 1000 = nI 0 := hc16
    rw [kI_rem (by omega) (by omega), kI_inj (by omega) (by omega)] at hc16
    rw [if_pos hc16, List.append_nil]
  · have hc16 : ¬ nI x - nI x / nI 1000 * nI 1000 = nI 0 := hc16
    rw [kI_rem (by omega) (by omega), kI_inj (by omega) (by omega)] at hc16
    rw [if_neg hc16] at hL ⊢
    rw [kI_rem (by omega) (by omega)]
    simp only [List.length_append, List.length_cons] at hL
    refine (r_c0 xc_139_23 xm_139_23 rfl xrc_134 rfl ((p_M.up (Q_put (by simp only [List.length_append]; omega)) (by omega))) (r_bi xc_139_26 kb_100 (r_isn [_, _, _, _] xc_139_28 rfl rfl ?_)))
    have := L_mfrac (X := X) (z := z) (a := a) (w := w) (y := y) (g := g) (L := L) (x1 := nI x) 3 (x % 1000) (l ++ dW (x / 1000) ++ [46]) (by omega) (by omega) (by simp only [List.length_append, List.length_cons, List.length_nil]; omega)
    have ea : l ++ dW (x / 1000) ++ [46] ++ mf 3 (x % 1000) = l ++ (dW (x / 1000) ++ 46 :: mf 3 (x % 1000)) := by simp
    rw [ea] at this
    exact this
theorem L_msteps {n : Nat} {rs : List (Nat × Nat)} (hn : n < 120) (h6 : rs.length ≤ 6) (h20 : a 20 n = nI rs.length) (hrs : ∀ q ∈ rs, q.1 < 1000000 ∧ q.2 < 1000000) (hr : ∀ k q, rs[k]? = some q → a 21 (6 * n + k) = nI q.1 ∧ a 22 (6 * n + k) = nI q.2) : ∀ r j l, j + r = rs.length → L + (l ++ (dR (decide (j = 0)) (rs.drop j) ++ [41])).length ≤ 2000 →
    p_E X 2 137 19 [some (.ref 22), some (.int (nI n)), some (.int (nI j))] [] (hm z a w y g L l) (fun q => q = (.inl none, hm z a w y g L (l ++ (dR (decide (j = 0)) (rs.drop j) ++ [41])))) := by
  have c20 : ∀ f : Nat → Int32, u_ a 31 f 20 (nI n).toNatClampNeg = nI rs.length := fun _ => by show a 20 (nI n).toNatClampNeg = _; rw [kI_cl (by omega)]; exact h20
  intro r
  induction r with
  | zero =>
    intro j l hj hL
    have hd : rs.drop j = [] := List.drop_eq_nil_of_le (by omega)
    rw [hd] at hL ⊢
    have e : dR (decide (j = 0)) [] = [] := rfl
    rw [e, List.nil_append] at hL ⊢
    simp only [List.length_append, List.length_cons, List.length_nil] at hL
    refine (r_iln xc_137_19 rfl (r_aln xc_137_20 rfl (r_get xc_137_21 xf_137_28 g_6_10 (r_iln xc_137_24 rfl (r_ia xc_137_25 b_29 ?_ (r_cge xc_137_26 xj_137_26 (fun hc26 => (r_aln xc_137_29 rfl (r_iln xc_137_30 rfl (r_zne xc_137_31 xj_137_31 (fun hc31 => (r_bi xc_137_34 kb_58 (r_go xc_137_36 xj_137_36 ?_))) (fun hc31 => (r_bi xc_137_39 kb_44 ?_)))))) (fun hc26 => (r_aln xc_137_92 rfl (r_bi xc_137_93 kb_41 ?_)))))))))
    · exact kI_in (by omega) (by omega)
    · rw [c20, kI_lt (by omega) (by omega)] at hc26; omega
    · rw [c20, kI_lt (by omega) (by omega)] at hc26; omega
    · refine (r_c0 xc_137_95 xm_137_95 rfl xrc_134 rfl ((p_M.up (Q_put (by omega)) (by omega))) (r_r0 xc_137_98 xrt_137 ?_))
      rfl
  | succ r ih =>
    intro j l hj hL
    have hjl : j < rs.length := by omega
    obtain ⟨q, hq⟩ : ∃ q, rs[j]? = some q := ⟨_, List.getElem?_eq_getElem hjl⟩
    obtain ⟨h7, h8⟩ := hr j q hq
    obtain ⟨q1, q2⟩ := hrs q (List.mem_of_getElem? hq)
    have hd : rs.drop j = q :: rs.drop (j + 1) := by
      rw [List.drop_eq_getElem_cons hjl]
      congr 1
      rw [List.getElem?_eq_getElem hjl] at hq
      exact Option.some.inj hq
    have ei : nI 6 * nI n + nI j = nI (6 * n + j) := by rw [kI_mul, kI_add]
    have c7 : ∀ f : Nat → Int32, u_ a 31 f 21 (nI 6 * nI n + nI j).toNatClampNeg = nI q.1 := fun _ => by show a 21 (nI 6 * nI n + nI j).toNatClampNeg = _; rw [ei, kI_cl (by omega)]; exact h7
    have c8 : ∀ f : Nat → Int32, u_ a 31 f 22 (nI 6 * nI n + nI j).toNatClampNeg = nI q.2 := fun _ => by show a 22 (nI 6 * nI n + nI j).toNatClampNeg = _; rw [ei, kI_cl (by omega)]; exact h8
    have eD : ∀ b, dR b (q :: rs.drop (j + 1)) ++ [41] = (if b then 58 else 44) :: 32 :: (dW q.1 ++ 61 :: (dW q.2 ++ (dR (decide (j + 1 = 0)) (rs.drop (j + 1)) ++ [41]))) := by
      intro b
      have : decide (j + 1 = 0) = false := by simp
      rw [this]
      show (if b then 58 else 44) :: 32 :: (dW q.1 ++ 61 :: (dW q.2 ++ dR false (rs.drop (j + 1)))) ++ [41] = _
      simp
    rw [hd, eD] at hL ⊢
    simp only [List.length_append, List.length_cons] at hL
    have body : ∀ c, c = (if decide (j = 0) then 58 else 44) → p_E X 2 137 41 [some (.ref 22), some (.int (nI n)), some (.int (nI j))] [.int (nI c), .ref 22] (hm z a w y g L l) (fun q' => q' = (.inl none, hm z a w y g L (l ++ ((if decide (j = 0) then 58 else 44) :: 32 :: (dW q.1 ++ 61 :: (dW q.2 ++ (dR (decide (j + 1 = 0)) (rs.drop (j + 1)) ++ [41]))))))) := by
      intro c hc'
      rw [← hc']
      refine (r_c0 xc_137_41 xm_137_41 rfl xrc_134 rfl ((p_M.up (Q_put (by omega)) (by omega))) (r_aln xc_137_44 rfl (r_bi xc_137_45 kb_32 ?_)))
      refine (r_c0 xc_137_47 xm_137_47 rfl xrc_134 rfl ((p_M.up (Q_put (by simp only [List.length_append, List.length_cons, List.length_nil]; omega)) (by omega))) (r_aln xc_137_50 rfl (r_aln xc_137_51 rfl (r_get xc_137_52 xf_137_31 g_6_11 (r_bi xc_137_55 kb_6 (r_iln xc_137_57 rfl (r_imul xc_137_58 (r_iln xc_137_59 rfl (r_iadd xc_137_60 (r_ia xc_137_61 b_30 ?_ ?_))))))))))
      · rw [ei]; exact kI_in (by omega) (by omega)
      · rw [c7]
        refine (r_c0 xc_137_62 xm_137_62 rfl xrc_138 rfl ((Q_whole q1 (by simp only [List.length_append, List.length_cons, List.length_nil]; omega))) (r_aln xc_137_65 rfl (r_bi xc_137_66 kb_61 ?_)))
        refine (r_c0 xc_137_68 xm_137_68 rfl xrc_134 rfl ((p_M.up (Q_put (by simp only [List.length_append, List.length_cons, List.length_nil]; omega)) (by omega))) (r_aln xc_137_71 rfl (r_aln xc_137_72 rfl (r_get xc_137_73 xf_137_34 g_6_12 (r_bi xc_137_76 kb_6 (r_iln xc_137_78 rfl (r_imul xc_137_79 (r_iln xc_137_80 rfl (r_iadd xc_137_81 (r_ia xc_137_82 b_31 ?_ ?_))))))))))
        · rw [ei]; exact kI_in (by omega) (by omega)
        · rw [c8]
          refine (r_c0 xc_137_83 xm_137_83 rfl xrc_138 rfl ((Q_whole q2 (by simp only [List.length_append, List.length_cons, List.length_nil]; omega))) (r_inc [_, _, _] xc_137_86 rfl rfl (ki_1 _) rfl (r_go xc_137_89 xj_137_89 ?_)))
          rw [kI_add]
          have := ih (j + 1) (l ++ [c] ++ [32] ++ dW q.1 ++ [61] ++ dW q.2) (by omega) (by simp only [List.length_append, List.length_cons, List.length_nil]; omega)
          have ea : l ++ [c] ++ [32] ++ dW q.1 ++ [61] ++ dW q.2 ++ (dR (decide (j + 1 = 0)) (rs.drop (j + 1)) ++ [41]) = l ++ (c :: 32 :: (dW q.1 ++ 61 :: (dW q.2 ++ (dR (decide (j + 1 = 0)) (rs.drop (j + 1)) ++ [41])))) := by simp
          rw [ea] at this
          exact this
    refine (r_iln xc_137_19 rfl (r_aln xc_137_20 rfl (r_get xc_137_21 xf_137_28 g_6_10 (r_iln xc_137_24 rfl (r_ia xc_137_25 b_29 ?_ (r_cge xc_137_26 xj_137_26 (fun hc26 => (r_aln xc_137_29 rfl (r_iln xc_137_30 rfl (r_zne xc_137_31 xj_137_31 (fun hc31 => (r_bi xc_137_34 kb_58 (r_go xc_137_36 xj_137_36 ?_))) (fun hc31 => (r_bi xc_137_39 kb_44 ?_)))))) (fun hc26 => (r_aln xc_137_92 rfl (r_bi xc_137_93 kb_41 ?_)))))))))
    · exact kI_in (by omega) (by omega)
    · have hc31 : nI j = nI 0 := hc31
      rw [kI_inj (by omega) (by omega)] at hc31
      exact body 58 (by rw [if_pos (by simp; omega)])
    · have hc31 : ¬ nI j = nI 0 := hc31
      rw [kI_inj (by omega) (by omega)] at hc31
      exact body 44 (by rw [if_neg (by simp; omega)])
    · rw [c20, kI_lt (by omega) (by omega)] at hc26; omega
theorem Q_steps {n : Nat} {v : pN} {l : List Nat} (hn : n < 120) (hmv : mv a n v) (hv : lfOk v) (h7 : v.1 = 7) (hL : L + (l ++ dL v).length ≤ 2000) : p_M X 2 137 [.ref 22, .int (nI n)] (hm z a w y g L l) (fun q => q = (.inl none, hm z a w y g L (l ++ dL v))) := by
  obtain ⟨m0, m1, m2, m3, m4⟩ := hmv
  have hv7 : v.2.1 < 1000000 ∧ v.2.2.1 = 0 ∧ v.2.2.2.2 ≠ [] ∧ v.2.2.2.2.length ≤ 6 ∧ ∀ q ∈ v.2.2.2.2, q.1 < 1000000 ∧ q.2 < 1000000 := by
    rcases hv.2.2 with h | h | h | h
    · omega
    · omega
    · omega
    · exact h.2
  have c1 : ∀ f : Nat → Int32, u_ a 31 f 16 (nI n).toNatClampNeg = nI v.2.1 := fun _ => by show a 16 (nI n).toNatClampNeg = _; rw [kI_cl (by omega)]; exact m1
  have eL : dL v = [115, 116, 101, 112, 40] ++ (dW v.2.1 ++ (dR true v.2.2.2.2 ++ [41])) := by
    unfold dL
    rw [if_neg (by omega), if_neg (by omega), if_neg (by omega)]
  rw [eL] at hL ⊢
  simp only [List.length_append, List.length_cons, List.length_nil] at hL
  refine (r_in xin_137 (r_aln xc_137_0 rfl (r_ldl xc_137_1 xl_137_241 ?_)))
  refine (r_c0 xc_137_4 xm_137_4 rfl xrc_136 rfl ((Q_word (t := [115, 116, 101, 112, 40]) wb_step rfl (by simp only [List.length_append, List.length_cons, List.length_nil]; omega))) (r_aln xc_137_7 rfl (r_aln xc_137_8 rfl (r_get xc_137_9 xf_137_16 g_6_6 (r_iln xc_137_12 rfl (r_ia xc_137_13 b_25 ?_ ?_))))))
  · exact kI_in (by omega) (by omega)
  · rw [c1]
    refine (r_c0 xc_137_14 xm_137_14 rfl xrc_138 rfl ((Q_whole hv7.1 (by simp only [List.length_append, List.length_cons, List.length_nil]; omega))) (r_ic xc_137_17 kc_0 (r_isn [_, _, _] xc_137_18 rfl rfl ?_)))
    have := L_msteps (X := X) (z := z) (a := a) (w := w) (y := y) (g := g) (L := L) hn hv7.2.2.2.1 m3 hv7.2.2.2.2 m4 v.2.2.2.2.length 0 (l ++ [115, 116, 101, 112, 40] ++ dW v.2.1) (by omega) (by simp only [List.length_append, List.length_cons, List.length_nil, List.drop_zero]; simp; omega)
    have ea : l ++ [115, 116, 101, 112, 40] ++ dW v.2.1 ++ (dR (decide (0 = 0)) (v.2.2.2.2.drop 0) ++ [41]) = l ++ ([115, 116, 101, 112, 40] ++ (dW v.2.1 ++ (dR true v.2.2.2.2 ++ [41]))) := by simp
    rw [ea] at this
    exact this
end MPRINT
