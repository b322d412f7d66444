/-! ===== the class prints ===== -/
def apF (f : Nat → Int32) (L : Nat) (l : List Nat) : Nat → Int32 := fun j => if L ≤ j then (match l[j - L]? with
  | some c => nI c
  | none => f j) else f j
theorem apF_nil (f : Nat → Int32) (L : Nat) : apF f L [] = f := funext fun j => by
  unfold apF
  split
  · rfl
  · rfl
theorem apF_snoc (f : Nat → Int32) (L : Nat) (l : List Nat) (c : Nat) : apF f L (l ++ [c]) = upd (apF f L l) (L + l.length) (nI c) := funext fun j => by
  unfold apF upd
  dsimp only
  by_cases hj : L ≤ j
  · rw [if_pos hj, if_pos hj]
    by_cases he : j = L + l.length
    · subst he
      rw [if_pos rfl, Nat.add_sub_cancel_left, List.getElem?_append_right (Nat.le_refl _), Nat.sub_self]
      rfl
    · rw [if_neg he]
      by_cases hlt : j - L < l.length
      · rw [List.getElem?_append_left hlt]
      · have h1 : (l ++ [c])[j - L]? = none := List.getElem?_eq_none (by simp; omega)
        have h2 : l[j - L]? = none := List.getElem?_eq_none (by omega)
        rw [h1, h2]
  · rw [if_neg hj, if_neg hj, if_neg (by omega)]
theorem apF_at {f : Nat → Int32} {l : List Nat} {i c : Nat} (h : l[i]? = some c) : apF f 0 l i = nI c := by
  unfold apF
  rw [if_pos (Nat.zero_le _), Nat.sub_zero, h]
abbrev hc (z : Nat → Int32) (a : Nat → Nat → Int32) (w : Nat → Nat → Int64) (y : Nat → Int64) (g : List pE) (L : Nat) (l : List Nat) : List pE := hp (u_ z 6 (nI (L + l.length))) (u_ a 13 (apF (a 13) L l)) w y g
/-- literal j, as numbers -/
def isL (j : Nat) (l : List Nat) : Prop := j < p_lits ∧ l.length = p_slen j ∧ ∀ k, k < l.length → p_schr j k = nI (l.getD k 0)
section PRINT
variable {X : pX} {z : Nat → Int32} {a : Nat → Nat → Int32} {w : Nat → Nat → Int64} {y : Nat → Int64} {g : List pE} {L : Nat}
theorem P_sign {l : List Nat} {c : Nat} (hL : L + l.length < 900) : p_M X 0 82 [.ref 20, .int (nI c)] (hc z a w y g L l) (fun q => q = (.inl none, hc z a w y g L (l ++ [c]))) := by
  have e6 : u_ z 6 (nI (L + l.length)) 6 = nI (L + l.length) := rfl
  refine (r_in xin_82 (r_aln xc_82_0 rfl (r_get xc_82_1 xf_82_15 g_0_1 (r_si xc_82_4 ks_900 (r_cge xc_82_7 xj_82_7 (fun hc7 => (r_aln xc_82_10 rfl (r_get xc_82_11 xf_82_9 g_0_0 (r_aln xc_82_14 rfl (r_get xc_82_15 xf_82_15 g_0_1 (r_iln xc_82_18 rfl (r_ias xc_82_19 b_21 t_21 ?_ (r_aln xc_82_20 rfl (r_dup xc_82_21 rfl (r_get xc_82_22 xf_82_15 g_0_1 (r_ic xc_82_25 kc_1 (r_iadd xc_82_26 (r_put xc_82_27 xf_82_15 rfl s_0_1 (r_r0 xc_82_30 xrt_82 ?_)))))))))))))) (fun hc7 => (r_r0 xc_82_30 xrt_82 ?_)))))))
  · rw [e6]; exact kI_in (by omega) (by omega)
  · rw [e6, kI_add, u_u, u_u, kI_cl (by omega)]
    show _ = (Sum.inl none, hp (u_ z 6 (nI (L + (l ++ [c]).length))) (u_ a 13 (apF (a 13) L (l ++ [c]))) w y g)
    rw [apF_snoc, List.length_append]
    rfl
  · rw [e6, kI_lt (by omega) (by omega)] at hc7; omega
theorem L_text {j : Nat} {t : List Nat} (ht : isL j t) : ∀ r i l, i + r = t.length → L + (l ++ t.drop i).length ≤ 900 → p_E X 4 81 2 [some (.ref 20), some (.retAddr (j + 1)), some (.int (nI i))] [] (hc z a w y g L l) (fun q => q = (.inl none, hc z a w y g L (l ++ t.drop i))) := by
  obtain ⟨hj, hlen, hch⟩ := ht
  have hlen2 : p_slen j ≤ 900 := by
    by_cases h : 0 < p_slen j
    · have := (p_chr_ok j hj 0 h).2.2; omega
    · omega
  intro r
  induction r with
  | zero =>
    intro i l hi hL
    have hd : t.drop i = [] := List.drop_eq_nil_of_le (by omega)
    rw [hd, List.append_nil]
    refine (r_iln xc_81_2 rfl (r_arn xc_81_3 rfl ?_))
    refine (r_cv xc_81_4 xm_81_4 rfl (xrc_30 hj) rfl ((p_M.up (M_length hj) (by omega))) (r_cge xc_81_7 xj_81_7 (fun hc7 => (r_aln xc_81_10 rfl (r_arn xc_81_11 rfl (r_iln xc_81_12 rfl ?_)))) (fun hc7 => (r_r0 xc_81_25 xrt_81 ?_))))
    · rw [kI_lt (by omega) (by omega)] at hc7; omega
    · rfl
  | succ r ih =>
    intro i l hi hL
    have hil : i < t.length := by omega
    have hd : t.drop i = t.getD i 0 :: t.drop (i + 1) := by
      rw [List.drop_eq_getElem_cons hil]
      congr 1
      rw [List.getD_eq_getElem?_getD, List.getElem?_eq_getElem hil]; rfl
    rw [hd] at hL ⊢
    simp only [List.length_append, List.length_cons] at hL
    refine (r_iln xc_81_2 rfl (r_arn xc_81_3 rfl ?_))
    refine (r_cv xc_81_4 xm_81_4 rfl (xrc_30 hj) rfl ((p_M.up (M_length hj) (by omega))) (r_cge xc_81_7 xj_81_7 (fun hc7 => (r_aln xc_81_10 rfl (r_arn xc_81_11 rfl (r_iln xc_81_12 rfl ?_)))) (fun hc7 => (r_r0 xc_81_25 xrt_81 ?_))))
    · refine (r_cv xc_81_13 xm_81_13 rfl (xrc_32 hj) rfl ((M_charAt (k := i) hj (by omega))) ?_)
      rw [hch i hil]
      refine (r_c0 xc_81_16 xm_81_16 rfl xrc_82 rfl ((p_M.up (P_sign (by omega)) (by omega))) (r_inc [_, _, _] xc_81_19 rfl rfl (ki_1 _) rfl (r_go xc_81_22 xj_81_22 ?_)))
      rw [kI_add]
      have := ih (i + 1) (l ++ [t.getD i 0]) (by omega) (by simp only [List.length_append, List.length_cons, List.length_nil]; omega)
      rw [List.append_assoc] at this
      exact this
    · rw [kI_lt (by omega) (by omega)] at hc7; omega
theorem P_text {j : Nat} {t l : List Nat} (ht : isL j t) (hL : L + (l ++ t).length ≤ 900) : p_M X 4 81 [.ref 20, .retAddr (j + 1)] (hc z a w y g L l) (fun q => q = (.inl none, hc z a w y g L (l ++ t))) := by
  refine (r_in xin_81 (r_ic xc_81_0 kc_0 (r_isn [_, _, _] xc_81_1 rfl rfl ?_)))
  exact L_text ht t.length 0 l (by omega) hL
theorem cp_len : ∀ j x, (cp j x).length ≤ j + 1 := by
  intro j
  induction j with
  | zero => intro x; exact Nat.le_refl _
  | succ j ih =>
    intro x
    show ((if 10 ^ (j + 1) ≤ x then _ else _) ++ cp j x).length ≤ _
    rw [List.length_append]
    have := ih x
    split <;> simp <;> omega
theorem kI_rem {a b : Nat} (ha : a < 2147483648) (hb : b < 2147483648) : nI a - nI a / nI b * nI b = nI (a % b) := by
  have h1 : a / b * b ≤ a := Nat.div_mul_le_self a b
  rw [kI_div ha hb, kI_mul, kI_sub h1]
  congr 1
  have := Nat.div_add_mod a b
  rw [Nat.mul_comm] at this
  omega
theorem nI_nz {a : Nat} (ha : a < 2147483648) (h : a ≠ 0) : ¬ nI a = 0 := by
  have e : (0 : Int32) = nI 0 := by decide
  rw [e, kI_inj ha (by omega)]; exact h
theorem L_whole {x : Nat} (hx : x < 1000000) : ∀ j l, j ≤ 5 → L + (l ++ cp j x).length ≤ 900 → p_E X 1 84 3 [some (.ref 20), some (.int (nI x)), some (.int (nI (10 ^ j)))] [] (hc z a w y g L l) (fun q => q = (.inl none, hc z a w y g L (l ++ cp j x))) := by
  have e10 : ∀ j, j ≤ 5 → 10 ^ j ≤ 100000 ∧ 1 ≤ 10 ^ j := fun j hj => ⟨Nat.le_trans (Nat.pow_le_pow_right (by omega) hj) (by decide), Nat.one_le_pow _ _ (by omega)⟩
  intro j
  induction j with
  | zero =>
    intro l hj hL
    have fin : ∀ l', p_E X 1 84 3 [some (.ref 20), some (.int (nI x)), some (.int (nI (10 ^ 0) / nI 10))] [] (hc z a w y g L l') (fun q => q = (.inl none, hc z a w y g L l')) := by
      intro l'
      have e : nI (10 ^ 0) / nI 10 = nI 0 := by decide
      rw [e]
      refine (r_iln xc_84_3 rfl (r_ic xc_84_4 kc_1 (r_clt xc_84_5 xj_84_5 (fun hc5 => (r_r0 xc_84_39 xrt_84 ?_)) (fun hc5 => (r_iln xc_84_8 rfl (r_iln xc_84_9 rfl (r_cge xc_84_10 xj_84_10 (fun hc10 => (r_iln xc_84_13 rfl (r_ic xc_84_14 kc_1 (r_cne xc_84_15 xj_84_15 (fun hc15 => (r_aln xc_84_18 rfl (r_bi xc_84_19 kb_48 (r_iln xc_84_21 rfl (r_iln xc_84_22 rfl (r_idiv xc_84_23 ?_ (r_bi xc_84_24 kb_10 (r_irem xc_84_26 (by decide) (r_iadd xc_84_27 ?_))))))))) (fun hc15 => (r_iln xc_84_31 rfl (r_bi xc_84_32 kb_10 (r_idiv xc_84_34 (by decide) (r_isn [_, _, _] xc_84_35 rfl rfl (r_go xc_84_36 xj_84_36 ?_)))))))))) (fun hc10 => (r_aln xc_84_18 rfl (r_bi xc_84_19 kb_48 (r_iln xc_84_21 rfl (r_iln xc_84_22 rfl (r_idiv xc_84_23 ?_ (r_bi xc_84_24 kb_10 (r_irem xc_84_26 (by decide) (r_iadd xc_84_27 ?_))))))))))))))))
      · rfl
      all_goals exact absurd (by decide) hc5
    have pc : 48 + x / 10 ^ 0 % 10 = 48 + x % 10 := by rw [Nat.pow_zero, Nat.div_one]
    have e1 : nI 48 + (nI x / nI (10 ^ 0) - nI x / nI (10 ^ 0) / nI 10 * nI 10) = nI (48 + x % 10) := by
      rw [kI_div (by omega) (by decide), kI_rem (by simp; omega) (by decide), kI_add, pc]
    have hL2 : L + l.length + 1 ≤ 900 := by
      have : (cp 0 x).length = 1 := rfl
      rw [List.length_append, this] at hL; omega
    refine (r_iln xc_84_3 rfl (r_ic xc_84_4 kc_1 (r_clt xc_84_5 xj_84_5 (fun hc5 => (r_r0 xc_84_39 xrt_84 ?_)) (fun hc5 => (r_iln xc_84_8 rfl (r_iln xc_84_9 rfl (r_cge xc_84_10 xj_84_10 (fun hc10 => (r_iln xc_84_13 rfl (r_ic xc_84_14 kc_1 (r_cne xc_84_15 xj_84_15 (fun hc15 => (r_aln xc_84_18 rfl (r_bi xc_84_19 kb_48 (r_iln xc_84_21 rfl (r_iln xc_84_22 rfl (r_idiv xc_84_23 ?_ (r_bi xc_84_24 kb_10 (r_irem xc_84_26 (by decide) (r_iadd xc_84_27 ?_))))))))) (fun hc15 => (r_iln xc_84_31 rfl (r_bi xc_84_32 kb_10 (r_idiv xc_84_34 (by decide) (r_isn [_, _, _] xc_84_35 rfl rfl (r_go xc_84_36 xj_84_36 ?_)))))))))) (fun hc10 => (r_aln xc_84_18 rfl (r_bi xc_84_19 kb_48 (r_iln xc_84_21 rfl (r_iln xc_84_22 rfl (r_idiv xc_84_23 ?_ (r_bi xc_84_24 kb_10 (r_irem xc_84_26 (by decide) (r_iadd xc_84_27 ?_))))))))))))))))
    · exact absurd hc5 (by decide)
    · decide
    · rw [e1]
      refine (r_c0 xc_84_28 xm_84_28 rfl xrc_82 rfl (P_sign (by omega)) (r_iln xc_84_31 rfl (r_bi xc_84_32 kb_10 (r_idiv xc_84_34 (by decide) (r_isn [_, _, _] xc_84_35 rfl rfl (r_go xc_84_36 xj_84_36 ?_))))))
      exact fin _
    · exact absurd (by decide) hc15
    · decide
    · rw [e1]
      refine (r_c0 xc_84_28 xm_84_28 rfl xrc_82 rfl (P_sign (by omega)) (r_iln xc_84_31 rfl (r_bi xc_84_32 kb_10 (r_idiv xc_84_34 (by decide) (r_isn [_, _, _] xc_84_35 rfl rfl (r_go xc_84_36 xj_84_36 ?_))))))
      exact fin _
  | succ j ih =>
    intro l hj hL
    obtain ⟨p1, p2⟩ := e10 (j + 1) hj
    obtain ⟨p3, p4⟩ := e10 j (by omega)
    have hp10 : 10 ^ (j + 1) = 10 ^ j * 10 := Nat.pow_succ 10 j
    have ed : nI (10 ^ (j + 1)) / nI 10 = nI (10 ^ j) := by
      rw [kI_div (by omega) (by omega)]
      congr 1
      omega
    have hne1 : ¬ nI (10 ^ (j + 1)) = nI 1 := by rw [kI_inj (by omega) (by omega)]; omega
    have hcp : cp (j + 1) x = (if 10 ^ (j + 1) ≤ x then [48 + x / 10 ^ (j + 1) % 10] else []) ++ cp j x := rfl
    rw [hcp] at hL ⊢
    refine (r_iln xc_84_3 rfl (r_ic xc_84_4 kc_1 (r_clt xc_84_5 xj_84_5 (fun hc5 => (r_r0 xc_84_39 xrt_84 ?_)) (fun hc5 => (r_iln xc_84_8 rfl (r_iln xc_84_9 rfl (r_cge xc_84_10 xj_84_10 (fun hc10 => (r_iln xc_84_13 rfl (r_ic xc_84_14 kc_1 (r_cne xc_84_15 xj_84_15 (fun hc15 => (r_aln xc_84_18 rfl (r_bi xc_84_19 kb_48 (r_iln xc_84_21 rfl (r_iln xc_84_22 rfl (r_idiv xc_84_23 ?_ (r_bi xc_84_24 kb_10 (r_irem xc_84_26 (by decide) (r_iadd xc_84_27 ?_))))))))) (fun hc15 => (r_iln xc_84_31 rfl (r_bi xc_84_32 kb_10 (r_idiv xc_84_34 (by decide) (r_isn [_, _, _] xc_84_35 rfl rfl (r_go xc_84_36 xj_84_36 ?_)))))))))) (fun hc10 => (r_aln xc_84_18 rfl (r_bi xc_84_19 kb_48 (r_iln xc_84_21 rfl (r_iln xc_84_22 rfl (r_idiv xc_84_23 ?_ (r_bi xc_84_24 kb_10 (r_irem xc_84_26 (by decide) (r_iadd xc_84_27 ?_))))))))))))))))
    · rw [kI_lt (by omega) (by omega)] at hc5; omega
    · exact absurd hc15 hne1
    · exact absurd hc15 hne1
    · rw [kI_lt (by omega) (by omega)] at hc10
      rw [if_neg (by omega), List.nil_append] at hL ⊢
      rw [ed]
      exact ih l (by omega) hL
    · exact nI_nz (by omega) (by omega)
    · rw [kI_lt (by omega) (by omega)] at hc10
      rw [if_pos (by omega)] at hL ⊢
      have e1 : nI 48 + (nI x / nI (10 ^ (j + 1)) - nI x / nI (10 ^ (j + 1)) / nI 10 * nI 10) = nI (48 + x / 10 ^ (j + 1) % 10) := by
        rw [kI_div (by omega) (by omega), kI_rem (Nat.lt_of_le_of_lt (Nat.div_le_self _ _) (by omega)) (by omega), kI_add]
      rw [e1]
      simp only [List.length_append, List.length_cons, List.length_nil] at hL
      refine (r_c0 xc_84_28 xm_84_28 rfl xrc_82 rfl (P_sign (by omega)) (r_iln xc_84_31 rfl (r_bi xc_84_32 kb_10 (r_idiv xc_84_34 (by decide) (r_isn [_, _, _] xc_84_35 rfl rfl (r_go xc_84_36 xj_84_36 ?_))))))
      rw [ed]
      have := ih (l ++ [48 + x / 10 ^ (j + 1) % 10]) (by omega) (by simp only [List.length_append, List.length_cons, List.length_nil]; omega)
      rw [List.append_assoc] at this
      exact this
theorem P_whole {x : Nat} {l : List Nat} (hx : x < 1000000) (hL : L + (l ++ dW x).length ≤ 900) : p_M X 1 84 [.ref 20, .int (nI x)] (hc z a w y g L l) (fun q => q = (.inl none, hc z a w y g L (l ++ dW x))) := by
  refine (r_in xin_84 (r_ldi xc_84_0 xl_84_97 (r_isn [_, _, _] xc_84_2 rfl rfl ?_)))
  rw [← cp_dW] at hL ⊢
  exact L_whole hx 5 l (by omega) hL
theorem L_frac {x1 : Int32} : ∀ j r l, j ≤ 3 → r < 1000 → L + (l ++ cf j r).length ≤ 900 → p_E X 2 83 28 [some (.ref 20), some (.int x1), some (.int (nI r)), some (.int (nI (3 - j)))] [] (hc z a w y g L l) (fun q => q = (.inl none, hc z a w y g L (l ++ cf j r))) := by
  intro j
  induction j with
  | zero =>
    intro r l hj hr hL
    refine (r_iln xc_83_28 rfl (r_ic xc_83_29 kc_3 (r_cge xc_83_30 xj_83_30 (fun hc30 => (r_iln xc_83_33 rfl (r_zeq xc_83_34 xj_83_34 (fun hc34 => (r_r0 xc_83_62 xrt_83 ?_)) (fun hc34 => (r_aln xc_83_37 rfl (r_bi xc_83_38 kb_48 (r_iln xc_83_40 rfl (r_bi xc_83_41 kb_100 (r_idiv xc_83_43 (by decide) (r_iadd xc_83_44 ?_)))))))))) (fun hc30 => (r_r0 xc_83_62 xrt_83 ?_)))))
    · rw [kI_lt (by omega) (by omega)] at hc30; omega
    · rw [kI_lt (by omega) (by omega)] at hc30; omega
    · show _ = (Sum.inl none, hc z a w y g L (l ++ []))
      rw [List.append_nil]
  | succ j ih =>
    intro r l hj hr hL
    have hcf : cf (j + 1) r = if r = 0 then [] else (48 + r / 100) :: cf j (r % 100 * 10) := rfl
    rw [hcf] at hL ⊢
    refine (r_iln xc_83_28 rfl (r_ic xc_83_29 kc_3 (r_cge xc_83_30 xj_83_30 (fun hc30 => (r_iln xc_83_33 rfl (r_zeq xc_83_34 xj_83_34 (fun hc34 => (r_r0 xc_83_62 xrt_83 ?_)) (fun hc34 => (r_aln xc_83_37 rfl (r_bi xc_83_38 kb_48 (r_iln xc_83_40 rfl (r_bi xc_83_41 kb_100 (r_idiv xc_83_43 (by decide) (r_iadd xc_83_44 ?_)))))))))) (fun hc30 => (r_r0 xc_83_62 xrt_83 ?_)))))
    · have hc34 : nI r = nI 0 := hc34
      rw [kI_inj (by omega) (by omega)] at hc34
      rw [if_pos hc34, List.append_nil]
    · have hc34 : ¬ nI r = nI 0 := hc34
      rw [kI_inj (by omega) (by omega)] at hc34
      rw [if_neg hc34] at hL ⊢
      rw [kI_div (by omega) (by omega), kI_add]
      simp only [List.length_append, List.length_cons] at hL
      refine (r_c0 xc_83_45 xm_83_45 rfl xrc_82 rfl ((p_M.up (P_sign (by omega)) (by omega))) (r_iln xc_83_48 rfl (r_bi xc_83_49 kb_100 (r_irem xc_83_51 (by decide) (r_bi xc_83_52 kb_10 (r_imul xc_83_54 (r_isn [_, _, _, _] xc_83_55 rfl rfl (r_inc [_, _, _, _] xc_83_56 rfl rfl (ki_1 _) rfl (r_go xc_83_59 xj_83_59 ?_)))))))))
      rw [kI_rem (by omega) (by omega), kI_mul, kI_add, show 3 - (j + 1) + 1 = 3 - j by omega]
      have := ih (r % 100 * 10) (l ++ [48 + r / 100]) (by omega) (by omega) (by simp only [List.length_append, List.length_cons, List.length_nil]; omega)
      rw [List.append_assoc] at this
      exact this
    · rw [kI_lt (by omega) (by omega)] at hc30; omega
theorem P_number {x : Nat} {l : List Nat} (hx : x < 100000000) (hL : L + (l ++ dN x).length ≤ 900) : p_M X 2 83 [.ref 20, .int (nI x)] (hc z a w y g L l) (fun q => q = (.inl none, hc z a w y g L (l ++ dN x))) := by
  have hN : dN x = dW (x / 1000) ++ dF (x % 1000) := rfl
  rw [hN] at hL ⊢
  rw [cf_dF] at hL ⊢
  refine (r_in xin_83 (r_aln xc_83_0 rfl (r_iln xc_83_1 rfl (r_si xc_83_2 ks_1000 (r_idiv xc_83_5 (by decide) ?_)))))
  rw [kI_div (by omega) (by omega)]
  refine (r_c0 xc_83_6 xm_83_6 rfl xrc_84 rfl ((P_whole (by omega) (by simp only [List.length_append] at hL ⊢; omega))) (r_iln xc_83_9 rfl (r_si xc_83_10 ks_1000 (r_irem xc_83_13 (by decide) (r_isn [_, _, _, _] xc_83_14 rfl rfl (r_iln xc_83_15 rfl (r_zne xc_83_16 xj_83_16 (fun hc16 => (r_r0 xc_83_19 xrt_83 ?_)) (fun hc16 => (r_aln xc_83_20 rfl (r_bi xc_83_21 kb_46 ?_))))))))))
  · have hc16 : nI x - nI x / nI 1000 * nI 1000 = nI 0 := hc16
    rw [kI_rem (by omega) (by omega), kI_inj (by omega) (by omega)] at hc16
    rw [if_pos hc16, List.append_nil]
  · have hc16 : ¬ nI x - nI x / nI 1000 * nI 1000 = nI 0 := hc16
    rw [kI_rem (by omega) (by omega), kI_inj (by omega) (by omega)] at hc16
    rw [if_neg hc16] at hL ⊢
    rw [kI_rem (by omega) (by omega)]
    simp only [List.length_append, List.length_cons] at hL
    refine (r_c0 xc_83_23 xm_83_23 rfl xrc_82 rfl ((p_M.up (P_sign (by simp only [List.length_append]; omega)) (by omega))) (r_ic xc_83_26 kc_0 (r_isn [_, _, _, _] xc_83_27 rfl rfl ?_)))
    have := L_frac (X := X) (z := z) (a := a) (w := w) (y := y) (g := g) (L := L) (x1 := nI x) 3 (x % 1000) (l ++ dW (x / 1000) ++ [46]) (by omega) (by omega) (by simp only [List.length_append, List.length_cons, List.length_nil]; omega)
    have ea : l ++ dW (x / 1000) ++ [46] ++ cf 3 (x % 1000) = l ++ (dW (x / 1000) ++ 46 :: cf 3 (x % 1000)) := by simp
    rw [ea] at this
    exact this
theorem L_psteps {fr : Nat} {rs : List (Nat × Nat)} (h6 : rs.length ≤ 6) (hrs : ∀ q ∈ rs, q.1 < 1000000 ∧ q.2 < 1000000) (hfr : fr + rs.length ≤ 300) (hr : ∀ k q, rs[k]? = some q → a 7 (fr + k) = nI q.1 ∧ a 8 (fr + k) = nI q.2) {i : Int32} : ∀ r j l, j + r = rs.length → L + (l ++ (dR (decide (j = 0)) (rs.drop j) ++ [41])).length ≤ 900 →
    p_E X 5 87 36 [some (.ref 20), some (.ref 1), some (.int i), some (.int (nI fr)), some (.int (nI (fr + rs.length))), some (.int (nI (fr + j)))] [] (hc z a w y g L l) (fun q => q = (.inl none, hc z a w y g L (l ++ (dR (decide (j = 0)) (rs.drop j) ++ [41])))) := by
  intro r
  induction r with
  | zero =>
    intro j l hj hL
    have hd : rs.drop j = [] := List.drop_eq_nil_of_le (by omega)
    rw [hd] at hL ⊢
    have e : dR (decide (j = 0)) [] = [] := rfl
    rw [e, List.nil_append] at hL ⊢
    simp only [List.length_append, List.length_cons, List.length_nil] at hL
    refine (r_il xc_87_36 rfl (r_il xc_87_38 rfl (r_cge xc_87_40 xj_87_40 (fun hc40 => (r_il xc_87_43 rfl (r_si xc_87_45 ks_300 (r_cge xc_87_48 xj_87_48 (fun hc48 => (r_aln xc_87_51 rfl (r_il xc_87_52 rfl (r_iln xc_87_54 rfl (r_cne xc_87_55 xj_87_55 (fun hc55 => (r_lds xc_87_58 xln_87_89 xls_87_89 (r_go xc_87_60 xj_87_60 ?_))) (fun hc55 => (r_lds xc_87_63 xln_87_76 xls_87_76 ?_))))))) (fun hc48 => (r_aln xc_87_102 rfl (r_bi xc_87_103 kb_41 ?_))))))) (fun hc40 => (r_aln xc_87_102 rfl (r_bi xc_87_103 kb_41 ?_))))))
    · rw [kI_lt (by omega) (by omega)] at hc40; omega
    · rw [kI_lt (by omega) (by omega)] at hc40; omega
    · rw [kI_lt (by omega) (by omega)] at hc40; omega
    · refine (r_c0 xc_87_105 xm_87_105 rfl xrc_82 rfl ((p_M.up (P_sign (by omega)) (by omega))) (r_r0 xc_87_108 xrt_87 ?_))
      rfl
  | succ r ih =>
    intro j l hj hL
    have hjl : j < rs.length := by omega
    obtain ⟨q, hq⟩ : ∃ q, rs[j]? = some q := ⟨_, List.getElem?_eq_getElem hjl⟩
    obtain ⟨h7, h8⟩ := hr j q hq
    obtain ⟨q1, q2⟩ := hrs q (List.mem_of_getElem? hq)
    have hd : rs.drop j = q :: rs.drop (j + 1) := by
      rw [List.drop_eq_getElem_cons hjl]
      congr 1
      rw [List.getElem?_eq_getElem hjl] at hq
      exact Option.some.inj hq
    have c7 : a 7 (nI (fr + j)).toNatClampNeg = nI q.1 := by rw [kI_cl (by omega)]; exact h7
    have c8 : a 8 (nI (fr + j)).toNatClampNeg = nI q.2 := by rw [kI_cl (by omega)]; exact h8
    have eD : ∀ b, dR b (q :: rs.drop (j + 1)) ++ [41] = (if b then 58 else 44) :: 32 :: (dW q.1 ++ 61 :: (dW q.2 ++ (dR (decide (j + 1 = 0)) (rs.drop (j + 1)) ++ [41]))) := by
      intro b
      have : decide (j + 1 = 0) = false := by simp
      rw [this]
      show (if b then 58 else 44) :: 32 :: (dW q.1 ++ 61 :: (dW q.2 ++ dR false (rs.drop (j + 1)))) ++ [41] = _
      simp
    rw [hd, eD] at hL ⊢
    simp only [List.length_append, List.length_cons] at hL
    have body : ∀ l2, L + l2.length + 2 + (dW q.1).length + 1 + (dW q.2).length + (dR (decide (j + 1 = 0)) (rs.drop (j + 1))).length + 1 ≤ 902 + 0 → ∀ l3, l3 = l2 → L + (l3 ++ (dW q.1 ++ 61 :: (dW q.2 ++ (dR (decide (j + 1 = 0)) (rs.drop (j + 1)) ++ [41])))).length ≤ 900 → p_E X 5 87 68 [some (.ref 20), some (.ref 1), some (.int i), some (.int (nI fr)), some (.int (nI (fr + rs.length))), some (.int (nI (fr + j)))] [] (hc z a w y g L l3) (fun q' => q' = (.inl none, hc z a w y g L (l3 ++ (dW q.1 ++ 61 :: (dW q.2 ++ (dR (decide (j + 1 = 0)) (rs.drop (j + 1)) ++ [41])))))) := by
      intro l2 _ l3 _ hL3
      simp only [List.length_append, List.length_cons, List.length_nil] at hL3
      refine (r_aln xc_87_68 rfl (r_aln xc_87_69 rfl (r_get xc_87_70 xf_87_91 g_2_7 (r_il xc_87_73 rfl (r_ia xc_87_75 b_9 ?_ ?_)))))
      · exact kI_in (by omega) (by omega)
      · have e1 : u_ a 13 (apF (a 13) L l3) 7 (nI (fr + j)).toNatClampNeg = nI q.1 := c7
        rw [e1]
        refine (r_c0 xc_87_76 xm_87_76 rfl xrc_84 rfl ((p_M.up (P_whole q1 (by simp only [List.length_append]; omega)) (by omega))) (r_aln xc_87_79 rfl (r_bi xc_87_80 kb_61 ?_)))
        refine (r_c0 xc_87_82 xm_87_82 rfl xrc_82 rfl ((p_M.up (P_sign (by simp only [List.length_append]; omega)) (by omega))) (r_aln xc_87_85 rfl (r_aln xc_87_86 rfl (r_get xc_87_87 xf_87_94 g_2_8 (r_il xc_87_90 rfl (r_ia xc_87_92 b_10 ?_ ?_))))))
        · exact kI_in (by omega) (by omega)
        · have e2 : u_ a 13 (apF (a 13) L (l3 ++ dW q.1 ++ [61])) 8 (nI (fr + j)).toNatClampNeg = nI q.2 := c8
          rw [e2]
          refine (r_c0 xc_87_93 xm_87_93 rfl xrc_84 rfl ((p_M.up (P_whole q2 (by simp only [List.length_append, List.length_cons, List.length_nil]; omega)) (by omega))) (r_inc [_, _, _, _, _, _] xc_87_96 rfl rfl (ki_1 _) rfl (r_go xc_87_99 xj_87_99 ?_)))
          rw [kI_add]
          have := ih (j + 1) (l3 ++ dW q.1 ++ [61] ++ dW q.2) (by omega) (by simp only [List.length_append, List.length_cons, List.length_nil]; omega)
          have ea : l3 ++ dW q.1 ++ [61] ++ dW q.2 ++ (dR (decide (j + 1 = 0)) (rs.drop (j + 1)) ++ [41]) = l3 ++ (dW q.1 ++ 61 :: (dW q.2 ++ (dR (decide (j + 1 = 0)) (rs.drop (j + 1)) ++ [41]))) := by simp
          rw [ea] at this
          exact this
    have lit : ∀ (b : Bool) (jl : Nat), isL jl [if b then 58 else 44, 32] → b = decide (j = 0) → p_E X 5 87 65 [some (.ref 20), some (.ref 1), some (.int i), some (.int (nI fr)), some (.int (nI (fr + rs.length))), some (.int (nI (fr + j)))] [.retAddr (jl + 1), .ref 20] (hc z a w y g L l) (fun q' => q' = (.inl none, hc z a w y g L (l ++ ((if decide (j = 0) then 58 else 44) :: 32 :: (dW q.1 ++ 61 :: (dW q.2 ++ (dR (decide (j + 1 = 0)) (rs.drop (j + 1)) ++ [41]))))))) := by
      intro b jl hjl2 hb
      subst hb
      refine (r_c0 xc_87_65 xm_87_65 rfl xrc_81 rfl ((P_text hjl2 (by simp only [List.length_append, List.length_cons, List.length_nil] at hL ⊢; omega))) ?_)
      have := body (l ++ [if decide (j = 0) then 58 else 44, 32]) (by simp only [List.length_append, List.length_cons, List.length_nil] at hL ⊢; omega) _ rfl (by simp only [List.length_append, List.length_cons, List.length_nil] at hL ⊢; omega)
      rw [List.append_assoc] at this
      exact this
    refine (r_il xc_87_36 rfl (r_il xc_87_38 rfl (r_cge xc_87_40 xj_87_40 (fun hc40 => (r_il xc_87_43 rfl (r_si xc_87_45 ks_300 (r_cge xc_87_48 xj_87_48 (fun hc48 => (r_aln xc_87_51 rfl (r_il xc_87_52 rfl (r_iln xc_87_54 rfl (r_cne xc_87_55 xj_87_55 (fun hc55 => (r_lds xc_87_58 xln_87_89 xls_87_89 (r_go xc_87_60 xj_87_60 ?_))) (fun hc55 => (r_lds xc_87_63 xln_87_76 xls_87_76 ?_))))))) (fun hc48 => (r_aln xc_87_102 rfl (r_bi xc_87_103 kb_41 ?_))))))) (fun hc40 => (r_aln xc_87_102 rfl (r_bi xc_87_103 kb_41 ?_))))))
    · rw [kI_inj (by omega) (by omega)] at hc55
      exact lit true 16 (by unfold isL; decide) (by simp; omega)
    · rw [kI_inj (by omega) (by omega)] at hc55
      exact lit false 13 (by unfold isL; decide) (by simp; omega)
    · rw [kI_lt (by omega) (by omega)] at hc48; omega
    · rw [kI_lt (by omega) (by omega)] at hc40; omega
theorem P_steps {r i : Nat} {v : pN} {l : List Nat} (hi : i < 60) (hr300 : r ≤ 300) (hrp : rp a r i v) (hv : lfOk v) (h7 : v.1 = 7) (hL : L + (l ++ dL v).length ≤ 900) : p_M X 5 87 [.ref 20, .ref 1, .int (nI i)] (hc z a w y g L l) (fun q => q = (.inl none, hc z a w y g L (l ++ dL v))) := by
  obtain ⟨r0, r1, r2, r3, r4, r6, fr, r5, rl, rr⟩ := hrp
  have hv7 : v.2.1 < 1000000 ∧ v.2.2.1 = 0 ∧ v.2.2.2.2 ≠ [] ∧ v.2.2.2.2.length ≤ 6 ∧ ∀ q ∈ v.2.2.2.2, q.1 < 1000000 ∧ q.2 < 1000000 := by
    rcases hv.2.2 with h | h | h | h
    · omega
    · omega
    · omega
    · exact h.2
  have c5 : a 5 (nI i).toNatClampNeg = nI fr := by rw [kI_cl (by omega)]; exact r5
  have c6 : a 6 (nI i).toNatClampNeg = nI v.2.2.2.2.length := by rw [kI_cl (by omega)]; exact r6
  have c1 : a 1 (nI i).toNatClampNeg = nI v.2.1 := by rw [kI_cl (by omega)]; exact r1
  have eL : dL v = [115, 116, 101, 112, 40] ++ (dW v.2.1 ++ (dR true v.2.2.2.2 ++ [41])) := by
    unfold dL
    rw [if_neg (by omega), if_neg (by omega), if_neg (by omega)]
  rw [eL] at hL ⊢
  simp only [List.length_append, List.length_cons, List.length_nil] at hL
  refine (r_in xin_87 (r_aln xc_87_0 rfl (r_lds xc_87_1 xln_87_78 xls_87_78 ?_)))
  refine (r_c0 xc_87_3 xm_87_3 rfl xrc_81 rfl ((P_text (j := 15) (t := [115, 116, 101, 112, 40]) (by unfold isL; decide) (by simp only [List.length_append, List.length_cons, List.length_nil]; omega))) (r_aln xc_87_6 rfl (r_aln xc_87_7 rfl (r_get xc_87_8 xf_87_38 g_2_1 (r_iln xc_87_11 rfl (r_ia xc_87_12 b_3 ?_ ?_))))))
  · exact kI_in (by omega) (by omega)
  · have e1 : ∀ f : Nat → Int32, u_ a 13 f 1 (nI i).toNatClampNeg = nI v.2.1 := fun _ => c1
    rw [e1]
    refine (r_c0 xc_87_13 xm_87_13 rfl xrc_84 rfl ((p_M.up (P_whole hv7.1 (by simp only [List.length_append, List.length_cons, List.length_nil]; omega)) (by omega))) (r_aln xc_87_16 rfl (r_get xc_87_17 xf_87_83 g_2_5 (r_iln xc_87_20 rfl (r_ia xc_87_21 b_7 ?_ (r_isn [_, _, _, _, _, _] xc_87_22 rfl rfl (r_iln xc_87_23 rfl (r_aln xc_87_24 rfl (r_get xc_87_25 xf_87_86 g_2_6 (r_iln xc_87_28 rfl (r_ia xc_87_29 b_8 ?_ (r_iadd xc_87_30 (r_is [_, _, _, _, _, _] xc_87_31 rfl rfl (r_iln xc_87_33 rfl (r_is [_, _, _, _, _, _] xc_87_34 rfl rfl ?_)))))))))))))))
    · exact kI_in (by omega) (by omega)
    · exact kI_in (by omega) (by omega)
    · have e5 : ∀ f : Nat → Int32, u_ a 13 f 5 (nI i).toNatClampNeg = nI fr := fun _ => c5
      have e6 : ∀ f : Nat → Int32, u_ a 13 f 6 (nI i).toNatClampNeg = nI v.2.2.2.2.length := fun _ => c6
      rw [e5, e6, kI_add]
      have := L_psteps (X := X) (z := z) (a := a) (w := w) (y := y) (g := g) (L := L) (i := nI i) hv7.2.2.2.1 hv7.2.2.2.2 (by omega) rr v.2.2.2.2.length 0 (l ++ [115, 116, 101, 112, 40] ++ dW v.2.1) (by omega) (by simp only [List.length_append, List.length_cons, List.length_nil, List.drop_zero]; simp; omega)
      have ea : l ++ [115, 116, 101, 112, 40] ++ dW v.2.1 ++ (dR (decide (0 = 0)) (v.2.2.2.2.drop 0) ++ [41]) = l ++ ([115, 116, 101, 112, 40] ++ (dW v.2.1 ++ (dR true v.2.2.2.2 ++ [41]))) := by simp
      rw [ea] at this
      exact this
/-- brackets around a right side -/
theorem isSum_rp {r i : Nat} {t : List pN} (hR : Rp a r i t) (hT : TW t) : ∃ k, a 0 i = nI k ∧ k < 8 ∧ (isSum t = true ↔ k = 3 ∨ k = 4) := by
  have h1 := TW_ne hT
  cases t with
  | nil => simp at h1
  | cons v t =>
    have := hR 0 v rfl
    rw [Nat.add_zero] at this
    refine ⟨v.1, this.1, (TW_unit hT v List.mem_cons_self).2, ?_⟩
    show (v.1 == 3 || v.1 == 4) = true ↔ _
    simp
theorem P_node {N r : Nat} (h1 : z 1 = nI N) (hN : N ≤ 60) (hr300 : r ≤ 300) {t : List pN} (hT : TW t) : ∀ D i deep l, 6 + t.length ≤ D → Rp a r i t → i + t.length ≤ N → deep + t.length ≤ 60 → L + (l ++ PR t).length ≤ 900 → p_M X D 80 [.ref 20, .ref 1, .int (nI i), .int (nI deep)] (hc z a w y g L l) (fun q => q = (.inl none, hc z a w y g L (l ++ PR t))) := by
  refine TW_ind (C := fun t => ∀ D i deep l, 6 + t.length ≤ D → Rp a r i t → i + t.length ≤ N → deep + t.length ≤ 60 → L + (l ++ PR t).length ≤ 900 → p_M X D 80 [.ref 20, .ref 1, .int (nI i), .int (nI deep)] (hc z a w y g L l) (fun q => q = (.inl none, hc z a w y g L (l ++ PR t)))) ?_ ?_ hT
  · intro v hv D i deep l hD hR hi hdp hL
    simp only [List.length_singleton] at hD hi hdp
    obtain ⟨D, rfl⟩ : ∃ D', D = D' + 1 := ⟨D - 1, by omega⟩
    rw [PR_leaf hv] at hL ⊢
    have hrp := hR 0 v rfl
    rw [Nat.add_zero] at hrp
    have c0 : a 0 (nI i).toNatClampNeg = nI v.1 := by rw [kI_cl (by omega)]; exact hrp.1
    have c1 : ∀ f : Nat → Int32, u_ a 13 f 1 (nI i).toNatClampNeg = nI v.2.1 := fun _ => by show a 1 (nI i).toNatClampNeg = _; rw [kI_cl (by omega)]; exact hrp.2.1
    have c2 : ∀ f : Nat → Int32, u_ a 13 f 2 (nI i).toNatClampNeg = nI v.2.2.1 - nI 1 := fun _ => by show a 2 (nI i).toNatClampNeg = _; rw [kI_cl (by omega)]; exact hrp.2.2.1
    have hk : v.1 = 0 ∨ v.1 = 1 ∨ v.1 = 2 ∨ v.1 = 7 := by rcases hv.2.2 with h | h | h | h <;> omega
    have hnum := hv.2.1
    refine (r_in xin_80 (r_aln xc_80_0 rfl (r_iln xc_80_1 rfl ?_)))
    refine (r_cv xc_80_2 xm_80_2 rfl xrc_39 rfl (p_M.up (M_has_y (s := N) (i := i) h1 hN (by omega)) (by omega)) (r_zeq xc_80_5 xj_80_5 (fun hc5 => (r_r0 xc_80_14 xrt_80 ?_)) (fun hc5 => (r_iln xc_80_8 rfl (r_bi xc_80_9 kb_60 (r_clt xc_80_11 xj_80_11 (fun hc11 => (r_aln xc_80_15 rfl (r_get xc_80_16 xf_80_29 g_2_0 (r_iln xc_80_19 rfl (r_ia xc_80_20 b_2 ?_ (r_ts xc_80_21 (by decide) (by decide) (fun j hj hx => ?_) (fun hx => ?_))))))) (fun hc11 => (r_r0 xc_80_14 xrt_80 ?_))))))))
    · exact absurd hc5 (by decide)
    · exact kI_in (by omega) (by omega)
    · have hj : j < 7 := hj
      have hx : (a 0 (nI i).toNatClampNeg).toInt = 0 + (j : Int) := hx
      rw [c0, nI_toInt (by omega)] at hx
      rcases hk with hk | hk | hk | hk
      · have : j = 0 := by omega
        subst this
        have eL : dL v = [102, 114, 101, 101] := by unfold dL; rw [if_pos hk]
        rw [eL] at hL ⊢
        change p_E _ _ _ 64 _ _ _ _
        refine (r_aln xc_80_64 rfl (r_lds xc_80_65 xln_80_32 xls_80_32 ?_))
        refine (r_c0 xc_80_67 xm_80_67 rfl xrc_81 rfl (p_M.up (P_text (j := 0) (t := [102, 114, 101, 101]) (by unfold isL; decide) hL) (by omega)) (r_go xc_80_70 xj_80_70 (r_r0 xc_80_178 xrt_80 ?_)))
        rfl
      · have : j = 1 := by omega
        subst this
        have eL : dL v = dN v.2.1 ++ [37] := by unfold dL; rw [if_neg (by omega), if_pos hk]
        rw [eL] at hL ⊢
        simp only [List.length_append, List.length_cons, List.length_nil] at hL
        change p_E _ _ _ 73 _ _ _ _
        refine (r_aln xc_80_73 rfl (r_aln xc_80_74 rfl (r_get xc_80_75 xf_80_38 g_2_1 (r_iln xc_80_78 rfl (r_ia xc_80_79 b_3 ?_ ?_)))))
        · exact kI_in (by omega) (by omega)
        · rw [c1]
          refine (r_c0 xc_80_80 xm_80_80 rfl xrc_83 rfl (p_M.up (P_number hnum (by simp only [List.length_append]; omega)) (by omega)) (r_aln xc_80_83 rfl (r_bi xc_80_84 kb_37 ?_)))
          refine (r_c0 xc_80_86 xm_80_86 rfl xrc_82 rfl (p_M.up (P_sign (by simp only [List.length_append]; omega)) (by omega)) (r_go xc_80_89 xj_80_89 (r_r0 xc_80_178 xrt_80 ?_)))
          rw [List.append_assoc]
      · have : j = 2 := by omega
        subst this
        have eL : dL v = dN v.2.1 ++ [47, 64 + v.2.2.1] := by unfold dL; rw [if_neg (by omega), if_neg (by omega), if_pos hk]
        have hu : 1 ≤ v.2.2.1 ∧ v.2.2.1 ≤ 8 := by rcases hv.2.2 with h | h | h | h <;> omega
        rw [eL] at hL ⊢
        simp only [List.length_append, List.length_cons, List.length_nil] at hL
        change p_E _ _ _ 92 _ _ _ _
        refine (r_aln xc_80_92 rfl (r_aln xc_80_93 rfl (r_get xc_80_94 xf_80_38 g_2_1 (r_iln xc_80_97 rfl (r_ia xc_80_98 b_3 ?_ ?_)))))
        · exact kI_in (by omega) (by omega)
        · rw [c1]
          refine (r_c0 xc_80_99 xm_80_99 rfl xrc_83 rfl (p_M.up (P_number hnum (by simp only [List.length_append]; omega)) (by omega)) (r_aln xc_80_102 rfl (r_bi xc_80_103 kb_47 ?_)))
          refine (r_c0 xc_80_105 xm_80_105 rfl xrc_82 rfl (p_M.up (P_sign (by simp only [List.length_append]; omega)) (by omega)) (r_aln xc_80_108 rfl (r_bi xc_80_109 kb_65 (r_aln xc_80_111 rfl (r_get xc_80_112 xf_80_48 g_2_2 (r_iln xc_80_115 rfl (r_ia xc_80_116 b_4 ?_ (r_iadd xc_80_117 ?_))))))))
          · exact kI_in (by omega) (by omega)
          · rw [c2, kI_sub hu.1, kI_add, show 65 + (v.2.2.1 - 1) = 64 + v.2.2.1 by omega]
            refine (r_c0 xc_80_118 xm_80_118 rfl xrc_82 rfl (p_M.up (P_sign (by simp only [List.length_append, List.length_cons, List.length_nil]; omega)) (by omega)) (r_go xc_80_121 xj_80_121 (r_r0 xc_80_178 xrt_80 ?_)))
            have ea : l ++ dN v.2.1 ++ [47] ++ [64 + v.2.2.1] = l ++ (dN v.2.1 ++ [47, 64 + v.2.2.1]) := by simp
            rw [ea]
      · omega
    · have hx : (a 0 (nI i).toNatClampNeg).toInt < 0 ∨ 6 < (a 0 (nI i).toNatClampNeg).toInt := hx
      rw [c0, nI_toInt (by omega)] at hx
      have h7 : v.1 = 7 := by omega
      change p_E _ _ _ 172 _ _ _ _
      refine (r_aln xc_80_172 rfl (r_aln xc_80_173 rfl (r_iln xc_80_174 rfl ?_)))
      refine (r_c0 xc_80_175 xm_80_175 rfl xrc_87 rfl (p_M.up (P_steps (by omega) hr300 hrp hv h7 hL) (by omega)) (r_r0 xc_80_178 xrt_80 ?_))
      rfl
    · rw [kI_lt (by omega) (by omega)] at hc11; omega
  · intro v tl tr hv hl hr il ir D i deep l hD hR hi hdp hL
    simp only [List.length_cons, List.length_append] at hD hi hdp
    obtain ⟨D, rfl⟩ : ∃ D', D = D' + 2 := ⟨D - 2, by omega⟩
    have hl1 := TW_ne hl
    have hr1 := TW_ne hr
    rw [PR_node hv hl hr] at hL ⊢
    have hrp := hR 0 v rfl
    rw [Nat.add_zero] at hrp
    have hR0 : ¬ v.2.2.2.1 = 0 := by rw [hv.2.2.2.1]; omega
    have c0 : a 0 (nI i).toNatClampNeg = nI v.1 := by rw [kI_cl (by omega)]; exact hrp.1
    have c3 : ∀ f : Nat → Int32, u_ a 13 f 3 (nI i).toNatClampNeg = nI (i + 1) := fun _ => by show a 3 (nI i).toNatClampNeg = _; rw [kI_cl (by omega), hrp.2.2.2.1, if_neg hR0]
    have c4 : ∀ f : Nat → Int32, u_ a 13 f 4 (nI i).toNatClampNeg = nI (i + 1 + tl.length) := fun _ => by show a 4 (nI i).toNatClampNeg = _; rw [kI_cl (by omega), hrp.2.2.2.2.1, if_neg hR0, hv.2.2.2.1, show i + (1 + tl.length) = i + 1 + tl.length by omega]
    have hRl : Rp a r (i + 1) tl := fun k x hk => by
      have := hR (k + 1) x (by rw [List.getElem?_cons_succ, List.getElem?_append_left (getElem?_lt hk)]; exact hk)
      rw [show i + (k + 1) = i + 1 + k by omega] at this
      exact this
    have hRr : Rp a r (i + 1 + tl.length) tr := fun k x hk => by
      have := hR (tl.length + k + 1) x (by rw [List.getElem?_cons_succ, List.getElem?_append_right (by omega), Nat.add_sub_cancel_left]; exact hk)
      rw [show i + (tl.length + k + 1) = i + 1 + tl.length + k by omega] at this
      exact this
    obtain ⟨kr, kr0, kr8, krs⟩ := isSum_rp hRr hr
    have cr0 : ∀ f : Nat → Int32, u_ a 13 f 0 (nI (i + 1 + tl.length)).toNatClampNeg = nI kr := fun _ => by show a 0 (nI (i + 1 + tl.length)).toNatClampNeg = _; rw [kI_cl (by omega)]; exact kr0
    have two : ∀ jl tt, isL jl tt → (v.1 = 5 ∧ tt = [109, 105, 110, 40] ∨ v.1 = 6 ∧ tt = [109, 97, 120, 40]) → p_M X (D + 1) 86 [.ref 20, .ref 1, .int (nI i), .retAddr (jl + 1), .int (nI deep)] (hc z a w y g L l) (fun q => q = (.inl none, hc z a w y g L (l ++ dI v (PR tl) (PR tr) (isSum tr)))) := by
      intro jl tt hjl hk
      have eI : dI v (PR tl) (PR tr) (isSum tr) = tt ++ (PR tl ++ ([44, 32] ++ (PR tr ++ [41]))) := by
        unfold dI
        rcases hk with ⟨hk, rfl⟩ | ⟨hk, rfl⟩
        · rw [if_neg (by omega), if_pos hk]
        · rw [if_neg (by omega), if_neg (by omega)]
      rw [eI] at hL ⊢
      simp only [List.length_append, List.length_cons, List.length_nil] at hL
      refine (r_in xin_86 (r_aln xc_86_0 rfl (r_arn xc_86_1 rfl ?_)))
      refine (r_c0 xc_86_2 xm_86_2 rfl xrc_81 rfl (p_M.up (P_text hjl (by simp only [List.length_append]; omega)) (by omega)) (r_aln xc_86_5 rfl (r_aln xc_86_6 rfl (r_aln xc_86_7 rfl (r_get xc_86_8 xf_86_70 g_2_3 (r_iln xc_86_11 rfl (r_ia xc_86_12 b_5 ?_ (r_il xc_86_13 rfl (r_ic xc_86_15 kc_1 (r_iadd xc_86_16 ?_))))))))))
      · exact kI_in (by omega) (by omega)
      · rw [c3, kI_add]
        refine (r_c0 xc_86_17 xm_86_17 rfl xrc_80 rfl ((il D (i + 1) (deep + 1) (l ++ tt) (by omega) hRl (by omega) (by omega) (by simp only [List.length_append]; omega))) (r_aln xc_86_20 rfl (r_lds xc_86_21 xln_86_76 xls_86_76 ?_)))
        refine (r_c0 xc_86_23 xm_86_23 rfl xrc_81 rfl (p_M.up (P_text (j := 13) (t := [44, 32]) (by unfold isL; decide) (by simp only [List.length_append, List.length_cons, List.length_nil]; omega)) (by omega)) (r_aln xc_86_26 rfl (r_aln xc_86_27 rfl (r_aln xc_86_28 rfl (r_get xc_86_29 xf_86_73 g_2_4 (r_iln xc_86_32 rfl (r_ia xc_86_33 b_6 ?_ (r_il xc_86_34 rfl (r_ic xc_86_36 kc_1 (r_iadd xc_86_37 ?_))))))))))
        · exact kI_in (by omega) (by omega)
        · rw [c4, kI_add]
          refine (r_c0 xc_86_38 xm_86_38 rfl xrc_80 rfl ((ir D (i + 1 + tl.length) (deep + 1) (l ++ tt ++ PR tl ++ [44, 32]) (by omega) hRr (by omega) (by omega) (by simp only [List.length_append, List.length_cons, List.length_nil]; omega))) (r_aln xc_86_41 rfl (r_bi xc_86_42 kb_41 ?_)))
          refine (r_c0 xc_86_44 xm_86_44 rfl xrc_82 rfl (p_M.up (P_sign (by simp only [List.length_append, List.length_cons, List.length_nil]; omega)) (by omega)) (r_r0 xc_86_47 xrt_86 ?_))
          have ea : l ++ tt ++ PR tl ++ [44, 32] ++ PR tr ++ [41] = l ++ (tt ++ (PR tl ++ ([44, 32] ++ (PR tr ++ [41])))) := by simp
          rw [ea]
    have sides : ∀ jl c, isL jl [32, c, 32] → (v.1 = 3 ∧ c = 43 ∨ v.1 = 4 ∧ c = 45) → p_M X (D + 1) 85 [.ref 20, .ref 1, .int (nI i), .retAddr (jl + 1), .int (nI deep)] (hc z a w y g L l) (fun q => q = (.inl none, hc z a w y g L (l ++ dI v (PR tl) (PR tr) (isSum tr)))) := by
      intro jl c hjl hk
      have eI : dI v (PR tl) (PR tr) (isSum tr) = PR tl ++ ([32, c, 32] ++ ((if isSum tr then [40] else []) ++ (PR tr ++ (if isSum tr then [41] else [])))) := by
        unfold dI
        rw [if_pos (by omega)]
        rcases hk with ⟨hk, rfl⟩ | ⟨hk, rfl⟩
        · rw [if_pos hk]
        · rw [if_neg (by omega)]
      rw [eI] at hL ⊢
      refine (r_in xin_85 (r_aln xc_85_0 rfl (r_aln xc_85_1 rfl (r_aln xc_85_2 rfl (r_get xc_85_3 xf_85_70 g_2_3 (r_iln xc_85_6 rfl (r_ia xc_85_7 b_5 ?_ (r_il xc_85_8 rfl (r_ic xc_85_10 kc_1 (r_iadd xc_85_11 ?_))))))))))
      · exact kI_in (by omega) (by omega)
      · rw [c3, kI_add]
        refine (r_c0 xc_85_12 xm_85_12 rfl xrc_80 rfl ((il D (i + 1) (deep + 1) l (by omega) hRl (by omega) (by omega) (by simp only [List.length_append] at hL ⊢; omega))) (r_aln xc_85_15 rfl (r_arn xc_85_16 rfl ?_)))
        refine (r_c0 xc_85_17 xm_85_17 rfl xrc_81 rfl (p_M.up (P_text hjl (by simp only [List.length_append] at hL ⊢; omega)) (by omega)) (r_aln xc_85_20 rfl (r_get xc_85_21 xf_85_73 g_2_4 (r_iln xc_85_24 rfl (r_ia xc_85_25 b_6 ?_ (r_is [_, _, _, _, _, _, _] xc_85_26 rfl rfl (r_aln xc_85_28 rfl (r_il xc_85_29 rfl ?_))))))))
        · exact kI_in (by omega) (by omega)
        · rw [c4]
          have nob : isSum tr = false → ∀ b6, b6 = nI 0 → p_E X (D + 1) 85 85 [some (.ref 20), some (.ref 1), some (.int (nI i)), some (.retAddr (jl + 1)), some (.int (nI deep)), some (.int (nI (i + 1 + tl.length))), some (.int b6)] [.int (nI deep + nI 1), .int (nI (i + 1 + tl.length)), .ref 1, .ref 20] (hc z a w y g L (l ++ PR tl ++ [32, c, 32])) (fun q => q = (.inl none, hc z a w y g L (l ++ (PR tl ++ ([32, c, 32] ++ ((if isSum tr then [40] else []) ++ (PR tr ++ (if isSum tr then [41] else [])))))))) := by
            intro hb b6 hb6
            subst hb6
            rw [hb] at hL ⊢
            simp only [List.length_append, List.length_cons, List.length_nil, Bool.false_eq_true, if_false] at hL
            rw [kI_add]
            refine (r_c0 xc_85_85 xm_85_85 rfl xrc_80 rfl ((ir D (i + 1 + tl.length) (deep + 1) (l ++ PR tl ++ [32, c, 32]) (by omega) hRr (by omega) (by omega) (by simp only [List.length_append, List.length_cons, List.length_nil]; omega))) (r_il xc_85_88 rfl (r_zeq xc_85_90 xj_85_90 (fun hc90 => (r_r0 xc_85_99 xrt_85 ?_)) (fun hc90 => (r_aln xc_85_93 rfl (r_bi xc_85_94 kb_41 ?_))))))
            · have ea : l ++ PR tl ++ [32, c, 32] ++ PR tr = l ++ (PR tl ++ ([32, c, 32] ++ ((if false = true then [40] else []) ++ (PR tr ++ (if false = true then [41] else []))))) := by simp
              rw [ea]
            · exact absurd rfl hc90
          have yesb : isSum tr = true → ∀ b6, b6 = nI 1 → p_E X (D + 1) 85 74 [some (.ref 20), some (.ref 1), some (.int (nI i)), some (.retAddr (jl + 1)), some (.int (nI deep)), some (.int (nI (i + 1 + tl.length))), some (.int b6)] [.int (nI 40), .ref 20] (hc z a w y g L (l ++ PR tl ++ [32, c, 32])) (fun q => q = (.inl none, hc z a w y g L (l ++ (PR tl ++ ([32, c, 32] ++ ((if isSum tr then [40] else []) ++ (PR tr ++ (if isSum tr then [41] else [])))))))) := by
            intro hb b6 hb6
            subst hb6
            rw [hb] at hL ⊢
            simp only [List.length_append, List.length_cons, List.length_nil, if_true] at hL
            refine (r_c0 xc_85_74 xm_85_74 rfl xrc_82 rfl (p_M.up (P_sign (by simp only [List.length_append, List.length_cons, List.length_nil]; omega)) (by omega)) (r_aln xc_85_77 rfl (r_aln xc_85_78 rfl (r_il xc_85_79 rfl (r_il xc_85_81 rfl (r_ic xc_85_83 kc_1 (r_iadd xc_85_84 ?_)))))))
            rw [kI_add]
            refine (r_c0 xc_85_85 xm_85_85 rfl xrc_80 rfl ((ir D (i + 1 + tl.length) (deep + 1) (l ++ PR tl ++ [32, c, 32] ++ [40]) (by omega) hRr (by omega) (by omega) (by simp only [List.length_append, List.length_cons, List.length_nil]; omega))) (r_il xc_85_88 rfl (r_zeq xc_85_90 xj_85_90 (fun hc90 => (r_r0 xc_85_99 xrt_85 ?_)) (fun hc90 => (r_aln xc_85_93 rfl (r_bi xc_85_94 kb_41 ?_))))))
            · exact absurd hc90 (by decide)
            · refine (r_c0 xc_85_96 xm_85_96 rfl xrc_82 rfl (p_M.up (P_sign (by simp only [List.length_append, List.length_cons, List.length_nil]; omega)) (by omega)) (r_r0 xc_85_99 xrt_85 ?_))
              have ea : l ++ PR tl ++ [32, c, 32] ++ [40] ++ PR tr ++ [41] = l ++ (PR tl ++ ([32, c, 32] ++ ((if true = true then [40] else []) ++ (PR tr ++ (if true = true then [41] else []))))) := by simp
              rw [ea]
          refine (r_cv xc_85_31 xm_85_31 rfl xrc_39 rfl (p_M.up (M_has_y (s := N) (i := i + 1 + tl.length) h1 hN (by omega)) (by omega)) (r_zeq xc_85_34 xj_85_34 (fun hc34 => (r_ic xc_85_63 kc_0 (r_is [_, _, _, _, _, _, _] xc_85_64 rfl rfl (r_il xc_85_66 rfl (r_zeq xc_85_68 xj_85_68 (fun hc68 => (r_aln xc_85_77 rfl (r_aln xc_85_78 rfl (r_il xc_85_79 rfl (r_il xc_85_81 rfl (r_ic xc_85_83 kc_1 (r_iadd xc_85_84 ?_))))))) (fun hc68 => (r_aln xc_85_71 rfl (r_bi xc_85_72 kb_40 ?_)))))))) (fun hc34 => (r_aln xc_85_37 rfl (r_get xc_85_38 xf_85_29 g_2_0 (r_il xc_85_41 rfl (r_ia xc_85_43 b_2 ?_ (r_ic xc_85_44 kc_3 (r_ceq xc_85_45 xj_85_45 (fun hc45 => (r_ic xc_85_59 kc_1 (r_go xc_85_60 xj_85_60 (r_is [_, _, _, _, _, _, _] xc_85_64 rfl rfl (r_il xc_85_66 rfl (r_zeq xc_85_68 xj_85_68 (fun hc68 => (r_aln xc_85_77 rfl (r_aln xc_85_78 rfl (r_il xc_85_79 rfl (r_il xc_85_81 rfl (r_ic xc_85_83 kc_1 (r_iadd xc_85_84 ?_))))))) (fun hc68 => (r_aln xc_85_71 rfl (r_bi xc_85_72 kb_40 ?_))))))))) (fun hc45 => (r_aln xc_85_48 rfl (r_get xc_85_49 xf_85_29 g_2_0 (r_il xc_85_52 rfl (r_ia xc_85_54 b_2 ?_ (r_ic xc_85_55 kc_4 (r_cne xc_85_56 xj_85_56 (fun hc56 => (r_ic xc_85_59 kc_1 (r_go xc_85_60 xj_85_60 (r_is [_, _, _, _, _, _, _] xc_85_64 rfl rfl (r_il xc_85_66 rfl (r_zeq xc_85_68 xj_85_68 (fun hc68 => (r_aln xc_85_77 rfl (r_aln xc_85_78 rfl (r_il xc_85_79 rfl (r_il xc_85_81 rfl (r_ic xc_85_83 kc_1 (r_iadd xc_85_84 ?_))))))) (fun hc68 => (r_aln xc_85_71 rfl (r_bi xc_85_72 kb_40 ?_))))))))) (fun hc56 => (r_ic xc_85_63 kc_0 (r_is [_, _, _, _, _, _, _] xc_85_64 rfl rfl (r_il xc_85_66 rfl (r_zeq xc_85_68 xj_85_68 (fun hc68 => (r_aln xc_85_77 rfl (r_aln xc_85_78 rfl (r_il xc_85_79 rfl (r_il xc_85_81 rfl (r_ic xc_85_83 kc_1 (r_iadd xc_85_84 ?_))))))) (fun hc68 => (r_aln xc_85_71 rfl (r_bi xc_85_72 kb_40 ?_))))))))))))))))))))))))
          · exact absurd hc34 (by decide)
          · exact absurd hc34 (by decide)
          · exact kI_in (by omega) (by omega)
          · exact absurd hc68 (by decide)
          · rw [cr0, kI_inj (by omega) (by omega)] at hc45
            exact yesb (krs.mpr (Or.inl hc45)) _ rfl
          · exact kI_in (by omega) (by omega)
          · exact absurd hc68 (by decide)
          · rw [cr0, kI_inj (by omega) (by omega)] at hc56
            exact yesb (krs.mpr (Or.inr hc56)) _ rfl
          · rw [cr0, kI_inj (by omega) (by omega)] at hc45 hc56
            refine nob ?_ _ rfl
            cases hs : isSum tr with
            | false => rfl
            | true => exfalso; rcases krs.mp hs with h | h <;> omega
          · exact absurd rfl hc68
    refine (r_in xin_80 (r_aln xc_80_0 rfl (r_iln xc_80_1 rfl ?_)))
    refine (r_cv xc_80_2 xm_80_2 rfl xrc_39 rfl (p_M.up (M_has_y (s := N) (i := i) h1 hN (by omega)) (by omega)) (r_zeq xc_80_5 xj_80_5 (fun hc5 => (r_r0 xc_80_14 xrt_80 ?_)) (fun hc5 => (r_iln xc_80_8 rfl (r_bi xc_80_9 kb_60 (r_clt xc_80_11 xj_80_11 (fun hc11 => (r_aln xc_80_15 rfl (r_get xc_80_16 xf_80_29 g_2_0 (r_iln xc_80_19 rfl (r_ia xc_80_20 b_2 ?_ (r_ts xc_80_21 (by decide) (by decide) (fun j hj hx => ?_) (fun hx => ?_))))))) (fun hc11 => (r_r0 xc_80_14 xrt_80 ?_))))))))
    · exact absurd hc5 (by decide)
    · exact kI_in (by omega) (by omega)
    · have hj : j < 7 := hj
      have hx : (a 0 (nI i).toNatClampNeg).toInt = 0 + (j : Int) := hx
      have hk8 : v.1 < 8 := by rcases hv.1 with h | h | h | h <;> omega
      rw [c0, nI_toInt (by omega)] at hx
      rcases hv.1 with hk | hk | hk | hk
      · have : j = 3 := by omega
        subst this
        change p_E _ _ _ 124 _ _ _ _
        refine (r_aln xc_80_124 rfl (r_aln xc_80_125 rfl (r_iln xc_80_126 rfl (r_lds xc_80_127 xln_80_51 xls_80_51 (r_iln xc_80_129 rfl ?_)))))
        refine (r_c0 xc_80_130 xm_80_130 rfl xrc_85 rfl ((sides 10 43 (by unfold isL; decide) (Or.inl ⟨hk, rfl⟩))) (r_go xc_80_133 xj_80_133 (r_r0 xc_80_178 xrt_80 ?_)))
        rfl
      · have : j = 4 := by omega
        subst this
        change p_E _ _ _ 136 _ _ _ _
        refine (r_aln xc_80_136 rfl (r_aln xc_80_137 rfl (r_iln xc_80_138 rfl (r_lds xc_80_139 xln_80_57 xls_80_57 (r_iln xc_80_141 rfl ?_)))))
        refine (r_c0 xc_80_142 xm_80_142 rfl xrc_85 rfl ((sides 11 45 (by unfold isL; decide) (Or.inr ⟨hk, rfl⟩))) (r_go xc_80_145 xj_80_145 (r_r0 xc_80_178 xrt_80 ?_)))
        rfl
      · have : j = 5 := by omega
        subst this
        change p_E _ _ _ 148 _ _ _ _
        refine (r_aln xc_80_148 rfl (r_aln xc_80_149 rfl (r_iln xc_80_150 rfl (r_lds xc_80_151 xln_80_59 xls_80_59 (r_iln xc_80_153 rfl ?_)))))
        refine (r_c0 xc_80_154 xm_80_154 rfl xrc_86 rfl ((two 12 [109, 105, 110, 40] (by unfold isL; decide) (Or.inl ⟨hk, rfl⟩))) (r_go xc_80_157 xj_80_157 (r_r0 xc_80_178 xrt_80 ?_)))
        rfl
      · have : j = 6 := by omega
        subst this
        change p_E _ _ _ 160 _ _ _ _
        refine (r_aln xc_80_160 rfl (r_aln xc_80_161 rfl (r_iln xc_80_162 rfl (r_lds xc_80_163 xln_80_64 xls_80_64 (r_iln xc_80_165 rfl ?_)))))
        refine (r_c0 xc_80_166 xm_80_166 rfl xrc_86 rfl ((two 14 [109, 97, 120, 40] (by unfold isL; decide) (Or.inr ⟨hk, rfl⟩))) (r_go xc_80_169 xj_80_169 (r_r0 xc_80_178 xrt_80 ?_)))
        rfl
    · have hx : (a 0 (nI i).toNatClampNeg).toInt < 0 ∨ 6 < (a 0 (nI i).toNatClampNeg).toInt := hx
      have hk8 : v.1 < 8 := by rcases hv.1 with h | h | h | h <;> omega
      rw [c0, nI_toInt (by omega)] at hx
      rcases hv.1 with h | h | h | h <;> omega
    · rw [kI_lt (by omega) (by omega)] at hc11; omega
end PRINT
