/-! ===== the class's words ===== -/
/-- the signs from f to e are literal j -/
def isW (T : Nat → Int32) (f e j : Nat) : Prop := e - f = p_slen j ∧ ∀ k, k < p_slen j → T (f + k) = p_schr j k
noncomputable def kW (T : Nat → Int32) (f e : Nat) : Int32 := p_if (isW T f e 0) (nI 0) (p_if (isW T f e 1) (nI 5) (p_if (isW T f e 2) (nI 6) (p_if (isW T f e 3) (nI 7) (-1))))
section WORD
variable {X : pX} {d n p j : Nat} {z : Nat → Int32} {a : Nat → Nat → Int32} {w : Nat → Nat → Int64} {y : Nat → Int64} {g : List pE}
theorem L_isWord {f e : Nat} (hj : j < p_lits) (h4 : z 4 = nI e) (he : e ≤ 300) (hl : e - f = p_slen j) (hf : f ≤ e) : ∀ m i, e - i = m → f ≤ i → i ≤ e → p_E X 4 29 17 [some (.ref 11), some (.int (nI f)), some (.retAddr (j + 1)), some (.int (nI i))] [] (hp z a w y g) (fun q => ((∀ k, i - f ≤ k → k < p_slen j → a 9 (f + k) = p_schr j k) → q = (.inl (some (.int (nI 1))), hp z a w y g)) ∧ (¬ (∀ k, i - f ≤ k → k < p_slen j → a 9 (f + k) = p_schr j k) → q = (.inl (some (.int (nI 0))), hp z a w y g))) := by
  intro m
  induction m with
  | zero =>
    intro i hm h1 h2
    refine (r_iln xc_29_17 rfl (r_aln xc_29_18 rfl (r_get xc_29_19 xf_29_28 g_1_3 (r_cge xc_29_22 xj_29_22 (fun hc22 => (r_aln xc_29_25 rfl (r_get xc_29_26 xf_29_9 g_1_1 (r_iln xc_29_29 rfl (r_ia xc_29_30 b_12 ?_ (r_arn xc_29_31 rfl (r_iln xc_29_32 rfl (r_iln xc_29_33 rfl (r_isub xc_29_34 ?_))))))))) (fun hc22 => (r_ic xc_29_49 kc_1 (r_rz xc_29_50 xrt_29 ?_ ?_)))))))
    · rw [h4, kI_lt (by omega) (by omega)] at hc22; omega
    · rw [h4, kI_lt (by omega) (by omega)] at hc22; omega
    · exact Or.inr rfl
    · exact ⟨fun _ => rfl, fun h => absurd (fun k h3 h4 => by omega) h⟩
  | succ m ih =>
    intro i hm h1 h2
    have e0 : nI i - nI f = nI (i - f) := kI_sub h1
    refine (r_iln xc_29_17 rfl (r_aln xc_29_18 rfl (r_get xc_29_19 xf_29_28 g_1_3 (r_cge xc_29_22 xj_29_22 (fun hc22 => (r_aln xc_29_25 rfl (r_get xc_29_26 xf_29_9 g_1_1 (r_iln xc_29_29 rfl (r_ia xc_29_30 b_12 ?_ (r_arn xc_29_31 rfl (r_iln xc_29_32 rfl (r_iln xc_29_33 rfl (r_isub xc_29_34 ?_))))))))) (fun hc22 => (r_ic xc_29_49 kc_1 (r_rz xc_29_50 xrt_29 ?_ ?_)))))))
    · exact kI_in (by omega) (by omega)
    · rw [e0]
      refine (r_cv xc_29_35 xm_29_35 rfl (xrc_32 hj) rfl (M_charAt (k := i - f) hj (by omega)) (r_ceq xc_29_38 xj_29_38 (fun hc38 => (r_inc [_, _, _, _] xc_29_43 rfl rfl (ki_1 _) rfl (r_go xc_29_46 xj_29_46 ?_))) (fun hc38 => (r_ic xc_29_41 kc_0 (r_rz xc_29_42 xrt_29 ?_ ?_)))))
      · rw [kI_cl (by omega)] at hc38
        rw [kI_add]
        refine (ih (i + 1) (by omega) (by omega) (by omega)).mono (fun q hq => ⟨fun h => hq.1 (fun k h3 h4 => h k (by omega) h4), fun h => hq.2 (fun h5 => h (fun k h3 h4 => ?_))⟩)
        by_cases hk : k = i - f
        · subst hk; rw [show f + (i - f) = i by omega]; exact hc38
        · exact h5 k (by omega) h4
      · exact Or.inl rfl
      · rw [kI_cl (by omega)] at hc38
        refine ⟨fun h => absurd ?_ hc38, fun _ => rfl⟩
        have := h (i - f) (Nat.le_refl _) (by omega)
        rw [show f + (i - f) = i by omega] at this
        exact this
    · rw [h4, kI_lt (by omega) (by omega)] at hc22; omega
    · rw [h4, kI_lt (by omega) (by omega)] at hc22; omega
theorem M_isWord {f e : Nat} (hj : j < p_lits) (h4 : z 4 = nI e) (he : e ≤ 300) (hf : f ≤ e) : p_M X 4 29 [.ref 11, .int (nI f), .retAddr (j + 1)] (hp z a w y g) (fun q => (isW (a 9) f e j → q = (.inl (some (.int (nI 1))), hp z a w y g)) ∧ (¬ isW (a 9) f e j → q = (.inl (some (.int (nI 0))), hp z a w y g))) := by
  have hl : p_slen j < 1000 := by
    by_cases h : 0 < p_slen j
    · exact Nat.lt_of_le_of_lt (p_chr_ok j hj 0 h).2.2 (by omega)
    · omega
  have e0 : z 4 - nI f = nI (e - f) := by rw [h4]; exact kI_sub hf
  refine (r_in xin_29 (r_aln xc_29_0 rfl (r_get xc_29_1 xf_29_28 g_1_3 (r_iln xc_29_4 rfl (r_isub xc_29_5 (r_arn xc_29_6 rfl ?_))))))
  refine (r_cv xc_29_7 xm_29_7 rfl (xrc_30 hj) rfl ((M_length hj).up (by omega)) (r_ceq xc_29_10 xj_29_10 (fun hc10 => (r_iln xc_29_15 rfl (r_isn [_, _, _, _] xc_29_16 rfl rfl ?_))) (fun hc10 => (r_ic xc_29_13 kc_0 (r_rz xc_29_14 xrt_29 ?_ ?_)))))
  · rw [e0, kI_inj (by omega) (by omega)] at hc10
    refine (L_isWord hj h4 he hc10 hf (e - f) f rfl (by omega) hf).mono (fun q hq => ⟨fun h => hq.1 (fun k _ h3 => h.2 k h3), fun h => hq.2 (fun h5 => h ⟨hc10, fun k h3 => h5 k (by omega) h3⟩)⟩)
  · exact Or.inl rfl
  · rw [e0, kI_inj (by omega) (by omega)] at hc10
    exact ⟨fun h => absurd h.1 hc10, fun _ => rfl⟩
theorem M_isWord_y {f e : Nat} (hj : j < p_lits) (h4 : z 4 = nI e) (he : e ≤ 300) (hf : f ≤ e) (h : isW (a 9) f e j) : p_M X 4 29 [.ref 11, .int (nI f), .retAddr (j + 1)] (hp z a w y g) (fun q => q = (.inl (some (.int (nI 1))), hp z a w y g)) := (M_isWord hj h4 he hf).mono (fun _ hq => hq.1 h)
theorem M_isWord_n {f e : Nat} (hj : j < p_lits) (h4 : z 4 = nI e) (he : e ≤ 300) (hf : f ≤ e) (h : ¬ isW (a 9) f e j) : p_M X 4 29 [.ref 11, .int (nI f), .retAddr (j + 1)] (hp z a w y g) (fun q => q = (.inl (some (.int (nI 0))), hp z a w y g)) := (M_isWord hj h4 he hf).mono (fun _ hq => hq.2 h)
theorem L_word {f e : Nat} (h4 : z 4 = nI e) (he : e ≤ 300) (hf : f ≤ e) : p_E X 5 28 57 [some (.ref 11), some (.int (nI f))] [] (hp z a w y g) (fun q => q = (.inl (some (.int (kW (a 9) f e))), hp z a w y g)) := by
  refine (r_aln xc_28_57 rfl (r_iln xc_28_58 rfl (r_lds xc_28_59 xln_28_121 xls_28_121 ?_)))
  by_cases h0 : isW (a 9) f e 0
  · refine (r_cv xc_28_61 xm_28_61 rfl xrc_29 rfl (M_isWord_y (by decide) h4 he hf h0) (r_zeq xc_28_64 xj_28_64 (fun hc64 => (r_aln xc_28_69 rfl (r_iln xc_28_70 rfl (r_lds xc_28_71 xln_28_127 xls_28_127 ?_)))) (fun hc64 => (r_ic xc_28_67 kc_0 (r_ri xc_28_68 xrt_28 ?_)))))
    · exact absurd hc64 (by decide)
    · unfold kW; rw [p_if_t h0]
  · refine (r_cv xc_28_61 xm_28_61 rfl xrc_29 rfl (M_isWord_n (by decide) h4 he hf h0) (r_zeq xc_28_64 xj_28_64 (fun hc64 => (r_aln xc_28_69 rfl (r_iln xc_28_70 rfl (r_lds xc_28_71 xln_28_127 xls_28_127 ?_)))) (fun hc64 => (r_ic xc_28_67 kc_0 (r_ri xc_28_68 xrt_28 ?_)))))
    · by_cases h1 : isW (a 9) f e 1
      · refine (r_cv xc_28_73 xm_28_73 rfl xrc_29 rfl (M_isWord_y (by decide) h4 he hf h1) (r_zeq xc_28_76 xj_28_76 (fun hc76 => (r_aln xc_28_81 rfl (r_iln xc_28_82 rfl (r_lds xc_28_83 xln_28_129 xls_28_129 ?_)))) (fun hc76 => (r_ic xc_28_79 kc_5 (r_ri xc_28_80 xrt_28 ?_)))))
        · exact absurd hc76 (by decide)
        · unfold kW; rw [p_if_f h0, p_if_t h1]
      · refine (r_cv xc_28_73 xm_28_73 rfl xrc_29 rfl (M_isWord_n (by decide) h4 he hf h1) (r_zeq xc_28_76 xj_28_76 (fun hc76 => (r_aln xc_28_81 rfl (r_iln xc_28_82 rfl (r_lds xc_28_83 xln_28_129 xls_28_129 ?_)))) (fun hc76 => (r_ic xc_28_79 kc_5 (r_ri xc_28_80 xrt_28 ?_)))))
        · by_cases h2 : isW (a 9) f e 2
          · refine (r_cv xc_28_85 xm_28_85 rfl xrc_29 rfl (M_isWord_y (by decide) h4 he hf h2) (r_zeq xc_28_88 xj_28_88 (fun hc88 => (r_aln xc_28_94 rfl (r_iln xc_28_95 rfl (r_lds xc_28_96 xln_28_131 xls_28_131 ?_)))) (fun hc88 => (r_bi xc_28_91 kb_6 (r_ri xc_28_93 xrt_28 ?_)))))
            · exact absurd hc88 (by decide)
            · unfold kW; rw [p_if_f h0, p_if_f h1, p_if_t h2]
          · refine (r_cv xc_28_85 xm_28_85 rfl xrc_29 rfl (M_isWord_n (by decide) h4 he hf h2) (r_zeq xc_28_88 xj_28_88 (fun hc88 => (r_aln xc_28_94 rfl (r_iln xc_28_95 rfl (r_lds xc_28_96 xln_28_131 xls_28_131 ?_)))) (fun hc88 => (r_bi xc_28_91 kb_6 (r_ri xc_28_93 xrt_28 ?_)))))
            · by_cases h3 : isW (a 9) f e 3
              · refine (r_cv xc_28_98 xm_28_98 rfl xrc_29 rfl (M_isWord_y (by decide) h4 he hf h3) (r_zeq xc_28_101 xj_28_101 (fun hc101 => (r_ic xc_28_109 kc_m1 (r_ri xc_28_110 xrt_28 ?_))) (fun hc101 => (r_bi xc_28_104 kb_7 (r_go xc_28_106 xj_28_106 (r_ri xc_28_110 xrt_28 ?_))))))
                · exact absurd hc101 (by decide)
                · unfold kW; rw [p_if_f h0, p_if_f h1, p_if_f h2, p_if_t h3]
              · refine (r_cv xc_28_98 xm_28_98 rfl xrc_29 rfl (M_isWord_n (by decide) h4 he hf h3) (r_zeq xc_28_101 xj_28_101 (fun hc101 => (r_ic xc_28_109 kc_m1 (r_ri xc_28_110 xrt_28 ?_))) (fun hc101 => (r_bi xc_28_104 kb_7 (r_go xc_28_106 xj_28_106 (r_ri xc_28_110 xrt_28 ?_))))))
                · unfold kW; rw [p_if_f h0, p_if_f h1, p_if_f h2, p_if_f h3]
                · exact absurd rfl hc101
            · exact absurd rfl hc88
        · exact absurd rfl hc76
    · exact absurd rfl hc64
theorem L_small {f : Nat} (h3 : z 3 = nI n) (hn : n ≤ 300) : ∀ k p, n - p = k → p ≤ n → f ≤ p → p_E X 5 28 5 [some (.ref 11), some (.int (nI f))] [] (hp (u_ z 4 (nI p)) a w y g) (fun q => q = (.inl (some (.int (kW (a 9) f (sk cS (a 9) k p)))), hp (u_ z 4 (nI (sk cS (a 9) k p))) a w y g)) := by
  intro k
  induction k with
  | zero =>
    intro p hk hq hf
    have hc : ∀ {C : Prop}, nI p < z 3 → C := fun h => by rw [h3, kI_lt (by omega) (by omega)] at h; omega
    refine (r_aln xc_28_5 rfl (r_get xc_28_6 xf_28_28 g_1_3 (r_aln xc_28_9 rfl (r_get xc_28_10 xf_28_19 g_1_2 (r_cge xc_28_13 xj_28_13 (fun hc13 => (r_aln xc_28_16 rfl (r_get xc_28_17 xf_28_9 g_1_1 (r_aln xc_28_20 rfl (r_get xc_28_21 xf_28_28 g_1_3 (r_ia xc_28_24 b_12 ?_ (r_bi xc_28_25 kb_97 (r_clt xc_28_27 xj_28_27 (fun hc27 => ?_) (fun hc27 => (r_aln xc_28_30 rfl (r_get xc_28_31 xf_28_9 g_1_1 (r_aln xc_28_34 rfl (r_get xc_28_35 xf_28_28 g_1_3 (r_ia xc_28_38 b_12 ?_ (r_bi xc_28_39 kb_122 (r_cgt xc_28_41 xj_28_41 (fun hc41 => ?_) (fun hc41 => (r_aln xc_28_44 rfl (r_dup xc_28_45 rfl (r_get xc_28_46 xf_28_28 g_1_3 (r_ic xc_28_49 kc_1 (r_iadd xc_28_50 (r_put xc_28_51 xf_28_28 rfl s_1_3 (r_go xc_28_54 xj_28_54 ?_)))))))))))))))))))))))) (fun hc13 => ?_))))))
    · exact hc hc13
    · exact hc hc13
    · exact hc hc13
    · exact hc hc13
    · exact hc hc13
    · exact L_word (e := p) rfl (by omega) hf
  | succ k ih =>
    intro p hk hq hf
    have hc : nI p < z 3 := by rw [h3, kI_lt (by omega) (by omega)]; omega
    refine (r_aln xc_28_5 rfl (r_get xc_28_6 xf_28_28 g_1_3 (r_aln xc_28_9 rfl (r_get xc_28_10 xf_28_19 g_1_2 (r_cge xc_28_13 xj_28_13 (fun hc13 => (r_aln xc_28_16 rfl (r_get xc_28_17 xf_28_9 g_1_1 (r_aln xc_28_20 rfl (r_get xc_28_21 xf_28_28 g_1_3 (r_ia xc_28_24 b_12 ?_ (r_bi xc_28_25 kb_97 (r_clt xc_28_27 xj_28_27 (fun hc27 => ?_) (fun hc27 => (r_aln xc_28_30 rfl (r_get xc_28_31 xf_28_9 g_1_1 (r_aln xc_28_34 rfl (r_get xc_28_35 xf_28_28 g_1_3 (r_ia xc_28_38 b_12 ?_ (r_bi xc_28_39 kb_122 (r_cgt xc_28_41 xj_28_41 (fun hc41 => ?_) (fun hc41 => (r_aln xc_28_44 rfl (r_dup xc_28_45 rfl (r_get xc_28_46 xf_28_28 g_1_3 (r_ic xc_28_49 kc_1 (r_iadd xc_28_50 (r_put xc_28_51 xf_28_28 rfl s_1_3 (r_go xc_28_54 xj_28_54 ?_)))))))))))))))))))))))) (fun hc13 => ?_))))))
    · exact kI_in (by omega) (by omega)
    · have hc27 : a 9 (nI p).toNatClampNeg < nI 97 := hc27
      rw [kI_cl (by omega)] at hc27
      rw [sk_f (by unfold cS; exact decide_eq_false (fun h => h.1 hc27))]
      exact L_word rfl (by omega) hf
    · exact kI_in (by omega) (by omega)
    · have hc41 : nI 122 < a 9 (nI p).toNatClampNeg := hc41
      rw [kI_cl (by omega)] at hc41
      rw [sk_f (by unfold cS; exact decide_eq_false (fun h => h.2 hc41))]
      exact L_word rfl (by omega) hf
    · have hc27 : ¬ a 9 (nI p).toNatClampNeg < nI 97 := hc27
      have hc41 : ¬ nI 122 < a 9 (nI p).toNatClampNeg := hc41
      rw [kI_cl (by omega)] at hc27 hc41
      rw [u_u, sk_t (by unfold cS; exact decide_eq_true ⟨hc27, hc41⟩)]
      have e : u_ z 4 (nI p) 4 + nI 1 = nI (p + 1) := kI_add p 1
      rw [e]
      exact ih (p + 1) (by omega) (by omega) (by omega)
    · exact absurd hc hc13
theorem M_readWord (h3 : z 3 = nI n) (h4 : z 4 = nI p) (hn : n ≤ 300) (hq : p ≤ n) : p_M X 5 28 [.ref 11] (hp z a w y g) (fun q => q = (.inl (some (.int (kW (a 9) p (skn cS (a 9) n p)))), hp (u_ z 4 (nI (skn cS (a 9) n p))) a w y g)) := by
  refine (r_in xin_28 (r_aln xc_28_0 rfl (r_get xc_28_1 xf_28_28 g_1_3 (r_isn [_, _] xc_28_4 rfl rfl ?_))))
  rw [h4]
  have := L_small (X := X) (a := a) (w := w) (y := y) (g := g) (f := p) h3 hn (n - p) p rfl hq (Nat.le_refl _)
  rw [u_idv h4] at this
  exact this
/-- takeSign -/
def okS (c : Int32) : Prop := ¬ c < nI 32 ∧ ¬ nI 126 < c
theorem M_takeSign_y {c : Int32} (h3 : z 3 = nI n) (hn : n < 300) (hc : okS c) : p_M X 0 8 [.ref 11, .int c] (hp z a w y g) (fun q => q = (.inl (some (.int (nI 1))), hp (u_ z 3 (nI (n + 1))) (u_ a 9 (upd (a 9) n c)) w y g)) := by
  refine (r_in xin_8 (r_iln xc_8_0 rfl (r_bi xc_8_1 kb_32 (r_clt xc_8_3 xj_8_3 (fun hc3 => (r_ic xc_8_22 kc_0 (r_rz xc_8_23 xrt_8 ?_ ?_))) (fun hc3 => (r_iln xc_8_6 rfl (r_bi xc_8_7 kb_126 (r_cgt xc_8_9 xj_8_9 (fun hc9 => (r_ic xc_8_22 kc_0 (r_rz xc_8_23 xrt_8 ?_ ?_))) (fun hc9 => (r_aln xc_8_12 rfl (r_get xc_8_13 xf_8_19 g_1_2 (r_si xc_8_16 ks_300 (r_clt xc_8_19 xj_8_19 (fun hc19 => (r_aln xc_8_24 rfl (r_get xc_8_25 xf_8_9 g_1_1 (r_aln xc_8_28 rfl (r_get xc_8_29 xf_8_19 g_1_2 (r_iln xc_8_32 rfl (r_ias xc_8_33 b_12 t_12 ?_ (r_aln xc_8_34 rfl (r_dup xc_8_35 rfl (r_get xc_8_36 xf_8_19 g_1_2 (r_ic xc_8_39 kc_1 (r_iadd xc_8_40 (r_put xc_8_41 xf_8_19 rfl s_1_2 (r_ic xc_8_44 kc_1 (r_rz xc_8_45 xrt_8 ?_ ?_))))))))))))))) (fun hc19 => (r_ic xc_8_22 kc_0 (r_rz xc_8_23 xrt_8 ?_ ?_))))))))))))))))
  · exact Or.inl rfl
  · exact absurd hc3 hc.1
  · exact Or.inl rfl
  · exact absurd hc9 hc.2
  · rw [h3]; exact kI_in (by omega) (by omega)
  · exact Or.inr rfl
  · rw [h3, kI_cl (by omega), kI_add]
  · exact Or.inl rfl
  · rw [h3, kI_lt (by omega) (by omega)] at hc19; exact absurd hn hc19
theorem M_takeSign_n {c : Int32} (h3 : z 3 = nI n) (hn : n ≤ 300) (hc : ¬ (okS c ∧ n < 300)) : p_M X 0 8 [.ref 11, .int c] (hp z a w y g) (fun q => q = (.inl (some (.int (nI 0))), hp z a w y g)) := by
  refine (r_in xin_8 (r_iln xc_8_0 rfl (r_bi xc_8_1 kb_32 (r_clt xc_8_3 xj_8_3 (fun hc3 => (r_ic xc_8_22 kc_0 (r_rz xc_8_23 xrt_8 ?_ ?_))) (fun hc3 => (r_iln xc_8_6 rfl (r_bi xc_8_7 kb_126 (r_cgt xc_8_9 xj_8_9 (fun hc9 => (r_ic xc_8_22 kc_0 (r_rz xc_8_23 xrt_8 ?_ ?_))) (fun hc9 => (r_aln xc_8_12 rfl (r_get xc_8_13 xf_8_19 g_1_2 (r_si xc_8_16 ks_300 (r_clt xc_8_19 xj_8_19 (fun hc19 => (r_aln xc_8_24 rfl (r_get xc_8_25 xf_8_9 g_1_1 (r_aln xc_8_28 rfl (r_get xc_8_29 xf_8_19 g_1_2 (r_iln xc_8_32 rfl (r_ias xc_8_33 b_12 t_12 ?_ (r_aln xc_8_34 rfl (r_dup xc_8_35 rfl (r_get xc_8_36 xf_8_19 g_1_2 (r_ic xc_8_39 kc_1 (r_iadd xc_8_40 (r_put xc_8_41 xf_8_19 rfl s_1_2 (r_ic xc_8_44 kc_1 (r_rz xc_8_45 xrt_8 ?_ ?_))))))))))))))) (fun hc19 => (r_ic xc_8_22 kc_0 (r_rz xc_8_23 xrt_8 ?_ ?_))))))))))))))))
  · exact Or.inl rfl
  · rfl
  · exact Or.inl rfl
  · rfl
  · rw [h3, kI_lt (by omega) (by omega)] at hc19; exact absurd ⟨⟨hc3, hc9⟩, hc19⟩ hc
  · exact Or.inr rfl
  · rw [h3, kI_lt (by omega) (by omega)] at hc19; exact absurd ⟨⟨hc3, hc9⟩, hc19⟩ hc
  · exact Or.inl rfl
  · rfl
end WORD
