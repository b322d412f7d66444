/-! ===== the class reads steps, parts and rates ===== -/
section PAR2
variable {X : pX} {n : Nat} {T : Nat → Int32} {w : Nat → Nat → Int64} {y : Nat → Int64} {g : List pE}
theorem CPost.val {z : Nat → Int32} {a : Nat → Nat → Int32} {cnt r : Nat} {res : pS} {q : pR} (h : CPost T n w y g z a cnt r res q) : ∃ x z' a', q = (.inl (some (.int x)), hp z' a' w y g) ∧ (x = nI 0 ∨ x = nI 1) := by
  cases res with
  | inl b =>
    obtain ⟨z', a', g1, g2⟩ := h
    exact ⟨_, z', a', g1, Or.inl rfl⟩
  | inr s =>
    obtain ⟨p', ns, mx'⟩ := s
    obtain ⟨z', a', r', g1, g2⟩ := h
    exact ⟨_, z', a', g1, Or.inr rfl⟩
theorem CPost.ex {D mi : Nat} {as : List Value} {h0 : List pE} {z : Nat → Int32} {a : Nat → Nat → Int32} {cnt r : Nat} {res : pS} (h : p_M X D mi as h0 (CPost T n w y g z a cnt r res)) : p_M X D mi as h0 (fun q => ∃ x z' a', q = (.inl (some (.int x)), hp z' a' w y g) ∧ (x = nI 0 ∨ x = nI 1) ∧ CPost T n w y g z a cnt r res q) :=
  h.mono (fun q hq => by obtain ⟨x, z', a', e, hx⟩ := hq.val; exact ⟨x, z', a', e, hx, hq⟩)
theorem CPost.pre2 {z z1 : Nat → Int32} {a a1 : Nat → Nat → Int32} {cnt r : Nat} {res : pS} {q : pR} (h : CPost T n w y g z1 a1 cnt r res q) (hF : CF z a z1 a1) (hn : ∀ i, i < cnt → nv a1 i = nv a i) (hw : RW a a1 r) : CPost T n w y g z a cnt r res q := by
  cases res with
  | inl b =>
    obtain ⟨z', a', g1, g2, g3⟩ := h
    exact ⟨z', a', g1, g2, hF.tr g3⟩
  | inr s =>
    obtain ⟨p', ns, mx'⟩ := s
    obtain ⟨z', a', r', g1, g2, g3, g4, g5, g6, g7⟩ := h
    exact ⟨z', a', r', g1, g2, hF.tr g3, g4, fun i hi => (g5 i hi).trans (hn i hi), hw.tr g6 (Nat.le_refl _), g7⟩
theorem RPost.ex {D mi : Nat} {as : List Value} {h0 : List pE} {z : Nat → Int32} {a : Nat → Nat → Int32} {cnt mx r i fr : Nat} {res : Nat ⊕ (Nat × List (Nat × Nat))} (h : p_M X D mi as h0 (RPost T n w y g z a cnt mx r i fr res)) : p_M X D mi as h0 (fun q => ∃ x z' a', q = (.inl (some (.int x)), hp z' a' w y g) ∧ (x = nI 0 ∨ x = nI 1) ∧ RPost T n w y g z a cnt mx r i fr res q) := by
  refine h.mono (fun q hq => ?_)
  cases res with
  | inl b =>
    obtain ⟨z', a', e, _⟩ := id hq
    exact ⟨_, z', a', e, Or.inl rfl, hq⟩
  | inr s =>
    obtain ⟨p', rs⟩ := s
    obtain ⟨z', a', r', e, _⟩ := id hq
    exact ⟨_, z', a', e, Or.inr rfl, hq⟩
theorem M_entry_y {p cnt mx r i : Nat} {z : Nat → Int32} {a : Nat → Nat → Int32} (hC : CR T n p cnt mx r z a) (hi : i < cnt) (s1 : sg T n (skn cB T n p) = nI 40) (s2 : wG T n (skn cB T n p + 1)) (s3 : sg T n (rQ T n (skn cB T n p + 1)) = nI 58) : p_M X 2 40 [.ref 11, .int (nI i)] (hp z a w y g) (fun q => q = (.inl (some (.int (nI 1))), hp (u_ z 4 (nI (rQ T n (skn cB T n p + 1) + 1))) (u_ a 1 (upd (a 1) i (nI (wV T n (skn cB T n p + 1))))) w y g)) := by
  obtain ⟨h3, h4, h1, h2, h0, rfl, hn, hq, hs, hm, hr⟩ := id hC
  have b0 := skn_ge cB (a 9) hq
  have l1 := (sg_lt (by decide) s1).1
  have b1 := wB_le (T := a 9) (n := n) (p := skn cB (a 9) n p + 1) (by omega)
  have hV := wV_lt s2
  refine (r_in xin_40 (r_aln xc_40_0 rfl (r_bi xc_40_1 kb_40 ?_)))
  refine (r_cv xc_40_3 xm_40_3 rfl xrc_20 rfl (M_readSign_y h3 h4 hn hq s1) (r_zne xc_40_6 xj_40_6 (fun hc6 => (r_ic xc_40_9 kc_0 (r_rz xc_40_10 xrt_40 ?_ ?_))) (fun hc6 => (r_aln xc_40_11 rfl ?_))))
  · exact Or.inl rfl
  · exact absurd hc6 (by decide)
  · refine (r_cv xc_40_12 xm_40_12 rfl xrc_41 rfl (M_readWhole_y (p := skn cB (a 9) n p + 1) h3 rfl hn (by omega) s2) (r_isn [_, _, _] xc_40_15 rfl rfl (r_iln xc_40_16 rfl (r_ic xc_40_17 kc_m1 (r_cne xc_40_18 xj_40_18 (fun hc18 => (r_ic xc_40_21 kc_0 (r_rz xc_40_22 xrt_40 ?_ ?_))) (fun hc18 => (r_aln xc_40_23 rfl (r_get xc_40_24 xf_40_15 g_1_0 (r_iln xc_40_27 rfl (r_iln xc_40_28 rfl ?_))))))))))
    · exact Or.inl rfl
    · exact absurd hc18 (kI_m1 (by omega))
    · rw [u_u]
      refine (r_c0 xc_40_29 xm_40_29 rfl xrc_42 rfl (M_setNumber (s := cnt) h1 hs hi) (r_aln xc_40_32 rfl (r_bi xc_40_33 kb_58 ?_)))
      refine (r_cv xc_40_35 xm_40_35 rfl xrc_20 rfl (M_readSign_y (p := wE (a 9) n (skn cB (a 9) n p + 1)) (c := nI 58) h3 rfl hn b1.2.2 s3) (r_rz xc_40_38 xrt_40 ?_ ?_))
      · exact Or.inr rfl
      · rw [u_u]; rfl
theorem M_entry_n {p cnt mx r i b : Nat} {z : Nat → Int32} {a : Nat → Nat → Int32} (hC : CR T n p cnt mx r z a) (hi : i < cnt) (hb : (¬ sg T n (skn cB T n p) = nI 40 ∧ b = skn cB T n p) ∨ (sg T n (skn cB T n p) = nI 40 ∧ ¬ wG T n (skn cB T n p + 1) ∧ b = wB T n (skn cB T n p + 1)) ∨ (sg T n (skn cB T n p) = nI 40 ∧ wG T n (skn cB T n p + 1) ∧ ¬ sg T n (rQ T n (skn cB T n p + 1)) = nI 58 ∧ b = rQ T n (skn cB T n p + 1))) : p_M X 2 40 [.ref 11, .int (nI i)] (hp z a w y g) (fun q => ∃ z' a', q = (.inl (some (.int (nI 0))), hp z' a' w y g) ∧ z' 5 = nI b ∧ CF z a z' a') := by
  obtain ⟨h3, h4, h1, h2, h0, rfl, hn, hq, hs, hm, hr⟩ := id hC
  have b0 := skn_ge cB (a 9) hq
  refine (r_in xin_40 (r_aln xc_40_0 rfl (r_bi xc_40_1 kb_40 ?_)))
  rcases hb with ⟨s1, rfl⟩ | ⟨s1, s2, rfl⟩ | ⟨s1, s2, s3, rfl⟩
  · refine (r_cv xc_40_3 xm_40_3 rfl xrc_20 rfl (M_readSign_n h3 h4 hn hq s1) (r_zne xc_40_6 xj_40_6 (fun hc6 => (r_ic xc_40_9 kc_0 (r_rz xc_40_10 xrt_40 ?_ ?_))) (fun hc6 => (r_aln xc_40_11 rfl ?_))))
    · exact Or.inl rfl
    · exact ⟨_, _, rfl, rfl, ((CF.rf z a).u (by omega) (by omega)).u (by omega) (by omega)⟩
    · exact absurd rfl hc6
  · have l1 := (sg_lt (by decide) s1).1
    have b1 := wB_le (T := a 9) (n := n) (p := skn cB (a 9) n p + 1) (by omega)
    refine (r_cv xc_40_3 xm_40_3 rfl xrc_20 rfl (M_readSign_y h3 h4 hn hq s1) (r_zne xc_40_6 xj_40_6 (fun hc6 => (r_ic xc_40_9 kc_0 (r_rz xc_40_10 xrt_40 ?_ ?_))) (fun hc6 => (r_aln xc_40_11 rfl ?_))))
    · exact Or.inl rfl
    · exact absurd hc6 (by decide)
    · refine (r_cv xc_40_12 xm_40_12 rfl xrc_41 rfl (M_readWhole_n (p := skn cB (a 9) n p + 1) h3 rfl hn (by omega) s2) (r_isn [_, _, _] xc_40_15 rfl rfl (r_iln xc_40_16 rfl (r_ic xc_40_17 kc_m1 (r_cne xc_40_18 xj_40_18 (fun hc18 => (r_ic xc_40_21 kc_0 (r_rz xc_40_22 xrt_40 ?_ ?_))) (fun hc18 => (r_aln xc_40_23 rfl (r_get xc_40_24 xf_40_15 g_1_0 (r_iln xc_40_27 rfl (r_iln xc_40_28 rfl ?_))))))))))
      · exact Or.inl rfl
      · exact ⟨_, _, rfl, rfl, (((CF.rf z a).u (by omega) (by omega)).u (by omega) (by omega)).u (by omega) (by omega)⟩
      · exact absurd rfl hc18
  · have l1 := (sg_lt (by decide) s1).1
    have b1 := wB_le (T := a 9) (n := n) (p := skn cB (a 9) n p + 1) (by omega)
    have hV := wV_lt s2
    refine (r_cv xc_40_3 xm_40_3 rfl xrc_20 rfl (M_readSign_y h3 h4 hn hq s1) (r_zne xc_40_6 xj_40_6 (fun hc6 => (r_ic xc_40_9 kc_0 (r_rz xc_40_10 xrt_40 ?_ ?_))) (fun hc6 => (r_aln xc_40_11 rfl ?_))))
    · exact Or.inl rfl
    · exact absurd hc6 (by decide)
    · refine (r_cv xc_40_12 xm_40_12 rfl xrc_41 rfl (M_readWhole_y (p := skn cB (a 9) n p + 1) h3 rfl hn (by omega) s2) (r_isn [_, _, _] xc_40_15 rfl rfl (r_iln xc_40_16 rfl (r_ic xc_40_17 kc_m1 (r_cne xc_40_18 xj_40_18 (fun hc18 => (r_ic xc_40_21 kc_0 (r_rz xc_40_22 xrt_40 ?_ ?_))) (fun hc18 => (r_aln xc_40_23 rfl (r_get xc_40_24 xf_40_15 g_1_0 (r_iln xc_40_27 rfl (r_iln xc_40_28 rfl ?_))))))))))
      · exact Or.inl rfl
      · exact absurd hc18 (kI_m1 (by omega))
      · rw [u_u]
        refine (r_c0 xc_40_29 xm_40_29 rfl xrc_42 rfl (M_setNumber (s := cnt) h1 hs hi) (r_aln xc_40_32 rfl (r_bi xc_40_33 kb_58 ?_)))
        refine (r_cv xc_40_35 xm_40_35 rfl xrc_20 rfl (M_readSign_n (p := wE (a 9) n (skn cB (a 9) n p + 1)) (c := nI 58) h3 rfl hn b1.2.2 s3) (r_rz xc_40_38 xrt_40 ?_ ?_))
        · exact Or.inl rfl
        · exact ⟨_, _, rfl, rfl, ((((CF.rf z a).u (by omega) (by omega)).u (by omega) (by omega)).u (by omega) (by omega)).tr ⟨fun _ _ => rfl, rfl, fun k hk => u_n _ _ (by omega)⟩⟩
theorem M_rows {p cnt mx r i : Nat} {z : Nat → Int32} {a : Nat → Nat → Int32} (hi : i < cnt) (hC : CR T n p cnt mx r z a) (h6 : a 6 i = nI 0) : p_M X 2 43 [.ref 11, .int (nI i)] (hp z a w y g) (RPost T n w y g z a cnt mx r i r (sRows T n 7 p [])) := by
  refine (r_in xin_43 (r_ic xc_43_0 kc_m1 (r_isn [_, _, _, _, _, _, _] xc_43_1 rfl rfl (r_ic xc_43_2 kc_0 (r_isn [_, _, _, _, _, _, _] xc_43_3 rfl rfl ?_)))))
  exact L_rows hi 7 p [] r z a rfl (by simp) (by simp) hC ⟨h6, fun h => absurd rfl h, by simp, fun k q hk => by simp at hk⟩
/-- a word's part, from its node on -/
theorem L_pw {R : Nat → Nat → Nat → Nat → Option pS} (hR : RateOK X T n w y g R) {D deep cnt e mx r q : Nat} {c : Int32} {z : Nat → Int32} {a : Nat → Nat → Int32} {res : pS} (hD : 5 + 3 * (12 - deep) ≤ D) (hd : deep ≤ 12) (hC : CR T n e cnt mx r z a) (hq : q ≤ n) (kd : Int32)
    (hres : (kd = -1 ∧ res = .inl q) ∨ (kd = nI 0 ∧ p_if (60 ≤ cnt) (some (.inl q)) (some (.inr (e, [(0, 0, 0, 0, [])], mx))) = some res) ∨ (∃ k, (k = 5 ∨ k = 6) ∧ kd = nI k ∧ p_if (60 ≤ cnt ∨ 12 ≤ deep) (some (.inl q)) (sTwo T n R k deep cnt e (max mx (deep + 1))) = some res) ∨ (kd = nI 7 ∧ p_if (60 ≤ cnt) (some (.inl q)) (match sStep T n e with
          | .inl b => some (.inl b)
          | .inr (p', en, rs) => some (.inr (p', [(7, en, 0, 0, rs)], mx))) = some res)) :
    p_E X (D + 1) 13 47 [some (.ref 11), some (.int (nI deep)), some (.int (nI q)), some (.int c), none, none, none] [.int kd] (hp z a w y g) (CPost T n w y g z a cnt r res) := by
  obtain ⟨h3, h4, h1, h2, h0, rfl, hn, hpe, hs, hm, hr⟩ := id hC
  rcases hres with ⟨rfl, rfl⟩ | ⟨rfl, hres⟩ | ⟨k, hk, rfl, hres⟩ | ⟨rfl, hres⟩
  · refine (r_is [_, _, _, _, _, _, _] xc_13_47 rfl rfl (r_il xc_13_49 rfl (r_ic xc_13_51 kc_5 (r_ceq xc_13_52 xj_13_52 (fun hc52 => (r_ic xc_13_62 kc_1 (r_go xc_13_63 xj_13_63 (r_is [_, _, _, _, _, _, _] xc_13_67 rfl rfl ?_)))) (fun hc52 => (r_il xc_13_55 rfl (r_bi xc_13_57 kb_6 (r_cne xc_13_59 xj_13_59 (fun hc59 => (r_ic xc_13_62 kc_1 (r_go xc_13_63 xj_13_63 (r_is [_, _, _, _, _, _, _] xc_13_67 rfl rfl ?_)))) (fun hc59 => (r_ic xc_13_66 kc_0 (r_is [_, _, _, _, _, _, _] xc_13_67 rfl rfl ?_)))))))))))
    · exact absurd hc52 (by decide)
    · exact absurd hc59 (by decide)
    · refine (r_il xc_13_69 rfl (r_ic xc_13_71 kc_m1 (r_ceq xc_13_72 xj_13_72 (fun hc72 => (r_aln xc_13_96 rfl (r_iln xc_13_97 rfl ?_))) (fun hc72 => (r_aln xc_13_75 rfl (r_get xc_13_76 xf_13_15 g_1_0 ?_))))))
      · refine (r_cv xc_13_98 xm_13_98 rfl xrc_17 rfl (p_M.up M_refuse (by omega)) (r_rz xc_13_101 xrt_13 ?_ ?_))
        · exact Or.inl rfl
        · exact CPost_bad rfl ((CF.rf z a).u (by omega) (by omega))
      · exact absurd rfl hc72
  · refine (r_is [_, _, _, _, _, _, _] xc_13_47 rfl rfl (r_il xc_13_49 rfl (r_ic xc_13_51 kc_5 (r_ceq xc_13_52 xj_13_52 (fun hc52 => (r_ic xc_13_62 kc_1 (r_go xc_13_63 xj_13_63 (r_is [_, _, _, _, _, _, _] xc_13_67 rfl rfl ?_)))) (fun hc52 => (r_il xc_13_55 rfl (r_bi xc_13_57 kb_6 (r_cne xc_13_59 xj_13_59 (fun hc59 => (r_ic xc_13_62 kc_1 (r_go xc_13_63 xj_13_63 (r_is [_, _, _, _, _, _, _] xc_13_67 rfl rfl ?_)))) (fun hc59 => (r_ic xc_13_66 kc_0 (r_is [_, _, _, _, _, _, _] xc_13_67 rfl rfl ?_)))))))))))
    · exact absurd hc52 (by decide)
    · exact absurd hc59 (by decide)
    · refine (r_il xc_13_69 rfl (r_ic xc_13_71 kc_m1 (r_ceq xc_13_72 xj_13_72 (fun hc72 => (r_aln xc_13_96 rfl (r_iln xc_13_97 rfl ?_))) (fun hc72 => (r_aln xc_13_75 rfl (r_get xc_13_76 xf_13_15 g_1_0 ?_))))))
      · exact absurd hc72 (by decide)
      · by_cases hf : cnt < 60
        · rw [p_if_f (by omega)] at hres
          cases hres
          refine (r_cv xc_13_79 xm_13_79 rfl xrc_25 rfl (p_M.up (M_full_n (s := cnt) h1 hf) (by omega)) (r_zne xc_13_82 xj_13_82 (fun hc82 => (r_il xc_13_85 rfl (r_zeq xc_13_87 xj_13_87 (fun hc87 => (r_aln xc_13_102 rfl (r_get xc_13_103 xf_13_15 g_1_0 (r_il xc_13_106 rfl (r_ic xc_13_108 kc_0 (r_ic xc_13_109 kc_m1 ?_)))))) (fun hc87 => (r_iln xc_13_90 rfl (r_bi xc_13_91 kb_12 (r_clt xc_13_93 xj_13_93 (fun hc93 => (r_aln xc_13_102 rfl (r_get xc_13_103 xf_13_15 g_1_0 (r_il xc_13_106 rfl (r_ic xc_13_108 kc_0 (r_ic xc_13_109 kc_m1 ?_)))))) (fun hc93 => (r_aln xc_13_96 rfl (r_iln xc_13_97 rfl ?_)))))))))) (fun hc82 => (r_aln xc_13_96 rfl (r_iln xc_13_97 rfl ?_)))))
          · refine (r_cq xc_13_110 xm_13_110 rfl xrc_26 rfl (p_M.up (M_addNode (s := cnt) h1 hf) (by omega)) (fun v h1 hP => ?_) (fun _ _ h => by first | (obtain ⟨_, he, _⟩ := h; cases he; done) | (obtain ⟨_, he⟩ := h; cases he; done) | (obtain ⟨_, _, he, _⟩ := h; cases he; done) | (obtain ⟨_, _, _, he, _⟩ := h; cases he; done) | (simp only [Prod.mk.injEq, reduceCtorEq, false_and, exists_false] at h)))
            obtain ⟨a', he, e1, e2, e3⟩ := hP
            cases he
            refine (r_is [_, _, _, _, _, _, _] xc_13_113 rfl rfl (r_il xc_13_115 rfl (r_zeq xc_13_117 xj_13_117 (fun hc117 => (r_il xc_13_130 rfl (r_zeq xc_13_132 xj_13_132 (fun hc132 => (r_ic xc_13_162 kc_1 (r_go xc_13_163 xj_13_163 (r_rz xc_13_167 xrt_13 ?_ ?_)))) (fun hc132 => (r_aln xc_13_135 rfl (r_il xc_13_136 rfl ?_)))))) (fun hc117 => (r_aln xc_13_120 rfl (r_il xc_13_121 rfl (r_iln xc_13_123 rfl (r_ic xc_13_124 kc_1 (r_iadd xc_13_125 ?_)))))))))
            · exact Or.inr rfl
            · exact CPost_leaf hC (CF.rf z a) (Nat.le_refl _) hf e1 e2 (by rw [e3, ← m1_eq])
            · exact absurd rfl hc132
            · exact absurd rfl hc117
          · exact absurd rfl hc87
          · exact absurd rfl hc87
          · exact absurd rfl hc82
        · rw [p_if_t (by omega)] at hres
          cases hres
          refine (r_cv xc_13_79 xm_13_79 rfl xrc_25 rfl (p_M.up (M_full_y (s := cnt) h1 hf hs) (by omega)) (r_zne xc_13_82 xj_13_82 (fun hc82 => (r_il xc_13_85 rfl (r_zeq xc_13_87 xj_13_87 (fun hc87 => (r_aln xc_13_102 rfl (r_get xc_13_103 xf_13_15 g_1_0 (r_il xc_13_106 rfl (r_ic xc_13_108 kc_0 (r_ic xc_13_109 kc_m1 ?_)))))) (fun hc87 => (r_iln xc_13_90 rfl (r_bi xc_13_91 kb_12 (r_clt xc_13_93 xj_13_93 (fun hc93 => (r_aln xc_13_102 rfl (r_get xc_13_103 xf_13_15 g_1_0 (r_il xc_13_106 rfl (r_ic xc_13_108 kc_0 (r_ic xc_13_109 kc_m1 ?_)))))) (fun hc93 => (r_aln xc_13_96 rfl (r_iln xc_13_97 rfl ?_)))))))))) (fun hc82 => (r_aln xc_13_96 rfl (r_iln xc_13_97 rfl ?_)))))
          · exact absurd hc82 (by decide)
          · exact absurd hc82 (by decide)
          · exact absurd hc82 (by decide)
          · refine (r_cv xc_13_98 xm_13_98 rfl xrc_17 rfl (p_M.up M_refuse (by omega)) (r_rz xc_13_101 xrt_13 ?_ ?_))
            · exact Or.inl rfl
            · exact CPost_bad rfl ((CF.rf z a).u (by omega) (by omega))
  · have nest : p_E X (D + 1) 13 69 [some (.ref 11), some (.int (nI deep)), some (.int (nI q)), some (.int c), some (.int (nI k)), some (.int (nI 1)), none] [] (hp z a w y g) (CPost (a 9) n w y g z a cnt r res) := by
      refine (r_il xc_13_69 rfl (r_ic xc_13_71 kc_m1 (r_ceq xc_13_72 xj_13_72 (fun hc72 => (r_aln xc_13_96 rfl (r_iln xc_13_97 rfl ?_))) (fun hc72 => (r_aln xc_13_75 rfl (r_get xc_13_76 xf_13_15 g_1_0 ?_))))))
      · exact absurd hc72 (kI_m1 (by omega))
      · by_cases hf : cnt < 60
        · refine (r_cv xc_13_79 xm_13_79 rfl xrc_25 rfl (p_M.up (M_full_n (s := cnt) h1 hf) (by omega)) (r_zne xc_13_82 xj_13_82 (fun hc82 => (r_il xc_13_85 rfl (r_zeq xc_13_87 xj_13_87 (fun hc87 => (r_aln xc_13_102 rfl (r_get xc_13_103 xf_13_15 g_1_0 (r_il xc_13_106 rfl (r_ic xc_13_108 kc_0 (r_ic xc_13_109 kc_m1 ?_)))))) (fun hc87 => (r_iln xc_13_90 rfl (r_bi xc_13_91 kb_12 (r_clt xc_13_93 xj_13_93 (fun hc93 => (r_aln xc_13_102 rfl (r_get xc_13_103 xf_13_15 g_1_0 (r_il xc_13_106 rfl (r_ic xc_13_108 kc_0 (r_ic xc_13_109 kc_m1 ?_)))))) (fun hc93 => (r_aln xc_13_96 rfl (r_iln xc_13_97 rfl ?_)))))))))) (fun hc82 => (r_aln xc_13_96 rfl (r_iln xc_13_97 rfl ?_)))))
          · exact absurd hc87 (by decide)
          · rw [kI_lt (by omega) (by omega)] at hc93
            rw [p_if_f (by omega)] at hres
            refine (r_cq xc_13_110 xm_13_110 rfl xrc_26 rfl (p_M.up (M_addNode (s := cnt) h1 hf) (by omega)) (fun v h1 hP => ?_) (fun _ _ h => by first | (obtain ⟨_, he, _⟩ := h; cases he; done) | (obtain ⟨_, he⟩ := h; cases he; done) | (obtain ⟨_, _, he, _⟩ := h; cases he; done) | (obtain ⟨_, _, _, he, _⟩ := h; cases he; done) | (simp only [Prod.mk.injEq, reduceCtorEq, false_and, exists_false] at h)))
            obtain ⟨a', he, e1, e2, e3⟩ := hP
            cases he
            refine (r_is [_, _, _, _, _, _, _] xc_13_113 rfl rfl (r_il xc_13_115 rfl (r_zeq xc_13_117 xj_13_117 (fun hc117 => (r_il xc_13_130 rfl (r_zeq xc_13_132 xj_13_132 (fun hc132 => (r_ic xc_13_162 kc_1 (r_go xc_13_163 xj_13_163 (r_rz xc_13_167 xrt_13 ?_ ?_)))) (fun hc132 => (r_aln xc_13_135 rfl (r_il xc_13_136 rfl ?_)))))) (fun hc117 => (r_aln xc_13_120 rfl (r_il xc_13_121 rfl (r_iln xc_13_123 rfl (r_ic xc_13_124 kc_1 (r_iadd xc_13_125 ?_)))))))))
            · exact absurd hc117 (by decide)
            · exact absurd hc117 (by decide)
            · exact absurd hc117 (by decide)
            · rw [kI_add]
              have hC2 : CR (a 9) n e (cnt + 1) mx r (u_ z 1 (nI (cnt + 1))) a' := ⟨h3, h4, rfl, h2, h0, e1 9 (by omega), hn, hpe, hf, hm, hr⟩
              have hF2 : CF z a (u_ z 1 (nI (cnt + 1))) a' := ((CF.rf z a).u (by omega) (by omega)).tr ⟨fun _ _ => rfl, rfl, fun k hk => e1 k (by omega)⟩
              refine (r_cq xc_13_126 xm_13_126 rfl xrc_37 rfl (CPost.ex (M_two hR (by omega) hc93 hC2 (by rw [e3]) hres)) (fun v h1 hP => ?_) (fun _ _ h => by first | (obtain ⟨_, he, _⟩ := h; cases he; done) | (obtain ⟨_, he⟩ := h; cases he; done) | (obtain ⟨_, _, he, _⟩ := h; cases he; done) | (obtain ⟨_, _, _, he, _⟩ := h; cases he; done) | (simp only [Prod.mk.injEq, reduceCtorEq, false_and, exists_false] at h)))
              obtain ⟨x, z', a2, he, hx, hP⟩ := hP
              cases he
              refine (r_rz xc_13_129 xrt_13 ?_ ?_)
              · exact hx
              · exact hP.pre2 hF2 (fun i hi => e2 i (by omega)) (RW.of7 e1)
          · rw [kI_lt (by omega) (by omega)] at hc93
            rw [p_if_t (by omega)] at hres
            cases hres
            refine (r_cv xc_13_98 xm_13_98 rfl xrc_17 rfl (p_M.up M_refuse (by omega)) (r_rz xc_13_101 xrt_13 ?_ ?_))
            · exact Or.inl rfl
            · exact CPost_bad rfl ((CF.rf z a).u (by omega) (by omega))
          · exact absurd rfl hc82
        · rw [p_if_t (by omega)] at hres
          cases hres
          refine (r_cv xc_13_79 xm_13_79 rfl xrc_25 rfl (p_M.up (M_full_y (s := cnt) h1 hf hs) (by omega)) (r_zne xc_13_82 xj_13_82 (fun hc82 => (r_il xc_13_85 rfl (r_zeq xc_13_87 xj_13_87 (fun hc87 => (r_aln xc_13_102 rfl (r_get xc_13_103 xf_13_15 g_1_0 (r_il xc_13_106 rfl (r_ic xc_13_108 kc_0 (r_ic xc_13_109 kc_m1 ?_)))))) (fun hc87 => (r_iln xc_13_90 rfl (r_bi xc_13_91 kb_12 (r_clt xc_13_93 xj_13_93 (fun hc93 => (r_aln xc_13_102 rfl (r_get xc_13_103 xf_13_15 g_1_0 (r_il xc_13_106 rfl (r_ic xc_13_108 kc_0 (r_ic xc_13_109 kc_m1 ?_)))))) (fun hc93 => (r_aln xc_13_96 rfl (r_iln xc_13_97 rfl ?_)))))))))) (fun hc82 => (r_aln xc_13_96 rfl (r_iln xc_13_97 rfl ?_)))))
          · exact absurd hc82 (by decide)
          · exact absurd hc82 (by decide)
          · exact absurd hc82 (by decide)
          · refine (r_cv xc_13_98 xm_13_98 rfl xrc_17 rfl (p_M.up M_refuse (by omega)) (r_rz xc_13_101 xrt_13 ?_ ?_))
            · exact Or.inl rfl
            · exact CPost_bad rfl ((CF.rf z a).u (by omega) (by omega))
    refine (r_is [_, _, _, _, _, _, _] xc_13_47 rfl rfl (r_il xc_13_49 rfl (r_ic xc_13_51 kc_5 (r_ceq xc_13_52 xj_13_52 (fun hc52 => (r_ic xc_13_62 kc_1 (r_go xc_13_63 xj_13_63 (r_is [_, _, _, _, _, _, _] xc_13_67 rfl rfl ?_)))) (fun hc52 => (r_il xc_13_55 rfl (r_bi xc_13_57 kb_6 (r_cne xc_13_59 xj_13_59 (fun hc59 => (r_ic xc_13_62 kc_1 (r_go xc_13_63 xj_13_63 (r_is [_, _, _, _, _, _, _] xc_13_67 rfl rfl ?_)))) (fun hc59 => (r_ic xc_13_66 kc_0 (r_is [_, _, _, _, _, _, _] xc_13_67 rfl rfl ?_)))))))))))
    · exact nest
    · exact nest
    · rw [kI_inj (by omega) (by omega)] at hc52 hc59
      omega
  · refine (r_is [_, _, _, _, _, _, _] xc_13_47 rfl rfl (r_il xc_13_49 rfl (r_ic xc_13_51 kc_5 (r_ceq xc_13_52 xj_13_52 (fun hc52 => (r_ic xc_13_62 kc_1 (r_go xc_13_63 xj_13_63 (r_is [_, _, _, _, _, _, _] xc_13_67 rfl rfl ?_)))) (fun hc52 => (r_il xc_13_55 rfl (r_bi xc_13_57 kb_6 (r_cne xc_13_59 xj_13_59 (fun hc59 => (r_ic xc_13_62 kc_1 (r_go xc_13_63 xj_13_63 (r_is [_, _, _, _, _, _, _] xc_13_67 rfl rfl ?_)))) (fun hc59 => (r_ic xc_13_66 kc_0 (r_is [_, _, _, _, _, _, _] xc_13_67 rfl rfl ?_)))))))))))
    · exact absurd hc52 (by decide)
    · exact absurd hc59 (by decide)
    · refine (r_il xc_13_69 rfl (r_ic xc_13_71 kc_m1 (r_ceq xc_13_72 xj_13_72 (fun hc72 => (r_aln xc_13_96 rfl (r_iln xc_13_97 rfl ?_))) (fun hc72 => (r_aln xc_13_75 rfl (r_get xc_13_76 xf_13_15 g_1_0 ?_))))))
      · exact absurd hc72 (by decide)
      · by_cases hf : cnt < 60
        · rw [p_if_f (by omega)] at hres
          refine (r_cv xc_13_79 xm_13_79 rfl xrc_25 rfl (p_M.up (M_full_n (s := cnt) h1 hf) (by omega)) (r_zne xc_13_82 xj_13_82 (fun hc82 => (r_il xc_13_85 rfl (r_zeq xc_13_87 xj_13_87 (fun hc87 => (r_aln xc_13_102 rfl (r_get xc_13_103 xf_13_15 g_1_0 (r_il xc_13_106 rfl (r_ic xc_13_108 kc_0 (r_ic xc_13_109 kc_m1 ?_)))))) (fun hc87 => (r_iln xc_13_90 rfl (r_bi xc_13_91 kb_12 (r_clt xc_13_93 xj_13_93 (fun hc93 => (r_aln xc_13_102 rfl (r_get xc_13_103 xf_13_15 g_1_0 (r_il xc_13_106 rfl (r_ic xc_13_108 kc_0 (r_ic xc_13_109 kc_m1 ?_)))))) (fun hc93 => (r_aln xc_13_96 rfl (r_iln xc_13_97 rfl ?_)))))))))) (fun hc82 => (r_aln xc_13_96 rfl (r_iln xc_13_97 rfl ?_)))))
          · refine (r_cq xc_13_110 xm_13_110 rfl xrc_26 rfl (p_M.up (M_addNode (s := cnt) h1 hf) (by omega)) (fun v h1 hP => ?_) (fun _ _ h => by first | (obtain ⟨_, he, _⟩ := h; cases he; done) | (obtain ⟨_, he⟩ := h; cases he; done) | (obtain ⟨_, _, he, _⟩ := h; cases he; done) | (obtain ⟨_, _, _, he, _⟩ := h; cases he; done) | (simp only [Prod.mk.injEq, reduceCtorEq, false_and, exists_false] at h)))
            obtain ⟨a1, he, e1, e2, e3⟩ := hP
            cases he
            refine (r_is [_, _, _, _, _, _, _] xc_13_113 rfl rfl (r_il xc_13_115 rfl (r_zeq xc_13_117 xj_13_117 (fun hc117 => (r_il xc_13_130 rfl (r_zeq xc_13_132 xj_13_132 (fun hc132 => (r_ic xc_13_162 kc_1 (r_go xc_13_163 xj_13_163 (r_rz xc_13_167 xrt_13 ?_ ?_)))) (fun hc132 => (r_aln xc_13_135 rfl (r_il xc_13_136 rfl ?_)))))) (fun hc117 => (r_aln xc_13_120 rfl (r_il xc_13_121 rfl (r_iln xc_13_123 rfl (r_ic xc_13_124 kc_1 (r_iadd xc_13_125 ?_)))))))))
            · exact absurd hc132 (by decide)
            · exact absurd hc132 (by decide)
            · have e9 : a1 9 = a 9 := e1 9 (by omega)
              have hC2 : CR (a 9) n e (cnt + 1) mx r (u_ z 1 (nI (cnt + 1))) a1 := ⟨h3, h4, rfl, h2, h0, e9, hn, hpe, hf, hm, hr⟩
              have hF2 : CF z a (u_ z 1 (nI (cnt + 1))) a1 := ((CF.rf z a).u (by omega) (by omega)).tr ⟨fun _ _ => rfl, rfl, fun k hk => e1 k (by omega)⟩
              unfold nv at e3
              simp only [Prod.mk.injEq] at e3
              obtain ⟨f0, f1, f2, f3, f4, f5, f6⟩ := e3
              have bad : ∀ bd, (¬ sg (a 9) n (skn cB (a 9) n e) = nI 40 ∧ bd = skn cB (a 9) n e) ∨ (sg (a 9) n (skn cB (a 9) n e) = nI 40 ∧ ¬ wG (a 9) n (skn cB (a 9) n e + 1) ∧ bd = wB (a 9) n (skn cB (a 9) n e + 1)) ∨ (sg (a 9) n (skn cB (a 9) n e) = nI 40 ∧ wG (a 9) n (skn cB (a 9) n e + 1) ∧ ¬ sg (a 9) n (rQ (a 9) n (skn cB (a 9) n e + 1)) = nI 58 ∧ bd = rQ (a 9) n (skn cB (a 9) n e + 1)) → res = .inl bd → p_E X (D + 1) 13 138 [some (.ref 11), some (.int (nI deep)), some (.int (nI q)), some (.int c), some (.int (nI 7)), some (.int (nI 0)), some (.int (nI cnt))] [.int (nI cnt), .ref 11] (hp (u_ z 1 (nI (cnt + 1))) a1 w y g) (CPost (a 9) n w y g z a cnt r res) := by
                rintro bd hb rfl
                refine (r_cq xc_13_138 xm_13_138 rfl xrc_40 rfl (p_M.up (M_entry_n hC2 (Nat.lt_succ_self cnt) hb) (by omega)) (fun v h1 hP => ?_) (fun _ _ h => by first | (obtain ⟨_, he, _⟩ := h; cases he; done) | (obtain ⟨_, he⟩ := h; cases he; done) | (obtain ⟨_, _, he, _⟩ := h; cases he; done) | (obtain ⟨_, _, _, he, _⟩ := h; cases he; done) | (simp only [Prod.mk.injEq, reduceCtorEq, false_and, exists_false] at h)))
                obtain ⟨z', a', he, g1, g2⟩ := hP
                cases he
                refine (r_zeq xc_13_141 xj_13_141 (fun hc141 => (r_ic xc_13_166 kc_0 (r_rz xc_13_167 xrt_13 ?_ ?_))) (fun hc141 => (r_aln xc_13_144 rfl (r_il xc_13_145 rfl ?_))))
                · exact Or.inl rfl
                · exact CPost_bad g1 (hF2.tr g2)
                · exact absurd rfl hc141
              unfold sStep at hres
              by_cases s1 : sg (a 9) n (skn cB (a 9) n e) = nI 40
              · rw [p_if_f (fun h => h s1)] at hres
                have l1 := (sg_lt (by decide) s1).1
                by_cases s2 : wG (a 9) n (skn cB (a 9) n e + 1)
                · rw [p_if_f (fun h => h s2)] at hres
                  by_cases s3 : sg (a 9) n (rQ (a 9) n (skn cB (a 9) n e + 1)) = nI 58
                  · rw [p_if_f (fun h => h s3)] at hres
                    have l3 := (sg_lt (by decide) s3).1
                    have bb0 := skn_ge cB (a 9) hpe
                    have bb1 := rQ_le (T := a 9) (n := n) (p := skn cB (a 9) n e + 1) (by omega)
                    have bb2 := wB_le (T := a 9) (n := n) (p := skn cB (a 9) n e + 1) (by omega)
                    refine (r_cv xc_13_138 xm_13_138 rfl xrc_40 rfl (p_M.up (M_entry_y hC2 (Nat.lt_succ_self cnt) s1 s2 s3) (by omega)) (r_zeq xc_13_141 xj_13_141 (fun hc141 => (r_ic xc_13_166 kc_0 (r_rz xc_13_167 xrt_13 ?_ ?_))) (fun hc141 => (r_aln xc_13_144 rfl (r_il xc_13_145 rfl ?_)))))
                    · exact Or.inl rfl
                    · exact absurd hc141 (by decide)
                    · have hC3 : CR (a 9) n (rQ (a 9) n (skn cB (a 9) n e + 1) + 1) (cnt + 1) mx r (u_ (u_ z 1 (nI (cnt + 1))) 4 (nI (rQ (a 9) n (skn cB (a 9) n e + 1) + 1))) (u_ a1 1 (upd (a1 1) cnt (nI (wV (a 9) n (skn cB (a 9) n e + 1))))) := ⟨h3, rfl, rfl, h2, h0, e9, hn, by omega, hf, hm, by omega⟩
                      have hF3 : CF z a (u_ (u_ z 1 (nI (cnt + 1))) 4 (nI (rQ (a 9) n (skn cB (a 9) n e + 1) + 1))) (u_ a1 1 (upd (a1 1) cnt (nI (wV (a 9) n (skn cB (a 9) n e + 1))))) := (hF2.u (by omega) (by omega)).tr ⟨fun _ _ => rfl, rfl, fun k hk => u_n _ _ (by omega)⟩
                      have q1 : ∀ i, i ≠ cnt → nv (u_ a1 1 (upd (a1 1) cnt (nI (wV (a 9) n (skn cB (a 9) n e + 1))))) i = nv a i := by
                        intro i hi
                        rw [← e2 i hi]
                        show (a1 0 i, upd (a1 1) cnt _ i, a1 2 i, a1 3 i, a1 4 i, a1 5 i, a1 6 i) = _
                        rw [up_n _ _ hi]; rfl
                      have q2 : u_ a1 1 (upd (a1 1) cnt (nI (wV (a 9) n (skn cB (a 9) n e + 1)))) 1 cnt = nI (wV (a 9) n (skn cB (a 9) n e + 1)) := by
                        show upd (a1 1) cnt _ cnt = _
                        rw [up_s]
                      have q3 : ∀ j, j ≠ 1 → u_ a1 1 (upd (a1 1) cnt (nI (wV (a 9) n (skn cB (a 9) n e + 1)))) j = a1 j := fun j hj => u_n _ _ hj
                      have q6 : u_ a1 1 (upd (a1 1) cnt (nI (wV (a 9) n (skn cB (a 9) n e + 1)))) 6 cnt = nI 0 := f6
                      generalize u_ a1 1 (upd (a1 1) cnt (nI (wV (a 9) n (skn cB (a 9) n e + 1)))) = a2 at hC3 hF3 q1 q2 q3 q6
                      have hw2 : RW a a2 r := fun j _ => ⟨by rw [q3 7 (by omega), e1 7 (by omega)], by rw [q3 8 (by omega), e1 8 (by omega)]⟩
                      refine (r_cq xc_13_147 xm_13_147 rfl xrc_43 rfl (RPost.ex (p_M.up (M_rows (Nat.lt_succ_self cnt) hC3 q6) (by omega))) (fun v h1 hP => ?_) (fun _ _ h => by first | (obtain ⟨_, he, _⟩ := h; cases he; done) | (obtain ⟨_, he⟩ := h; cases he; done) | (obtain ⟨_, _, he, _⟩ := h; cases he; done) | (obtain ⟨_, _, _, he, _⟩ := h; cases he; done) | (simp only [Prod.mk.injEq, reduceCtorEq, false_and, exists_false] at h)))
                      obtain ⟨x, z', a3, he, hx, hP⟩ := hP
                      cases he
                      cases hr3 : sRows (a 9) n 7 (rQ (a 9) n (skn cB (a 9) n e + 1) + 1) [] with
                      | inl bd =>
                        rw [hr3] at hP hres
                        cases hres
                        obtain ⟨z2, a4, he, g1, g2⟩ := hP
                        injection he with he1 he2
                        injection he1 with he1
                        injection he1 with he1
                        injection he1 with he1
                        subst he1
                        rw [he2]
                        refine (r_zeq xc_13_150 xj_13_150 (fun hc150 => (r_ic xc_13_166 kc_0 (r_rz xc_13_167 xrt_13 ?_ ?_))) (fun hc150 => (r_aln xc_13_153 rfl (r_bi xc_13_154 kb_41 ?_))))
                        · exact Or.inl rfl
                        · exact CPost_bad g1 (hF3.tr g2)
                        · exact absurd rfl hc150
                      | inr s =>
                        obtain ⟨p3, rs⟩ := s
                        rw [hr3] at hP hres
                        have hres : (match (p_if (sg (a 9) n (skn cB (a 9) n p3) = nI 41) (.inr (skn cB (a 9) n p3 + 1, wV (a 9) n (skn cB (a 9) n e + 1), rs)) (.inl (skn cB (a 9) n p3)) : Nat ⊕ (Nat × Nat × List (Nat × Nat))) with
                          | .inl b => some (.inl b)
                          | .inr (p', en, rs) => some (.inr (p', [(7, en, 0, 0, rs)], mx))) = some res := hres
                        obtain ⟨z2, a4, r4, he, g1, g2, g3, g4, g5, g6⟩ := hP
                        injection he with he1 he2
                        injection he1 with he1
                        injection he1 with he1
                        injection he1 with he1
                        subst he1
                        rw [he2]
                        obtain ⟨l3, l4, l1', l2, l0, l9, _, lq, lss, lm, lr⟩ := id g1
                        have bb3 := skn_ge cB (a 9) lq
                        refine (r_zeq xc_13_150 xj_13_150 (fun hc150 => (r_ic xc_13_166 kc_0 (r_rz xc_13_167 xrt_13 ?_ ?_))) (fun hc150 => (r_aln xc_13_153 rfl (r_bi xc_13_154 kb_41 ?_))))
                        · exact Or.inl rfl
                        · exact absurd hc150 (by decide)
                        · by_cases s4 : sg (a 9) n (skn cB (a 9) n p3) = nI 41
                          · rw [p_if_t s4] at hres
                            cases hres
                            have ll := (sg_lt (by decide) s4).1
                            rw [← l9] at s4
                            refine (r_cv xc_13_156 xm_13_156 rfl xrc_20 rfl (p_M.up (M_readSign_y (p := p3) (c := nI 41) l3 l4 hn lq s4) (by omega)) (r_zeq xc_13_159 xj_13_159 (fun hc159 => (r_ic xc_13_166 kc_0 (r_rz xc_13_167 xrt_13 ?_ ?_))) (fun hc159 => (r_ic xc_13_162 kc_1 (r_go xc_13_163 xj_13_163 (r_rz xc_13_167 xrt_13 ?_ ?_))))))
                            · exact Or.inl rfl
                            · exact absurd hc159 (by decide)
                            · exact Or.inr rfl
                            · rw [l9]
                              refine ⟨_, a4, r4, rfl, g1.at4 (by omega) (by omega), hF3.tr (g2.u (by omega) (by omega)), g3, fun i hi => ?_, hw2.tr g4.2.2.2 (Nat.le_refl _), Rp.cons ⟨?_, ?_, ?_, ?_, ?_, g5.1, r, g5.2.1 g6, ?_, g5.2.2.2⟩ (fun k v hk => by simp at hk), by simp, ?_⟩
                              · rw [g4.2.1 i (by omega), q1 i (by omega)]
                              · rw [g4.2.2.1 0 (by omega), q3 0 (by omega), f0]
                              · rw [g4.2.2.1 1 (by omega), q2]
                              · rw [g4.2.2.1 2 (by omega), q3 2 (by omega), f2]; exact m1_eq
                              · rw [g4.2.2.1 3 (by omega), q3 3 (by omega), f3]; rfl
                              · rw [g4.2.2.1 4 (by omega), q3 4 (by omega), f4]; rfl
                              · have := g5.2.2.1; dsimp only; omega
                              · intro v hv; rw [List.mem_singleton.mp hv]; simp
                          · rw [p_if_f s4] at hres
                            cases hres
                            rw [← l9] at s4
                            refine (r_cv xc_13_156 xm_13_156 rfl xrc_20 rfl (p_M.up (M_readSign_n (p := p3) (c := nI 41) l3 l4 hn lq s4) (by omega)) (r_zeq xc_13_159 xj_13_159 (fun hc159 => (r_ic xc_13_166 kc_0 (r_rz xc_13_167 xrt_13 ?_ ?_))) (fun hc159 => (r_ic xc_13_162 kc_1 (r_go xc_13_163 xj_13_163 (r_rz xc_13_167 xrt_13 ?_ ?_))))))
                            · exact Or.inl rfl
                            · rw [l9]
                              exact CPost_bad rfl (hF3.tr ((g2.u (by omega) (by omega)).u (by omega) (by omega)))
                            · exact absurd rfl hc159
                            · exact absurd rfl hc159
                  · rw [p_if_t s3] at hres
                    cases hres
                    exact bad _ (Or.inr (Or.inr ⟨s1, s2, s3, rfl⟩)) rfl
                · rw [p_if_t s2] at hres
                  cases hres
                  exact bad _ (Or.inr (Or.inl ⟨s1, s2, rfl⟩)) rfl
              · rw [p_if_t s1] at hres
                cases hres
                exact bad _ (Or.inl ⟨s1, rfl⟩) rfl
            · exact absurd rfl hc117
          · exact absurd rfl hc87
          · exact absurd rfl hc87
          · exact absurd rfl hc82
        · rw [p_if_t (by omega)] at hres
          cases hres
          refine (r_cv xc_13_79 xm_13_79 rfl xrc_25 rfl (p_M.up (M_full_y (s := cnt) h1 hf hs) (by omega)) (r_zne xc_13_82 xj_13_82 (fun hc82 => (r_il xc_13_85 rfl (r_zeq xc_13_87 xj_13_87 (fun hc87 => (r_aln xc_13_102 rfl (r_get xc_13_103 xf_13_15 g_1_0 (r_il xc_13_106 rfl (r_ic xc_13_108 kc_0 (r_ic xc_13_109 kc_m1 ?_)))))) (fun hc87 => (r_iln xc_13_90 rfl (r_bi xc_13_91 kb_12 (r_clt xc_13_93 xj_13_93 (fun hc93 => (r_aln xc_13_102 rfl (r_get xc_13_103 xf_13_15 g_1_0 (r_il xc_13_106 rfl (r_ic xc_13_108 kc_0 (r_ic xc_13_109 kc_m1 ?_)))))) (fun hc93 => (r_aln xc_13_96 rfl (r_iln xc_13_97 rfl ?_)))))))))) (fun hc82 => (r_aln xc_13_96 rfl (r_iln xc_13_97 rfl ?_)))))
          · exact absurd hc82 (by decide)
          · exact absurd hc82 (by decide)
          · exact absurd hc82 (by decide)
          · refine (r_cv xc_13_98 xm_13_98 rfl xrc_17 rfl (p_M.up M_refuse (by omega)) (r_rz xc_13_101 xrt_13 ?_ ?_))
            · exact Or.inl rfl
            · exact CPost_bad rfl ((CF.rf z a).u (by omega) (by omega))
theorem M_part {R : Nat → Nat → Nat → Nat → Option pS} (hR : RateOK X T n w y g R) : PartOK X T n w y g (sPartB T n R) := by
  intro D deep cnt p mx r z a res hD hd hC hres
  obtain ⟨h3, h4, h1, h2, h0, rfl, hn, hq, hs, hm, hr⟩ := id hC
  obtain ⟨D, rfl⟩ : ∃ D', D = D' + 1 := ⟨D - 1, by omega⟩
  have b0 := skn_ge cB (a 9) hq
  have hid := skn_idem cB (a 9) hq
  have hC1 := hC.at4 b0.1 b0.2
  have hF1 : CF z a (u_ z 4 (nI (skn cB (a 9) n p))) a := (CF.rf z a).u (by omega) (by omega)
  unfold sPartB at hres
  dsimp only at hres
  have word : ¬ sg (a 9) n (skn cB (a 9) n p) = nI 40 → ¬ cD (sg (a 9) n (skn cB (a 9) n p)) = true → p_E X (D + 1) 13 44 [some (.ref 11), some (.int (nI deep)), some (.int (nI (skn cB (a 9) n p))), some (.int (sg (a 9) n (skn cB (a 9) n p))), none, none, none] [.ref 11] (hp (u_ z 4 (nI (skn cB (a 9) n p))) a w y g) (CPost (a 9) n w y g z a cnt r res) := by
    intro n40 nD
    rw [p_if_f n40, p_if_f nD] at hres
    have b1 := skn_ge cS (a 9) b0.2
    refine (r_cv xc_13_44 xm_13_44 rfl xrc_28 rfl (p_M.up (M_readWord (p := skn cB (a 9) n p) h3 rfl hn b0.2) (by omega)) ?_)
    rw [u_u]
    have hC2 := hC.at4 (p' := skn cS (a 9) n (skn cB (a 9) n p)) (by omega) b1.2
    refine (L_pw hR (c := sg (a 9) n (skn cB (a 9) n p)) (by omega) hd hC2 b0.2 _ ?_).mono (fun q hq => hq.pre ((CF.rf z a).u (by omega) (by omega)))
    unfold sWord at hres
    dsimp only at hres
    unfold kW
    by_cases g0 : isW (a 9) (skn cB (a 9) n p) (skn cS (a 9) n (skn cB (a 9) n p)) 0
    · rw [p_if_t g0] at hres ⊢
      exact Or.inr (Or.inl ⟨rfl, hres⟩)
    · rw [p_if_f g0] at hres ⊢
      by_cases g1 : isW (a 9) (skn cB (a 9) n p) (skn cS (a 9) n (skn cB (a 9) n p)) 1
      · rw [p_if_t g1] at hres ⊢
        exact Or.inr (Or.inr (Or.inl ⟨5, Or.inl rfl, rfl, hres⟩))
      · rw [p_if_f g1] at hres ⊢
        by_cases g2 : isW (a 9) (skn cB (a 9) n p) (skn cS (a 9) n (skn cB (a 9) n p)) 2
        · rw [p_if_t g2] at hres ⊢
          exact Or.inr (Or.inr (Or.inl ⟨6, Or.inr rfl, rfl, hres⟩))
        · rw [p_if_f g2] at hres ⊢
          by_cases g3 : isW (a 9) (skn cB (a 9) n p) (skn cS (a 9) n (skn cB (a 9) n p)) 3
          · rw [p_if_t g3] at hres ⊢
            exact Or.inr (Or.inr (Or.inr ⟨rfl, hres⟩))
          · rw [p_if_f g3] at hres ⊢
            cases hres
            exact Or.inl ⟨rfl, rfl⟩
  refine (r_in xin_13 (r_aln xc_13_0 rfl ?_))
  refine (r_c0 xc_13_1 xm_13_1 rfl xrc_14 rfl (p_M.up (M_skipB h3 h4 hn hq) (by omega)) (r_aln xc_13_4 rfl (r_get xc_13_5 xf_13_28 g_1_3 (r_isn [_, _, _, _, _, _, _] xc_13_8 rfl rfl (r_aln xc_13_9 rfl ?_)))))
  refine (r_cv xc_13_10 xm_13_10 rfl xrc_15 rfl (p_M.up (M_signHere (p := skn cB (a 9) n p) h3 rfl hn b0.2) (by omega)) (r_isn [_, _, _, _, _, _, _] xc_13_13 rfl rfl (r_iln xc_13_14 rfl (r_bi xc_13_15 kb_40 (r_cne xc_13_17 xj_13_17 (fun hc17 => (r_aln xc_13_20 rfl (r_iln xc_13_21 rfl ?_))) (fun hc17 => (r_iln xc_13_26 rfl (r_bi xc_13_27 kb_48 (r_clt xc_13_29 xj_13_29 (fun hc29 => (r_aln xc_13_43 rfl ?_)) (fun hc29 => (r_iln xc_13_32 rfl (r_bi xc_13_33 kb_57 (r_cgt xc_13_35 xj_13_35 (fun hc35 => (r_aln xc_13_43 rfl ?_)) (fun hc35 => (r_aln xc_13_38 rfl ?_)))))))))))))))
  · have l1 := (sg_lt (by decide) hc17).1
    rw [p_if_t hc17] at hres
    refine (r_cq xc_13_22 xm_13_22 rfl xrc_16 rfl (CPost.ex (M_bracket hR (by omega) hd hC1 l1 hres)) (fun v h1 hP => ?_) (fun _ _ h => by first | (obtain ⟨_, he, _⟩ := h; cases he; done) | (obtain ⟨_, he⟩ := h; cases he; done) | (obtain ⟨_, _, he, _⟩ := h; cases he; done) | (obtain ⟨_, _, _, he, _⟩ := h; cases he; done) | (simp only [Prod.mk.injEq, reduceCtorEq, false_and, exists_false] at h)))
    obtain ⟨x, z', a', he, hx, hP⟩ := hP
    cases he
    refine (r_rz xc_13_25 xrt_13 ?_ ?_)
    · exact hx
    · exact hP.pre hF1
  · exact word hc17 (fun h => by unfold cD at h; exact (of_decide_eq_true h).1 hc29)
  · exact word hc17 (fun h => by unfold cD at h; exact (of_decide_eq_true h).2 hc35)
  · have hD1 : cD (sg (a 9) n (skn cB (a 9) n p)) = true := by unfold cD; exact decide_eq_true ⟨hc29, hc35⟩
    rw [p_if_f hc17, p_if_t hD1] at hres
    cases hres
    refine (r_cq xc_13_39 xm_13_39 rfl xrc_21 rfl (CPost.ex (p_M.up (M_numPart hC1) (by omega))) (fun v h1 hP => ?_) (fun _ _ h => by first | (obtain ⟨_, he, _⟩ := h; cases he; done) | (obtain ⟨_, he⟩ := h; cases he; done) | (obtain ⟨_, _, he, _⟩ := h; cases he; done) | (obtain ⟨_, _, _, he, _⟩ := h; cases he; done) | (simp only [Prod.mk.injEq, reduceCtorEq, false_and, exists_false] at h)))
    obtain ⟨x, z', a', he, hx, hP⟩ := hP
    cases he
    refine (r_rz xc_13_42 xrt_13 ?_ ?_)
    · exact hx
    · exact hP.pre hF1
end PAR2
/-! a rate's tail -/
def TailOK (X : pX) (T : Nat → Int32) (n : Nat) (w : Nat → Nat → Int64) (y : Nat → Int64) (g : List pE) (K : Nat → Nat → Nat → List pN → Nat → Option pS) : Prop :=
  ∀ (D deep cnt p : Nat) (ns : List pN) (mx r t r0 : Nat) (z z0 : Nat → Int32) (a a0 : Nat → Nat → Int32) (res : pS), 7 + 3 * (12 - deep) ≤ D → deep ≤ 12 → CR T n p (cnt + ns.length) mx r z a → Rp a r cnt ns → (∀ v ∈ ns, v.2.2.2.1 ≤ 60) → t < ns.length → CF z0 a0 z a → r0 ≤ r → (∀ i, i < cnt → nv a i = nv a0 i) → RW a0 a r0 → K deep cnt p ns mx = some res →
    p_E X D 12 20 [some (.ref 11), some (.int (nI deep)), some (.int (nI cnt)), some (.int (nI t)), none] [] (hp z a w y g) (CPost T n w y g z0 a0 cnt r0 res)
theorem sKind_k {c : Int32} : (if c = nI 43 then nI 3 else if c = nI 45 then nI 4 else -1) = (if sKind c = 0 then -1 else nI (sKind c)) := by
  unfold sKind
  by_cases h1 : c = nI 43
  · rw [if_pos h1, if_pos h1]; rfl
  · rw [if_neg h1, if_neg h1]
    by_cases h2 : c = nI 45
    · rw [if_pos h2, if_pos h2]; rfl
    · rw [if_neg h2, if_neg h2]; rfl
section PAR3
variable {X : pX} {n : Nat} {T : Nat → Int32} {w : Nat → Nat → Int64} {y : Nat → Int64} {g : List pE}
theorem M_tail {P : Nat → Nat → Nat → Nat → Option pS} {K : Nat → Nat → Nat → List pN → Nat → Option pS} (hP0 : PartOK X T n w y g P) (hK : TailOK X T n w y g K) : TailOK X T n w y g (sTailB T n P K) := by
  intro D deep cnt p ns mx r t r0 z z0 a a0 res hD hd hC hRp hv60 ht hF hr0 hnv hrw hres
  obtain ⟨h3, h4, h1, h2, h0, rfl, hn, hq, hs, hm, hr⟩ := id hC
  obtain ⟨D, rfl⟩ : ∃ D', D = D' + 1 := ⟨D - 1, by omega⟩
  have b0 := skn_ge cB (a 9) hq
  unfold sTailB at hres
  dsimp only at hres
  refine (r_iln xc_12_20 rfl (r_si xc_12_21 ks_300 (r_cge xc_12_24 xj_12_24 (fun hc24 => (r_aln xc_12_27 rfl ?_)) (fun hc24 => (r_aln xc_12_121 rfl (r_aln xc_12_122 rfl (r_get xc_12_123 xf_12_28 g_1_3 ?_)))))))
  · refine (r_c0 xc_12_28 xm_12_28 rfl xrc_14 rfl (p_M.up (M_skipB h3 h4 hn hq) (by omega)) (r_aln xc_12_31 rfl ?_))
    refine (r_cv xc_12_32 xm_12_32 rfl xrc_15 rfl (p_M.up (M_signHere (p := skn cB (a 9) n p) h3 rfl hn b0.2) (by omega)) ?_)
    refine (r_cv xc_12_35 xm_12_35 rfl xrc_45 rfl (p_M.up M_kindOfSign (by omega)) (r_is [_, _, _, _, _] xc_12_38 rfl rfl (r_il xc_12_40 rfl (r_ic xc_12_42 kc_m1 (r_cne xc_12_43 xj_12_43 (fun hc43 => (r_ic xc_12_46 kc_1 (r_rz xc_12_47 xrt_12 ?_ ?_))) (fun hc43 => (r_aln xc_12_48 rfl (r_get xc_12_49 xf_12_15 g_1_0 ?_))))))))
    · exact Or.inr rfl
    · rw [sKind_k] at hc43
      have hk0 : sKind (sg (a 9) n (skn cB (a 9) n p)) = 0 := by
        by_cases h : sKind (sg (a 9) n (skn cB (a 9) n p)) = 0
        · exact h
        · rw [if_neg h] at hc43
          have := (sKind_ok h).1
          exact absurd hc43 (kI_m1 (by omega))
      rw [p_if_t hk0] at hres
      cases hres
      exact ⟨_, a, r, rfl, hC.at4 b0.1 b0.2, hF.u (by omega) (by omega), hr0, hnv, hrw, hRp, by intro h; rw [h] at ht; simp at ht, hv60⟩
    · rw [sKind_k] at hc43
      have hk0 : ¬ sKind (sg (a 9) n (skn cB (a 9) n p)) = 0 := fun h => hc43 (if_pos h)
      rw [sKind_k, if_neg hk0]
      rw [p_if_f hk0] at hres
      obtain ⟨k1, k2⟩ := sKind_ok hk0
      have l1 : skn cB (a 9) n p < n := (sg_lt k2 rfl).1
      by_cases hf : cnt + ns.length < 60
      · rw [p_if_f (by omega)] at hres
        refine (r_cv xc_12_52 xm_12_52 rfl xrc_25 rfl (p_M.up (M_full_n (s := cnt + ns.length) h1 hf) (by omega)) (r_zeq xc_12_55 xj_12_55 (fun hc55 => (r_aln xc_12_67 rfl (r_get xc_12_68 xf_12_15 g_1_0 (r_iln xc_12_71 rfl (r_il xc_12_72 rfl ?_))))) (fun hc55 => (r_aln xc_12_58 rfl (r_aln xc_12_59 rfl (r_get xc_12_60 xf_12_28 g_1_3 ?_))))))
        · refine (r_cq xc_12_74 xm_12_74 rfl xrc_46 rfl (p_M.up (M_putAhead (s := cnt + ns.length) (f := cnt) h1 hf (by omega)) (by omega)) (fun v h1 hP => ?_) (fun _ _ h => by first | (obtain ⟨_, he, _⟩ := h; cases he; done) | (obtain ⟨_, he⟩ := h; cases he; done) | (obtain ⟨_, _, he, _⟩ := h; cases he; done) | (obtain ⟨_, _, _, he, _⟩ := h; cases he; done) | (simp only [Prod.mk.injEq, reduceCtorEq, false_and, exists_false] at h)))
          obtain ⟨a1, he, e1, e2, e3, e4⟩ := hP
          cases he
          refine (r_aln xc_12_77 rfl (r_get xc_12_78 xf_12_15 g_1_0 (r_iln xc_12_81 rfl (r_iln xc_12_82 rfl (r_ic xc_12_83 kc_1 (r_iadd xc_12_84 (r_aln xc_12_85 rfl (r_get xc_12_86 xf_12_15 g_1_0 (r_get xc_12_89 xf_12_42 g_2_10 ?_)))))))))
          rw [kI_add]
          have ez : u_ (u_ z 4 (nI (skn cB (a 9) n p))) 1 (nI (cnt + ns.length + 1)) 1 = nI (cnt + ns.length + 1) := rfl
          rw [ez]
          refine (r_c0 xc_12_92 xm_12_92 rfl xrc_38 rfl (p_M.up (M_setSides (s := cnt + ns.length + 1) (i := cnt) rfl (by omega) (by omega)) (by omega)) (r_aln xc_12_95 rfl (r_dup xc_12_96 rfl (r_get xc_12_97 xf_12_28 g_1_3 (r_ic xc_12_100 kc_1 (r_iadd xc_12_101 (r_put xc_12_102 xf_12_28 rfl s_1_3 (r_aln xc_12_105 rfl (r_iln xc_12_106 rfl ?_)))))))))
          have e5 : u_ (u_ z 4 (nI (skn cB (a 9) n p))) 1 (nI (cnt + ns.length + 1)) 4 + nI 1 = nI (skn cB (a 9) n p + 1) := kI_add _ 1
          rw [e5]
          have n2 : ∀ j, j ≠ cnt → nv (u_ (u_ a1 3 (upd (a1 3) cnt (nI (cnt + 1)))) 4 (upd (a1 4) cnt (nI (cnt + ns.length + 1)))) j = nv a1 j := by
            intro j hj
            show (a1 0 j, a1 1 j, a1 2 j, upd (a1 3) cnt (nI (cnt + 1)) j, upd (a1 4) cnt (nI (cnt + ns.length + 1)) j, a1 5 j, a1 6 j) = _
            rw [up_n _ _ hj, up_n _ _ hj]; rfl
          have nc : nv (u_ (u_ a1 3 (upd (a1 3) cnt (nI (cnt + 1)))) 4 (upd (a1 4) cnt (nI (cnt + ns.length + 1)))) cnt = (nI (sKind (sg (a 9) n (skn cB (a 9) n p))), nI 0, -1, nI (cnt + 1), nI (cnt + ns.length + 1), nI 0, nI 0) := by
            show (a1 0 cnt, a1 1 cnt, a1 2 cnt, upd (a1 3) cnt (nI (cnt + 1)) cnt, upd (a1 4) cnt (nI (cnt + ns.length + 1)) cnt, a1 5 cnt, a1 6 cnt) = _
            rw [up_s, up_s]
            unfold nv at e3
            simp only [Prod.mk.injEq] at e3
            obtain ⟨f0, f1, f2, f3, f4, f5, f6⟩ := e3
            rw [f0, f1, f2, f5, f6]
          have a7 : ∀ j, 7 ≤ j → u_ (u_ a1 3 (upd (a1 3) cnt (nI (cnt + 1)))) 4 (upd (a1 4) cnt (nI (cnt + ns.length + 1))) j = a j := by
            intro j hj
            rw [u_n _ _ (by omega), u_n _ _ (by omega)]
            exact e1 j hj
          generalize u_ (u_ a1 3 (upd (a1 3) cnt (nI (cnt + 1)))) 4 (upd (a1 4) cnt (nI (cnt + ns.length + 1))) = a2 at n2 nc a7
          have hC2 : CR (a 9) n (skn cB (a 9) n p + 1) (cnt + ns.length + 1) mx r (u_ (u_ (u_ z 4 (nI (skn cB (a 9) n p))) 1 (nI (cnt + ns.length + 1))) 4 (nI (skn cB (a 9) n p + 1))) a2 := ⟨h3, rfl, rfl, h2, h0, a7 9 (by omega), hn, by omega, by omega, hm, by omega⟩
          have hF2 : CF z0 a0 (u_ (u_ (u_ z 4 (nI (skn cB (a 9) n p))) 1 (nI (cnt + ns.length + 1))) 4 (nI (skn cB (a 9) n p + 1))) a2 := (((hF.u (by omega) (by omega)).u (by omega) (by omega)).u (by omega) (by omega)).tr ⟨fun _ _ => rfl, rfl, fun k hk => a7 k (by omega)⟩
          have hw2 : RW a a2 r := RW.of7 a7
          have hRp2 : Rp a2 r (cnt + 1) ns := by
            intro k v hk
            have hl := getElem?_lt hk
            have h60 := hv60 v (List.mem_of_getElem? hk)
            rw [show cnt + 1 + k = cnt + k + 1 by omega]
            refine (hRp k v hk).moved (by omega) ?_ (Nat.le_refl _) hw2
            rw [n2 _ (by omega), e4 _ (by omega) (by omega)]
          cases hPr : P deep (cnt + ns.length + 1) (skn cB (a 9) n p + 1) mx with
          | none => rw [hPr] at hres; cases hres
          | some s =>
            rw [hPr] at hres
            have hM := hP0 D deep (cnt + ns.length + 1) (skn cB (a 9) n p + 1) mx r _ a2 s (by omega) hd hC2 hPr
            cases s with
            | inl b =>
              have hres : some (Sum.inl b : pS) = some res := hres
              cases hres
              refine (r_cq xc_12_107 xm_12_107 rfl xrc_13 rfl (hM) (fun v h1 hP => ?_) (fun _ _ h => by first | (obtain ⟨_, he, _⟩ := h; cases he; done) | (obtain ⟨_, he⟩ := h; cases he; done) | (obtain ⟨_, _, he, _⟩ := h; cases he; done) | (obtain ⟨_, _, _, he, _⟩ := h; cases he; done) | (simp only [Prod.mk.injEq, reduceCtorEq, false_and, exists_false] at h)))
              obtain ⟨z', a', he, g2, g3⟩ := hP
              cases he
              refine (r_zne xc_12_110 xj_12_110 (fun hc110 => (r_ic xc_12_113 kc_0 (r_rz xc_12_114 xrt_12 ?_ ?_))) (fun hc110 => (r_inc [_, _, _, _, _] xc_12_115 rfl rfl (ki_1 _) rfl (r_go xc_12_118 xj_12_118 ?_))))
              · exact Or.inl rfl
              · exact CPost_bad g2 (hF2.tr g3)
              · exact absurd rfl hc110
            | inr s =>
              obtain ⟨p2, ms, m2⟩ := s
              have hres : K deep cnt p2 ((sKind (sg (a 9) n (skn cB (a 9) n p)), 0, 0, 1 + ns.length, []) :: (ns ++ ms)) m2 = some res := hres
              refine (r_cq xc_12_107 xm_12_107 rfl xrc_13 rfl (hM) (fun v h1 hP => ?_) (fun _ _ h => by first | (obtain ⟨_, he, _⟩ := h; cases he; done) | (obtain ⟨_, he⟩ := h; cases he; done) | (obtain ⟨_, _, he, _⟩ := h; cases he; done) | (obtain ⟨_, _, _, he, _⟩ := h; cases he; done) | (simp only [Prod.mk.injEq, reduceCtorEq, false_and, exists_false] at h)))
              obtain ⟨z', a', r', he, g2, g3, g4, g5, g6, g7, g8, g9⟩ := hP
              cases he
              refine (r_zne xc_12_110 xj_12_110 (fun hc110 => (r_ic xc_12_113 kc_0 (r_rz xc_12_114 xrt_12 ?_ ?_))) (fun hc110 => (r_inc [_, _, _, _, _] xc_12_115 rfl rfl (ki_1 _) rfl (r_go xc_12_118 xj_12_118 ?_))))
              · exact Or.inl rfl
              · exact absurd hc110 (by decide)
              · rw [kI_add]
                refine R_fg [_, _, _, _, none] (p_lle_eq (p_lle_eq (p_lle_eq (p_lle_eq (p_lle_no p_lle_nil))))) ?_
                have hlen : cnt + ((sKind (sg (a 9) n (skn cB (a 9) n p)), 0, 0, 1 + ns.length, []) :: (ns ++ ms) : List pN).length = cnt + ns.length + 1 + ms.length := by simp; omega
                refine hK (D + 1) deep cnt p2 _ m2 r' (t + 1) r0 z' z0 a' a0 res hD hd (by rw [hlen]; exact g2) ?_ ?_ ?_ (hF2.tr g3) (by omega) (fun i hi => ?_) (hrw.tr (hw2.tr g6 (Nat.le_refl _)) hr0) hres
                · refine Rp.cons ?_ (Rp.app (hRp2.kept (fun k hk => g5 _ (by omega)) g4 g6) ?_)
                  · have := g5 cnt (by omega)
                    rw [nc] at this
                    unfold nv at this
                    simp only [Prod.mk.injEq] at this
                    obtain ⟨q0, q1, q2, q3, q4, q5, q6⟩ := this
                    refine ⟨q0, q1, by rw [q2]; exact m1_eq, by rw [q3]; rw [if_neg (by dsimp only; omega)], by rw [q4]; rw [if_neg (by dsimp only; omega)]; congr 1; dsimp only; omega, q6, 0, q5, by simp, fun k q hk => by simp at hk⟩
                  · rw [show cnt + 1 + ns.length = cnt + ns.length + 1 by omega]; exact g7
                · intro v hv
                  rcases List.mem_cons.mp hv with h | h
                  · subst h; dsimp only; omega
                  · rcases List.mem_append.mp h with h | h
                    · exact hv60 v h
                    · exact g9 v h
                · simp; omega
                · rw [g5 i (by omega), n2 i (by omega), e2 i hi, hnv i hi]
        · exact absurd rfl hc55
      · rw [p_if_t (by omega)] at hres
        cases hres
        refine (r_cv xc_12_52 xm_12_52 rfl xrc_25 rfl (p_M.up (M_full_y (s := cnt + ns.length) h1 hf hs) (by omega)) (r_zeq xc_12_55 xj_12_55 (fun hc55 => (r_aln xc_12_67 rfl (r_get xc_12_68 xf_12_15 g_1_0 (r_iln xc_12_71 rfl (r_il xc_12_72 rfl ?_))))) (fun hc55 => (r_aln xc_12_58 rfl (r_aln xc_12_59 rfl (r_get xc_12_60 xf_12_28 g_1_3 ?_))))))
        · exact absurd hc55 (by decide)
        · refine (r_cv xc_12_63 xm_12_63 rfl xrc_17 rfl (p_M.up M_refuse (by omega)) (r_rz xc_12_66 xrt_12 ?_ ?_))
          · exact Or.inl rfl
          · exact CPost_bad rfl ((hF.u (by omega) (by omega)).u (by omega) (by omega))
  · rw [kI_lt (by omega) (by omega)] at hc24
    omega
theorem M_rateB {P : Nat → Nat → Nat → Nat → Option pS} {K : Nat → Nat → Nat → List pN → Nat → Option pS} (hP0 : PartOK X T n w y g P) (hK : TailOK X T n w y g K) : RateOK X T n w y g (fun deep cnt p mx => match P deep cnt p mx with
      | none => none
      | some (.inl b) => some (.inl b)
      | some (.inr (p1, ns, m1)) => K deep cnt p1 ns m1) := by
  intro D deep cnt p mx r z a res hD hd hC hres
  obtain ⟨h3, h4, h1, h2, h0, rfl, hn, hq, hs, hm, hr⟩ := id hC
  obtain ⟨D, rfl⟩ : ∃ D', D = D' + 1 := ⟨D - 1, by omega⟩
  dsimp only at hres
  refine (r_in xin_12 (r_aln xc_12_0 rfl (r_get xc_12_1 xf_12_15 g_1_0 (r_get xc_12_4 xf_12_42 g_2_10 (r_isn [_, _, _, _, _] xc_12_7 rfl rfl (r_aln xc_12_8 rfl (r_iln xc_12_9 rfl ?_)))))))
  rw [h1]
  cases hPr : P deep cnt p mx with
  | none => rw [hPr] at hres; cases hres
  | some s =>
    rw [hPr] at hres
    have hM := hP0 D deep cnt p mx r z a s (by omega) hd hC hPr
    cases s with
    | inl b =>
      have hres : some (Sum.inl b : pS) = some res := hres
      cases hres
      refine (r_cq xc_12_10 xm_12_10 rfl xrc_13 rfl (hM) (fun v h1 hP => ?_) (fun _ _ h => by first | (obtain ⟨_, he, _⟩ := h; cases he; done) | (obtain ⟨_, he⟩ := h; cases he; done) | (obtain ⟨_, _, he, _⟩ := h; cases he; done) | (obtain ⟨_, _, _, he, _⟩ := h; cases he; done) | (simp only [Prod.mk.injEq, reduceCtorEq, false_and, exists_false] at h)))
      obtain ⟨z', a', he, g2, g3⟩ := hP
      cases he
      refine (r_zne xc_12_13 xj_12_13 (fun hc13 => (r_ic xc_12_16 kc_0 (r_rz xc_12_17 xrt_12 ?_ ?_))) (fun hc13 => (r_ic xc_12_18 kc_0 (r_isn [_, _, _, _, _] xc_12_19 rfl rfl ?_))))
      · exact Or.inl rfl
      · exact CPost_bad g2 g3
      · exact absurd rfl hc13
    | inr s =>
      obtain ⟨p1, ns, m1⟩ := s
      have hres : K deep cnt p1 ns m1 = some res := hres
      refine (r_cq xc_12_10 xm_12_10 rfl xrc_13 rfl (hM) (fun v h1 hP => ?_) (fun _ _ h => by first | (obtain ⟨_, he, _⟩ := h; cases he; done) | (obtain ⟨_, he⟩ := h; cases he; done) | (obtain ⟨_, _, he, _⟩ := h; cases he; done) | (obtain ⟨_, _, _, he, _⟩ := h; cases he; done) | (simp only [Prod.mk.injEq, reduceCtorEq, false_and, exists_false] at h)))
      obtain ⟨z', a', r', he, g2, g3, g4, g5, g6, g7, g8, g9⟩ := hP
      cases he
      refine (r_zne xc_12_13 xj_12_13 (fun hc13 => (r_ic xc_12_16 kc_0 (r_rz xc_12_17 xrt_12 ?_ ?_))) (fun hc13 => (r_ic xc_12_18 kc_0 (r_isn [_, _, _, _, _] xc_12_19 rfl rfl ?_))))
      · exact Or.inl rfl
      · exact absurd hc13 (by decide)
      · exact hK (D + 1) deep cnt p1 ns m1 r' 0 r z' z a' a res hD hd g2 g7 g9 (List.length_pos_iff.mpr g8) g3 g4 g5 g6 hres
theorem M_spec (f : Nat) : PartOK X T n w y g (sP T n f) ∧ TailOK X T n w y g (sT T n f) := by
  induction f with
  | zero =>
    refine ⟨?_, ?_⟩
    · intro D deep cnt p mx r z a res _ _ _ h; cases h
    · intro D deep cnt p ns mx r t r0 z z0 a a0 res _ _ _ _ _ _ _ _ _ _ h; cases h
  | succ f ih =>
    rw [sP_succ, sT_succ]
    exact ⟨M_part (M_rateB ih.1 ih.2), M_tail ih.1 ih.2⟩
theorem M_rate (f : Nat) : RateOK X T n w y g (sR T n f) := M_rateB (M_spec f).1 (M_spec f).2
end PAR3
/-! ===== reading a text ===== -/
/-- what reading a text comes to: a bad place, or the nodes and the deepest -/
noncomputable def rdS (T : Nat → Int32) (n : Nat) : Nat ⊕ (List pN × Nat) := match sR T n (n + 1) 0 0 0 0 with
  | none => .inl 0
  | some (.inl b) => .inl b
  | some (.inr (p, ns, mx)) => p_if (skn cB T n p = n) (.inr (ns, mx)) (.inl (skn cB T n p))
theorem rdS_ok (T : Nat → Int32) (n : Nat) (hn : n ≤ 300) : match rdS T n with
    | .inl b => b ≤ n
    | .inr (ns, mx) => ns.length ≤ 60 ∧ mx ≤ 12 ∧ TW ns ∧ (PR ns).length ≤ 900 := by
  unfold rdS
  obtain ⟨res, hr⟩ := sR_tot T n
  have g := GOR_sR T n (n + 1) 0 0 0 0 res (by omega) (by omega) (by omega) (by omega) hr
  rw [hr]
  cases res with
  | inl b => exact g
  | inr s =>
    obtain ⟨p, ns, mx⟩ := s
    obtain ⟨q1, q2, q3, q4, q5, q6, q7⟩ := g
    have b0 := skn_ge cB T q2
    dsimp only
    by_cases h : skn cB T n p = n
    · rw [p_if_t h]
      exact ⟨by omega, q5, q6, by omega⟩
    · rw [p_if_f h]; exact b0.2
def RDP (w : Nat → Nat → Int64) (y : Nat → Int64) (g : List pE) (z : Nat → Int32) (a : Nat → Nat → Int32) (o : Nat ⊕ (List pN × Nat)) (q : pR) : Prop := match o with
  | .inl b => ∃ z' a', q = (.inl (some (.int (-1 - nI b))), hp z' a' w y g) ∧ z' 3 = nI 0 ∧ z' 1 = nI 0 ∧ z' 2 = nI 0 ∧ (∀ k, 6 ≤ k → z' k = z k) ∧ ∀ k, 9 ≤ k → a' k = a k
  | .inr (ns, mx) => ∃ z' a' r', q = (.inl (some (.int (nI ns.length))), hp z' a' w y g) ∧ z' 3 = nI 0 ∧ z' 1 = nI ns.length ∧ z' 2 = nI mx ∧ Rp a' r' 0 ns ∧ r' ≤ 300 ∧ (∀ k, 6 ≤ k → z' k = z k) ∧ ∀ k, 9 ≤ k → a' k = a k
section RDT
variable {X : pX} {n : Nat} {z : Nat → Int32} {a : Nat → Nat → Int32} {w : Nat → Nat → Int64} {y : Nat → Int64} {g : List pE}
theorem M_readText (h3 : z 3 = nI n) (hn : n ≤ 300) : p_M X 44 10 [.ref 11] (hp z a w y g) (RDP w y g z a (rdS (a 9) n)) := by
  have bad : ∀ {D b : Nat} {z' : Nat → Int32} {a' : Nat → Nat → Int32}, z' 5 = nI b → (∀ k, 6 ≤ k → z' k = z k) → (∀ k, 9 ≤ k → a' k = a k) → p_E X (D + 1) 10 59 [some (.ref 11), some (.int (nI 0))] [.ref 1] (hp (u_ z' 3 (nI 0)) a' w y g) (RDP w y g z a (.inl b)) := by
    intro D b z' a' h5 hz ha
    refine (r_c0 xc_10_59 xm_10_59 rfl xrc_11 rfl (p_M.up M_clear (by omega)) (r_ic xc_10_62 kc_m1 (r_aln xc_10_63 rfl (r_get xc_10_64 xf_10_31 g_1_4 (r_isub xc_10_67 (r_ri xc_10_68 xrt_10 ?_))))))
    have e : u_ (u_ (u_ (u_ z' 3 (nI 0)) 0 (nI 0)) 1 (nI 0)) 2 (nI 0) 5 = nI b := h5
    rw [e]
    exact ⟨_, a', rfl, rfl, rfl, rfl, fun k hk => by rw [u_n _ _ (by omega), u_n _ _ (by omega), u_n _ _ (by omega), u_n _ _ (by omega)]; exact hz k hk, ha⟩
  obtain ⟨res, hr⟩ := sR_tot (a 9) n
  have hk := GOR_sR (a 9) n (n + 1) 0 0 0 0 res (by omega) (by omega) (by omega) (by omega) hr
  unfold rdS
  rw [hr]
  refine (r_in xin_10 (r_aln xc_10_0 rfl (r_get xc_10_1 xf_10_15 g_1_0 ?_)))
  refine (r_c0 xc_10_4 xm_10_4 rfl xrc_11 rfl (p_M.up M_clear (by omega)) (r_aln xc_10_7 rfl (r_ic xc_10_8 kc_0 (r_put xc_10_9 xf_10_28 rfl s_1_3 (r_aln xc_10_12 rfl (r_ic xc_10_13 kc_0 (r_put xc_10_14 xf_10_31 rfl s_1_4 (r_aln xc_10_17 rfl (r_ic xc_10_18 kc_0 ?_)))))))))
  have hC : CR (a 9) n 0 0 0 0 (u_ (u_ (u_ (u_ (u_ z 0 (nI 0)) 1 (nI 0)) 2 (nI 0)) 4 (nI 0)) 5 (nI 0)) a := ⟨h3, rfl, rfl, rfl, rfl, rfl, hn, by omega, by omega, by omega, by omega⟩
  have hM := M_rate (X := X) (w := w) (y := y) (g := g) (n + 1) 43 0 0 0 0 0 _ a res (by omega) (by omega) hC hr
  have zk : ∀ k, 6 ≤ k → u_ (u_ (u_ (u_ (u_ z 0 (nI 0)) 1 (nI 0)) 2 (nI 0)) 4 (nI 0)) 5 (nI 0) k = z k := fun k hk => by rw [u_n _ _ (by omega), u_n _ _ (by omega), u_n _ _ (by omega), u_n _ _ (by omega), u_n _ _ (by omega)]
  cases res with
  | inl b =>
    refine (r_cq xc_10_19 xm_10_19 rfl xrc_12 rfl (hM) (fun v h1 hP => ?_) (fun _ _ h => by first | (obtain ⟨_, he, _⟩ := h; cases he; done) | (obtain ⟨_, he⟩ := h; cases he; done) | (obtain ⟨_, _, he, _⟩ := h; cases he; done) | (obtain ⟨_, _, _, he, _⟩ := h; cases he; done) | (simp only [Prod.mk.injEq, reduceCtorEq, false_and, exists_false] at h)))
    obtain ⟨z', a', he, g2, g3⟩ := hP
    cases he
    refine (r_zeq xc_10_22 xj_10_22 (fun hc22 => (r_ic xc_10_36 kc_0 (r_isn [_, _] xc_10_37 rfl rfl (r_aln xc_10_38 rfl (r_ic xc_10_39 kc_0 (r_put xc_10_40 xf_10_19 rfl s_1_2 (r_iln xc_10_43 rfl (r_zeq xc_10_44 xj_10_44 (fun hc44 => (r_aln xc_10_55 rfl (r_get xc_10_56 xf_10_15 g_1_0 ?_))) (fun hc44 => (r_aln xc_10_47 rfl (r_get xc_10_48 xf_10_15 g_1_0 (r_get xc_10_51 xf_10_42 g_2_10 (r_ri xc_10_54 xrt_10 ?_))))))))))))) (fun hc22 => (r_aln xc_10_25 rfl ?_)))
    · exact bad g2 (fun k hk => (g3.1 k hk).trans (zk k hk)) g3.2.2
    · exact absurd rfl hc44
    · exact absurd rfl hc22
  | inr s =>
    obtain ⟨p, ns, mx⟩ := s
    dsimp only
    refine (r_cq xc_10_19 xm_10_19 rfl xrc_12 rfl (hM) (fun v h1 hP => ?_) (fun _ _ h => by first | (obtain ⟨_, he, _⟩ := h; cases he; done) | (obtain ⟨_, he⟩ := h; cases he; done) | (obtain ⟨_, _, he, _⟩ := h; cases he; done) | (obtain ⟨_, _, _, he, _⟩ := h; cases he; done) | (simp only [Prod.mk.injEq, reduceCtorEq, false_and, exists_false] at h)))
    obtain ⟨z', a', r', he, g2, g3, g4, g5, g6, g7, g8, g9⟩ := hP
    cases he
    obtain ⟨k3, k4, k1, k2, k0, k9, _, kq, ks, km, kr⟩ := id g2
    have hz : ∀ k, 6 ≤ k → z' k = z k := fun k hk => (g3.1 k hk).trans (zk k hk)
    refine (r_zeq xc_10_22 xj_10_22 (fun hc22 => (r_ic xc_10_36 kc_0 (r_isn [_, _] xc_10_37 rfl rfl (r_aln xc_10_38 rfl (r_ic xc_10_39 kc_0 (r_put xc_10_40 xf_10_19 rfl s_1_2 (r_iln xc_10_43 rfl (r_zeq xc_10_44 xj_10_44 (fun hc44 => (r_aln xc_10_55 rfl (r_get xc_10_56 xf_10_15 g_1_0 ?_))) (fun hc44 => (r_aln xc_10_47 rfl (r_get xc_10_48 xf_10_15 g_1_0 (r_get xc_10_51 xf_10_42 g_2_10 (r_ri xc_10_54 xrt_10 ?_))))))))))))) (fun hc22 => (r_aln xc_10_25 rfl ?_)))
    · exact absurd hc22 (by decide)
    · exact absurd hc22 (by decide)
    · by_cases hend : skn cB (a 9) n p = n
      · rw [p_if_t hend]
        refine (r_cv xc_10_26 xm_10_26 rfl xrc_48 rfl (p_M.up (M_readEnd_y (p := p) k3 k4 hn kq (by rw [k9]; exact hend)) (by omega)) (r_zeq xc_10_29 xj_10_29 (fun hc29 => (r_ic xc_10_36 kc_0 (r_isn [_, _] xc_10_37 rfl rfl (r_aln xc_10_38 rfl (r_ic xc_10_39 kc_0 (r_put xc_10_40 xf_10_19 rfl s_1_2 (r_iln xc_10_43 rfl (r_zeq xc_10_44 xj_10_44 (fun hc44 => (r_aln xc_10_55 rfl (r_get xc_10_56 xf_10_15 g_1_0 ?_))) (fun hc44 => (r_aln xc_10_47 rfl (r_get xc_10_48 xf_10_15 g_1_0 (r_get xc_10_51 xf_10_42 g_2_10 (r_ri xc_10_54 xrt_10 ?_))))))))))))) (fun hc29 => (r_ic xc_10_32 kc_1 (r_go xc_10_33 xj_10_33 (r_isn [_, _] xc_10_37 rfl rfl (r_aln xc_10_38 rfl (r_ic xc_10_39 kc_0 (r_put xc_10_40 xf_10_19 rfl s_1_2 (r_iln xc_10_43 rfl (r_zeq xc_10_44 xj_10_44 (fun hc44 => (r_aln xc_10_55 rfl (r_get xc_10_56 xf_10_15 g_1_0 ?_))) (fun hc44 => (r_aln xc_10_47 rfl (r_get xc_10_48 xf_10_15 g_1_0 (r_get xc_10_51 xf_10_42 g_2_10 (r_ri xc_10_54 xrt_10 ?_))))))))))))))))
        · exact absurd hc29 (by decide)
        · exact absurd hc29 (by decide)
        · exact absurd hc44 (by decide)
        · have e1 : u_ (u_ z' 4 (nI n)) 3 (nI 0) 1 = nI ns.length := by show z' 1 = _; rw [k1]; congr 1; omega
          rw [e1]
          refine ⟨_, a', r', rfl, rfl, e1, k2, g7, by omega, fun k hk => by rw [u_n _ _ (by omega), u_n _ _ (by omega)]; exact hz k hk, g3.2.2⟩
      · rw [p_if_f hend]
        refine (r_cv xc_10_26 xm_10_26 rfl xrc_48 rfl (p_M.up (M_readEnd_n (p := p) k3 k4 hn kq (by rw [k9]; exact hend)) (by omega)) (r_zeq xc_10_29 xj_10_29 (fun hc29 => (r_ic xc_10_36 kc_0 (r_isn [_, _] xc_10_37 rfl rfl (r_aln xc_10_38 rfl (r_ic xc_10_39 kc_0 (r_put xc_10_40 xf_10_19 rfl s_1_2 (r_iln xc_10_43 rfl (r_zeq xc_10_44 xj_10_44 (fun hc44 => (r_aln xc_10_55 rfl (r_get xc_10_56 xf_10_15 g_1_0 ?_))) (fun hc44 => (r_aln xc_10_47 rfl (r_get xc_10_48 xf_10_15 g_1_0 (r_get xc_10_51 xf_10_42 g_2_10 (r_ri xc_10_54 xrt_10 ?_))))))))))))) (fun hc29 => (r_ic xc_10_32 kc_1 (r_go xc_10_33 xj_10_33 (r_isn [_, _] xc_10_37 rfl rfl (r_aln xc_10_38 rfl (r_ic xc_10_39 kc_0 (r_put xc_10_40 xf_10_19 rfl s_1_2 (r_iln xc_10_43 rfl (r_zeq xc_10_44 xj_10_44 (fun hc44 => (r_aln xc_10_55 rfl (r_get xc_10_56 xf_10_15 g_1_0 ?_))) (fun hc44 => (r_aln xc_10_47 rfl (r_get xc_10_48 xf_10_15 g_1_0 (r_get xc_10_51 xf_10_42 g_2_10 (r_ri xc_10_54 xrt_10 ?_))))))))))))))))
        · refine bad (b := skn cB (a 9) n p) ?_ (fun k hk => by rw [u_n _ _ (by omega), u_n _ _ (by omega)]; exact hz k hk) g3.2.2
          rw [k9]; rfl
        · exact absurd rfl hc44
        · exact absurd rfl hc29
        · exact absurd rfl hc29
theorem RDP.val {o : Nat ⊕ (List pN × Nat)} {q : pR} (h : RDP w y g z a o q) : ∃ x z' a', q = (.inl (some (.int x)), hp z' a' w y g) := by
  cases o with
  | inl b => obtain ⟨z', a', e, _⟩ := h; exact ⟨_, z', a', e⟩
  | inr s => obtain ⟨ns, mx⟩ := s; obtain ⟨z', a', r', e, _⟩ := h; exact ⟨_, z', a', e⟩
theorem M_readC (h3 : z 3 = nI n) (hn : n ≤ 300) : p_M X 45 9 [.ref 0] (hp z a w y g) (RDP w y g z a (rdS (a 9) n)) := by
  refine (r_in xin_9 (r_aln xc_9_0 rfl (r_get xc_9_1 xf_9_21 g_5_1 ?_)))
  refine (r_cq xc_9_4 xm_9_4 rfl xrc_10 rfl (((M_readText h3 hn).mono (fun q hq => by obtain ⟨x, z', a', e⟩ := hq.val; exact (⟨x, z', a', e, hq⟩ : ∃ x z' a', q = (.inl (some (.int x)), hp z' a' w y g) ∧ RDP w y g z a (rdS (a 9) n) q)))) (fun v h1 hP => ?_) (fun _ _ h => by first | (obtain ⟨_, he, _⟩ := h; cases he; done) | (obtain ⟨_, he⟩ := h; cases he; done) | (obtain ⟨_, _, he, _⟩ := h; cases he; done) | (obtain ⟨_, _, _, he, _⟩ := h; cases he; done) | (simp only [Prod.mk.injEq, reduceCtorEq, false_and, exists_false] at h)))
  obtain ⟨x, z', a', he, hx⟩ := hP
  cases he
  refine (r_ri xc_9_7 xrt_9 ?_)
  exact hx
theorem M_signC_y {c : Int32} (h3 : z 3 = nI n) (hn : n < 300) (hc : okS c) : p_M X 1 7 [.ref 0, .int c] (hp z a w y g) (fun q => q = (.inl (some (.int (nI 1))), hp (u_ z 3 (nI (n + 1))) (u_ a 9 (upd (a 9) n c)) w y g)) := by
  refine (r_in xin_7 (r_aln xc_7_0 rfl (r_get xc_7_1 xf_7_21 g_5_1 (r_iln xc_7_4 rfl ?_))))
  refine (r_cv xc_7_5 xm_7_5 rfl xrc_8 rfl (M_takeSign_y h3 hn hc) (r_rz xc_7_8 xrt_7 ?_ ?_))
  · exact Or.inr rfl
  · rfl
theorem M_signC_n {c : Int32} (h3 : z 3 = nI n) (hn : n ≤ 300) (hc : ¬ (okS c ∧ n < 300)) : p_M X 1 7 [.ref 0, .int c] (hp z a w y g) (fun q => q = (.inl (some (.int (nI 0))), hp z a w y g)) := by
  refine (r_in xin_7 (r_aln xc_7_0 rfl (r_get xc_7_1 xf_7_21 g_5_1 (r_iln xc_7_4 rfl ?_))))
  refine (r_cv xc_7_5 xm_7_5 rfl xrc_8 rfl (M_takeSign_n h3 hn hc) (r_rz xc_7_8 xrt_7 ?_ ?_))
  · exact Or.inl rfl
  · rfl
end RDT
