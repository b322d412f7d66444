/-! ===== the class reads a number part ===== -/
theorem kI_of {x : Int32} (h : 0 ≤ x.toInt) : x = nI x.toInt.toNat := by
  have h2 := Int32.toInt_lt x
  rw [← Int32.toInt_inj, nI_toInt (by omega)]
  omega
theorem kI_of2 {x : Int32} (h : ¬ x < nI 0) : x = nI x.toInt.toNat := by
  rw [Int32.lt_iff_toInt_lt, nI_toInt (by omega)] at h
  exact kI_of (by omega)
theorem uN_ok {c : Int32} (h : uOk c) : c = nI (64 + uN c) ∧ 1 ≤ uN c ∧ uN c ≤ 8 := by
  unfold uOk at h
  have e : 1 ≤ uN c ∧ uN c ≤ 8 := by unfold uN; omega
  refine ⟨?_, e⟩
  rw [← Int32.toInt_inj, nI_toInt (by omega)]
  unfold uN; omega
theorem uN_sub {c : Int32} (h : uOk c) : c - nI 65 = nI (uN c) - nI 1 := by
  obtain ⟨h1, h2, h3⟩ := uN_ok h
  conv => lhs; rw [h1]
  rw [kI_sub (by omega), kI_sub h2]
  congr 1; omega
theorem uOk_iff {c : Int32} : uOk c ↔ ¬ c - nI 65 < nI 0 ∧ c - nI 65 < nI 8 := by
  constructor
  · intro h
    obtain ⟨h1, h2, h3⟩ := uN_ok h
    rw [uN_sub h, kI_sub h2]
    exact ⟨kI_neg (by omega), (kI_lt (by omega) (by omega)).mpr (by omega)⟩
  · intro ⟨h1, h2⟩
    have e := kI_of2 h1
    rw [e, kI_lt (by have := Int32.toInt_lt (c - nI 65); omega) (by omega)] at h2
    have e2 : c = nI ((c - nI 65).toInt.toNat + 65) := by
      rw [← kI_add, ← e]
      exact (Int32.sub_add_cancel _ _).symm
    unfold uOk
    rw [e2, nI_toInt (by omega)]
    omega
theorem m1_eq : (-1 : Int32) = nI 0 - nI 1 := by decide
section NUMP
variable {X : pX} {n p cnt mx r : Nat} {T : Nat → Int32} {z : Nat → Int32} {a : Nat → Nat → Int32} {w : Nat → Nat → Int64} {y : Nat → Int64} {g : List pE}
theorem CPost_leaf {z1 : Nat → Int32} {a' : Nat → Nat → Int32} {k num un : Nat} (hC : CR T n p cnt mx r z1 a) (hF : CF z a z1 a) {r0 : Nat} (hr0 : r0 ≤ r) (hc : cnt < 60) (e1 : ∀ j, 7 ≤ j → a' j = a j) (e2 : ∀ j, j ≠ cnt → nv a' j = nv a j) (e3 : nv a' cnt = (nI k, nI num, nI un - nI 1, -1, -1, nI 0, nI 0)) :
    CPost T n w y g z a cnt r0 (.inr (p, [(k, num, un, 0, [])], mx)) (.inl (some (.int (nI 1))), hp (u_ z1 1 (nI (cnt + 1))) a' w y g) := by
  obtain ⟨h3, h4, h1, h2, h0, h9, hn, hq, hs, hm, hr⟩ := hC
  unfold nv at e3
  simp only [Prod.mk.injEq] at e3
  obtain ⟨f0, f1, f2, f3, f4, f5, f6⟩ := e3
  refine ⟨_, a', r, rfl, ⟨h3, h4, rfl, h2, h0, (e1 9 (by omega)).trans h9, hn, hq, hc, hm, hr⟩, (CF.tr hF (CF.rf z1 a)).u (by omega) (by omega) |>.tr ⟨fun _ _ => rfl, rfl, fun k hk => e1 k (by omega)⟩, hr0, fun i hi => e2 i (by omega), fun j _ => ⟨by rw [e1 7 (by omega)], by rw [e1 8 (by omega)]⟩, ?_, by simp, ?_⟩
  · intro k' v hv
    cases k' with
    | zero =>
      cases hv
      exact ⟨f0, f1, f2, f3, f4, f6, 0, f5, by simp, fun k q hq => by simp at hq⟩
    | succ k' => simp at hv
  · intro v hv
    simp only [List.mem_singleton] at hv
    subst hv
    simp
theorem CPost_bad {b : Nat} {z1 : Nat → Int32} {a1 : Nat → Nat → Int32} (h5 : z1 5 = nI b) (hF : CF z a z1 a1) : CPost T n w y g z a cnt r (.inl b) (.inl (some (.int (nI 0))), hp z1 a1 w y g) := ⟨z1, a1, rfl, h5, hF⟩
theorem CR.at {z1 : Nat → Int32} {p' : Nat} (hC : CR T n p cnt mx r z a) (h4 : z1 4 = nI p') (h : ∀ k, k ≠ 4 → z1 k = z k) (hp1 : p ≤ p') (hp2 : p' ≤ n) : CR T n p' cnt mx r z1 a := by
  obtain ⟨h3, h4', h1, h2, h0, h9, hn, hq, hs, hm, hr⟩ := hC
  exact ⟨(h 3 (by omega)).trans h3, h4, (h 1 (by omega)).trans h1, (h 2 (by omega)).trans h2, (h 0 (by omega)).trans h0, h9, hn, hp2, hs, hm, Nat.le_trans hr hp1⟩
theorem CR.at4 {p' : Nat} (hC : CR T n p cnt mx r z a) (hp1 : p ≤ p') (hp2 : p' ≤ n) : CR T n p' cnt mx r (u_ z 4 (nI p')) a := hC.at rfl (fun _ hk => u_n _ _ hk) hp1 hp2
theorem M_numPart (hC : CR T n p cnt mx r z a) : p_M X 2 21 [.ref 11] (hp z a w y g) (CPost T n w y g z a cnt r (sNum T n cnt p mx)) := by
  obtain ⟨h3, h4, h1, h2, h0, rfl, hn, hq, hs, hm, hr⟩ := id hC
  refine (r_in xin_21 (r_aln xc_21_0 rfl (r_get xc_21_1 xf_21_28 g_1_3 (r_isn [_, _, _, _] xc_21_4 rfl rfl (r_aln xc_21_5 rfl ?_)))))
  rw [h4]
  by_cases hG : tG (a 9) n p
  · have hV := tV_lt hG
    have hN := tN_le (T := a 9) hq
    have hE := tE_le (T := a 9) hq
    refine (r_cv xc_21_6 xm_21_6 rfl xrc_22 rfl ((M_readNumber_y h3 h4 hn hq hG)) (r_isn [_, _, _, _] xc_21_9 rfl rfl (r_iln xc_21_10 rfl (r_ic xc_21_11 kc_m1 (r_ceq xc_21_12 xj_21_12 (fun hc12 => (r_aln xc_21_25 rfl (r_iln xc_21_26 rfl ?_))) (fun hc12 => (r_aln xc_21_15 rfl (r_get xc_21_16 xf_21_15 g_1_0 ?_))))))))
    · exact absurd hc12 (kI_m1 (by omega))
    · by_cases hf : cnt < 60
      · have hnb : ¬ (¬ tG (a 9) n p ∨ 60 ≤ cnt) := by rintro (h | h); exact h hG; omega
        have hq1 := skn_ge cB (a 9) hN.2
        refine (r_cv xc_21_19 xm_21_19 rfl xrc_25 rfl (p_M.up (M_full_n (s := cnt) h1 hf) (by omega)) (r_zeq xc_21_22 xj_21_22 (fun hc22 => (r_aln xc_21_31 rfl ?_)) (fun hc22 => (r_aln xc_21_25 rfl (r_iln xc_21_26 rfl ?_)))))
        · refine (r_c0 xc_21_32 xm_21_32 rfl xrc_14 rfl (p_M.up (M_skipB (p := tN (a 9) n p) h3 rfl hn hN.2) (by omega)) (r_aln xc_21_35 rfl ?_))
          rw [u_u]
          refine (r_cv xc_21_36 xm_21_36 rfl xrc_15 rfl (p_M.up (M_signHere (p := skn cB (a 9) n (tN (a 9) n p)) h3 rfl hn hq1.2) (by omega)) (r_bi xc_21_39 kb_37 (r_cne xc_21_41 xj_21_41 (fun hc41 => (r_aln xc_21_44 rfl (r_dup xc_21_45 rfl (r_get xc_21_46 xf_21_28 g_1_3 (r_ic xc_21_49 kc_1 (r_iadd xc_21_50 (r_put xc_21_51 xf_21_28 rfl s_1_3 (r_aln xc_21_54 rfl (r_get xc_21_55 xf_21_15 g_1_0 (r_ic xc_21_58 kc_1 (r_iln xc_21_59 rfl (r_ic xc_21_60 kc_m1 ?_)))))))))))) (fun hc41 => (r_aln xc_21_74 rfl (r_bi xc_21_75 kb_47 ?_))))))
          · have hlt := (sg_lt (by decide) hc41).1
            have e4 : u_ z 4 (nI (skn cB (a 9) n (tN (a 9) n p))) 4 + nI 1 = nI (skn cB (a 9) n (tN (a 9) n p) + 1) := kI_add _ 1
            rw [u_u, e4]
            refine (r_cq xc_21_61 xm_21_61 rfl xrc_26 rfl (M_addNode (s := cnt) h1 hf) (fun v h1 hP => ?_) (fun _ _ h => by first | (obtain ⟨_, he, _⟩ := h; cases he; done) | (obtain ⟨_, he⟩ := h; cases he; done) | (obtain ⟨_, _, he, _⟩ := h; cases he; done) | (obtain ⟨_, _, _, he, _⟩ := h; cases he; done) | (simp only [Prod.mk.injEq, reduceCtorEq, false_and, exists_false] at h)))
            obtain ⟨a', he, e1, e2, e3⟩ := hP
            cases he
            refine (r_ic xc_21_64 kc_m1 (r_ceq xc_21_65 xj_21_65 (fun hc65 => (r_ic xc_21_72 kc_0 (r_rz xc_21_73 xrt_21 ?_ ?_))) (fun hc65 => (r_ic xc_21_68 kc_1 (r_go xc_21_69 xj_21_69 (r_rz xc_21_73 xrt_21 ?_ ?_))))))
            · exact Or.inl rfl
            · exact absurd hc65 (kI_m1 (by omega))
            · exact Or.inr rfl
            · unfold sNum
              rw [p_if_f hnb, p_if_t hc41]
              exact CPost_leaf (hC.at4 (by omega) (by omega)) ((CF.rf z a).u (by omega) (by omega)) (Nat.le_refl _) hf e1 e2 (by rw [e3, ← m1_eq])
          · have hid := skn_idem cB (a 9) hN.2
            by_cases hsl : sg (a 9) n (skn cB (a 9) n (tN (a 9) n p)) = nI 47
            · have hlt := (sg_lt (by decide) hsl).1
              refine (r_cv xc_21_77 xm_21_77 rfl xrc_20 rfl ((M_readSign_y (p := skn cB (a 9) n (tN (a 9) n p)) (c := nI 47) h3 rfl hn hq1.2 (by rw [hid]; exact hsl))) (r_zne xc_21_80 xj_21_80 (fun hc80 => (r_ic xc_21_83 kc_0 (r_rz xc_21_84 xrt_21 ?_ ?_))) (fun hc80 => (r_aln xc_21_85 rfl ?_))))
              · exact Or.inl rfl
              · exact absurd hc80 (by decide)
              · rw [u_u, hid]
                have hq2 := skn_ge cB (a 9) (p := skn cB (a 9) n (tN (a 9) n p) + 1) (n := n) (by omega)
                refine (r_c0 xc_21_86 xm_21_86 rfl xrc_14 rfl (p_M.up (M_skipB (p := skn cB (a 9) n (tN (a 9) n p) + 1) h3 rfl hn (by omega)) (by omega)) (r_aln xc_21_89 rfl ?_))
                rw [u_u]
                refine (r_cv xc_21_90 xm_21_90 rfl xrc_15 rfl (p_M.up (M_signHere (p := skn cB (a 9) n (skn cB (a 9) n (tN (a 9) n p) + 1)) h3 rfl hn hq2.2) (by omega)) (r_bi xc_21_93 kb_65 (r_isub xc_21_95 (r_isn [_, _, _, _] xc_21_96 rfl rfl (r_iln xc_21_97 rfl (r_zlt xc_21_98 xj_21_98 (fun hc98 => (r_aln xc_21_107 rfl (r_aln xc_21_108 rfl (r_get xc_21_109 xf_21_28 g_1_3 ?_)))) (fun hc98 => (r_iln xc_21_101 rfl (r_bi xc_21_102 kb_8 (r_clt xc_21_104 xj_21_104 (fun hc104 => (r_aln xc_21_116 rfl (r_dup xc_21_117 rfl (r_get xc_21_118 xf_21_28 g_1_3 (r_ic xc_21_121 kc_1 (r_iadd xc_21_122 (r_put xc_21_123 xf_21_28 rfl s_1_3 (r_aln xc_21_126 rfl (r_get xc_21_127 xf_21_15 g_1_0 (r_ic xc_21_130 kc_2 (r_iln xc_21_131 rfl (r_iln xc_21_132 rfl ?_)))))))))))) (fun hc104 => (r_aln xc_21_107 rfl (r_aln xc_21_108 rfl (r_get xc_21_109 xf_21_28 g_1_3 ?_))))))))))))))
                · refine (r_cv xc_21_112 xm_21_112 rfl xrc_17 rfl (p_M.up M_refuse (by omega)) (r_rz xc_21_115 xrt_21 ?_ ?_))
                  · exact Or.inl rfl
                  · unfold sNum
                    rw [p_if_f hnb, p_if_f hc41, p_if_f (fun h => h hsl), p_if_f (fun h => (uOk_iff.mp h).1 hc98)]
                    exact CPost_bad rfl (((CF.rf z a).u (by omega) (by omega)).u (by omega) (by omega))
                · have hu : uOk (sg (a 9) n (skn cB (a 9) n (skn cB (a 9) n (tN (a 9) n p) + 1))) := uOk_iff.mpr ⟨hc98, hc104⟩
                  have hlt2 : skn cB (a 9) n (skn cB (a 9) n (tN (a 9) n p) + 1) < n := by
                    refine Nat.lt_of_not_le (fun h => ?_)
                    unfold uOk sg at hu
                    rw [if_neg (by omega)] at hu
                    exact absurd hu (by decide)
                  have e4 : u_ z 4 (nI (skn cB (a 9) n (skn cB (a 9) n (tN (a 9) n p) + 1))) 4 + nI 1 = nI (skn cB (a 9) n (skn cB (a 9) n (tN (a 9) n p) + 1) + 1) := kI_add _ 1
                  rw [u_u, e4]
                  refine (r_cq xc_21_133 xm_21_133 rfl xrc_26 rfl (M_addNode (s := cnt) h1 hf) (fun v h1 hP => ?_) (fun _ _ h => by first | (obtain ⟨_, he, _⟩ := h; cases he; done) | (obtain ⟨_, he⟩ := h; cases he; done) | (obtain ⟨_, _, he, _⟩ := h; cases he; done) | (obtain ⟨_, _, _, he, _⟩ := h; cases he; done) | (simp only [Prod.mk.injEq, reduceCtorEq, false_and, exists_false] at h)))
                  obtain ⟨a', he, e1, e2, e3⟩ := hP
                  cases he
                  refine (r_ic xc_21_136 kc_m1 (r_ceq xc_21_137 xj_21_137 (fun hc137 => (r_ic xc_21_144 kc_0 (r_rz xc_21_145 xrt_21 ?_ ?_))) (fun hc137 => (r_ic xc_21_140 kc_1 (r_go xc_21_141 xj_21_141 (r_rz xc_21_145 xrt_21 ?_ ?_))))))
                  · exact Or.inl rfl
                  · exact absurd hc137 (kI_m1 (by omega))
                  · exact Or.inr rfl
                  · unfold sNum
                    rw [p_if_f hnb, p_if_f hc41, p_if_f (fun h => h hsl), p_if_t hu]
                    exact CPost_leaf (hC.at4 (by omega) (by omega)) ((CF.rf z a).u (by omega) (by omega)) (Nat.le_refl _) hf e1 e2 (by rw [e3, uN_sub hu])
                · refine (r_cv xc_21_112 xm_21_112 rfl xrc_17 rfl (p_M.up M_refuse (by omega)) (r_rz xc_21_115 xrt_21 ?_ ?_))
                  · exact Or.inl rfl
                  · unfold sNum
                    rw [p_if_f hnb, p_if_f hc41, p_if_f (fun h => h hsl), p_if_f (fun h => hc104 (uOk_iff.mp h).2)]
                    exact CPost_bad rfl (((CF.rf z a).u (by omega) (by omega)).u (by omega) (by omega))
            · refine (r_cv xc_21_77 xm_21_77 rfl xrc_20 rfl ((M_readSign_n (p := skn cB (a 9) n (tN (a 9) n p)) (c := nI 47) h3 rfl hn hq1.2 (by rw [hid]; exact hsl))) (r_zne xc_21_80 xj_21_80 (fun hc80 => (r_ic xc_21_83 kc_0 (r_rz xc_21_84 xrt_21 ?_ ?_))) (fun hc80 => (r_aln xc_21_85 rfl ?_))))
              · exact Or.inl rfl
              · unfold sNum
                rw [p_if_f hnb, p_if_f hc41, p_if_t hsl, u_u, hid]
                exact CPost_bad rfl (((CF.rf z a).u (by omega) (by omega)).u (by omega) (by omega))
              · exact absurd rfl hc80
        · exact absurd hc22 (by decide)
      · refine (r_cv xc_21_19 xm_21_19 rfl xrc_25 rfl (p_M.up (M_full_y (s := cnt) h1 hf hs) (by omega)) (r_zeq xc_21_22 xj_21_22 (fun hc22 => (r_aln xc_21_31 rfl ?_)) (fun hc22 => (r_aln xc_21_25 rfl (r_iln xc_21_26 rfl ?_)))))
        · exact absurd hc22 (by decide)
        · refine (r_cv xc_21_27 xm_21_27 rfl xrc_17 rfl (p_M.up M_refuse (by omega)) (r_rz xc_21_30 xrt_21 ?_ ?_))
          · exact Or.inl rfl
          · unfold sNum
            rw [p_if_t (Or.inr (by omega))]
            exact CPost_bad rfl (((CF.rf z a).u (by omega) (by omega)).u (by omega) (by omega))
  · refine (r_cq xc_21_6 xm_21_6 rfl xrc_22 rfl ((M_readNumber_n h3 h4 hn hq hG)) (fun v h1 hP => ?_) (fun _ _ h => by first | (obtain ⟨_, he, _⟩ := h; cases he; done) | (obtain ⟨_, he⟩ := h; cases he; done) | (obtain ⟨_, _, he, _⟩ := h; cases he; done) | (obtain ⟨_, _, _, he, _⟩ := h; cases he; done) | (simp only [Prod.mk.injEq, reduceCtorEq, false_and, exists_false] at h)))
    obtain ⟨x, he⟩ := hP
    cases he
    refine (r_isn [_, _, _, _] xc_21_9 rfl rfl (r_iln xc_21_10 rfl (r_ic xc_21_11 kc_m1 (r_ceq xc_21_12 xj_21_12 (fun hc12 => (r_aln xc_21_25 rfl (r_iln xc_21_26 rfl ?_))) (fun hc12 => (r_aln xc_21_15 rfl (r_get xc_21_16 xf_21_15 g_1_0 ?_)))))))
    · refine (r_cv xc_21_27 xm_21_27 rfl xrc_17 rfl (p_M.up M_refuse (by omega)) (r_rz xc_21_30 xrt_21 ?_ ?_))
      · exact Or.inl rfl
      · unfold sNum
        rw [p_if_t (Or.inl hG)]
        exact CPost_bad rfl (((CF.rf z a).u (by omega) (by omega)).u (by omega) (by omega))
    · exact absurd rfl hc12
end NUMP
