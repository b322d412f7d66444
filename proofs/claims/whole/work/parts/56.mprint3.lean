/-! ===== the model prints: a node, the loop ===== -/
theorem mv.congr {a b : Nat → Nat → Int32} {x : Nat} {v : pN} (h : mv a x v) (e : ∀ j, j ≠ 27 → j ≠ 31 → b j = a j) : mv b x v := by
  unfold mv
  rw [e 15 (by omega) (by omega), e 16 (by omega) (by omega), e 17 (by omega) (by omega), e 20 (by omega) (by omega), e 21 (by omega) (by omega), e 22 (by omega) (by omega)]
  exact h
theorem hm_of {z : Nat → Int32} {b : Nat → Nat → Int32} {w : Nat → Nat → Int64} {y : Nat → Int64} {g : List pE} {f0 : Nat → Int32} {l : List Nat} (h : b 31 = apF f0 0 l) : hp (u_ z 17 (nI l.length)) b w y g = hm z (u_ b 31 f0) w y g 0 l := by
  show _ = hp (u_ z 17 (nI (0 + l.length))) (u_ (u_ b 31 f0) 31 (apF f0 0 l)) w y g
  rw [Nat.zero_add, u_u, u_idv h]
/-- what printing one node leaves -/
def NP (z : Nat → Int32) (a : Nat → Nat → Int32) (w : Nat → Nat → Int64) (y : Nat → Int64) (g : List pE) (f0 : Nat → Int32) (S : List pI) (l : List Nat) (t : List pN) (q : pR) : Prop := ∃ b' l' S', q = (.inl (some (.int (nI (S' ++ S).length))), hp (u_ z 17 (nI l'.length)) b' w y g) ∧ (∀ j, j ≠ 27 → j ≠ 31 → b' j = a j) ∧ b' 31 = apF f0 0 l' ∧ pileOk a (b' 27) (S' ++ S) ∧ l' ++ oS S' = l ++ PR t ∧ wS S' ≤ 3 * t.length - 2 ∧ uS S' < 7 * t.length
section MPR3
variable {X : pX} {z : Nat → Int32} {w : Nat → Nat → Int64} {y : Nat → Int64} {g : List pE} {a : Nat → Nat → Int32} {f0 : Nat → Int32}
theorem NP_leaf {b : Nat → Nat → Int32} {S : List pI} {l : List Nat} {v : pN} (hb : ∀ j, j ≠ 27 → j ≠ 31 → b j = a j) (hS : pileOk a (b 27) S) (hv : lfOk v) : NP z a w y g f0 S l [v] (.inl (some (.int (nI S.length))), hm z (u_ b 31 f0) w y g 0 (l ++ dL v)) := by
  refine ⟨u_ (u_ b 31 f0) 31 (apF f0 0 (l ++ dL v)), l ++ dL v, [], ?_, fun j h1 h2 => ?_, rfl, hS, ?_, ?_, ?_⟩
  · show _ = (Sum.inl (some (Value.int (nI S.length))), hp (u_ z 17 (nI (l ++ dL v).length)) (u_ (u_ b 31 f0) 31 (apF f0 0 (l ++ dL v))) w y g)
    rw [show hm z (u_ b 31 f0) w y g 0 (l ++ dL v) = hp (u_ z 17 (nI (0 + (l ++ dL v).length))) (u_ (u_ b 31 f0) 31 (apF f0 0 (l ++ dL v))) w y g from rfl, Nat.zero_add]
  · rw [u_n _ _ h2, u_n _ _ h2]; exact hb j h1 h2
  · rw [PR_leaf hv]; show l ++ dL v ++ [] = _; rw [List.append_nil]
  · exact Nat.zero_le _
  · show 0 < 7 * 1; omega
theorem Q_node {b : Nat → Nat → Int32} {S : List pI} {l : List Nat} {k : Nat} {t : List pN} (hT : TW t) (hM : MpT a k t) (hk : k + t.length ≤ 60) (hb : ∀ j, j ≠ 27 → j ≠ 31 → b j = a j) (hb31 : b 31 = apF f0 0 l) (hS : pileOk a (b 27) S) (hlen : S.length ≤ 200) (hL : (l ++ PR t).length ≤ 900) :
    p_M X 3 135 [.ref 22, .int (nI k), .int (nI S.length)] (hp (u_ z 17 (nI l.length)) b w y g) (NP z a w y g f0 S l t) := by
  rw [hm_of hb31]
  have hB : ∀ j, j ≠ 27 → j ≠ 31 → u_ b 31 f0 j = a j := fun j h1 h2 => by rw [u_n _ _ h2]; exact hb j h1 h2
  have rd : ∀ (f : Nat → Int32) (j : Nat), j ≠ 27 → j ≠ 31 → u_ (u_ b 31 f0) 31 f j = a j := fun f j h1 h2 => by rw [u_n _ _ h2]; exact hB j h1 h2
  have en : nI 60 + nI k = nI (60 + k) := kI_add 60 k
  rcases TW_cases hT with ⟨v, rfl, hv⟩ | ⟨v, tl, tr, rfl, hv, hl, hr⟩
  · have hmv := (hM 0 v rfl).1
    rw [Nat.add_zero] at hmv
    simp only [List.length_singleton] at hk
    rw [PR_leaf hv] at hL
    have hkk : v.1 = 0 ∨ v.1 = 1 ∨ v.1 = 2 ∨ v.1 = 7 := by rcases hv.2.2 with h | h | h | h <;> omega
    have c15 : ∀ f : Nat → Int32, u_ (u_ b 31 f0) 31 f 15 (nI (60 + k)).toNatClampNeg = nI v.1 := fun f => by rw [kI_cl (by omega), rd f 15 (by omega) (by omega)]; exact hmv.1
    have c16 : ∀ f : Nat → Int32, u_ (u_ b 31 f0) 31 f 16 (nI (60 + k)).toNatClampNeg = nI v.2.1 := fun f => by rw [kI_cl (by omega), rd f 16 (by omega) (by omega)]; exact hmv.2.1
    have c17 : ∀ f : Nat → Int32, u_ (u_ b 31 f0) 31 f 17 (nI (60 + k)).toNatClampNeg = nI v.2.2.1 - nI 1 := fun f => by rw [kI_cl (by omega), rd f 17 (by omega) (by omega)]; exact hmv.2.2.1
    refine (r_in xin_135 (r_bi xc_135_0 kb_60 (r_iln xc_135_2 rfl (r_iadd xc_135_3 (r_isn [_, _, _, _] xc_135_4 rfl rfl (r_aln xc_135_5 rfl (r_get xc_135_6 xf_135_13 g_6_5 (r_iln xc_135_9 rfl (r_ia xc_135_10 b_24 ?_ (r_zne xc_135_11 xj_135_11 (fun hc11 => (r_aln xc_135_14 rfl (r_ldl xc_135_15 xl_135_151 ?_))) (fun hc11 => ?_)))))))))))
    · rw [en]; exact kI_in (by omega) (by omega)
    · rw [en, c15] at hc11
      have hc11 : nI v.1 = nI 0 := hc11
      rw [kI_inj (by omega) (by omega)] at hc11
      have eL : dL v = [102, 114, 101, 101] := by unfold dL; rw [if_pos hc11]
      rw [eL] at hL
      refine (r_c0 xc_135_18 xm_135_18 rfl xrc_136 rfl (p_M.up (Q_word (t := [102, 114, 101, 101]) wb_free rfl (by omega)) (by omega)) (r_go xc_135_21 xj_135_21 (r_iln xc_135_204 rfl (r_ri xc_135_205 xrt_135 ?_))))
      have := NP_leaf (z := z) (w := w) (y := y) (g := g) (f0 := f0) (l := l) hb hS hv
      rw [eL] at this
      exact this
    · rw [en, c15] at hc11
      have hc11 : ¬ nI v.1 = nI 0 := hc11
      rw [kI_inj (by omega) (by omega)] at hc11
      rw [en]
      refine (r_aln xc_135_24 rfl (r_get xc_135_25 xf_135_13 g_6_5 (r_iln xc_135_28 rfl (r_ia xc_135_29 b_24 ?_ (r_bi xc_135_30 kb_7 (r_cne xc_135_32 xj_135_32 (fun hc32 => (r_aln xc_135_35 rfl (r_iln xc_135_36 rfl ?_))) (fun hc32 => ?_)))))))
      · exact kI_in (by omega) (by omega)
      · rw [c15, kI_inj (by omega) (by omega)] at hc32
        refine (r_c0 xc_135_37 xm_135_37 rfl xrc_137 rfl ((Q_steps (n := 60 + k) (by omega) (hmv.congr hB) hv hc32 (by omega))) (r_go xc_135_40 xj_135_40 (r_iln xc_135_204 rfl (r_ri xc_135_205 xrt_135 ?_))))
        exact NP_leaf hb hS hv
      · rw [c15, kI_inj (by omega) (by omega)] at hc32
        refine (r_aln xc_135_43 rfl (r_get xc_135_44 xf_135_13 g_6_5 (r_iln xc_135_47 rfl (r_ia xc_135_48 b_24 ?_ (r_ic xc_135_49 kc_2 (r_cgt xc_135_50 xj_135_50 (fun hc50 => ?_) (fun hc50 => (r_aln xc_135_53 rfl (r_aln xc_135_54 rfl (r_get xc_135_55 xf_135_16 g_6_6 (r_iln xc_135_58 rfl (r_ia xc_135_59 b_25 ?_ ?_))))))))))))
        · exact kI_in (by omega) (by omega)
        · rw [c15, kI_lt (by omega) (by omega)] at hc50; omega
        · exact kI_in (by omega) (by omega)
        · rw [c16]
          have eL : dL v = dN v.2.1 ++ (if v.1 = 1 then [37] else [47, 64 + v.2.2.1]) := by
            unfold dL
            rw [if_neg hc11]
            by_cases h1 : v.1 = 1
            · rw [if_pos h1, if_pos h1]
            · rw [if_neg h1, if_neg h1, if_pos (by omega)]
          rw [eL] at hL
          simp only [List.length_append] at hL
          have hnp := NP_leaf (z := z) (w := w) (y := y) (g := g) (f0 := f0) (l := l) hb hS hv
          rw [eL] at hnp
          refine (r_c0 xc_135_60 xm_135_60 rfl xrc_139 rfl ((Q_number hv.2.1 (by simp only [List.length_append]; omega))) (r_aln xc_135_63 rfl (r_get xc_135_64 xf_135_13 g_6_5 (r_iln xc_135_67 rfl (r_ia xc_135_68 b_24 ?_ (r_ic xc_135_69 kc_1 (r_cne xc_135_70 xj_135_70 (fun hc70 => (r_aln xc_135_73 rfl (r_bi xc_135_74 kb_37 ?_))) (fun hc70 => (r_aln xc_135_82 rfl (r_bi xc_135_83 kb_47 ?_))))))))))
          · exact kI_in (by omega) (by omega)
          · rw [c15, kI_inj (by omega) (by omega)] at hc70
            rw [if_pos hc70] at hL hnp
            simp only [List.length_cons, List.length_nil] at hL
            refine (r_c0 xc_135_76 xm_135_76 rfl xrc_134 rfl (p_M.up (Q_put (by simp only [List.length_append]; omega)) (by omega)) (r_go xc_135_79 xj_135_79 (r_iln xc_135_204 rfl (r_ri xc_135_205 xrt_135 ?_))))
            rw [← List.append_assoc] at hnp
            exact hnp
          · rw [c15, kI_inj (by omega) (by omega)] at hc70
            rw [if_neg hc70] at hL hnp
            simp only [List.length_cons, List.length_nil] at hL
            have hu : 1 ≤ v.2.2.1 ∧ v.2.2.1 ≤ 8 := by rcases hv.2.2 with h | h | h | h <;> omega
            refine (r_c0 xc_135_85 xm_135_85 rfl xrc_134 rfl (p_M.up (Q_put (by simp only [List.length_append]; omega)) (by omega)) (r_aln xc_135_88 rfl (r_bi xc_135_89 kb_65 (r_aln xc_135_91 rfl (r_get xc_135_92 xf_135_19 g_6_7 (r_iln xc_135_95 rfl (r_ia xc_135_96 b_26 ?_ (r_iadd xc_135_97 ?_))))))))
            · exact kI_in (by omega) (by omega)
            · rw [c17, kI_sub hu.1, kI_add, show 65 + (v.2.2.1 - 1) = 64 + v.2.2.1 by omega]
              refine (r_c0 xc_135_98 xm_135_98 rfl xrc_134 rfl (p_M.up (Q_put (by simp only [List.length_append, List.length_cons, List.length_nil]; omega)) (by omega)) (r_go xc_135_101 xj_135_101 (r_iln xc_135_204 rfl (r_ri xc_135_205 xrt_135 ?_))))
              have ea : l ++ dN v.2.1 ++ [47] ++ [64 + v.2.2.1] = l ++ (dN v.2.1 ++ [47, 64 + v.2.2.1]) := by simp
              rw [ea]
              exact hnp
  · obtain ⟨hmv, h18, h19⟩ := hM 0 v rfl
    rw [Nat.add_zero] at hmv h18 h19
    have hR := hv.2.2.2.1
    rw [if_neg (by omega)] at h18 h19
    rw [hR, show k + (1 + tl.length) = k + 1 + tl.length by omega] at h19
    have hl1 := TW_ne hl
    have hr1 := TW_ne hr
    have hk0 := hk
    simp only [List.length_cons, List.length_append] at hk
    have hMl : MpT a (k + 1) tl := by
      intro i x hi
      have := hM (i + 1) x (by rw [List.getElem?_cons_succ, List.getElem?_append_left (getElem?_lt hi)]; exact hi)
      rw [show k + (i + 1) = k + 1 + i by omega] at this
      exact this
    have hMr : MpT a (k + 1 + tl.length) tr := hM.right
    have iL : itv a (nI (k + 1)) (.inr (k + 1, tl)) := ⟨rfl, hl, hMl, by omega⟩
    have iR : itv a (nI (k + 1 + tl.length)) (.inr (k + 1 + tl.length, tr)) := ⟨rfl, hr, hMr, by omega⟩
    have hk8 : 3 ≤ v.1 ∧ v.1 ≤ 6 := by rcases hv.1 with h | h | h | h <;> omega
    have c15 : ∀ f : Nat → Int32, u_ (u_ b 31 f0) 31 f 15 (nI (60 + k)).toNatClampNeg = nI v.1 := fun f => by rw [kI_cl (by omega), rd f 15 (by omega) (by omega)]; exact hmv.1
    have hPR := PR_node hv hl hr
    rw [hPR] at hL
    refine (r_in xin_135 (r_bi xc_135_0 kb_60 (r_iln xc_135_2 rfl (r_iadd xc_135_3 (r_isn [_, _, _, _] xc_135_4 rfl rfl (r_aln xc_135_5 rfl (r_get xc_135_6 xf_135_13 g_6_5 (r_iln xc_135_9 rfl (r_ia xc_135_10 b_24 ?_ (r_zne xc_135_11 xj_135_11 (fun hc11 => (r_aln xc_135_14 rfl (r_ldl xc_135_15 xl_135_151 ?_))) (fun hc11 => ?_)))))))))))
    · rw [en]; exact kI_in (by omega) (by omega)
    · rw [en, c15] at hc11
      have hc11 : nI v.1 = nI 0 := hc11
      rw [kI_inj (by omega) (by omega)] at hc11; omega
    · rw [en]
      refine (r_aln xc_135_24 rfl (r_get xc_135_25 xf_135_13 g_6_5 (r_iln xc_135_28 rfl (r_ia xc_135_29 b_24 ?_ (r_bi xc_135_30 kb_7 (r_cne xc_135_32 xj_135_32 (fun hc32 => (r_aln xc_135_35 rfl (r_iln xc_135_36 rfl ?_))) (fun hc32 => ?_)))))))
      · exact kI_in (by omega) (by omega)
      · rw [c15, kI_inj (by omega) (by omega)] at hc32; omega
      · refine (r_aln xc_135_43 rfl (r_get xc_135_44 xf_135_13 g_6_5 (r_iln xc_135_47 rfl (r_ia xc_135_48 b_24 ?_ (r_ic xc_135_49 kc_2 (r_cgt xc_135_50 xj_135_50 (fun hc50 => ?_) (fun hc50 => (r_aln xc_135_53 rfl (r_aln xc_135_54 rfl (r_get xc_135_55 xf_135_16 g_6_6 (r_iln xc_135_58 rfl (r_ia xc_135_59 b_25 ?_ ?_))))))))))))
        · exact kI_in (by omega) (by omega)
        · refine (r_aln xc_135_104 rfl (r_get xc_135_105 xf_135_13 g_6_5 (r_iln xc_135_108 rfl (r_ia xc_135_109 b_24 ?_ (r_ic xc_135_110 kc_5 (r_clt xc_135_111 xj_135_111 (fun hc111 => ?_) (fun hc111 => (r_aln xc_135_114 rfl (r_aln xc_135_115 rfl (r_get xc_135_116 xf_135_13 g_6_5 (r_iln xc_135_119 rfl (r_ia xc_135_120 b_24 ?_ (r_ic xc_135_121 kc_5 (r_cne xc_135_122 xj_135_122 (fun hc122 => (r_ldl xc_135_125 xl_135_253 (r_go xc_135_128 xj_135_128 ?_))) (fun hc122 => (r_ldl xc_135_131 xl_135_255 ?_))))))))))))))))
          · exact kI_in (by omega) (by omega)
          · rw [c15, kI_lt (by omega) (by omega)] at hc111
            have hk34 : v.1 = 3 ∨ v.1 = 4 := by omega
            refine (r_aln xc_135_197 rfl (r_iln xc_135_198 rfl (r_iln xc_135_199 rfl ?_)))
            refine (r_cq xc_135_200 xm_135_200 rfl xrc_140 rfl (p_M.up (Q_two (a := a) (b := u_ (u_ b 31 f0) 31 (apF f0 0 l)) (S := S) (k := k) (fun j h1 h2 => rd _ j h1 h2) hS hlen hv hk34 hl hr hM hk0) (by omega)) (fun v h1 hP => ?_) (fun _ _ h => by first | (obtain ⟨_, he, _⟩ := h; cases he; done) | (obtain ⟨_, he⟩ := h; cases he; done) | (obtain ⟨_, _, he, _⟩ := h; cases he; done) | (obtain ⟨_, _, _, he, _⟩ := h; cases he; done) | (simp only [Prod.mk.injEq, reduceCtorEq, false_and, exists_false] at h)))
            obtain ⟨f, S', he, hp', hS'⟩ := hP
            cases he
            refine (r_ri xc_135_203 xrt_135 ?_)
            refine ⟨u_ (u_ (u_ b 31 f0) 31 (apF f0 0 l)) 27 f, l, S', ?_, fun j h1 h2 => by rw [u_n _ _ h1]; exact rd _ j h1 h2, rfl, hp', ?_, ?_, ?_⟩
            · rw [Nat.zero_add]
            · rw [hPR, hS']
              unfold dI
              rw [if_pos hk34]
              cases isSum tr <;> simp [oS, oI]
            · rw [hS']
              simp only [List.length_cons, List.length_append]
              cases isSum tr <;> simp [wS, wI] <;> omega
            · rw [hS']
              simp only [List.length_cons, List.length_append]
              cases isSum tr <;> simp [uS, uI] <;> omega
          · exact kI_in (by omega) (by omega)
          all_goals
            rw [c15, kI_lt (by omega) (by omega)] at hc111
            have hN34 : ¬ (v.1 = 3 ∨ v.1 = 4) := by omega
            rw [c15, kI_inj (by omega) (by omega)] at hc122
            have fin : ∀ (tt : List Nat) (ww : Int64) (bs : List Nat), wbOk ww bs → wo bs 8 = tt → tt = (if v.1 = 5 then [109, 105, 110, 40] else [109, 97, 120, 40]) → p_E X 3 135 134 [some (.ref 22), some (.int (nI k)), some (.int (nI S.length)), some (.int (nI (60 + k)))] [.long ww, .ref 22] (hm z (u_ b 31 f0) w y g 0 l) (NP z a w y g f0 S l (v :: (tl ++ tr))) := by
              intro tt ww bs hw hwo htt
              have htl : tt.length = 4 := by rw [htt]; split <;> rfl
              have eI : dI v (PR tl) (PR tr) (isSum tr) = tt ++ (PR tl ++ ([44, 32] ++ (PR tr ++ [41]))) := by
                unfold dI
                rw [if_neg hN34, ← htt]
              rw [eI] at hL
              simp only [List.length_append, List.length_cons, List.length_nil] at hL
              have c19 : ∀ f f2 : Nat → Int32, u_ (u_ (u_ b 31 f0) 31 f) 27 f2 19 (nI (60 + k)).toNatClampNeg = nI (k + 1 + tl.length) := fun f f2 => by rw [kI_cl (by omega), u_n _ _ (by omega), rd f 19 (by omega) (by omega)]; exact h19
              have c18 : ∀ f f2 : Nat → Int32, u_ (u_ (u_ b 31 f0) 31 f) 27 f2 18 (nI (60 + k)).toNatClampNeg = nI (k + 1) := fun f f2 => by rw [kI_cl (by omega), u_n _ _ (by omega), rd f 18 (by omega) (by omega)]; exact h18
              refine (r_c0 xc_135_134 xm_135_134 rfl xrc_136 rfl (p_M.up (Q_word hw hwo (by simp only [List.length_append]; omega)) (by omega)) (r_aln xc_135_137 rfl (r_get xc_135_138 xf_135_49 g_6_23 (r_iln xc_135_141 rfl (r_bi xc_135_142 kb_m42 (r_ias xc_135_144 b_36 t_36 ?_ (r_aln xc_135_145 rfl (r_get xc_135_146 xf_135_49 g_6_23 (r_iln xc_135_149 rfl (r_ic xc_135_150 kc_1 (r_iadd xc_135_151 (r_aln xc_135_152 rfl (r_get xc_135_153 xf_135_25 g_6_9 (r_iln xc_135_156 rfl (r_ia xc_135_157 b_28 ?_ (r_ias xc_135_158 b_36 t_36 ?_ (r_aln xc_135_159 rfl (r_get xc_135_160 xf_135_49 g_6_23 (r_iln xc_135_163 rfl (r_ic xc_135_164 kc_2 (r_iadd xc_135_165 (r_bi xc_135_166 kb_m33 (r_ias xc_135_168 b_36 t_36 ?_ (r_aln xc_135_169 rfl (r_get xc_135_170 xf_135_49 g_6_23 (r_iln xc_135_173 rfl (r_ic xc_135_174 kc_3 (r_iadd xc_135_175 (r_bi xc_135_176 kb_m45 (r_ias xc_135_178 b_36 t_36 ?_ (r_aln xc_135_179 rfl (r_get xc_135_180 xf_135_49 g_6_23 (r_iln xc_135_183 rfl (r_ic xc_135_184 kc_4 (r_iadd xc_135_185 (r_aln xc_135_186 rfl (r_get xc_135_187 xf_135_22 g_6_8 (r_iln xc_135_190 rfl (r_ia xc_135_191 b_27 ?_ (r_ias xc_135_192 b_36 t_36 ?_ (r_iln xc_135_193 rfl (r_ic xc_135_194 kc_5 (r_iadd xc_135_195 (r_ri xc_135_196 xrt_135 ?_))))))))))))))))))))))))))))))))))))))))))))
              · exact kI_in (by omega) (by omega)
              · exact kI_in (by omega) (by omega)
              · rw [kI_add]; exact kI_in (by omega) (by omega)
              · rw [kI_add]; exact kI_in (by omega) (by omega)
              · rw [kI_add]; exact kI_in (by omega) (by omega)
              · exact kI_in (by omega) (by omega)
              · rw [kI_add]; exact kI_in (by omega) (by omega)
              · have d19 := c19 (apF (u_ b 31 f0 31) 0 (l ++ tt))
                have d18 := c18 (apF (u_ b 31 f0 31) 0 (l ++ tt))
                have dB : ∀ j, j ≠ 27 → j ≠ 31 → u_ (u_ b 31 f0) 31 (apF (u_ b 31 f0 31) 0 (l ++ tt)) j = a j := fun j h1 h2 => rd _ j h1 h2
                have dB27 : u_ (u_ b 31 f0) 31 (apF (u_ b 31 f0 31) 0 (l ++ tt)) 27 = b 27 := rfl
                have dB31 : u_ (u_ b 31 f0) 31 (apF (u_ b 31 f0 31) 0 (l ++ tt)) 31 = apF f0 0 (l ++ tt) := rfl
                generalize u_ (u_ b 31 f0) 31 (apF (u_ b 31 f0 31) 0 (l ++ tt)) = B at d19 d18 dB dB27 dB31
                have upp : ∀ (f : Nat → Int32) (i : Nat) (x : Int32), u_ (u_ B 27 f) 27 (upd (u_ B 27 f 27) i x) = u_ B 27 (upd f i x) := fun f i x => by rw [u_u]; rfl
                rw [upp, upp, upp, upp, d18, d19, dB27, kI_add, kI_add, kI_add, kI_add, kI_add, kI_cl (by omega), kI_cl (by omega), kI_cl (by omega), kI_cl (by omega), kI_cl (by omega)]
                have q1 := pile_push (x := -42) (it := .inl 41) hS ⟨by decide, by omega⟩
                have q2 := pile_push q1 iR
                have q3 := pile_push (x := -33) (it := .inl 32) q2 ⟨by decide, by omega⟩
                have q4 := pile_push (x := -45) (it := .inl 44) q3 ⟨by decide, by omega⟩
                have q5 := pile_push q4 iL
                refine ⟨u_ B 27 (upd (upd (upd (upd (upd (b 27) S.length (-42)) (S.length + 1) (nI (k + 1 + tl.length))) (S.length + 2) (-33)) (S.length + 3) (-45)) (S.length + 4) (nI (k + 1))), l ++ tt, [.inr (k + 1, tl), .inl 44, .inl 32, .inr (k + 1 + tl.length, tr), .inl 41], ?_, fun j h1 h2 => by rw [u_n _ _ h1]; exact dB j h1 h2, dB31, q5, ?_, ?_, ?_⟩
                · rw [Nat.zero_add]; simp
                · rw [hPR, eI]; simp [oS, oI]
                · simp [wS, wI]; omega
                · simp [uS, uI]; omega
          · exact fin [109, 105, 110, 40] _ _ wb_min rfl (by rw [if_pos hc122])
          · exact fin [109, 97, 120, 40] _ _ wb_max rfl (by rw [if_neg hc122])
        · rw [c15, kI_lt (by omega) (by omega)] at hc50; omega
        · rw [c15, kI_lt (by omega) (by omega)] at hc50; omega
theorem m1b : ∀ c, c < 128 → (-1 : Int32) - (-1 - nI c) = nI c := by decide
/-- the loop -/
theorem L_print (hL0 : ∀ l : List Nat, l.length ≤ 900 → True) : ∀ n S l b, uS S ≤ n → wS S ≤ 200 → (∀ j, j ≠ 27 → j ≠ 31 → b j = a j) → b 31 = apF f0 0 l → pileOk a (b 27) S → (l ++ oS S).length ≤ 900 →
    p_E X 4 133 39 [some (.ref 22), some (.int (nI S.length)), none] [] (hp (u_ z 17 (nI l.length)) b w y g) (fun q => ∃ b', q = (.inl (some (.int (nI (l ++ oS S).length))), hp (u_ z 17 (nI (l ++ oS S).length)) b' w y g) ∧ (∀ j, j ≠ 27 → j ≠ 31 → b' j = a j) ∧ b' 31 = apF f0 0 (l ++ oS S)) := by
  intro n
  induction n with
  | zero =>
    intro S l b hu hw hb hb31 hS hL
    cases S with
    | nil =>
      have e : l ++ oS [] = l := List.append_nil l
      rw [e]
      refine (r_iln xc_133_39 rfl (r_zle xc_133_40 xj_133_40 (fun hc40 => (r_inc [_, _, _] xc_133_43 rfl rfl (ki_m1 _) rfl (r_aln xc_133_46 rfl (r_get xc_133_47 xf_133_49 g_6_23 (r_iln xc_133_50 rfl (r_ia xc_133_51 b_36 ?_ (r_isn [_, _, _] xc_133_52 rfl rfl (r_iln xc_133_53 rfl (r_zge xc_133_54 xj_133_54 (fun hc54 => (r_aln xc_133_57 rfl (r_ic xc_133_58 kc_m1 (r_iln xc_133_59 rfl (r_isub xc_133_60 ?_))))) (fun hc54 => (r_aln xc_133_67 rfl (r_iln xc_133_68 rfl (r_iln xc_133_69 rfl ?_))))))))))))) (fun hc40 => (r_aln xc_133_77 rfl (r_get xc_133_78 xf_133_232 g_6_31 (r_ri xc_133_81 xrt_133 ?_))))))
      · exact absurd hc40 (by decide)
      · exact absurd hc40 (by decide)
      · exact absurd hc40 (by decide)
      · exact ⟨b, rfl, hb, hb31⟩
    | cons it S =>
      exfalso
      rw [uS_cons] at hu
      have := hS 0 it rfl
      cases it with
      | inl c => have : uI (.inl c) = 1 := rfl; omega
      | inr s =>
        obtain ⟨k, t⟩ := s
        have h1 := TW_ne this.2.1
        have : uI (.inr (k, t)) = 7 * t.length := rfl
        omega
  | succ n ih =>
    intro S l b hu hw hb hb31 hS hL
    cases S with
    | nil =>
      have e : l ++ oS [] = l := List.append_nil l
      rw [e]
      refine (r_iln xc_133_39 rfl (r_zle xc_133_40 xj_133_40 (fun hc40 => (r_inc [_, _, _] xc_133_43 rfl rfl (ki_m1 _) rfl (r_aln xc_133_46 rfl (r_get xc_133_47 xf_133_49 g_6_23 (r_iln xc_133_50 rfl (r_ia xc_133_51 b_36 ?_ (r_isn [_, _, _] xc_133_52 rfl rfl (r_iln xc_133_53 rfl (r_zge xc_133_54 xj_133_54 (fun hc54 => (r_aln xc_133_57 rfl (r_ic xc_133_58 kc_m1 (r_iln xc_133_59 rfl (r_isub xc_133_60 ?_))))) (fun hc54 => (r_aln xc_133_67 rfl (r_iln xc_133_68 rfl (r_iln xc_133_69 rfl ?_))))))))))))) (fun hc40 => (r_aln xc_133_77 rfl (r_get xc_133_78 xf_133_232 g_6_31 (r_ri xc_133_81 xrt_133 ?_))))))
      · exact absurd hc40 (by decide)
      · exact absurd hc40 (by decide)
      · exact absurd hc40 (by decide)
      · exact ⟨b, rfl, hb, hb31⟩
    | cons it S =>
      have hlen := pile_len hS
      have htop := hS 0 it rfl
      rw [List.length_cons, show S.length + 1 - 1 - 0 = S.length by omega] at htop
      rw [List.length_cons, wS_cons] at hlen
      have hS2 : pileOk a (b 27) S := by
        intro i x hi
        have hl := getElem?_lt hi
        have := hS (i + 1) x (by rw [List.getElem?_cons_succ]; exact hi)
        rw [List.length_cons, show S.length + 1 - 1 - (i + 1) = S.length - 1 - i by omega] at this
        exact this
      rw [List.length_cons]
      have eh : nI (S.length + 1) - nI 1 = nI S.length := by rw [kI_sub (by omega)]; rfl
      rw [oS_cons, ← List.append_assoc] at hL ⊢
      rw [wS_cons] at hw
      rw [uS_cons] at hu
      have c27 : b 27 (nI S.length).toNatClampNeg = b 27 S.length := by rw [kI_cl (by omega)]
      cases it with
      | inl c =>
        have hx : b 27 S.length = -1 - nI c ∧ c < 128 := htop
        have hu1 : uI (.inl c) = 1 := rfl
        have ho : oI (.inl c) = [c] := rfl
        rw [ho] at hL ⊢
        have hneg : -1 - nI c < nI 0 := by
          rw [m1c c hx.2, Int32.lt_iff_toInt_lt, nI_toInt (by omega), Int32.toInt_ofInt_of_le (by omega) (by omega)]
          omega
        have hback : (-1 : Int32) - (-1 - nI c) = nI c := m1b c hx.2
        refine (r_iln xc_133_39 rfl (r_zle xc_133_40 xj_133_40 (fun hc40 => (r_inc [_, _, _] xc_133_43 rfl rfl (ki_m1 _) rfl (r_aln xc_133_46 rfl (r_get xc_133_47 xf_133_49 g_6_23 (r_iln xc_133_50 rfl (r_ia xc_133_51 b_36 ?_ (r_isn [_, _, _] xc_133_52 rfl rfl (r_iln xc_133_53 rfl (r_zge xc_133_54 xj_133_54 (fun hc54 => (r_aln xc_133_57 rfl (r_ic xc_133_58 kc_m1 (r_iln xc_133_59 rfl (r_isub xc_133_60 ?_))))) (fun hc54 => (r_aln xc_133_67 rfl (r_iln xc_133_68 rfl (r_iln xc_133_69 rfl ?_))))))))))))) (fun hc40 => (r_aln xc_133_77 rfl (r_get xc_133_78 xf_133_232 g_6_31 (r_ri xc_133_81 xrt_133 ?_))))))
        · rw [eh]; exact kI_in (by omega) (by omega)
        · rw [eh, c27, hx.1, hback]
          rw [hm_of hb31]
          simp only [List.length_append, List.length_cons, List.length_nil] at hL
          refine (r_c0 xc_133_61 xm_133_61 rfl xrc_134 rfl (p_M.up (Q_put (by omega)) (by omega)) (r_go xc_133_64 xj_133_64 (r_go xc_133_74 xj_133_74 ?_)))
          refine R_fg [_, _, none] (p_lle_eq (p_lle_eq (p_lle_no p_lle_nil))) ?_
          have := ih S (l ++ [c]) (u_ (u_ b 31 f0) 31 (apF f0 0 (l ++ [c]))) (by omega) (by omega) (fun j h1 h2 => by rw [u_n _ _ h2, u_n _ _ h2]; exact hb j h1 h2) rfl hS2 (by simp only [List.length_append, List.length_cons, List.length_nil]; omega)
          rw [show hm z (u_ b 31 f0) w y g 0 (l ++ [c]) = hp (u_ z 17 (nI (0 + (l ++ [c]).length))) (u_ (u_ b 31 f0) 31 (apF f0 0 (l ++ [c]))) w y g from rfl, Nat.zero_add]
          exact this
        · rw [eh, c27, hx.1] at hc54; exact absurd hneg hc54
        · rw [kI_lt (by omega) (by omega)] at hc40; omega
      | inr s =>
        obtain ⟨k, t⟩ := s
        obtain ⟨hx, hT, hM, hk⟩ : b 27 S.length = nI k ∧ TW t ∧ MpT a k t ∧ k + t.length ≤ 60 := htop
        have hu1 : uI (.inr (k, t)) = 7 * t.length := rfl
        have hw1 : wI (.inr (k, t)) = 3 * t.length - 2 := rfl
        have ho : oI (.inr (k, t)) = PR t := rfl
        rw [ho] at hL ⊢
        refine (r_iln xc_133_39 rfl (r_zle xc_133_40 xj_133_40 (fun hc40 => (r_inc [_, _, _] xc_133_43 rfl rfl (ki_m1 _) rfl (r_aln xc_133_46 rfl (r_get xc_133_47 xf_133_49 g_6_23 (r_iln xc_133_50 rfl (r_ia xc_133_51 b_36 ?_ (r_isn [_, _, _] xc_133_52 rfl rfl (r_iln xc_133_53 rfl (r_zge xc_133_54 xj_133_54 (fun hc54 => (r_aln xc_133_57 rfl (r_ic xc_133_58 kc_m1 (r_iln xc_133_59 rfl (r_isub xc_133_60 ?_))))) (fun hc54 => (r_aln xc_133_67 rfl (r_iln xc_133_68 rfl (r_iln xc_133_69 rfl ?_))))))))))))) (fun hc40 => (r_aln xc_133_77 rfl (r_get xc_133_78 xf_133_232 g_6_31 (r_ri xc_133_81 xrt_133 ?_))))))
        · rw [eh]; exact kI_in (by omega) (by omega)
        · rw [eh, c27, hx] at hc54; exact absurd hc54 (kI_neg (by omega))
        · rw [eh, c27, hx]
          refine (r_cq xc_133_70 xm_133_70 rfl xrc_135 rfl ((Q_node (z := z) (f0 := f0) (S := S) (l := l) hT hM hk hb hb31 hS2 (by omega) (by simp only [List.length_append] at hL ⊢; omega))) (fun v h1 hP => ?_) (fun _ _ h => by first | (obtain ⟨_, he, _⟩ := h; cases he; done) | (obtain ⟨_, he⟩ := h; cases he; done) | (obtain ⟨_, _, he, _⟩ := h; cases he; done) | (obtain ⟨_, _, _, he, _⟩ := h; cases he; done) | (simp only [Prod.mk.injEq, reduceCtorEq, false_and, exists_false] at h)))
          obtain ⟨b', l', S', he, e1, e2, e3, e4, e5, e6⟩ := hP
          cases he
          refine (r_isn [_, _, _] xc_133_73 rfl rfl (r_go xc_133_74 xj_133_74 ?_))
          refine R_fg [_, _, none] (p_lle_eq (p_lle_eq (p_lle_no p_lle_nil))) ?_
          have eo : l' ++ oS (S' ++ S) = l ++ PR t ++ oS S := by
            have : oS (S' ++ S) = oS S' ++ oS S := by unfold oS; simp
            rw [this, ← List.append_assoc, e4]
          have eu : uS (S' ++ S) = uS S' + uS S := by unfold uS; simp
          have ew : wS (S' ++ S) = wS S' + wS S := by unfold wS; simp
          have := ih (S' ++ S) l' b' (by omega) (by omega) e1 e2 e3 (by rw [eo]; exact hL)
          rw [eo] at this
          exact this
        · rw [kI_lt (by omega) (by omega)] at hc40; omega
theorem M_printM {ns : List pN} (hT : ns = [] ∨ TW ns) (hl : ns.length ≤ 60) (h13 : z 13 = nI ns.length) (hM : Mp a ns) (hp9 : (PR ns).length ≤ 900) : p_M X 4 133 [.ref 22] (hp z a w y g) (fun q => (ns = [] → q = (.inl (some (.int (nI 0))), hp (u_ z 10 (nI 1)) a w y g)) ∧ (¬ ns = [] → ∃ b', q = (.inl (some (.int (nI (PR ns).length))), hp (u_ (u_ z 10 (nI 0)) 17 (nI (PR ns).length)) b' w y g) ∧ (∀ j, j ≠ 27 → j ≠ 31 → b' j = a j) ∧ b' 31 = apF (a 31) 0 (PR ns))) := by
  refine (r_in xin_133 (r_aln xc_133_0 rfl (r_aln xc_133_1 rfl (r_get xc_133_2 xf_133_174 g_6_15 (r_zne xc_133_5 xj_133_5 (fun hc5 => (r_ic xc_133_8 kc_1 (r_go xc_133_9 xj_133_9 (r_put xc_133_13 xf_133_73 rfl s_6_4 (r_aln xc_133_16 rfl (r_get xc_133_17 xf_133_73 g_6_4 (r_zeq xc_133_20 xj_133_20 (fun hc20 => (r_aln xc_133_25 rfl (r_ic xc_133_26 kc_0 (r_put xc_133_27 xf_133_232 rfl s_6_31 (r_ic xc_133_30 kc_1 (r_isn [_, _, _] xc_133_31 rfl rfl (r_aln xc_133_32 rfl (r_get xc_133_33 xf_133_49 g_6_23 (r_ic xc_133_36 kc_0 (r_ic xc_133_37 kc_0 (r_ias xc_133_38 b_36 t_36 ?_ ?_))))))))))) (fun hc20 => (r_ic xc_133_23 kc_0 (r_ri xc_133_24 xrt_133 ?_)))))))))) (fun hc5 => (r_ic xc_133_12 kc_0 (r_put xc_133_13 xf_133_73 rfl s_6_4 (r_aln xc_133_16 rfl (r_get xc_133_17 xf_133_73 g_6_4 (r_zeq xc_133_20 xj_133_20 (fun hc20 => (r_aln xc_133_25 rfl (r_ic xc_133_26 kc_0 (r_put xc_133_27 xf_133_232 rfl s_6_31 (r_ic xc_133_30 kc_1 (r_isn [_, _, _] xc_133_31 rfl rfl (r_aln xc_133_32 rfl (r_get xc_133_33 xf_133_49 g_6_23 (r_ic xc_133_36 kc_0 (r_ic xc_133_37 kc_0 (r_ias xc_133_38 b_36 t_36 ?_ ?_))))))))))) (fun hc20 => (r_ic xc_133_23 kc_0 (r_ri xc_133_24 xrt_133 ?_))))))))))))))
  · have hc20 : nI 1 = nI 0 := hc20
    exact absurd hc20 (by decide)
  · have hc20 : nI 1 = nI 0 := hc20
    exact absurd hc20 (by decide)
  · rw [h13, kI_inj (by omega) (by omega)] at hc5
    have hn : ns = [] := List.length_eq_zero_iff.mp hc5
    exact ⟨fun _ => rfl, fun h => absurd hn h⟩
  · exact kI_in (by omega) (by omega)
  · rw [h13, kI_inj (by omega) (by omega)] at hc5
    have hn : ¬ ns = [] := fun h => hc5 (by rw [h]; rfl)
    have hT : TW ns := hT.elim (fun h => absurd h hn) id
    have hM0 : MpT a 0 ns := hM.at (u := []) (by simp)
    have e0 : (nI 0).toNatClampNeg = 0 := by decide
    rw [e0]
    have hS : pileOk a (upd (a 27) 0 (nI 0)) [.inr (0, ns)] := by
      have := pile_push (a := a) (f := a 27) (S := []) (x := nI 0) (it := .inr (0, ns)) (fun i it hi => by simp at hi) ⟨rfl, hT, hM0, by omega⟩
      exact this
    have eo : oS [.inr (0, ns)] = PR ns := by unfold oS; simp [oI]
    have := L_print (X := X) (z := u_ z 10 (nI 0)) (w := w) (y := y) (g := g) (a := a) (f0 := a 31) (fun _ _ => trivial) (7 * ns.length) [.inr (0, ns)] [] (u_ a 27 (upd (a 27) 0 (nI 0))) (by unfold uS; simp [uI]) (by unfold wS; simp [wI]; omega) (fun j h1 h2 => u_n _ _ h1) (by rw [apF_nil]; rfl) hS (by rw [eo]; exact hp9)
    rw [eo, List.nil_append] at this
    refine p_E.mono this (fun q hq => ?_)
    exact ⟨fun h => absurd h hn, fun _ => hq⟩
  · have hc20 : ¬ nI 0 = nI 0 := hc20
    exact absurd rfl hc20
end MPR3
