/-! ===== the model reckons ===== -/
def RkP (z : Nat → Int32) (a : Nat → Nat → Int32) (w : Nat → Nat → Int64) (y : Nat → Int64) (g : List pE) (b : Nat) (o : Option Int64) (q : pR) : Prop := match o with
  | some x => ∃ w', q = (.inl (some (.int (nI 1))), hp z a w' y g) ∧ w' 3 b = x ∧ ∀ j, j ≠ 3 → w' j = w j
  | none => ∃ w', q = (.inl (some (.int (nI 0))), hp z a w' y g) ∧ ∀ j, j ≠ 3 → w' j = w j
section RECK
variable {X : pX} {z : Nat → Int32} {a : Nat → Nat → Int32} {y : Nat → Int64} {g : List pE} {A : Nat → Option Nat} {M G : Nat → Nat} {pc : Nat}
theorem L_reck {t : List pN} {b : Nat} {x2 : Int32} {w0 : Nat → Nat → Int64} (hT : TW t) (hb : b + t.length ≤ 60) (hM : MpT a b t) (hU : UNI a w0 A M G) (hpc : pc ≤ 100000000) (hy : y 1 = nL pc) : ∀ j w, j ≤ t.length → (∀ k, k ≠ 3 → w k = w0 k) → (∀ i, j ≤ i → i < t.length → vj (umF A M G) pc t i = some (w 3 (b + i))) →
    p_E X 1 124 10 [some (.ref 22), some (.int (nI b)), some (.int x2), some (.int (nI (b + j) - nI 1)), none, none, none, none, none] [] (hp z a w y g) (RkP z a w0 y g b (vj (umF A M G) pc t 0)) := by
  have ht1 := TW_ne hT
  intro j
  induction j with
  | zero =>
    intro w hj hw hv
    have hlt : nI (b + 0) - nI 1 < nI b := by
      rw [Nat.add_zero]
      by_cases h0 : b = 0
      · subst h0; decide
      · rw [kI_sub (by omega), kI_lt (by omega) (by omega)]; omega
    refine (r_iln xc_124_10 rfl (r_iln xc_124_11 rfl (r_clt xc_124_12 xj_124_12 (fun hc12 => (r_ic xc_124_284 kc_1 (r_rz xc_124_285 xrt_124 ?_ ?_))) (fun hc12 => (r_bi xc_124_15 kb_60 (r_iln xc_124_17 rfl (r_iadd xc_124_18 (r_is [_, _, _, _, _, _, _, _, _] xc_124_19 rfl rfl (r_aln xc_124_21 rfl (r_get xc_124_22 xf_124_13 g_6_5 (r_il xc_124_25 rfl (r_ia xc_124_27 b_24 ?_ (r_ic xc_124_28 kc_2 (r_cne xc_124_29 xj_124_29 (fun hc29 => ?_) (fun hc29 => ?_)))))))))))))))
    · exact Or.inr rfl
    · rw [hv 0 (by omega) (by omega)]
      exact ⟨w, rfl, rfl, hw⟩
    all_goals exact absurd hlt hc12
  | succ m ih =>
    intro w hj hw hv
    have e : nI (b + (m + 1)) - nI 1 = nI (b + m) := by rw [kI_sub (by omega)]; rfl
    rw [e]
    obtain ⟨v, hvm⟩ : ∃ v, t[m]? = some v := ⟨_, List.getElem?_eq_getElem (by omega)⟩
    obtain ⟨hmv, h18, h19⟩ := hM m v hvm
    have hk8 := (TW_unit hT v (List.mem_of_getElem? hvm)).2
    have hsub := vj_cases (um := umF A M G) (pc := pc) hT (by omega) hvm
    have en : nI 60 + nI (b + m) = nI (60 + (b + m)) := kI_add _ _
    have c15 : a 15 (nI (60 + (b + m))).toNatClampNeg = nI v.1 := by rw [kI_cl (by omega)]; exact hmv.1
    have c16 : a 16 (nI (60 + (b + m))).toNatClampNeg = nI v.2.1 := by rw [kI_cl (by omega)]; exact hmv.2.1
    have c17 : a 17 (nI (60 + (b + m))).toNatClampNeg = nI v.2.2.1 - nI 1 := by rw [kI_cl (by omega)]; exact hmv.2.2.1
    have hU1 : UNI a w A M G := hU.congr (fun _ _ => rfl) (fun j hj => hw j (by omega))
    have nx : ∀ (x : Int64) (l4 l5 l7 : Option Value), vj (umF A M G) pc t m = some x → p_E X 1 124 10 [some (.ref 22), some (.int (nI b)), some (.int x2), some (.int (nI (b + m) - nI 1)), l4, l5, none, l7, none] [] (hp z a (u_ w 3 (vp_updL (w 3) (b + m) x)) y g) (RkP z a w0 y g b (vj (umF A M G) pc t 0)) := by
      intro x l4 l5 l7 hx
      refine R_fg [_, _, _, _, none, none, none, none, none] (p_lle_eq (p_lle_eq (p_lle_eq (p_lle_eq (p_lle_no (p_lle_no (p_lle_eq (p_lle_no (p_lle_eq p_lle_nil))))))))) ?_
      refine ih _ (by omega) (fun k hk => by rw [u_n _ _ hk, hw k hk]) (fun i h1 h2 => ?_)
      show _ = some (vp_updL (w 3) (b + m) x (b + i))
      by_cases him : i = m
      · subst him; rw [ul_s]; exact hx
      · rw [ul_n _ _ (by omega)]; exact hv i (by omega) h2
    refine (r_iln xc_124_10 rfl (r_iln xc_124_11 rfl (r_clt xc_124_12 xj_124_12 (fun hc12 => (r_ic xc_124_284 kc_1 (r_rz xc_124_285 xrt_124 ?_ ?_))) (fun hc12 => (r_bi xc_124_15 kb_60 (r_iln xc_124_17 rfl (r_iadd xc_124_18 (r_is [_, _, _, _, _, _, _, _, _] xc_124_19 rfl rfl (r_aln xc_124_21 rfl (r_get xc_124_22 xf_124_13 g_6_5 (r_il xc_124_25 rfl (r_ia xc_124_27 b_24 ?_ (r_ic xc_124_28 kc_2 (r_cne xc_124_29 xj_124_29 (fun hc29 => ?_) (fun hc29 => ?_)))))))))))))))
    · exact Or.inr rfl
    · rw [kI_lt (by omega) (by omega)] at hc12; omega
    · rw [en]; exact kI_in (by omega) (by omega)
    · rw [en, c15, kI_inj (by omega) (by omega)] at hc29
      rw [en]
      obtain ⟨h1, h2⟩ : lfOk v ∧ vj (umF A M G) pc t m = vL (umF A M G) pc v := by
        rcases hsub with h | ⟨m', hin, _⟩
        · exact h
        · exfalso; rcases hin.1 with h | h | h | h <;> omega
      have hu8 : 1 ≤ v.2.2.1 ∧ v.2.2.1 ≤ 8 := by rcases h1.2.2 with h | h | h | h <;> omega
      have c17' : a 17 (nI (60 + (b + m))).toNatClampNeg = nI (v.2.2.1 - 1) := by rw [c17, kI_sub (by omega)]
      unfold vL at h2
      rw [if_neg (by omega), if_neg (by omega), if_pos hc29] at h2
      have bad : umF A M G v.2.2.1 = none → vj (umF A M G) pc t 0 = none := by
        intro hn
        rw [vj_0 hT (by omega), VAL_none hT]
        exact ⟨v, List.mem_of_getElem? hvm, hc29, hn⟩
      refine (r_aln xc_124_32 rfl (r_aln xc_124_33 rfl (r_get xc_124_34 xf_124_19 g_6_7 (r_il xc_124_37 rfl (r_ia xc_124_39 b_26 ?_ ?_)))))
      · exact kI_in (by omega) (by omega)
      · rw [c17']
        refine (r_cv xc_124_40 xm_124_40 rfl xrc_126 rfl (p_M.up (M_amtM hU1 (by omega)) (by omega)) (r_ls [_, _, _, _, _, _, _, _, _] xc_124_43 rfl rfl (r_ll xc_124_45 rfl (r_lc xc_124_47 kl_0 (r_llt xc_124_48 xc_124_49 xj_124_49 (fun hc49 => (r_ic xc_124_61 kc_0 (r_rz xc_124_62 xrt_124 ?_ ?_))) (fun hc49 => (r_ll xc_124_52 rfl (r_ldl xc_124_54 xl_124_189 (r_lle xc_124_57 xc_124_58 xj_124_58 (fun hc58 => (r_ic xc_124_61 kc_0 (r_rz xc_124_62 xrt_124 ?_ ?_))) (fun hc58 => (r_aln xc_124_63 rfl (r_get xc_124_64 xf_124_65 g_6_29 (r_iln xc_124_67 rfl (r_aln xc_124_68 rfl (r_get xc_124_69 xf_124_16 g_6_6 (r_il xc_124_72 rfl (r_ia xc_124_74 b_25 ?_ (r_i2l xc_124_75 (r_ll xc_124_76 rfl (r_lmul xc_124_78 (r_las xc_124_79 b_41 t_41 ?_ (r_go xc_124_80 xj_124_80 (r_inc [_, _, _, _, _, _, _, _, _] xc_124_278 rfl rfl (ki_m1 _) rfl (r_go xc_124_281 xj_124_281 ?_))))))))))))))))))))))))
        · exact Or.inl rfl
        · rw [bad ?_]
          · exact ⟨w, rfl, hw⟩
          · unfold umF
            cases ho : amt A M G 8 1 (v.2.2.1 - 1) with
            | none => rfl
            | some x =>
              exfalso
              rw [ho] at hc49
              have hc49 : (if 100000000 < x then nL 100000001 else nL x) < 0 := hc49
              rw [nL_0] at hc49
              split at hc49
              · exact kL_neg (by omega) hc49
              · exact kL_neg (by omega) hc49
        · exact Or.inl rfl
        · rw [bad ?_]
          · exact ⟨w, rfl, hw⟩
          · unfold umF
            cases ho : amt A M G 8 1 (v.2.2.1 - 1) with
            | none => rfl
            | some x =>
              dsimp only
              rw [ho] at hc58
              have hc58 : 100000000 < (if 100000000 < x then nL 100000001 else nL x) := hc58
              by_cases hx : 100000000 < x
              · rw [if_neg (by omega)]
              · exfalso
                rw [if_neg hx, nL_m, kL_lt (by omega) (by omega)] at hc58
                exact hx hc58
        · exact kI_in (by omega) (by omega)
        · exact kI_in (by omega) (by omega)
        · rw [c16, kI_i2l (by have := h1.2.1; omega), kI_cl (by omega)]
          refine nx _ _ _ _ ?_
          rw [h2]
          unfold umF
          cases ho : amt A M G 8 1 (v.2.2.1 - 1) with
          | none =>
            exfalso
            rw [ho] at hc49
            exact hc49 (show (-1 : Int64) < 0 by decide)
          | some x =>
            dsimp only
            rw [ho] at hc58
            have hc58 : ¬ 100000000 < (if 100000000 < x then nL 100000001 else nL x) := hc58
            by_cases hx : 100000000 < x
            · exfalso
              rw [if_pos hx] at hc58
              exact hc58 (by rw [nL_m, kL_lt (by omega) (by omega)]; omega)
            · rw [if_pos (by omega)]
              show some (nL v.2.1 * nL x) = some (nL v.2.1 * (if 100000000 < x then nL 100000001 else nL x))
              rw [if_neg hx]
    · rw [en, c15, kI_inj (by omega) (by omega)] at hc29
      rw [en]
      refine (r_aln xc_124_83 rfl (r_get xc_124_84 xf_124_13 g_6_5 (r_il xc_124_87 rfl (r_ia xc_124_89 b_24 ?_ (r_ic xc_124_90 kc_1 (r_cne xc_124_91 xj_124_91 (fun hc91 => (r_aln xc_124_94 rfl (r_get xc_124_95 xf_124_65 g_6_29 (r_iln xc_124_98 rfl (r_aln xc_124_99 rfl (r_get xc_124_100 xf_124_191 g_6_25 (r_aln xc_124_103 rfl (r_get xc_124_104 xf_124_16 g_6_6 (r_il xc_124_107 rfl (r_ia xc_124_109 b_25 ?_ (r_i2l xc_124_110 (r_lmul xc_124_111 (r_ldl xc_124_112 xl_124_211 (r_lmul xc_124_115 (r_las xc_124_116 b_41 t_41 ?_ (r_go xc_124_117 xj_124_117 (r_inc [_, _, _, _, _, _, _, _, _] xc_124_278 rfl rfl (ki_m1 _) rfl (r_go xc_124_281 xj_124_281 ?_)))))))))))))))))) (fun hc91 => ?_)))))))
      · exact kI_in (by omega) (by omega)
      · exact kI_in (by omega) (by omega)
      · exact kI_in (by omega) (by omega)
      · rw [c15, kI_inj (by omega) (by omega)] at hc91
        obtain ⟨h1, h2⟩ : lfOk v ∧ vj (umF A M G) pc t m = vL (umF A M G) pc v := by
          rcases hsub with h | ⟨m', hin, _⟩
          · exact h
          · exfalso; rcases hin.1 with h | h | h | h <;> omega
        unfold vL at h2
        rw [if_neg (by omega), if_pos hc91] at h2
        rw [c16, kI_i2l (by have := h1.2.1; omega), kI_cl (by omega), hy]
        exact nx _ _ _ _ h2
      · rw [c15, kI_inj (by omega) (by omega)] at hc91
        refine (r_aln xc_124_120 rfl (r_get xc_124_121 xf_124_13 g_6_5 (r_il xc_124_124 rfl (r_ia xc_124_126 b_24 ?_ (r_bi xc_124_127 kb_7 (r_cne xc_124_129 xj_124_129 (fun hc129 => (r_aln xc_124_132 rfl (r_get xc_124_133 xf_124_65 g_6_29 (r_iln xc_124_136 rfl (r_aln xc_124_137 rfl (r_il xc_124_138 rfl ?_)))))) (fun hc129 => ?_)))))))
        · exact kI_in (by omega) (by omega)
        · rw [c15, kI_inj (by omega) (by omega)] at hc129
          obtain ⟨h1, h2⟩ : lfOk v ∧ vj (umF A M G) pc t m = vL (umF A M G) pc v := by
            rcases hsub with h | ⟨m', hin, _⟩
            · exact h
            · exfalso; rcases hin.1 with h | h | h | h <;> omega
          unfold vL at h2
          rw [if_neg (by omega), if_neg (by omega), if_neg (by omega)] at h2
          refine (r_cv xc_124_140 xm_124_140 rfl xrc_127 rfl (p_M.up (M_stepOf (n := 60 + (b + m)) (by omega) hmv h1 hc129 hpc hy) (by omega)) (r_las xc_124_143 b_41 t_41 ?_ (r_go xc_124_144 xj_124_144 (r_inc [_, _, _, _, _, _, _, _, _] xc_124_278 rfl rfl (ki_m1 _) rfl (r_go xc_124_281 xj_124_281 ?_)))))
          · exact kI_in (by omega) (by omega)
          · rw [kI_cl (by omega)]
            exact nx _ _ _ _ h2
        · rw [c15, kI_inj (by omega) (by omega)] at hc129
          refine (r_aln xc_124_147 rfl (r_get xc_124_148 xf_124_13 g_6_5 (r_il xc_124_151 rfl (r_ia xc_124_153 b_24 ?_ (r_zne xc_124_154 xj_124_154 (fun hc154 => (r_aln xc_124_157 rfl (r_get xc_124_158 xf_124_65 g_6_29 (r_iln xc_124_161 rfl (r_lc xc_124_162 kl_0 (r_las xc_124_163 b_41 t_41 ?_ (r_go xc_124_164 xj_124_164 (r_inc [_, _, _, _, _, _, _, _, _] xc_124_278 rfl rfl (ki_m1 _) rfl (r_go xc_124_281 xj_124_281 ?_))))))))) (fun hc154 => ?_))))))
          · exact kI_in (by omega) (by omega)
          · exact kI_in (by omega) (by omega)
          · have hc154 : a 15 (nI (60 + (b + m))).toNatClampNeg = nI 0 := hc154
            rw [c15, kI_inj (by omega) (by omega)] at hc154
            obtain ⟨h1, h2⟩ : lfOk v ∧ vj (umF A M G) pc t m = vL (umF A M G) pc v := by
              rcases hsub with h | ⟨m', hin, _⟩
              · exact h
              · exfalso; rcases hin.1 with h | h | h | h <;> omega
            unfold vL at h2
            rw [if_pos hc154] at h2
            rw [kI_cl (by omega)]
            exact nx _ _ _ _ h2
          · have hc154 : ¬ a 15 (nI (60 + (b + m))).toNatClampNeg = nI 0 := hc154
            rw [c15, kI_inj (by omega) (by omega)] at hc154
            obtain ⟨m', hin, hs1, hs2, hs3⟩ : ∃ m', inOk v m' ∧ m + 1 < t.length ∧ m + v.2.2.2.1 < t.length ∧ vj (umF A M G) pc t m = vB v.1 (vj (umF A M G) pc t (m + 1)) (vj (umF A M G) pc t (m + v.2.2.2.1)) := by
              rcases hsub with ⟨hlf, _⟩ | h
              · exfalso; rcases hlf.2.2 with h | h | h | h <;> omega
              · exact h
            have hR0 : ¬ v.2.2.2.1 = 0 := by rw [hin.2.2.2.1]; omega
            rw [if_neg hR0] at h18 h19
            have c18 : a 18 (nI (60 + (b + m))).toNatClampNeg = nI (b + m + 1) := by rw [kI_cl (by omega)]; exact h18
            have c19 : a 19 (nI (60 + (b + m))).toNatClampNeg = nI (b + m + v.2.2.2.1) := by rw [kI_cl (by omega)]; exact h19
            rw [hv (m + 1) (by omega) hs1, hv (m + v.2.2.2.1) (by omega) hs2] at hs3
            have d1 : w 3 (a 18 (nI (60 + (b + m))).toNatClampNeg).toNatClampNeg = w 3 (b + (m + 1)) := by rw [c18, kI_cl (by omega)]; rfl
            have d2 : w 3 (a 19 (nI (60 + (b + m))).toNatClampNeg).toNatClampNeg = w 3 (b + (m + v.2.2.2.1)) := by rw [c19, kI_cl (by omega), show b + m + v.2.2.2.1 = b + (m + v.2.2.2.1) by omega]
            generalize w 3 (b + (m + 1)) = p1 at hs3 d1
            generalize w 3 (b + (m + v.2.2.2.1)) = p2 at hs3 d2
            have go277 : ∀ x, x = vI v.1 p1 p2 → p_E X 1 124 277 [some (.ref 22), some (.int (nI b)), some (.int x2), some (.int (nI (b + m))), some (.int (nI (60 + (b + m)))), some (.long p1), none, some (.long p2), none] [.long x, .int (nI (b + m)), .ref 41] (hp z a w y g) (RkP z a w0 y g b (vj (umF A M G) pc t 0)) := by
              intro x hx
              refine (r_las xc_124_277 b_41 t_41 ?_ (r_inc [_, _, _, _, _, _, _, _, _] xc_124_278 rfl rfl (ki_m1 _) rfl (r_go xc_124_281 xj_124_281 ?_)))
              · exact kI_in (by omega) (by omega)
              · rw [kI_cl (by omega)]
                exact nx x _ _ _ (by rw [hs3, hx]; rfl)
            refine (r_aln xc_124_167 rfl (r_get xc_124_168 xf_124_65 g_6_29 (r_aln xc_124_171 rfl (r_get xc_124_172 xf_124_22 g_6_8 (r_il xc_124_175 rfl (r_ia xc_124_177 b_27 ?_ (r_la xc_124_178 b_41 ?_ (r_ls [_, _, _, _, _, _, _, _, _] xc_124_179 rfl rfl (r_aln xc_124_181 rfl (r_get xc_124_182 xf_124_65 g_6_29 (r_aln xc_124_185 rfl (r_get xc_124_186 xf_124_25 g_6_9 (r_il xc_124_189 rfl (r_ia xc_124_191 b_28 ?_ (r_la xc_124_192 b_41 ?_ (r_ls [_, _, _, _, _, _, _, _, _] xc_124_193 rfl rfl (r_aln xc_124_195 rfl (r_get xc_124_196 xf_124_65 g_6_29 (r_iln xc_124_199 rfl (r_aln xc_124_200 rfl (r_get xc_124_201 xf_124_13 g_6_5 (r_il xc_124_204 rfl (r_ia xc_124_206 b_24 ?_ (r_ic xc_124_207 kc_3 (r_cne xc_124_208 xj_124_208 (fun hc208 => (r_ll xc_124_211 rfl (r_ll xc_124_213 rfl (r_ladd xc_124_215 (r_go xc_124_216 xj_124_216 ?_))))) (fun hc208 => (r_aln xc_124_219 rfl (r_get xc_124_220 xf_124_13 g_6_5 (r_il xc_124_223 rfl (r_ia xc_124_225 b_24 ?_ (r_ic xc_124_226 kc_4 (r_cne xc_124_227 xj_124_227 (fun hc227 => (r_ll xc_124_230 rfl (r_ll xc_124_232 rfl (r_lsub xc_124_234 (r_go xc_124_235 xj_124_235 ?_))))) (fun hc227 => (r_aln xc_124_238 rfl (r_get xc_124_239 xf_124_13 g_6_5 (r_il xc_124_242 rfl (r_ia xc_124_244 b_24 ?_ (r_ic xc_124_245 kc_5 (r_cne xc_124_246 xj_124_246 (fun hc246 => (r_ic xc_124_249 kc_1 (r_go xc_124_250 xj_124_250 ?_))) (fun hc246 => (r_ic xc_124_253 kc_0 ?_)))))))))))))))))))))))))))))))))))))))))
            · exact kI_in (by omega) (by omega)
            · rw [c18]; exact kI_in (by omega) (by omega)
            · exact kI_in (by omega) (by omega)
            · rw [c19]; exact kI_in (by omega) (by omega)
            · exact kI_in (by omega) (by omega)
            · rw [c15, kI_inj (by omega) (by omega)] at hc208
              rw [d1, d2]
              exact go277 _ (by rw [hc208]; rfl)
            · exact kI_in (by omega) (by omega)
            · rw [c15, kI_inj (by omega) (by omega)] at hc227
              rw [d1, d2]
              exact go277 _ (by rw [hc227]; rfl)
            · exact kI_in (by omega) (by omega)
            · rw [c15, kI_inj (by omega) (by omega)] at hc246
              rw [d1, d2]
              refine (r_ll xc_124_254 rfl (r_ll xc_124_256 rfl (r_lge xc_124_258 xc_124_259 xj_124_259 (fun hc259 => (r_ic xc_124_262 kc_1 (r_go xc_124_263 xj_124_263 (r_cne xc_124_267 xj_124_267 (fun hc267 => (r_ll xc_124_270 rfl (r_go xc_124_272 xj_124_272 ?_))) (fun hc267 => (r_ll xc_124_275 rfl ?_)))))) (fun hc259 => (r_ic xc_124_266 kc_0 (r_cne xc_124_267 xj_124_267 (fun hc267 => (r_ll xc_124_270 rfl (r_go xc_124_272 xj_124_272 ?_))) (fun hc267 => (r_ll xc_124_275 rfl ?_))))))))
              · exact go277 _ (by rw [hc246]; show _ = if p1 < p2 then p1 else p2; rw [if_pos hc259])
              · exact absurd rfl hc267
              · exact absurd hc267 (by decide)
              · exact go277 _ (by rw [hc246]; show _ = if p1 < p2 then p1 else p2; rw [if_neg hc259])
            · rw [c15, kI_inj (by omega) (by omega)] at hc208 hc227 hc246
              have h6 : v.1 = 6 := by rcases hin.1 with h | h | h | h <;> omega
              rw [d1, d2]
              refine (r_ll xc_124_254 rfl (r_ll xc_124_256 rfl (r_lge xc_124_258 xc_124_259 xj_124_259 (fun hc259 => (r_ic xc_124_262 kc_1 (r_go xc_124_263 xj_124_263 (r_cne xc_124_267 xj_124_267 (fun hc267 => (r_ll xc_124_270 rfl (r_go xc_124_272 xj_124_272 ?_))) (fun hc267 => (r_ll xc_124_275 rfl ?_)))))) (fun hc259 => (r_ic xc_124_266 kc_0 (r_cne xc_124_267 xj_124_267 (fun hc267 => (r_ll xc_124_270 rfl (r_go xc_124_272 xj_124_272 ?_))) (fun hc267 => (r_ll xc_124_275 rfl ?_))))))))
              · exact absurd hc267 (by decide)
              · exact go277 _ (by rw [h6]; show _ = if p1 < p2 then p2 else p1; rw [if_pos hc259])
              · exact go277 _ (by rw [h6]; show _ = if p1 < p2 then p2 else p1; rw [if_neg hc259])
              · exact absurd rfl hc267
end RECK
