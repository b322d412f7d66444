/-! ===== the model numbers its nodes ===== -/
def IN (a b : Nat → Nat → Int32) (n x i : Nat) : Prop := (∀ j, j ≠ 21 → j ≠ 22 → b j = a j) ∧ (∀ t, t < 6 * (60 + n) → b 21 t = a 21 t ∧ b 22 t = a 22 t) ∧ ∀ t, t < i → b 21 (6 * (60 + n) + t) = a 21 (6 * x + t) ∧ b 22 (6 * (60 + n) + t) = a 22 (6 * x + t)
section MREAD
variable {X : pX} {w : Nat → Nat → Int64} {y : Nat → Int64} {g : List pE} {z : Nat → Int32}
theorem L_na133 {Q : pR → Prop} {a : Nat → Nat → Int32} {n x m : Nat} {rt hi : Int32} (hn : n < 60) (hx : x < 60) (hm : a 20 x = nI m) (hm6 : m ≤ 6) (k : ∀ b, IN a b n x m → p_E X 0 117 207 [some (.ref 22), some (.int rt), some (.int (nI n)), some (.int hi), some (.int (nI x)), some (.int (nI m))] [] (hp z b w y g) Q) : ∀ r i b, i + r = m → IN a b n x i → p_E X 0 117 133 [some (.ref 22), some (.int rt), some (.int (nI n)), some (.int hi), some (.int (nI x)), some (.int (nI i))] [] (hp z b w y g) Q := by
  intro r
  induction r with
  | zero =>
    intro i b hi hI
    have hi : i = m := by omega
    subst hi
    have e20 : b 20 (nI x).toNatClampNeg = nI i := by rw [kI_cl (by omega), hI.1 20 (by omega) (by omega)]; exact hm
    refine (r_il xc_117_133 rfl (r_aln xc_117_135 rfl (r_get xc_117_136 xf_117_28 g_6_10 (r_il xc_117_139 rfl (r_ia xc_117_141 b_29 ?_ (r_cge xc_117_142 xj_117_142 (fun hc142 => (r_aln xc_117_145 rfl (r_get xc_117_146 xf_117_31 g_6_11 (r_bi xc_117_149 kb_6 (r_bi xc_117_151 kb_60 (r_iln xc_117_153 rfl (r_iadd xc_117_154 (r_imul xc_117_155 (r_il xc_117_156 rfl (r_iadd xc_117_158 (r_aln xc_117_159 rfl (r_get xc_117_160 xf_117_31 g_6_11 (r_bi xc_117_163 kb_6 (r_il xc_117_165 rfl (r_imul xc_117_167 (r_il xc_117_168 rfl (r_iadd xc_117_170 (r_ia xc_117_171 b_30 ?_ (r_ias xc_117_172 b_30 t_30 ?_ (r_aln xc_117_173 rfl (r_get xc_117_174 xf_117_34 g_6_12 (r_bi xc_117_177 kb_6 (r_bi xc_117_179 kb_60 (r_iln xc_117_181 rfl (r_iadd xc_117_182 (r_imul xc_117_183 (r_il xc_117_184 rfl (r_iadd xc_117_186 (r_aln xc_117_187 rfl (r_get xc_117_188 xf_117_34 g_6_12 (r_bi xc_117_191 kb_6 (r_il xc_117_193 rfl (r_imul xc_117_195 (r_il xc_117_196 rfl (r_iadd xc_117_198 (r_ia xc_117_199 b_31 ?_ (r_ias xc_117_200 b_31 t_31 ?_ (r_inc [_, _, _, _, _, _] xc_117_201 rfl rfl (ki_1 _) rfl (r_go xc_117_204 xj_117_204 ?_))))))))))))))))))))))))))))))))))))))) (fun hc142 => ?_)))))))
    · exact kI_in (by omega) (by omega)
    · rw [e20, kI_lt (by omega) (by omega)] at hc142; omega
    · rw [e20, kI_lt (by omega) (by omega)] at hc142; omega
    · rw [e20, kI_lt (by omega) (by omega)] at hc142; omega
    · rw [e20, kI_lt (by omega) (by omega)] at hc142; omega
    · rw [e20, kI_lt (by omega) (by omega)] at hc142; omega
    · exact k b hI
  | succ r ih =>
    intro i b hi hI
    have e20 : b 20 (nI x).toNatClampNeg = nI m := by rw [kI_cl (by omega), hI.1 20 (by omega) (by omega)]; exact hm
    have ex : nI 6 * nI x + nI i = nI (6 * x + i) := by rw [kI_mul, kI_add]
    have en : nI 6 * (nI 60 + nI n) + nI i = nI (6 * (60 + n) + i) := by rw [kI_add, kI_mul, kI_add]
    refine (r_il xc_117_133 rfl (r_aln xc_117_135 rfl (r_get xc_117_136 xf_117_28 g_6_10 (r_il xc_117_139 rfl (r_ia xc_117_141 b_29 ?_ (r_cge xc_117_142 xj_117_142 (fun hc142 => (r_aln xc_117_145 rfl (r_get xc_117_146 xf_117_31 g_6_11 (r_bi xc_117_149 kb_6 (r_bi xc_117_151 kb_60 (r_iln xc_117_153 rfl (r_iadd xc_117_154 (r_imul xc_117_155 (r_il xc_117_156 rfl (r_iadd xc_117_158 (r_aln xc_117_159 rfl (r_get xc_117_160 xf_117_31 g_6_11 (r_bi xc_117_163 kb_6 (r_il xc_117_165 rfl (r_imul xc_117_167 (r_il xc_117_168 rfl (r_iadd xc_117_170 (r_ia xc_117_171 b_30 ?_ (r_ias xc_117_172 b_30 t_30 ?_ (r_aln xc_117_173 rfl (r_get xc_117_174 xf_117_34 g_6_12 (r_bi xc_117_177 kb_6 (r_bi xc_117_179 kb_60 (r_iln xc_117_181 rfl (r_iadd xc_117_182 (r_imul xc_117_183 (r_il xc_117_184 rfl (r_iadd xc_117_186 (r_aln xc_117_187 rfl (r_get xc_117_188 xf_117_34 g_6_12 (r_bi xc_117_191 kb_6 (r_il xc_117_193 rfl (r_imul xc_117_195 (r_il xc_117_196 rfl (r_iadd xc_117_198 (r_ia xc_117_199 b_31 ?_ (r_ias xc_117_200 b_31 t_31 ?_ (r_inc [_, _, _, _, _, _] xc_117_201 rfl rfl (ki_1 _) rfl (r_go xc_117_204 xj_117_204 ?_))))))))))))))))))))))))))))))))))))))) (fun hc142 => ?_)))))))
    · exact kI_in (by omega) (by omega)
    · rw [ex]; exact kI_in (by omega) (by omega)
    · rw [en]; exact kI_in (by omega) (by omega)
    · rw [ex]; exact kI_in (by omega) (by omega)
    · rw [en]; exact kI_in (by omega) (by omega)
    · rw [ex, en, kI_cl (by omega), kI_cl (by omega), kI_add]
      refine ih (i + 1) _ (by omega) ⟨fun j h1 h2 => by rw [u_n _ _ h2, u_n _ _ h1, hI.1 j h1 h2], fun t ht => ?_, fun t ht => ?_⟩
      · show upd (b 21) _ _ t = _ ∧ upd (b 22) _ _ t = _
        rw [up_n _ _ (by omega), up_n _ _ (by omega)]
        exact hI.2.1 t ht
      · show upd (b 21) (6 * (60 + n) + i) (b 21 (6 * x + i)) (6 * (60 + n) + t) = _ ∧ upd (b 22) (6 * (60 + n) + i) (b 22 (6 * x + i)) (6 * (60 + n) + t) = _
        by_cases hti : t = i
        · subst hti
          rw [up_s, up_s]
          exact hI.2.1 (6 * x + t) (by omega)
        · rw [up_n _ _ (by omega), up_n _ _ (by omega)]
          exact hI.2.2 t (by omega)
    · rw [e20, kI_lt (by omega) (by omega)] at hc142; omega
/-- one turn -/
theorem L_na11 {Q : pR → Prop} {a : Nat → Nat → Int32} {n x m h : Nat} {rt : Int32} (hn : n < 60) (hx : x < 60) (hh : h < 100) (hm : a 20 x = nI m) (hm6 : m ≤ 6) (h27 : a 27 h = nI x)
    (k : ∀ a', NW a a' n x → (∀ j, j < 15 ∨ (22 < j ∧ j ≠ 27 ∧ j ≠ 28) → a' j = a j) → (a 18 x = -1 → a' 27 = a 27 → p_E X 0 117 11 [some (.ref 22), some (.int rt), some (.int (nI (n + 1))), some (.int (nI h)), none, none] [] (hp z a' w y g) Q) ∧ (¬ a 18 x = -1 → a' 27 = upd (upd (a 27) h (a 19 x)) (h + 1) (a 18 x) → p_E X 0 117 11 [some (.ref 22), some (.int rt), some (.int (nI (n + 1))), some (.int (nI (h + 2))), none, none] [] (hp z a' w y g) Q)) :
    p_E X 0 117 11 [some (.ref 22), some (.int rt), some (.int (nI n)), some (.int (nI (h + 1))), none, none] [] (hp z a w y g) Q := by
  have eh : nI (h + 1) - nI 1 = nI h := by rw [kI_sub (by omega)]; rfl
  have ep : a 27 (nI h).toNatClampNeg = nI x := by rw [kI_cl (by omega)]; exact h27
  have en : nI 60 + nI n = nI (60 + n) := kI_add 60 n
  refine (r_iln xc_117_11 rfl (r_zle xc_117_12 xj_117_12 (fun hc12 => (r_inc [_, _, _, _, _, _] xc_117_15 rfl rfl (ki_m1 _) rfl (r_aln xc_117_18 rfl (r_get xc_117_19 xf_117_49 g_6_23 (r_iln xc_117_22 rfl (r_ia xc_117_23 b_36 ?_ (r_is [_, _, _, _, _, _] xc_117_24 rfl rfl (r_aln xc_117_26 rfl (r_get xc_117_27 xf_117_52 g_6_24 (r_il xc_117_30 rfl (r_iln xc_117_32 rfl (r_ias xc_117_33 b_37 t_37 ?_ (r_aln xc_117_34 rfl (r_get xc_117_35 xf_117_13 g_6_5 (r_bi xc_117_38 kb_60 (r_iln xc_117_40 rfl (r_iadd xc_117_41 (r_aln xc_117_42 rfl (r_get xc_117_43 xf_117_13 g_6_5 (r_il xc_117_46 rfl (r_ia xc_117_48 b_24 ?_ (r_ias xc_117_49 b_24 t_24 ?_ (r_aln xc_117_50 rfl (r_get xc_117_51 xf_117_16 g_6_6 (r_bi xc_117_54 kb_60 (r_iln xc_117_56 rfl (r_iadd xc_117_57 (r_aln xc_117_58 rfl (r_get xc_117_59 xf_117_16 g_6_6 (r_il xc_117_62 rfl (r_ia xc_117_64 b_25 ?_ (r_ias xc_117_65 b_25 t_25 ?_ (r_aln xc_117_66 rfl (r_get xc_117_67 xf_117_19 g_6_7 (r_bi xc_117_70 kb_60 (r_iln xc_117_72 rfl (r_iadd xc_117_73 (r_aln xc_117_74 rfl (r_get xc_117_75 xf_117_19 g_6_7 (r_il xc_117_78 rfl (r_ia xc_117_80 b_26 ?_ (r_ias xc_117_81 b_26 t_26 ?_ (r_aln xc_117_82 rfl (r_get xc_117_83 xf_117_22 g_6_8 (r_bi xc_117_86 kb_60 (r_iln xc_117_88 rfl (r_iadd xc_117_89 (r_aln xc_117_90 rfl (r_get xc_117_91 xf_117_22 g_6_8 (r_il xc_117_94 rfl (r_ia xc_117_96 b_27 ?_ (r_ias xc_117_97 b_27 t_27 ?_ (r_aln xc_117_98 rfl (r_get xc_117_99 xf_117_25 g_6_9 (r_bi xc_117_102 kb_60 (r_iln xc_117_104 rfl (r_iadd xc_117_105 (r_aln xc_117_106 rfl (r_get xc_117_107 xf_117_25 g_6_9 (r_il xc_117_110 rfl (r_ia xc_117_112 b_28 ?_ (r_ias xc_117_113 b_28 t_28 ?_ (r_aln xc_117_114 rfl (r_get xc_117_115 xf_117_28 g_6_10 (r_bi xc_117_118 kb_60 (r_iln xc_117_120 rfl (r_iadd xc_117_121 (r_aln xc_117_122 rfl (r_get xc_117_123 xf_117_28 g_6_10 (r_il xc_117_126 rfl (r_ia xc_117_128 b_29 ?_ (r_ias xc_117_129 b_29 t_29 ?_ (r_ic xc_117_130 kc_0 (r_is [_, _, _, _, _, _] xc_117_131 rfl rfl ?_)))))))))))))))))))))))))))))))))))))))))))))))))))))))))))))))))))))))))) (fun hc12 => (r_bi xc_117_255 kb_60 (r_is [_, _, _, _, _, _] xc_117_257 rfl rfl ?_)))))
  · rw [eh]; exact kI_in (by omega) (by omega)
  · rw [eh, ep]; exact kI_in (by omega) (by omega)
  · rw [eh, ep]; exact kI_in (by omega) (by omega)
  · rw [en]; exact kI_in (by omega) (by omega)
  · rw [eh, ep]; exact kI_in (by omega) (by omega)
  · rw [en]; exact kI_in (by omega) (by omega)
  · rw [eh, ep]; exact kI_in (by omega) (by omega)
  · rw [en]; exact kI_in (by omega) (by omega)
  · rw [eh, ep]; exact kI_in (by omega) (by omega)
  · rw [en]; exact kI_in (by omega) (by omega)
  · rw [eh, ep]; exact kI_in (by omega) (by omega)
  · rw [en]; exact kI_in (by omega) (by omega)
  · rw [eh, ep]; exact kI_in (by omega) (by omega)
  · rw [en]; exact kI_in (by omega) (by omega)
  · rw [eh, ep, en, kI_cl (by omega), kI_cl (by omega)]
    have go : ∀ a1, a1 28 = upd (a 28) x (nI n) → mnv a1 (60 + n) = mnv a x → (∀ j, j ≠ 60 + n → mnv a1 j = mnv a j) → (∀ j, j < 15 ∨ (20 < j ∧ j ≠ 28) → a1 j = a j) → p_E X 0 117 133 [some (.ref 22), some (.int rt), some (.int (nI n)), some (.int (nI h)), some (.int (nI x)), some (.int (nI 0))] [] (hp z a1 w y g) Q := by
      intro a1 h1 h2 h3 h4
      have e20 : a1 20 x = nI m := by
        have := h3 x (by omega)
        unfold mnv at this
        simp only [Prod.mk.injEq] at this
        rw [this.2.2.2.2.2]; exact hm
      refine L_na133 hn hx e20 hm6 (fun b hI => ?_) m 0 a1 (by omega) ⟨fun _ _ _ => rfl, fun _ _ => ⟨rfl, rfl⟩, fun t ht => by omega⟩
      have m3 : ∀ j, j ≠ 60 + n → mnv b j = mnv a j := by
        intro j hj
        rw [← h3 j hj]
        unfold mnv
        rw [hI.1 15 (by omega) (by omega), hI.1 16 (by omega) (by omega), hI.1 17 (by omega) (by omega), hI.1 18 (by omega) (by omega), hI.1 19 (by omega) (by omega), hI.1 20 (by omega) (by omega)]
      have m4 : mnv b (60 + n) = mnv a x := by
        rw [← h2]
        unfold mnv
        rw [hI.1 15 (by omega) (by omega), hI.1 16 (by omega) (by omega), hI.1 17 (by omega) (by omega), hI.1 18 (by omega) (by omega), hI.1 19 (by omega) (by omega), hI.1 20 (by omega) (by omega)]
      have e21 : a1 21 = a 21 := h4 21 (by omega)
      have e22 : a1 22 = a 22 := h4 22 (by omega)
      have hx3 := m3 x (by omega)
      unfold mnv at hx3
      simp only [Prod.mk.injEq] at hx3
      have hw : NW a b n x := ⟨m4, m3, fun i hi => by rw [(hI.2.1 i hi).1, (hI.2.1 i hi).2, e21, e22]; exact ⟨rfl, rfl⟩, fun i hi him => by
        have him : i < m := by rw [hm] at him; exact (kI_lt (by omega) (by omega)).mp him
        rw [(hI.2.2 i him).1, (hI.2.2 i him).2, e21, e22]; exact ⟨rfl, rfl⟩, by rw [hI.1 28 (by omega) (by omega)]; exact h1⟩
      have hf : ∀ j, j < 15 ∨ (22 < j ∧ j ≠ 27 ∧ j ≠ 28) → b j = a j := fun j hj => (hI.1 j (by omega) (by omega)).trans (h4 j (by omega))
      have b27 : b 27 = a 27 := (hI.1 27 (by omega) (by omega)).trans (h4 27 (by omega))
      refine (r_inc [_, _, _, _, _, _] xc_117_207 rfl rfl (ki_1 _) rfl (r_aln xc_117_210 rfl (r_get xc_117_211 xf_117_22 g_6_8 (r_il xc_117_214 rfl (r_ia xc_117_216 b_27 ?_ (r_ic xc_117_217 kc_m1 (r_ceq xc_117_218 xj_117_218 (fun hc218 => (r_go xc_117_252 xj_117_252 ?_)) (fun hc218 => (r_aln xc_117_221 rfl (r_get xc_117_222 xf_117_49 g_6_23 (r_iln xc_117_225 rfl (r_aln xc_117_226 rfl (r_get xc_117_227 xf_117_25 g_6_9 (r_il xc_117_230 rfl (r_ia xc_117_232 b_28 ?_ (r_ias xc_117_233 b_36 t_36 ?_ (r_aln xc_117_234 rfl (r_get xc_117_235 xf_117_49 g_6_23 (r_iln xc_117_238 rfl (r_ic xc_117_239 kc_1 (r_iadd xc_117_240 (r_aln xc_117_241 rfl (r_get xc_117_242 xf_117_22 g_6_8 (r_il xc_117_245 rfl (r_ia xc_117_247 b_27 ?_ (r_ias xc_117_248 b_36 t_36 ?_ (r_inc [_, _, _, _, _, _] xc_117_249 rfl rfl (ki_2 _) rfl (r_go xc_117_252 xj_117_252 ?_))))))))))))))))))))))))))))
      · exact kI_in (by omega) (by omega)
      · rw [kI_cl (by omega), hx3.2.2.2.1] at hc218
        rw [kI_add]
        exact R_fg [_, _, _, _, none, none] (p_lle_eq (p_lle_eq (p_lle_eq (p_lle_eq (p_lle_no (p_lle_no p_lle_nil)))))) ((k b hw hf).1 hc218 b27)
      · exact kI_in (by omega) (by omega)
      · exact kI_in (by omega) (by omega)
      · exact kI_in (by omega) (by omega)
      · rw [kI_add]; exact kI_in (by omega) (by omega)
      · rw [kI_cl (by omega), hx3.2.2.2.1] at hc218
        rw [kI_add, kI_add, kI_add, kI_cl (by omega), kI_cl (by omega), kI_cl (by omega)]
        refine R_fg [_, _, _, _, none, none] (p_lle_eq (p_lle_eq (p_lle_eq (p_lle_eq (p_lle_no (p_lle_no p_lle_nil)))))) ?_
        have e18 : u_ b 27 (upd (b 27) h (b 19 x)) 18 x = a 18 x := hx3.2.2.2.1
        have e19 : b 19 x = a 19 x := hx3.2.2.2.2.1
        refine (k _ ?_ ?_).2 hc218 ?_
        · exact ⟨hw.1, hw.2.1, hw.2.2.1, hw.2.2.2.1, hw.2.2.2.2⟩
        · intro j hj
          rw [u_n _ _ (by omega), u_n _ _ (by omega)]
          exact hf j hj
        · show upd (upd (b 27) h (b 19 x)) (h + 1) (u_ b 27 (upd (b 27) h (b 19 x)) 18 x) = _
          rw [e18, e19, b27]
    refine go _ rfl ?_ (fun j hj => ?_) (fun j hj => ?_)
    · have e : ∀ f1 f2 f3 f4 f5 f6 : Nat → Int32, mnv (u_ (u_ (u_ (u_ (u_ (u_ (u_ a 28 (upd (a 28) x (nI n))) 15 f1) 16 f2) 17 f3) 18 f4) 19 f5) 20 f6) (60 + n) = (f1 (60 + n), f2 (60 + n), f3 (60 + n), f4 (60 + n), f5 (60 + n), f6 (60 + n)) := fun _ _ _ _ _ _ => rfl
      rw [e, up_s, up_s, up_s, up_s, up_s, up_s]
      rfl
    · have e : ∀ f1 f2 f3 f4 f5 f6 : Nat → Int32, mnv (u_ (u_ (u_ (u_ (u_ (u_ (u_ a 28 (upd (a 28) x (nI n))) 15 f1) 16 f2) 17 f3) 18 f4) 19 f5) 20 f6) j = (f1 j, f2 j, f3 j, f4 j, f5 j, f6 j) := fun _ _ _ _ _ _ => rfl
      rw [e, up_n _ _ hj, up_n _ _ hj, up_n _ _ hj, up_n _ _ hj, up_n _ _ hj, up_n _ _ hj]
      rfl
    · rw [u_n _ _ (by omega), u_n _ _ (by omega), u_n _ _ (by omega), u_n _ _ (by omega), u_n _ _ (by omega), u_n _ _ (by omega), u_n _ _ (by omega)]
  · rw [kI_lt (by omega) (by omega)] at hc12; omega
end MREAD
