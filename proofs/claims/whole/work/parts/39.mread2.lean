/-! ===== the model reads a text ===== -/
theorem MT_at {a : Nat → Nat → Int32} {b : Nat} {t : List pN} (h : MT a b t) : ∃ m, a 20 (b + t.length - 1) = nI m ∧ m ≤ 6 := by
  rcases MT_cases h with ⟨v, rfl, h1, h2, _⟩ | ⟨v, l, r, rfl, h1, _, _, h2, _⟩
  · exact ⟨_, h2.2.2.2.1, lfOk_rows h1⟩
  · refine ⟨_, ?_, inOk_rows h1⟩
    rw [show b + (v :: (l ++ r)).length - 1 = b + l.length + r.length by simp only [List.length_cons, List.length_append]; omega]
    exact h2.2.2.2.1
section MREAD2
variable {X : pX} {w : Nat → Nat → Int64} {y : Nat → Int64} {g : List pE} {z : Nat → Int32}
theorem L_na1 {Q : pR → Prop} {a0 : Nat → Nat → Int32} {ns : List pN} {N : Nat} {rt : Int32} (hN : N ≤ 60) (hr : ∀ v ∈ ns, v.2.2.2.2.length ≤ 6)
    (k : ∀ a', NI a' N ns ns [] → (∀ j, j < 15 ∨ (22 < j ∧ j ≠ 27 ∧ j ≠ 28) → a' j = a0 j) → p_E X 0 117 11 [some (.ref 22), some (.int rt), some (.int (nI ns.length)), some (.int (nI 0)), none, none] [] (hp z a' w y g) Q) :
    ∀ c S pre a, kLen S = c → NI a N ns pre S → (∀ j, j < 15 ∨ (22 < j ∧ j ≠ 27 ∧ j ≠ 28) → a j = a0 j) → p_E X 0 117 11 [some (.ref 22), some (.int rt), some (.int (nI pre.length)), some (.int (nI S.length)), none, none] [] (hp z a w y g) Q := by
  intro c
  induction c using Nat.strongRecOn with
  | _ c ih =>
    intro S pre a hc hI hf
    cases S with
    | nil =>
      have hp1 := (NI_end hI).1
      subst hp1
      exact k a hI hf
    | cons e S =>
      obtain ⟨b, t⟩ := e
      have hm := (hI.2.2.1 (b, t) List.mem_cons_self).1
      have hbN := (hI.2.2.1 (b, t) List.mem_cons_self).2
      dsimp only at hm hbN
      have ht := TW_ne (MT_tw hm)
      have hN2 := hI.2.1
      rw [kLen_cons] at hN2 hc
      dsimp only at hN2 hc
      obtain ⟨m, hm20, hm6⟩ := MT_at hm
      have h27 := hI.2.2.2.1 0 (b, t) rfl
      have hSl : S.length ≤ kLen S := by
        have : ∀ S : pK, (∀ e ∈ S, 1 ≤ e.2.length) → S.length ≤ kLen S := by
          intro S
          induction S with
          | nil => intro _; exact Nat.zero_le _
          | cons e S ih =>
            intro h
            rw [kLen_cons, List.length_cons]
            have := ih (fun e he => h e (List.mem_cons_of_mem _ he))
            have := h e List.mem_cons_self
            omega
        exact this S (fun e he => TW_ne (MT_tw (hI.2.2.1 e (List.mem_cons_of_mem _ he)).1))
      simp only [List.length_cons] at h27
      rw [show S.length + 1 - 1 - 0 = S.length by omega] at h27
      rw [List.length_cons]
      refine L_na11 (m := m) (by omega) (by omega) (by omega) hm20 hm6 h27 (fun a' hw hf' => ?_)
      have hf2 : ∀ j, j < 15 ∨ (22 < j ∧ j ≠ 27 ∧ j ≠ 28) → a' j = a0 j := fun j hj => (hf' j hj).trans (hf j hj)
      rcases MT_cases hm with ⟨v, rfl, h1, h2, h3, h4⟩ | ⟨v, l, r, rfl, h1, hl, hr2, h2, h3, h4⟩
      · refine ⟨fun _ e27 => ?_, fun hne => absurd h3 hne⟩
        have := ih (kLen S) (by simp at hc; omega) S (pre ++ [v]) a' rfl (NI_leaf hN hr hI h1 hw (fun i _ => by rw [e27])) hf2
        rw [List.length_append] at this
        exact this
      · have hlen : b + (v :: (l ++ r)).length - 1 = b + l.length + r.length := by simp only [List.length_cons, List.length_append]; omega
        have hl1 := TW_ne (MT_tw hl)
        rw [hlen] at hw ⊢
        refine ⟨fun h => ?_, fun _ e27 => ?_⟩
        · rw [h3] at h
          simp only [List.length_cons, List.length_append] at hbN
          exact absurd h (kI_m1 (by omega))
        · have hnx := NI_node hN hr hI h1 hl hr2 h2 h3 h4 hw e27
          have := ih (kLen ((b, l) :: (b + l.length, r) :: S)) (by rw [kLen_cons, kLen_cons]; simp only [List.length_cons, List.length_append] at hc; dsimp only; omega) _ (pre ++ [v]) a' rfl hnx hf2
          rw [List.length_append] at this
          exact this
/-- the second pass -/
theorem L_na2 {a : Nat → Nat → Int32} {ns : List pN} {rt hi : Int32} (hN : ns.length ≤ 60) (hE : ∀ k v, ns[k]? = some v → mv a (60 + k) v ∧ (v.2.2.2.1 = 0 → a 18 (60 + k) = -1 ∧ a 19 (60 + k) = -1) ∧ (¬ v.2.2.2.1 = 0 → ∃ xl xr, a 18 (60 + k) = nI xl ∧ a 19 (60 + k) = nI xr ∧ xl < ns.length ∧ xr < ns.length ∧ a 28 xl = nI (k + 1) ∧ a 28 xr = nI (k + v.2.2.2.1))) :
    ∀ r i b, i + r = ns.length → (∀ j, j ≠ 18 → j ≠ 19 → b j = a j) → (∀ k, i ≤ k → b 18 (60 + k) = a 18 (60 + k) ∧ b 19 (60 + k) = a 19 (60 + k)) → (∀ k v, k < i → ns[k]? = some v → b 18 (60 + k) = (if v.2.2.2.1 = 0 then -1 else nI (k + 1)) ∧ b 19 (60 + k) = (if v.2.2.2.1 = 0 then -1 else nI (k + v.2.2.2.1))) →
      p_E X 0 117 259 [some (.ref 22), some (.int rt), some (.int (nI ns.length)), some (.int hi), some (.int (nI (60 + i))), none] [] (hp z b w y g) (fun q => ∃ a', q = (.inl none, hp (u_ z 13 (nI ns.length)) a' w y g) ∧ Mp a' ns ∧ ∀ j, j ≠ 18 → j ≠ 19 → a' j = a j) := by
  intro r
  induction r with
  | zero =>
    intro i b hi hb1 hb2 hb3
    have hi : i = ns.length := by omega
    subst hi
    have hno : ∀ {C : Prop}, nI (60 + ns.length) < nI 60 + nI ns.length → C := fun h => by rw [kI_add, kI_lt (by omega) (by omega)] at h; omega
    refine (r_il xc_117_259 rfl (r_bi xc_117_261 kb_60 (r_iln xc_117_263 rfl (r_iadd xc_117_264 (r_cge xc_117_265 xj_117_265 (fun hc265 => (r_aln xc_117_268 rfl (r_get xc_117_269 xf_117_22 g_6_8 (r_il xc_117_272 rfl (r_ia xc_117_274 b_27 ?_ (r_ic xc_117_275 kc_m1 (r_ceq xc_117_276 xj_117_276 (fun hc276 => (r_inc [_, _, _, _, _, _] xc_117_317 rfl rfl (ki_1 _) rfl (r_go xc_117_320 xj_117_320 ?_))) (fun hc276 => (r_aln xc_117_279 rfl (r_get xc_117_280 xf_117_22 g_6_8 (r_il xc_117_283 rfl (r_aln xc_117_285 rfl (r_get xc_117_286 xf_117_52 g_6_24 (r_aln xc_117_289 rfl (r_get xc_117_290 xf_117_22 g_6_8 (r_il xc_117_293 rfl (r_ia xc_117_295 b_27 ?_ (r_ia xc_117_296 b_37 ?_ (r_ias xc_117_297 b_27 t_27 ?_ (r_aln xc_117_298 rfl (r_get xc_117_299 xf_117_25 g_6_9 (r_il xc_117_302 rfl (r_aln xc_117_304 rfl (r_get xc_117_305 xf_117_52 g_6_24 (r_aln xc_117_308 rfl (r_get xc_117_309 xf_117_25 g_6_9 (r_il xc_117_312 rfl (r_ia xc_117_314 b_28 ?_ (r_ia xc_117_315 b_37 ?_ (r_ias xc_117_316 b_28 t_28 ?_ (r_inc [_, _, _, _, _, _] xc_117_317 rfl rfl (ki_1 _) rfl (r_go xc_117_320 xj_117_320 ?_)))))))))))))))))))))))))))))))) (fun hc265 => (r_aln xc_117_323 rfl (r_iln xc_117_324 rfl (r_put xc_117_325 xf_117_174 rfl s_6_15 (r_r0 xc_117_328 xrt_117 ?_))))))))))
    · exact hno hc265
    · exact hno hc265
    · exact hno hc265
    · exact hno hc265
    · exact hno hc265
    · exact hno hc265
    · exact hno hc265
    · exact hno hc265
    · exact hno hc265
    · refine ⟨b, rfl, fun k v hk => ?_, hb1⟩
      have hl := getElem?_lt hk
      refine ⟨?_, (hb3 k v hl hk).1, (hb3 k v hl hk).2⟩
      obtain ⟨g0, g1, g2, g3, g4⟩ := (hE k v hk).1
      refine ⟨by rw [hb1 15 (by omega) (by omega)]; exact g0, by rw [hb1 16 (by omega) (by omega)]; exact g1, by rw [hb1 17 (by omega) (by omega)]; exact g2, by rw [hb1 20 (by omega) (by omega)]; exact g3, fun k' q hq => ?_⟩
      rw [hb1 21 (by omega) (by omega), hb1 22 (by omega) (by omega)]
      exact g4 k' q hq
  | succ r ih =>
    intro i b hi hb1 hb2 hb3
    have hil : i < ns.length := by omega
    obtain ⟨v, hv⟩ : ∃ v, ns[i]? = some v := ⟨_, List.getElem?_eq_getElem hil⟩
    obtain ⟨_, g1, g2⟩ := hE i v hv
    obtain ⟨q1, q2⟩ := hb2 i (Nat.le_refl _)
    have c18 : b 18 (nI (60 + i)).toNatClampNeg = a 18 (60 + i) := by rw [kI_cl (by omega)]; exact q1
    have c19 : b 19 (nI (60 + i)).toNatClampNeg = a 19 (60 + i) := by rw [kI_cl (by omega)]; exact q2
    have c28 : b 28 = a 28 := hb1 28 (by omega) (by omega)
    refine (r_il xc_117_259 rfl (r_bi xc_117_261 kb_60 (r_iln xc_117_263 rfl (r_iadd xc_117_264 (r_cge xc_117_265 xj_117_265 (fun hc265 => (r_aln xc_117_268 rfl (r_get xc_117_269 xf_117_22 g_6_8 (r_il xc_117_272 rfl (r_ia xc_117_274 b_27 ?_ (r_ic xc_117_275 kc_m1 (r_ceq xc_117_276 xj_117_276 (fun hc276 => (r_inc [_, _, _, _, _, _] xc_117_317 rfl rfl (ki_1 _) rfl (r_go xc_117_320 xj_117_320 ?_))) (fun hc276 => (r_aln xc_117_279 rfl (r_get xc_117_280 xf_117_22 g_6_8 (r_il xc_117_283 rfl (r_aln xc_117_285 rfl (r_get xc_117_286 xf_117_52 g_6_24 (r_aln xc_117_289 rfl (r_get xc_117_290 xf_117_22 g_6_8 (r_il xc_117_293 rfl (r_ia xc_117_295 b_27 ?_ (r_ia xc_117_296 b_37 ?_ (r_ias xc_117_297 b_27 t_27 ?_ (r_aln xc_117_298 rfl (r_get xc_117_299 xf_117_25 g_6_9 (r_il xc_117_302 rfl (r_aln xc_117_304 rfl (r_get xc_117_305 xf_117_52 g_6_24 (r_aln xc_117_308 rfl (r_get xc_117_309 xf_117_25 g_6_9 (r_il xc_117_312 rfl (r_ia xc_117_314 b_28 ?_ (r_ia xc_117_315 b_37 ?_ (r_ias xc_117_316 b_28 t_28 ?_ (r_inc [_, _, _, _, _, _] xc_117_317 rfl rfl (ki_1 _) rfl (r_go xc_117_320 xj_117_320 ?_)))))))))))))))))))))))))))))))) (fun hc265 => (r_aln xc_117_323 rfl (r_iln xc_117_324 rfl (r_put xc_117_325 xf_117_174 rfl s_6_15 (r_r0 xc_117_328 xrt_117 ?_))))))))))
    · exact kI_in (by omega) (by omega)
    · rw [c18] at hc276
      rw [kI_add]
      have h0 : v.2.2.2.1 = 0 := by
        refine Classical.byContradiction (fun h => ?_)
        obtain ⟨xl, xr, e1, _, e3, _⟩ := g2 h
        rw [e1] at hc276
        exact absurd hc276 (kI_m1 (by omega))
      refine ih (i + 1) b (by omega) hb1 (fun k hk => hb2 k (by omega)) (fun k x hk hx => ?_)
      by_cases hki : k = i
      · subst hki
        rw [hv] at hx
        cases hx
        rw [if_pos h0, if_pos h0, q1, q2]
        exact g1 h0
      · exact hb3 k x (by omega) hx
    · exact kI_in (by omega) (by omega)
    · rw [c18] at hc276
      obtain ⟨xl, xr, e1, e2, e3, e4, e5, e6⟩ := g2 (fun h => hc276 (g1 h).1)
      rw [c18, e1]; exact kI_in (by omega) (by omega)
    · exact kI_in (by omega) (by omega)
    · exact kI_in (by omega) (by omega)
    · rw [c18] at hc276
      obtain ⟨xl, xr, e1, e2, e3, e4, e5, e6⟩ := g2 (fun h => hc276 (g1 h).1)
      show p_inI (b 19 (nI (60 + i)).toNatClampNeg) _
      rw [c19, e2]; exact kI_in (by omega) (by omega)
    · exact kI_in (by omega) (by omega)
    · rw [c18] at hc276
      have h0 : ¬ v.2.2.2.1 = 0 := fun h => hc276 (g1 h).1
      obtain ⟨xl, xr, e1, e2, e3, e4, e5, e6⟩ := g2 h0
      have d1 : b 28 (b 18 (nI (60 + i)).toNatClampNeg).toNatClampNeg = nI (i + 1) := by rw [c18, e1, kI_cl (by omega), c28]; exact e5
      have d2 : b 28 (b 19 (nI (60 + i)).toNatClampNeg).toNatClampNeg = nI (i + v.2.2.2.1) := by rw [c19, e2, kI_cl (by omega), c28]; exact e6
      have d3 : ∀ f : Nat → Int32, u_ b 18 f 28 (u_ b 18 f 19 (nI (60 + i)).toNatClampNeg).toNatClampNeg = nI (i + v.2.2.2.1) := fun f => d2
      rw [d3, d1, kI_cl (by omega), kI_add]
      refine ih (i + 1) _ (by omega) (fun j h1 h2 => by rw [u_n _ _ h2, u_n _ _ h1, hb1 j h1 h2]) (fun k hk => ?_) (fun k x hk hx => ?_)
      · show upd (b 18) (60 + i) _ (60 + k) = _ ∧ upd (b 19) (60 + i) _ (60 + k) = _
        rw [up_n _ _ (by omega), up_n _ _ (by omega)]
        exact hb2 k (by omega)
      · show upd (b 18) (60 + i) _ (60 + k) = _ ∧ upd (b 19) (60 + i) _ (60 + k) = _
        by_cases hki : k = i
        · subst hki
          rw [hv] at hx
          cases hx
          rw [up_s, up_s, if_neg h0, if_neg h0]
          exact ⟨rfl, rfl⟩
        · rw [up_n _ _ (by omega), up_n _ _ (by omega)]
          exact hb3 k x (by omega) hx
    · rw [kI_add, kI_lt (by omega) (by omega)] at hc265; omega
theorem M_numberAll {a : Nat → Nat → Int32} {ns : List pN} (hm : MT a 0 ns) (hN : ns.length ≤ 60) : p_M X 0 117 [.ref 22, .int (nI (ns.length - 1))] (hp z a w y g) (fun q => ∃ a', q = (.inl none, hp (u_ z 13 (nI ns.length)) a' w y g) ∧ Mp a' ns ∧ ∀ j, j < 15 ∨ (22 < j ∧ j ≠ 27 ∧ j ≠ 28) → a' j = a j) := by
  refine (r_in xin_117 (r_ic xc_117_0 kc_0 (r_isn [_, _, _, _, _, _] xc_117_1 rfl rfl (r_ic xc_117_2 kc_1 (r_isn [_, _, _, _, _, _] xc_117_3 rfl rfl (r_aln xc_117_4 rfl (r_get xc_117_5 xf_117_49 g_6_23 (r_ic xc_117_8 kc_0 (r_iln xc_117_9 rfl (r_ias xc_117_10 b_36 t_36 ?_ ?_))))))))))
  · exact kI_in (by omega) (by omega)
  · have e0 : (nI 0).toNatClampNeg = 0 := by decide
    rw [e0]
    have hm2 : MT (u_ a 27 (upd (a 27) 0 (nI (ns.length - 1)))) 0 ns := MT_kept hm (fun _ _ _ => rfl) (fun _ _ _ => ⟨rfl, rfl⟩)
    refine L_na1 (a0 := u_ a 27 (upd (a 27) 0 (nI (ns.length - 1)))) (N := ns.length) hN (TW_rows (MT_tw hm)) (fun a' hI hf => ?_) _ [(0, ns)] [] _ rfl (NI_start hm2 (show upd (a 27) 0 (nI (ns.length - 1)) 0 = nI (ns.length - 1) from up_s _ _ _)) (fun _ _ => rfl)
    obtain ⟨_, _, hE⟩ := NI_end hI
    refine (r_iln xc_117_11 rfl (r_zle xc_117_12 xj_117_12 (fun hc12 => (r_inc [_, _, _, _, _, _] xc_117_15 rfl rfl (ki_m1 _) rfl (r_aln xc_117_18 rfl (r_get xc_117_19 xf_117_49 g_6_23 (r_iln xc_117_22 rfl (r_ia xc_117_23 b_36 ?_ (r_is [_, _, _, _, _, _] xc_117_24 rfl rfl (r_aln xc_117_26 rfl (r_get xc_117_27 xf_117_52 g_6_24 (r_il xc_117_30 rfl (r_iln xc_117_32 rfl (r_ias xc_117_33 b_37 t_37 ?_ (r_aln xc_117_34 rfl (r_get xc_117_35 xf_117_13 g_6_5 (r_bi xc_117_38 kb_60 (r_iln xc_117_40 rfl (r_iadd xc_117_41 (r_aln xc_117_42 rfl (r_get xc_117_43 xf_117_13 g_6_5 (r_il xc_117_46 rfl (r_ia xc_117_48 b_24 ?_ (r_ias xc_117_49 b_24 t_24 ?_ (r_aln xc_117_50 rfl (r_get xc_117_51 xf_117_16 g_6_6 (r_bi xc_117_54 kb_60 (r_iln xc_117_56 rfl (r_iadd xc_117_57 (r_aln xc_117_58 rfl (r_get xc_117_59 xf_117_16 g_6_6 (r_il xc_117_62 rfl (r_ia xc_117_64 b_25 ?_ (r_ias xc_117_65 b_25 t_25 ?_ (r_aln xc_117_66 rfl (r_get xc_117_67 xf_117_19 g_6_7 (r_bi xc_117_70 kb_60 (r_iln xc_117_72 rfl (r_iadd xc_117_73 (r_aln xc_117_74 rfl (r_get xc_117_75 xf_117_19 g_6_7 (r_il xc_117_78 rfl (r_ia xc_117_80 b_26 ?_ (r_ias xc_117_81 b_26 t_26 ?_ (r_aln xc_117_82 rfl (r_get xc_117_83 xf_117_22 g_6_8 (r_bi xc_117_86 kb_60 (r_iln xc_117_88 rfl (r_iadd xc_117_89 (r_aln xc_117_90 rfl (r_get xc_117_91 xf_117_22 g_6_8 (r_il xc_117_94 rfl (r_ia xc_117_96 b_27 ?_ (r_ias xc_117_97 b_27 t_27 ?_ (r_aln xc_117_98 rfl (r_get xc_117_99 xf_117_25 g_6_9 (r_bi xc_117_102 kb_60 (r_iln xc_117_104 rfl (r_iadd xc_117_105 (r_aln xc_117_106 rfl (r_get xc_117_107 xf_117_25 g_6_9 (r_il xc_117_110 rfl (r_ia xc_117_112 b_28 ?_ (r_ias xc_117_113 b_28 t_28 ?_ (r_aln xc_117_114 rfl (r_get xc_117_115 xf_117_28 g_6_10 (r_bi xc_117_118 kb_60 (r_iln xc_117_120 rfl (r_iadd xc_117_121 (r_aln xc_117_122 rfl (r_get xc_117_123 xf_117_28 g_6_10 (r_il xc_117_126 rfl (r_ia xc_117_128 b_29 ?_ (r_ias xc_117_129 b_29 t_29 ?_ (r_ic xc_117_130 kc_0 (r_is [_, _, _, _, _, _] xc_117_131 rfl rfl ?_)))))))))))))))))))))))))))))))))))))))))))))))))))))))))))))))))))))))))) (fun hc12 => (r_bi xc_117_255 kb_60 (r_is [_, _, _, _, _, _] xc_117_257 rfl rfl ?_)))))
    iterate 15 (· rw [kI_lt (by omega) (by omega)] at hc12; omega)
    · refine (L_na2 (a := a') hN hE ns.length 0 a' (by omega) (fun _ _ _ => rfl) (fun _ _ => ⟨rfl, rfl⟩) (fun k v hk => by omega)).mono (fun q hq => ?_)
      obtain ⟨a2, e, hM, hf2⟩ := hq
      exact ⟨a2, e, hM, fun j hj => by rw [hf2 j (by omega) (by omega), hf j hj, u_n _ _ (by omega)]⟩
/-- what the model's read leaves -/
def MRP (w : Nat → Nat → Int64) (y : Nat → Int64) (g : List pE) (z : Nat → Int32) (a : Nat → Nat → Int32) (o : Nat ⊕ (List pN × Nat)) (q : pR) : Prop := match o with
  | .inl b => ∃ z' a', q = (.inl (some (.int (-1 - nI b))), hp z' a' w y g) ∧ z' 7 = nI 0 ∧ z' 13 = nI 0 ∧ z' 14 = nI 0 ∧ (∀ k, k < 7 ∨ 16 < k → z' k = z k) ∧ ∀ k, k < 15 ∨ 26 < k → a' k = a k
  | .inr (ns, mx) => ∃ z' a', q = (.inl (some (.int (nI ns.length))), hp z' a' w y g) ∧ z' 7 = nI 0 ∧ z' 13 = nI ns.length ∧ z' 14 = nI mx ∧ Mp a' ns ∧ (∀ k, k < 7 ∨ 16 < k → z' k = z k) ∧ ∀ k, k < 15 ∨ 28 < k → a' k = a k
theorem M_readM {a : Nat → Nat → Int32} {n : Nat} (ht : TX (a 14) n) (h7 : z 7 = nI n) (hn : n ≤ 300) : p_M X 7 95 [.ref 22] (hp z a w y g) (MRP w y g z a (rdS (a 14) n)) := by
  refine (r_in xin_95 (r_aln xc_95_0 rfl (r_ic xc_95_1 kc_0 (r_put xc_95_2 xf_95_73 rfl s_6_4 (r_aln xc_95_5 rfl (r_ic xc_95_6 kc_0 (r_put xc_95_7 xf_95_80 rfl s_6_2 (r_aln xc_95_10 rfl (r_ic xc_95_11 kc_m1 (r_put xc_95_12 xf_95_83 rfl s_6_3 (r_aln xc_95_15 rfl (r_ic xc_95_16 kc_0 (r_put xc_95_17 xf_95_113 rfl s_6_13 (r_aln xc_95_20 rfl (r_ic xc_95_21 kc_0 (r_put xc_95_22 xf_95_110 rfl s_6_14 (r_aln xc_95_25 rfl (r_ic xc_95_26 kc_0 (r_put xc_95_27 xf_95_174 rfl s_6_15 (r_aln xc_95_30 rfl (r_ic xc_95_31 kc_0 (r_put xc_95_32 xf_95_135 rfl s_6_17 (r_aln xc_95_35 rfl (r_ic xc_95_36 kc_0 (r_put xc_95_37 xf_95_177 rfl s_6_16 (r_aln xc_95_40 rfl (r_ic xc_95_41 kc_0 (r_put xc_95_42 xf_95_132 rfl s_6_22 (r_aln xc_95_45 rfl (r_ic xc_95_46 kc_0 (r_ic xc_95_47 kc_0 ?_)))))))))))))))))))))))))))))))
  refine (r_c0 xc_95_48 xm_95_48 rfl xrc_96 rfl (p_M.up (M_opens_y (dd := 0) (mx := 0) rfl (by omega) rfl (by omega)) (by omega)) (r_ic xc_95_51 kc_1 (r_isn [_, _, _, _] xc_95_52 rfl rfl (r_ic xc_95_53 kc_1 (r_isn [_, _, _, _] xc_95_54 rfl rfl ?_)))))
  have zk : ∀ k, k < 7 ∨ 16 < k → u_ (u_ (u_ (u_ (u_ (u_ (u_ (u_ (u_ (u_ (u_ z 10 (nI 0)) 8 (nI 0)) 9 (-1)) 11 (nI 0)) 12 (nI 0)) 13 (nI 0)) 15 (nI 0)) 14 (nI 0)) 16 (nI 0)) 16 (nI (0 + 1))) 15 (nI (max 0 0)) k = z k := fun k hk => by
    rw [u_n _ _ (by omega), u_n _ _ (by omega), u_n _ _ (by omega), u_n _ _ (by omega), u_n _ _ (by omega), u_n _ _ (by omega), u_n _ _ (by omega), u_n _ _ (by omega), u_n _ _ (by omega), u_n _ _ (by omega), u_n _ _ (by omega)]
  have hC : MC (a 14) n 0 0 0 0 0 (u_ (u_ (u_ (u_ (u_ (u_ (u_ (u_ (u_ (u_ (u_ z 10 (nI 0)) 8 (nI 0)) 9 (-1)) 11 (nI 0)) 12 (nI 0)) 13 (nI 0)) 15 (nI 0)) 14 (nI 0)) 16 (nI 0)) 16 (nI (0 + 1))) 15 (nI (max 0 0))) (pf a 0 (nI 0)) := ⟨h7, rfl, rfl, rfl, rfl, rfl, rfl, rfl, hn, by omega, by omega, by omega, by omega, by omega⟩
  have z13 : u_ (u_ (u_ (u_ (u_ (u_ (u_ (u_ (u_ (u_ (u_ z 10 (nI 0)) 8 (nI 0)) 9 (-1)) 11 (nI 0)) 12 (nI 0)) 13 (nI 0)) 15 (nI 0)) 14 (nI 0)) 16 (nI 0)) 16 (nI (0 + 1))) 15 (nI (max 0 0)) 13 = nI 0 := rfl
  have z14 : u_ (u_ (u_ (u_ (u_ (u_ (u_ (u_ (u_ (u_ (u_ z 10 (nI 0)) 8 (nI 0)) 9 (-1)) 11 (nI 0)) 12 (nI 0)) 13 (nI 0)) 15 (nI 0)) 14 (nI 0)) 16 (nI 0)) 16 (nI (0 + 1))) 15 (nI (max 0 0)) 14 = nI 0 := rfl
  generalize u_ (u_ (u_ (u_ (u_ (u_ (u_ (u_ (u_ (u_ (u_ z 10 (nI 0)) 8 (nI 0)) 9 (-1)) 11 (nI 0)) 12 (nI 0)) 13 (nI 0)) 15 (nI 0)) 14 (nI 0)) 16 (nI 0)) 16 (nI (0 + 1))) 15 (nI (max 0 0)) = z1 at zk hC z13 z14
  have pk : ∀ k, k < 15 ∨ 26 < k → pf a 0 (nI 0) k = a k := fun k hk => by
    unfold pf
    rw [u_n _ _ (by omega), u_n _ _ (by omega), u_n _ _ (by omega), u_n _ _ (by omega)]
  have p26 : pf a 0 (nI 0) 26 0 = nI 0 := show upd (a 26) 0 (nI 0) 0 = nI 0 from up_s _ _ _
  have p23 : pf a 0 (nI 0) 23 0 = nI 0 := show upd (a 23) 0 (nI 0) 0 = nI 0 from up_s _ _ _
  obtain ⟨res, hr⟩ := sR_tot (a 14) n
  have hk := GOR_sR (a 14) n (n + 1) 0 0 0 0 res (by omega) (by omega) (by omega) (by omega) hr
  have fail : ∀ bd, bd ≤ n → FC w y g (MRP w y g z a (.inl bd)) z1 (pf a 0 (nI 0)) bd := fun bd hbd => ⟨by omega, fun z' a' e9 ez ea => ⟨_, a', rfl, rfl, (ez 13 (by omega)).trans z13, (ez 14 (by omega)).trans z14, fun k hk => by rw [u_n _ _ (by omega), ez k (by omega), zk k hk], fun k hk => (ea k hk).trans (pk k hk)⟩⟩
  unfold rdS
  rw [hr]
  refine M_simR (X := X) (w := w) (y := y) (g := g) ht (n + 1) _ 0 0 0 0 0 z1 _ res hC p26 hr ?_
  cases res with
  | inl bd => exact fail bd hk
  | inr s =>
    obtain ⟨q, ns, mx⟩ := s
    obtain ⟨_, gq, gc, _, gm, gt, _⟩ := hk
    intro p' z' a' hpq hsk hC' hz' hk' e23 e24 e25 e26 hm
    obtain ⟨i7, i8, i9, i11, i12, i15, i16, i14, _, iq, ic, im, _, ib⟩ := id hC'
    have hidq : skn cB (a 14) n q = q := by rw [← hpq]; exact skn_idem cB (a 14) iq
    have hpq3 : skn cB (a' 14) n p' = q := by rw [i14]; exact hpq
    have hb3 := skn_ge cB (a 14) iq
    rw [hpq] at hb3
    dsimp only
    rw [hidq]
    by_cases hend : q = n
    · rw [p_if_t hend]
      have hs : sg (a' 14) n (skn cB (a' 14) n p') = -1 := by rw [hpq3, i14, sg_m1 ht hb3.2]; exact hend
      refine L_ends i9 i7 i8 hn iq i16 hs ?_
      refine (r_aln xc_95_124 rfl (r_ic xc_95_125 kc_0 (r_put xc_95_126 xf_95_77 rfl s_6_1 (r_aln xc_95_129 rfl ?_))))
      refine (r_cv xc_95_130 xm_95_130 rfl xrc_98 rfl (p_M.up (M_fine_y i9) (by omega)) (r_zne xc_95_133 xj_95_133 (fun hc133 => (r_ic xc_95_136 kc_m1 (r_aln xc_95_137 rfl (r_get xc_95_138 xf_95_83 g_6_3 (r_isub xc_95_141 (r_ri xc_95_142 xrt_95 ?_)))))) (fun hc133 => (r_aln xc_95_143 rfl (r_aln xc_95_144 rfl (r_get xc_95_145 xf_95_43 g_6_20 (r_ic xc_95_148 kc_0 (r_ia xc_95_149 b_34 ?_ ?_))))))))
      · exact absurd hc133 (by decide)
      · exact kI_in (by omega) (by omega)
      · have e0 : a' 25 (nI 0).toNatClampNeg = nI (ns.length - 1) := by
          rw [kI_cl (by omega), e25]; congr 1; omega
        rw [e0]
        refine (r_cq xc_95_150 xm_95_150 rfl xrc_117 rfl (p_M.up (M_numberAll hm (by omega)) (by omega)) (fun v h1 hP => ?_) (fun _ _ h => by first | (obtain ⟨_, he, _⟩ := h; cases he; done) | (obtain ⟨_, he⟩ := h; cases he; done) | (obtain ⟨_, _, he, _⟩ := h; cases he; done) | (obtain ⟨_, _, _, he, _⟩ := h; cases he; done) | (simp only [Prod.mk.injEq, reduceCtorEq, false_and, exists_false] at h)))
        obtain ⟨a2, he, hM, hf⟩ := hP
        cases he
        refine (r_aln xc_95_153 rfl (r_aln xc_95_154 rfl (r_get xc_95_155 xf_95_135 g_6_17 (r_put xc_95_158 xf_95_177 rfl s_6_16 (r_aln xc_95_161 rfl (r_get xc_95_162 xf_95_174 g_6_15 (r_ri xc_95_165 xrt_95 ?_)))))))
        refine ⟨_, a2, rfl, rfl, rfl, i15, hM, fun k hk => ?_, fun k hk => ?_⟩
        · rw [u_n _ _ (by omega), u_n _ _ (by omega), u_n _ _ (by omega), u_n _ _ (by omega), hz' k (by omega), zk k hk]
        · rw [hf k (by omega), hk'.1 k (by omega), pk k (by omega)]
    · rw [p_if_f hend]
      have hsn : ¬ sg (a' 14) n (skn cB (a' 14) n p') = -1 := by rw [hpq3, i14, sg_m1 ht hb3.2]; exact hend
      refine L_behind i9 i7 i8 hn iq (Or.inl hsn) ?_
      rw [hpq3]
      have hq3 : skn cB (a' 14) n q = q := by rw [i14]; exact hidq
      refine p_mono (p_M.up (d' := 6) (MB_fail (p := q) (deep := 0) (k := 0) (by rw [i14]; exact ht) i9 i7 rfl hn hb3.2 i16 (by omega) (e23.trans p23) (by omega) (by rw [i14, hidq]; exact hsk) (Or.inl (by rw [hq3]; omega)) (fun h => by omega) (fun h => by omega)) (by omega)) (fun q' hq => ?_)
      rw [hq3] at hq
      exact ⟨_, _, _, hq, L_exit (fail q hb3.2) rfl (((hz'.u (by omega)).u (by omega)).u (by omega)) hk'.1⟩
end MREAD2
