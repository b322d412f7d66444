/-! ===== the class reads rows and entry ===== -/
def lI (rs : List (Nat × Nat)) : Int32 := match rs.getLast? with
  | none => -1
  | some q => nI q.1
def SR (a : Nat → Nat → Int32) (r i fr : Nat) (rs : List (Nat × Nat)) : Prop := a 6 i = nI rs.length ∧ (rs ≠ [] → a 5 i = nI fr) ∧ fr + rs.length = r ∧ ∀ k q, rs[k]? = some q → a 7 (fr + k) = nI q.1 ∧ a 8 (fr + k) = nI q.2
/-- what stays of the nodes as rows come to node i -/
def SK (a a' : Nat → Nat → Int32) (i r : Nat) : Prop := (∀ j, 9 ≤ j → a' j = a j) ∧ (∀ j, j ≠ i → nv a' j = nv a j) ∧ (∀ k, k ≤ 4 → a' k i = a k i) ∧ RW a a' r
theorem SK.rf (a : Nat → Nat → Int32) (i r : Nat) : SK a a i r := ⟨fun _ _ => rfl, fun _ _ => rfl, fun _ _ => rfl, fun _ _ => ⟨rfl, rfl⟩⟩
theorem SK.tr {a a1 a2 : Nat → Nat → Int32} {i r r1 : Nat} (h : SK a a1 i r) (h2 : SK a1 a2 i r1) (hr : r ≤ r1) : SK a a2 i r :=
  ⟨fun j hj => (h2.1 j hj).trans (h.1 j hj), fun j hj => (h2.2.1 j hj).trans (h.2.1 j hj), fun k hk => (h2.2.2.1 k hk).trans (h.2.2.1 k hk), fun j hj => ⟨(h2.2.2.2 j (by omega)).1.trans (h.2.2.2 j hj).1, (h2.2.2.2 j (by omega)).2.trans (h.2.2.2 j hj).2⟩⟩
theorem SR_add {a : Nat → Nat → Int32} {r i fr x x2 : Nat} {rs : List (Nat × Nat)} (h : SR a r i fr rs) (hl : rs.length ≤ 6) {a' : Nat → Nat → Int32} (ha : a' = u_ (u_ (u_ (if a 6 i = nI 0 then u_ a 5 (upd (a 5) i (nI r)) else a) 7 (upd (a 7) r (nI x))) 8 (upd (a 8) r (nI x2))) 6 (upd (a 6) i (a 6 i + nI 1))) :
    SR a' (r + 1) i fr (rs ++ [(x, x2)]) ∧ SK a a' i r := by
  obtain ⟨h6, h5, hr, h78⟩ := h
  have e6 : a' 6 = upd (a 6) i (a 6 i + nI 1) := by rw [ha]; rfl
  have e7 : a' 7 = upd (a 7) r (nI x) := by rw [ha]; rfl
  have e8 : a' 8 = upd (a 8) r (nI x2) := by rw [ha]; rfl
  have eo : ∀ k, k ≠ 5 → k ≠ 6 → k ≠ 7 → k ≠ 8 → a' k = a k := by
    intro k k5 k6 k7 k8
    rw [ha, u_n _ _ k6, u_n _ _ k8, u_n _ _ k7]
    split
    · exact u_n _ _ k5
    · rfl
  have e5 : a' 5 i = nI fr ∧ ∀ j, j ≠ i → a' 5 j = a 5 j := by
    have : a' 5 = (if a 6 i = nI 0 then u_ a 5 (upd (a 5) i (nI r)) else a) 5 := by rw [ha]; rfl
    rw [this]
    by_cases hc : a 6 i = nI 0
    · rw [if_pos hc, u_s]
      rw [h6, kI_inj (by omega) (by omega)] at hc
      refine ⟨?_, fun j hj => up_n _ _ hj⟩
      rw [up_s]
      congr 1; omega
    · rw [if_neg hc]
      refine ⟨h5 (fun h => hc (by rw [h6, h]; rfl)), fun _ _ => rfl⟩
  refine ⟨⟨?_, fun _ => e5.1, by simp; omega, fun k q hk => ?_⟩, fun j hj => eo j (by omega) (by omega) (by omega) (by omega), fun j hj => ?_, fun k hk => by rw [eo k (by omega) (by omega) (by omega) (by omega)], fun j hj => ?_⟩
  · rw [e6, up_s, h6, kI_add]; simp
  · by_cases hkl : k < rs.length
    · rw [List.getElem?_append_left hkl] at hk
      rw [e7, e8, up_n _ _ (by omega), up_n _ _ (by omega)]
      exact h78 k q hk
    · rw [List.getElem?_append_right (by omega)] at hk
      have hz : k - rs.length < 1 := getElem?_lt hk
      have hk0 : k = rs.length := by omega
      subst hk0
      rw [Nat.sub_self] at hk
      cases hk
      rw [hr, e7, e8, up_s, up_s]
      exact ⟨rfl, rfl⟩
  · unfold nv
    rw [eo 0 (by omega) (by omega) (by omega) (by omega), eo 1 (by omega) (by omega) (by omega) (by omega), eo 2 (by omega) (by omega) (by omega) (by omega), eo 3 (by omega) (by omega) (by omega) (by omega), eo 4 (by omega) (by omega) (by omega) (by omega), e5.2 j hj, e6, up_n _ _ hj]
  · rw [e7, e8, up_n _ _ (by omega), up_n _ _ (by omega)]
    exact ⟨rfl, rfl⟩
theorem lI_lt {rs : List (Nat × Nat)} {b : Nat} (hB : ∀ q ∈ rs, q.1 < 1000000) (hb : b < 1000000) : lI rs < nI b ↔ ¬ ∃ r, rs.getLast? = some r ∧ b ≤ r.1 := by
  unfold lI
  cases h : rs.getLast? with
  | none =>
    refine ⟨fun _ => by simp, fun _ => ?_⟩
    show (-1 : Int32) < nI b
    rw [Int32.lt_iff_toInt_lt, nI_toInt (by omega)]
    have : (-1 : Int32).toInt = -1 := by decide
    omega
  | some q =>
    have := hB q (List.mem_of_getLast? h)
    dsimp only
    rw [kI_lt (by omega) (by omega)]
    constructor
    · rintro h1 ⟨r, h2, h3⟩
      cases h2
      omega
    · intro h1
      refine Nat.lt_of_not_le (fun h2 => h1 ⟨q, rfl, h2⟩)
theorem lI_snoc (rs : List (Nat × Nat)) (q : Nat × Nat) : lI (rs ++ [q]) = nI q.1 := by
  unfold lI
  rw [List.getLast?_concat]
def RPost (T : Nat → Int32) (n : Nat) (w : Nat → Nat → Int64) (y : Nat → Int64) (g : List pE) (z : Nat → Int32) (a : Nat → Nat → Int32) (cnt mx r i fr : Nat) (res : Nat ⊕ (Nat × List (Nat × Nat))) (q : pR) : Prop := match res with
  | .inl b => ∃ z' a', q = (.inl (some (.int (nI 0))), hp z' a' w y g) ∧ z' 5 = nI b ∧ CF z a z' a'
  | .inr (p', rs') => ∃ z' a' r', q = (.inl (some (.int (nI 1))), hp z' a' w y g) ∧ CR T n p' cnt mx r' z' a' ∧ CF z a z' a' ∧ r ≤ r' ∧ SK a a' i r ∧ SR a' r' i fr rs' ∧ rs' ≠ []
section ROWS
variable {X : pX} {n cnt mx i fr : Nat} {T : Nat → Int32} {w : Nat → Nat → Int64} {y : Nat → Int64} {g : List pE}
theorem L_rows (hi : i < cnt) : ∀ f p rs r z a, f + rs.length = 7 → rs.length ≤ 6 → (∀ q ∈ rs, q.1 < 1000000) → CR T n p cnt mx r z a → SR a r i fr rs →
    p_E X 2 43 4 [some (.ref 11), some (.int (nI i)), some (.int (lI rs)), some (.int (nI rs.length)), none, none, none] [] (hp z a w y g) (RPost T n w y g z a cnt mx r i fr (sRows T n f p rs)) := by
  intro f
  induction f with
  | zero => intro p rs r z a hf hl; omega
  | succ f ih =>
    intro p rs r z a hf hl hB hC hS
    obtain ⟨h3, h4, h1, h2, h0, rfl, hn, hq, hs, hm, hr⟩ := id hC
    have hb := wB_le (T := a 9) hq
    have hid : wB (a 9) n (skn cB (a 9) n p) = wB (a 9) n p := skn_idem cB (a 9) hq
    have hidE : wE (a 9) n (skn cB (a 9) n p) = wE (a 9) n p := by unfold wE; rw [hid]
    have hidG : wG (a 9) n (skn cB (a 9) n p) ↔ wG (a 9) n p := by unfold wG; rw [hid, hidE]
    have hidV : wV (a 9) n (skn cB (a 9) n p) = wV (a 9) n p := by unfold wV; rw [hid, hidE]
    have hsl : skn cB (a 9) n p ≤ n := (skn_ge cB (a 9) hq).2
    refine (r_iln xc_43_4 rfl (r_bi xc_43_5 kb_6 (r_cgt xc_43_7 xj_43_7 (fun hc7 => (r_aln xc_43_122 rfl (r_aln xc_43_123 rfl (r_get xc_43_124 xf_43_28 g_1_3 ?_)))) (fun hc7 => (r_aln xc_43_10 rfl ?_)))))
    · rw [kI_lt (by omega) (by omega)] at hc7; omega
    · refine (r_c0 xc_43_11 xm_43_11 rfl xrc_14 rfl (p_M.up (M_skipB h3 h4 hn hq) (by omega)) (r_aln xc_43_14 rfl (r_get xc_43_15 xf_43_28 g_1_3 (r_is [_, _, _, _, _, _, _] xc_43_18 rfl rfl (r_aln xc_43_20 rfl ?_)))))
      by_cases hG : wG (a 9) n p
      · have hV := wV_lt hG
        refine (r_cv xc_43_21 xm_43_21 rfl xrc_41 rfl (M_readWhole_y (p := skn cB (a 9) n p) h3 rfl hn hsl (hidG.mpr hG)) (r_is [_, _, _, _, _, _, _] xc_43_24 rfl rfl (r_il xc_43_26 rfl (r_ic xc_43_28 kc_m1 (r_ceq xc_43_29 xj_43_29 (fun hc29 => (r_ic xc_43_41 kc_0 (r_rz xc_43_42 xrt_43 ?_ ?_))) (fun hc29 => (r_aln xc_43_32 rfl (r_bi xc_43_33 kb_61 ?_))))))))
        · exact Or.inl rfl
        · rw [hidV] at hc29; exact absurd hc29 (kI_m1 (by omega))
        · rw [u_u, hidE]
          have hq1 := rQ_le (T := a 9) hq
          by_cases hE : sg (a 9) n (rQ (a 9) n p) = nI 61
          · have hlt := (sg_lt (by decide) hE).1
            refine (r_cv xc_43_35 xm_43_35 rfl xrc_20 rfl (M_readSign_y (p := wE (a 9) n p) (c := nI 61) h3 rfl hn hb.2.2 hE) (r_zne xc_43_38 xj_43_38 (fun hc38 => (r_ic xc_43_41 kc_0 (r_rz xc_43_42 xrt_43 ?_ ?_))) (fun hc38 => (r_aln xc_43_43 rfl ?_))))
            · exact Or.inl rfl
            · exact absurd hc38 (by decide)
            · rw [u_u]
              have hb2 := wB_le (T := a 9) (p := rQ (a 9) n p + 1) (n := n) (by omega)
              by_cases hG2 : wG (a 9) n (rQ (a 9) n p + 1)
              · have hV2 := wV_lt hG2
                refine (r_cv xc_43_44 xm_43_44 rfl xrc_41 rfl (M_readWhole_y (p := rQ (a 9) n p + 1) h3 rfl hn (by omega) hG2) (r_is [_, _, _, _, _, _, _] xc_43_47 rfl rfl (r_il xc_43_49 rfl (r_ic xc_43_51 kc_m1 (r_cne xc_43_52 xj_43_52 (fun hc52 => (r_ic xc_43_55 kc_0 (r_rz xc_43_56 xrt_43 ?_ ?_))) (fun hc52 => (r_iln xc_43_57 rfl (r_bi xc_43_58 kb_6 (r_ceq xc_43_60 xj_43_60 (fun hc60 => (r_aln xc_43_69 rfl (r_il xc_43_70 rfl ?_))) (fun hc60 => (r_il xc_43_63 rfl (r_iln xc_43_65 rfl (r_cgt xc_43_66 xj_43_66 (fun hc66 => (r_aln xc_43_76 rfl (r_get xc_43_77 xf_43_15 g_1_0 (r_iln xc_43_80 rfl (r_il xc_43_81 rfl (r_il xc_43_83 rfl ?_)))))) (fun hc66 => (r_aln xc_43_69 rfl (r_il xc_43_70 rfl ?_))))))))))))))))
                · exact Or.inl rfl
                · exact absurd hc52 (kI_m1 (by omega))
                · refine (r_cv xc_43_72 xm_43_72 rfl xrc_17 rfl (p_M.up M_refuse (by omega)) (r_rz xc_43_75 xrt_43 ?_ ?_))
                  · exact Or.inl rfl
                  · rw [kI_inj (by omega) (by omega)] at hc60
                    unfold sRows
                    rw [p_if_f (fun h => h hG), p_if_f (fun h => h hE), p_if_f (fun h => h hG2), p_if_t (show rBad (a 9) n p rs from Or.inl hc60)]
                    exact ⟨_, a, rfl, rfl, (((CF.rf z a).u (by omega) (by omega)).u (by omega) (by omega)).u (by omega) (by omega)⟩
                · rw [kI_inj (by omega) (by omega)] at hc60
                  rw [hidV, lI_lt hB (by omega)] at hc66
                  have hnb : ¬ rBad (a 9) n p rs := by
                    rintro (h | h)
                    · exact hc60 h
                    · exact hc66 h
                  rw [u_u]
                  have hr2 : r + 1 ≤ wE (a 9) n p := by have := hG.1; omega
                  refine (r_c0 xc_43_85 xm_43_85 rfl xrc_44 rfl (M_addRow (r := r) (s := cnt) h0 (by omega) h1 hs hi) (r_il xc_43_88 rfl (r_isn [_, _, _, _, _, _, _] xc_43_90 rfl rfl (r_aln xc_43_91 rfl ?_))))
                  rw [hidV]
                  obtain ⟨hS2, hK2⟩ := SR_add hS hl (x := wV (a 9) n p) (x2 := wV (a 9) n (rQ (a 9) n p + 1)) rfl
                  have h9 : ∀ a', a' = u_ (u_ (u_ (if a 6 i = nI 0 then u_ a 5 (upd (a 5) i (nI r)) else a) 7 (upd (a 7) r (nI (wV (a 9) n p)))) 8 (upd (a 8) r (nI (wV (a 9) n (rQ (a 9) n p + 1))))) 6 (upd (a 6) i (a 6 i + nI 1)) → SR a' (r + 1) i fr (rs ++ [rRow (a 9) n p]) → SK a a' i r →
                      p_E X 2 43 92 [some (.ref 11), some (.int (nI i)), some (.int (nI (wV (a 9) n p))), some (.int (nI rs.length)), some (.int (nI (skn cB (a 9) n p))), some (.int (nI (wV (a 9) n p))), some (.int (nI (wV (a 9) n (rQ (a 9) n p + 1))))] [.ref 11] (hp (u_ (u_ z 4 (nI (wE (a 9) n (rQ (a 9) n p + 1)))) 0 (nI (r + 1))) a' w y g) (RPost (a 9) n w y g z a cnt mx r i fr (sRows (a 9) n (f + 1) p rs)) := by
                    intro a' _ hS2 hK2
                    have e9 : a' 9 = a 9 := hK2.1 9 (by omega)
                    have hz1 := skn_ge cB (a 9) hb2.2.2
                    have e4 : u_ (u_ z 4 (nI (wE (a 9) n (rQ (a 9) n p + 1)))) 0 (nI (r + 1)) = u_ (u_ z 0 (nI (r + 1))) 4 (nI (wE (a 9) n (rQ (a 9) n p + 1))) := u_c _ _ _ (by omega)
                    rw [e4]
                    refine (r_c0 xc_43_92 xm_43_92 rfl xrc_14 rfl (p_M.up (M_skipB (p := wE (a 9) n (rQ (a 9) n p + 1)) h3 rfl hn hb2.2.2) (by omega)) (r_aln xc_43_95 rfl ?_))
                    rw [u_u, e9]
                    refine (r_cv xc_43_96 xm_43_96 rfl xrc_15 rfl (p_M.up (M_signHere (p := rZ (a 9) n p) h3 rfl hn hz1.2) (by omega)) (r_bi xc_43_99 kb_44 (r_ceq xc_43_101 xj_43_101 (fun hc101 => (r_aln xc_43_106 rfl (r_dup xc_43_107 rfl (r_get xc_43_108 xf_43_28 g_1_3 (r_ic xc_43_111 kc_1 (r_iadd xc_43_112 (r_put xc_43_113 xf_43_28 rfl s_1_3 (r_inc [_, _, _, _, _, _, _] xc_43_116 rfl rfl (ki_1 _) rfl (r_go xc_43_119 xj_43_119 ?_))))))))) (fun hc101 => (r_ic xc_43_104 kc_1 (r_rz xc_43_105 xrt_43 ?_ ?_))))))
                    · rw [e9] at hc101
                      have hlt3 := (sg_lt (by decide) hc101).1
                      have e5 : u_ (u_ z 0 (nI (r + 1))) 4 (nI (skn cB (a 9) n (wE (a 9) n (rQ (a 9) n p + 1)))) 4 + nI 1 = nI (rZ (a 9) n p + 1) := kI_add _ 1
                      rw [u_u, e5, kI_add]
                      have hlen : rs.length < 6 := by
                        refine Nat.lt_of_le_of_ne hl (fun h => hnb (Or.inl h))
                      refine R_fg [_, _, _, _, none, none, none] (p_lle_eq (p_lle_eq (p_lle_eq (p_lle_eq (p_lle_no (p_lle_no (p_lle_no p_lle_nil))))))) ?_
                      have hC2 : CR (a 9) n (rZ (a 9) n p + 1) cnt mx (r + 1) (u_ (u_ z 0 (nI (r + 1))) 4 (nI (rZ (a 9) n p + 1))) a' := by
                        refine ⟨h3, rfl, h1, h2, rfl, e9, hn, by omega, hs, hm, ?_⟩
                        have : wE (a 9) n (rQ (a 9) n p + 1) ≤ rZ (a 9) n p := hz1.1
                        omega
                      have hi2 := ih (rZ (a 9) n p + 1) (rs ++ [rRow (a 9) n p]) (r + 1) _ a' (by simp; omega) (by simp; omega) (by intro q hq; rcases List.mem_append.mp hq with h | h; exact hB q h; simp only [List.mem_singleton] at h; rw [h]; exact hV) hC2 hS2
                      rw [lI_snoc, List.length_append] at hi2
                      refine hi2.mono (fun q hq => ?_)
                      have hsr : sRows (a 9) n (f + 1) p rs = sRows (a 9) n f (rZ (a 9) n p + 1) (rs ++ [rRow (a 9) n p]) := by
                        conv => lhs; unfold sRows
                        rw [p_if_f (fun h => h hG), p_if_f (fun h => h hE), p_if_f (fun h => h hG2), p_if_f hnb, p_if_t hc101]
                      rw [hsr]
                      have hF1 : CF z a (u_ (u_ z 0 (nI (r + 1))) 4 (nI (rZ (a 9) n p + 1))) a' := (((CF.rf z a).u (by omega) (by omega)).u (by omega) (by omega)).tr ⟨fun _ _ => rfl, rfl, hK2.1⟩
                      generalize sRows (a 9) n f (rZ (a 9) n p + 1) (rs ++ [rRow (a 9) n p]) = res at hq
                      cases res with
                      | inl b =>
                        obtain ⟨z', a2, g1, g2, g3⟩ := hq
                        exact ⟨z', a2, g1, g2, hF1.tr g3⟩
                      | inr q' =>
                        obtain ⟨p', rs'⟩ := q'
                        obtain ⟨z', a2, r', g1, g2, g3, g4, g5, g6, g7⟩ := hq
                        exact ⟨z', a2, r', g1, g2, hF1.tr g3, by omega, hK2.tr g5 (by omega), g6, g7⟩
                    · exact Or.inr rfl
                    · rw [e9] at hc101
                      unfold sRows
                      rw [p_if_f (fun h => h hG), p_if_f (fun h => h hE), p_if_f (fun h => h hG2), p_if_f hnb, p_if_f hc101]
                      refine ⟨_, a', r + 1, rfl, ⟨h3, rfl, h1, h2, rfl, e9, hn, hz1.2, hs, hm, ?_⟩, (((CF.rf z a).u (by omega) (by omega)).u (by omega) (by omega)).tr ⟨fun _ _ => rfl, rfl, hK2.1⟩, by omega, hK2, hS2, by simp⟩
                      have : wE (a 9) n (rQ (a 9) n p + 1) ≤ rZ (a 9) n p := hz1.1
                      omega
                  exact h9 _ rfl hS2 hK2
                · rw [hidV] at hc66
                  rw [kI_inj (by omega) (by omega)] at hc60
                  have hb : rBad (a 9) n p rs := by
                    refine Or.inr (Classical.byContradiction (fun h => hc66 ?_))
                    exact (lI_lt hB (by omega)).mpr h
                  refine (r_cv xc_43_72 xm_43_72 rfl xrc_17 rfl (p_M.up M_refuse (by omega)) (r_rz xc_43_75 xrt_43 ?_ ?_))
                  · exact Or.inl rfl
                  · unfold sRows
                    rw [p_if_f (fun h => h hG), p_if_f (fun h => h hE), p_if_f (fun h => h hG2), p_if_t hb]
                    exact ⟨_, a, rfl, rfl, (((CF.rf z a).u (by omega) (by omega)).u (by omega) (by omega)).u (by omega) (by omega)⟩
              · refine (r_cv xc_43_44 xm_43_44 rfl xrc_41 rfl (M_readWhole_n (p := rQ (a 9) n p + 1) h3 rfl hn (by omega) hG2) (r_is [_, _, _, _, _, _, _] xc_43_47 rfl rfl (r_il xc_43_49 rfl (r_ic xc_43_51 kc_m1 (r_cne xc_43_52 xj_43_52 (fun hc52 => (r_ic xc_43_55 kc_0 (r_rz xc_43_56 xrt_43 ?_ ?_))) (fun hc52 => (r_iln xc_43_57 rfl (r_bi xc_43_58 kb_6 (r_ceq xc_43_60 xj_43_60 (fun hc60 => (r_aln xc_43_69 rfl (r_il xc_43_70 rfl ?_))) (fun hc60 => (r_il xc_43_63 rfl (r_iln xc_43_65 rfl (r_cgt xc_43_66 xj_43_66 (fun hc66 => (r_aln xc_43_76 rfl (r_get xc_43_77 xf_43_15 g_1_0 (r_iln xc_43_80 rfl (r_il xc_43_81 rfl (r_il xc_43_83 rfl ?_)))))) (fun hc66 => (r_aln xc_43_69 rfl (r_il xc_43_70 rfl ?_))))))))))))))))
                · exact Or.inl rfl
                · unfold sRows
                  rw [p_if_f (fun h => h hG), p_if_f (fun h => h hE), p_if_t hG2]
                  exact ⟨_, a, rfl, rfl, (((CF.rf z a).u (by omega) (by omega)).u (by omega) (by omega)).u (by omega) (by omega)⟩
                · exact absurd rfl hc52
                · exact absurd rfl hc52
                · exact absurd rfl hc52
          · refine (r_cv xc_43_35 xm_43_35 rfl xrc_20 rfl (M_readSign_n (p := wE (a 9) n p) (c := nI 61) h3 rfl hn hb.2.2 hE) (r_zne xc_43_38 xj_43_38 (fun hc38 => (r_ic xc_43_41 kc_0 (r_rz xc_43_42 xrt_43 ?_ ?_))) (fun hc38 => (r_aln xc_43_43 rfl ?_))))
            · exact Or.inl rfl
            · unfold sRows
              rw [p_if_f (fun h => h hG), p_if_t hE]
              exact ⟨_, a, rfl, rfl, (((CF.rf z a).u (by omega) (by omega)).u (by omega) (by omega)).u (by omega) (by omega)⟩
            · exact absurd rfl hc38
      · refine (r_cv xc_43_21 xm_43_21 rfl xrc_41 rfl (M_readWhole_n (p := skn cB (a 9) n p) h3 rfl hn hsl (fun h => hG (hidG.mp h))) (r_is [_, _, _, _, _, _, _] xc_43_24 rfl rfl (r_il xc_43_26 rfl (r_ic xc_43_28 kc_m1 (r_ceq xc_43_29 xj_43_29 (fun hc29 => (r_ic xc_43_41 kc_0 (r_rz xc_43_42 xrt_43 ?_ ?_))) (fun hc29 => (r_aln xc_43_32 rfl (r_bi xc_43_33 kb_61 ?_))))))))
        · exact Or.inl rfl
        · unfold sRows
          rw [p_if_t hG, hid]
          exact ⟨_, a, rfl, rfl, (((CF.rf z a).u (by omega) (by omega)).u (by omega) (by omega)).u (by omega) (by omega)⟩
        · exact absurd rfl hc29
end ROWS
