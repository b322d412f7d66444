/-! ===== the model's reader: steps, words, parts ===== -/
section MPART
variable {X : pX} {n b : Nat} {T : Nat → Int32} {w : Nat → Nat → Int64} {y : Nat → Int64} {g : List pE}
/-- the close of steps, where something is bad -/
theorem L_st42_b {Q : pR → Prop} {en : Int32} {bd : Nat} {z : Nat → Int32} {a : Nat → Nat → Int32} (h9 : z 9 = nI bd) (hb : bd < 1000) (hQ : Q (.inl (some (.int (nI b))), hp z a w y g)) : p_E X 4 106 42 [some (.ref 22), some (.int en), some (.int (nI b))] [] (hp z a w y g) Q := by
  refine (r_aln xc_106_42 rfl ?_)
  refine (r_cv xc_106_43 xm_106_43 rfl xrc_98 rfl (p_M.up (M_fine_n h9 hb) (by omega)) (r_zeq xc_106_46 xj_106_46 (fun hc46 => (r_aln xc_106_76 rfl (r_bi xc_106_77 kb_41 ?_))) (fun hc46 => (r_aln xc_106_49 rfl ?_))))
  · refine (r_c0 xc_106_79 xm_106_79 rfl xrc_107 rfl (p_M.up (M_take_b h9 hb) (by omega)) (r_iln xc_106_82 rfl (r_ri xc_106_83 xrt_106 ?_)))
    exact hQ
  · exact absurd rfl hc46
theorem L_rowsM {Q : pR → Prop} {en : Int32} (ht : TX T n) (hn : n ≤ 300) (hb : b < 60) : ∀ (f p : Nat) (rs : List (Nat × Nat)) (z : Nat → Int32) (a : Nat → Nat → Int32), f + rs.length = 7 → rs.length ≤ 6 → (∀ q ∈ rs, q.1 < 1000000 ∧ q.2 < 1000000) → a 14 = T → z 9 = -1 → z 7 = nI n → z 8 = nI p → p ≤ n → RS a b rs →
    (match sRows T n f p rs with
      | .inl bd => ∀ z' a', z' 9 = nI bd → (∀ k, k ≠ 8 → k ≠ 9 → z' k = z k) → RK a a' b → Q (.inl (some (.int (nI b))), hp z' a' w y g)
      | .inr (p3, rs') => (sg T n (skn cB T n p3) = nI 41 → ∀ z' a', z' 8 = nI (skn cB T n p3 + 1) → (∀ k, k ≠ 8 → z' k = z k) → RK a a' b → RS a' b rs' → Q (.inl (some (.int (nI b))), hp z' a' w y g)) ∧ (¬ sg T n (skn cB T n p3) = nI 41 → ∀ z' a', z' 9 = nI (skn cB T n p3) → (∀ k, k ≠ 8 → k ≠ 9 → z' k = z k) → RK a a' b → Q (.inl (some (.int (nI b))), hp z' a' w y g))) →
    p_M X 3 112 [.ref 22, .int (nI b)] (hp z a w y g) (fun q => ∃ h1, q = (.inl none, h1) ∧ p_E X 4 106 42 [some (.ref 22), some (.int en), some (.int (nI b))] [] h1 Q) := by
  intro f
  induction f with
  | zero => intro p rs z a hf hl; omega
  | succ f ih =>
    intro p rs z a hf hl hB he h9 h7 h8 hq hS hQ
    subst he
    have b1 := wB_le (T := a 14) hq
    have b2 := rQ_le (T := a 14) hq
    have bad : ∀ bd, bd ≤ n → ((¬ wG (a 14) n p ∧ bd = wB (a 14) n p) ∨ (wG (a 14) n p ∧ ¬ sg (a 14) n (rQ (a 14) n p) = nI 61 ∧ bd = rQ (a 14) n p) ∨ (wG (a 14) n p ∧ sg (a 14) n (rQ (a 14) n p) = nI 61 ∧ ¬ wG (a 14) n (rQ (a 14) n p + 1) ∧ bd = wB (a 14) n (rQ (a 14) n p + 1)) ∨ (wG (a 14) n p ∧ sg (a 14) n (rQ (a 14) n p) = nI 61 ∧ wG (a 14) n (rQ (a 14) n p + 1) ∧ rBad (a 14) n p rs ∧ bd = wB (a 14) n p)) → sRows (a 14) n (f + 1) p rs = .inl bd → p_M X 3 112 [.ref 22, .int (nI b)] (hp z a w y g) (fun q => ∃ h1, q = (.inl none, h1) ∧ p_E X 4 106 42 [some (.ref 22), some (.int en), some (.int (nI b))] [] h1 Q) := by
      intro bd hbd hc hs
      rw [hs] at hQ
      refine (M_row_n ht h9 h7 h8 hn hq hb hS hl (fun q hq => (hB q hq).1) hc).mono (fun q hq => ?_)
      obtain ⟨z', e, e9, ez⟩ := hq
      exact ⟨_, e, L_st42_b e9 (by omega) (hQ z' a e9 ez (RK.rf a b))⟩
    by_cases hG : wG (a 14) n p
    · by_cases hE : sg (a 14) n (rQ (a 14) n p) = nI 61
      · have hlt := (sg_lt (by decide) hE).1
        have b3 := wB_le (T := a 14) (p := rQ (a 14) n p + 1) (n := n) (by omega)
        by_cases hG2 : wG (a 14) n (rQ (a 14) n p + 1)
        · by_cases hbb : rBad (a 14) n p rs
          · refine bad (wB (a 14) n p) (by omega) (Or.inr (Or.inr (Or.inr ⟨hG, hE, hG2, hbb, rfl⟩))) ?_
            unfold sRows
            rw [p_if_f (fun h => h hG), p_if_f (fun h => h hE), p_if_f (fun h => h hG2), p_if_t hbb]
          · have hsr : sRows (a 14) n (f + 1) p rs = p_if (sg (a 14) n (rZ (a 14) n p) = nI 44) (sRows (a 14) n f (rZ (a 14) n p + 1) (rs ++ [rRow (a 14) n p])) (.inr (rZ (a 14) n p, rs ++ [rRow (a 14) n p])) := by
              conv => lhs; unfold sRows
              rw [p_if_f (fun h => h hG), p_if_f (fun h => h hE), p_if_f (fun h => h hG2), p_if_f hbb]
            rw [hsr] at hQ
            have hz1 : wE (a 14) n (rQ (a 14) n p + 1) ≤ rZ (a 14) n p ∧ rZ (a 14) n p ≤ n := skn_ge cB (a 14) b3.2.2
            have hidZ : skn cB (a 14) n (rZ (a 14) n p) = rZ (a 14) n p := skn_idem cB (a 14) b3.2.2
            refine (M_row_y ht h9 h7 h8 hn hq hb hS hl (fun q hq => (hB q hq).1) hG hE hG2 hbb).mono (fun q hq => ?_)
            obtain ⟨a', e, hK, hS'⟩ := hq
            refine ⟨_, e, ?_⟩
            have e14 : a' 14 = a 14 := hK.1 14 (by omega)
            refine (r_aln xc_106_42 rfl ?_)
            refine (r_cv xc_106_43 xm_106_43 rfl xrc_98 rfl (p_M.up (M_fine_y h9) (by omega)) (r_zeq xc_106_46 xj_106_46 (fun hc46 => (r_aln xc_106_76 rfl (r_bi xc_106_77 kb_41 ?_))) (fun hc46 => (r_aln xc_106_49 rfl ?_))))
            · exact absurd hc46 (by decide)
            · refine (r_cv xc_106_50 xm_106_50 rfl xrc_100 rfl (p_M.up (M_look (p := wE (a 14) n (rQ (a 14) n p + 1)) h7 rfl hn b3.2.2) (by omega)) (r_bi xc_106_53 kb_44 (r_cne xc_106_55 xj_106_55 (fun hc55 => (r_aln xc_106_58 rfl (r_dup xc_106_59 rfl (r_get xc_106_60 xf_106_80 g_6_2 (r_ic xc_106_63 kc_1 (r_iadd xc_106_64 (r_put xc_106_65 xf_106_80 rfl s_6_2 (r_aln xc_106_68 rfl (r_iln xc_106_69 rfl ?_))))))))) (fun hc55 => (r_aln xc_106_76 rfl (r_bi xc_106_77 kb_41 ?_))))))
              · rw [e14] at hc55
                have hc55 : sg (a 14) n (rZ (a 14) n p) = nI 44 := hc55
                have hlt2 := (sg_lt (by decide) hc55).1
                rw [p_if_t hc55] at hQ
                rw [e14]
                have e4 : u_ (u_ z 8 (nI (wE (a 14) n (rQ (a 14) n p + 1)))) 8 (nI (skn cB (a 14) n (wE (a 14) n (rQ (a 14) n p + 1)))) 8 + nI 1 = nI (rZ (a 14) n p + 1) := kI_add _ 1
                rw [e4, u_u, u_u]
                have hlen : rs.length < 6 := Nat.lt_of_le_of_ne hl (fun h => hbb (Or.inl h))
                have hi := ih (rZ (a 14) n p + 1) (rs ++ [rRow (a 14) n p]) (u_ z 8 (nI (rZ (a 14) n p + 1))) a' (by simp; omega) (by simp; omega) (by intro q hq; rcases List.mem_append.mp hq with h | h; exact hB q h; rw [List.mem_singleton.mp h]; exact ⟨wV_lt hG, wV_lt hG2⟩) e14 h9 h7 rfl (by omega) hS' (by
                  generalize sRows (a 14) n f (rZ (a 14) n p + 1) (rs ++ [rRow (a 14) n p]) = res at hQ
                  cases res with
                  | inl bd => exact fun z' a2 q1 q2 q3 => hQ z' a2 q1 (fun k h1 h2 => (q2 k h1 h2).trans (u_n _ _ h1)) (hK.tr q3)
                  | inr s =>
                    obtain ⟨p3, rs3⟩ := s
                    exact ⟨fun q0 z' a2 q1 q2 q3 q4 => hQ.1 q0 z' a2 q1 (fun k h1 => (q2 k h1).trans (u_n _ _ h1)) (hK.tr q3) q4, fun q0 z' a2 q1 q2 q3 => hQ.2 q0 z' a2 q1 (fun k h1 h2 => (q2 k h1 h2).trans (u_n _ _ h1)) (hK.tr q3)⟩)
                refine (r_cq xc_106_70 xm_106_70 rfl xrc_112 rfl (hi) (fun v h1 hP => ?_) (fun _ _ h => by first | (obtain ⟨_, he, _⟩ := h; cases he; done) | (obtain ⟨_, he⟩ := h; cases he; done) | (obtain ⟨_, _, he, _⟩ := h; cases he; done) | (obtain ⟨_, _, _, he, _⟩ := h; cases he; done) | (simp only [Prod.mk.injEq, reduceCtorEq, false_and, exists_false] at h)))
                obtain ⟨h2, he, hE2⟩ := hP
                cases he
                refine (r_go xc_106_73 xj_106_73 ?_)
                exact hE2
              · rw [e14] at hc55
                have hc55 : ¬ sg (a 14) n (rZ (a 14) n p) = nI 44 := hc55
                rw [p_if_f hc55] at hQ
                obtain ⟨hQ1, hQ2⟩ := hQ
                rw [e14, u_u]
                by_cases hcl : sg (a 14) n (rZ (a 14) n p) = nI 41
                · refine (r_c0 xc_106_79 xm_106_79 rfl xrc_107 rfl (p_M.up (M_take_y (p := rZ (a 14) n p) (c := nI 41) h9 h7 rfl hn hz1.2 (by rw [e14, hidZ]; exact hcl)) (by omega)) (r_iln xc_106_82 rfl (r_ri xc_106_83 xrt_106 ?_)))
                  rw [u_u, e14]
                  exact hQ1 (by rw [hidZ]; exact hcl) _ a' rfl (fun k hk => u_n _ _ hk) hK hS'
                · refine (r_c0 xc_106_79 xm_106_79 rfl xrc_107 rfl (p_M.up (M_take_n (p := rZ (a 14) n p) (c := nI 41) h9 h7 rfl hn hz1.2 (by rw [e14, hidZ]; exact hcl)) (by omega)) (r_iln xc_106_82 rfl (r_ri xc_106_83 xrt_106 ?_)))
                  rw [u_u, e14]
                  exact hQ2 (by rw [hidZ]; exact hcl) _ a' rfl (fun k h1 h2 => by rw [u_n _ _ h2, u_n _ _ h1]) hK
        · refine bad (wB (a 14) n (rQ (a 14) n p + 1)) (by omega) (Or.inr (Or.inr (Or.inl ⟨hG, hE, hG2, rfl⟩))) ?_
          unfold sRows
          rw [p_if_f (fun h => h hG), p_if_f (fun h => h hE), p_if_t hG2]
      · refine bad (rQ (a 14) n p) (by omega) (Or.inr (Or.inl ⟨hG, hE, rfl⟩)) ?_
        unfold sRows
        rw [p_if_f (fun h => h hG), p_if_t hE]
    · refine bad (wB (a 14) n p) (by omega) (Or.inl ⟨hG, rfl⟩) ?_
      unfold sRows
      rw [p_if_t hG]
theorem M_steps {p mx : Nat} {z : Nat → Int32} {a : Nat → Nat → Int32} (ht : TX (a 14) n) (hn : n ≤ 300) (hb : b < 60) (h9 : z 9 = -1) (h7 : z 7 = nI n) (h8 : z 8 = nI p) (hq : p ≤ n) (h11 : z 11 = nI b) : p_M X 4 106 [.ref 22] (hp z a w y g) (LfP w y g z a b (match sStep (a 14) n p with
      | .inl bd => .inl bd
      | .inr (p', en, rs) => .inr (p', [(7, en, 0, 0, rs)], mx))) := by
  have b0 := skn_ge cB (a 14) hq
  have fl : ∀ bd v v2, FP w y g z a bd (.inl (some (.int (-1))), hp (u_ (u_ z 8 v) 9 v2) a w y g) ↔ v2 = nI bd ∨ FP w y g z a bd (.inl (some (.int (-1))), hp (u_ (u_ z 8 v) 9 v2) a w y g) := fun bd v v2 => ⟨Or.inr, fun h => h.elim (fun h => ⟨_, _, a, rfl, Or.inl rfl, h, ((MKZ.rf z).u (by omega)).u (by omega), MKA.rf a⟩) id⟩
  refine (r_in xin_106 (r_aln xc_106_0 rfl (r_bi xc_106_1 kb_40 ?_)))
  unfold sStep
  by_cases s1 : sg (a 14) n (skn cB (a 14) n p) = nI 40
  · have l1 := (sg_lt (by decide) s1).1
    have b1 := wB_le (T := a 14) (n := n) (p := skn cB (a 14) n p + 1) (by omega)
    have b2 := rQ_le (T := a 14) (n := n) (p := skn cB (a 14) n p + 1) (by omega)
    rw [p_if_f (fun h => h s1)]
    refine (r_c0 xc_106_3 xm_106_3 rfl xrc_107 rfl (p_M.up (M_take_y (c := nI 40) h9 h7 h8 hn hq s1) (by omega)) (r_aln xc_106_6 rfl ?_))
    by_cases s2 : wG (a 14) n (skn cB (a 14) n p + 1)
    · rw [p_if_f (fun h => h s2)]
      have hV := wV_lt s2
      refine (r_cv xc_106_7 xm_106_7 rfl xrc_108 rfl (p_M.up (M_whole_y (p := skn cB (a 14) n p + 1) ht h9 h7 rfl hn (by omega) s2) (by omega)) (r_isn [_, _, _] xc_106_10 rfl rfl (r_aln xc_106_11 rfl (r_bi xc_106_12 kb_58 ?_))))
      rw [u_u]
      by_cases s3 : sg (a 14) n (rQ (a 14) n (skn cB (a 14) n p + 1)) = nI 58
      · rw [p_if_f (fun h => h s3)]
        have l3 := (sg_lt (by decide) s3).1
        refine (r_c0 xc_106_14 xm_106_14 rfl xrc_107 rfl (p_M.up (M_take_y (p := wE (a 14) n (skn cB (a 14) n p + 1)) (c := nI 58) h9 h7 rfl hn b1.2.2 s3) (by omega)) (r_aln xc_106_17 rfl ?_))
        rw [u_u]
        refine (r_cv xc_106_18 xm_106_18 rfl xrc_98 rfl (p_M.up (M_fine_y h9) (by omega)) (r_zne xc_106_21 xj_106_21 (fun hc21 => (r_ic xc_106_24 kc_m1 (r_ri xc_106_25 xrt_106 ?_))) (fun hc21 => (r_aln xc_106_26 rfl (r_bi xc_106_27 kb_7 (r_iln xc_106_29 rfl (r_ic xc_106_30 kc_m1 (r_ic xc_106_31 kc_m1 (r_ic xc_106_32 kc_m1 ?_)))))))))
        · exact absurd hc21 (by decide)
        · refine (r_cq xc_106_33 xm_106_33 rfl xrc_105 rfl (p_M.up (M_make (b := b) h11 (by omega)) (by omega)) (fun v h1 hP => ?_) (fun _ _ h => by first | (obtain ⟨_, he, _⟩ := h; cases he; done) | (obtain ⟨_, he⟩ := h; cases he; done) | (obtain ⟨_, _, he, _⟩ := h; cases he; done) | (obtain ⟨_, _, _, he, _⟩ := h; cases he; done) | (simp only [Prod.mk.injEq, reduceCtorEq, false_and, exists_false] at h)))
          obtain ⟨a', he, e1, e2, e3⟩ := hP
          cases he
          refine (r_isn [_, _, _] xc_106_36 rfl rfl (r_aln xc_106_37 rfl (r_iln xc_106_38 rfl ?_)))
          unfold mnv at e3
          simp only [Prod.mk.injEq] at e3
          obtain ⟨f0, f1, f2, f3, f4, f5⟩ := e3
          have e14 : a' 14 = a 14 := e1 14 (by omega)
          have k1 : ∀ {z' : Nat → Int32}, (∀ k, k ≠ 8 → k ≠ 9 → z' k = u_ (u_ z 8 (nI (rQ (a 14) n (skn cB (a 14) n p + 1) + 1))) 11 (nI (b + 1)) k) → MKZ z z' ∧ z' 16 = z 16 ∧ z' 11 = nI (b + 1) := by
            intro z' h
            refine ⟨fun k hk => ?_, ?_, ?_⟩
            · rw [h k (by omega) (by omega), u_n _ _ (by omega), u_n _ _ (by omega)]
            · rw [h 16 (by omega) (by omega), u_n _ _ (by omega), u_n _ _ (by omega)]
            · rw [h 11 (by omega) (by omega), u_s]
          have k2 : ∀ {a2 : Nat → Nat → Int32}, RK a' a2 b → MKA a a2 := fun h j hj => (h.1 j (by omega)).trans (e1 j (by omega))
          refine (r_cq xc_106_39 xm_106_39 rfl xrc_112 rfl ((L_rowsM (T := a 14) (en := nI (wV (a 14) n (skn cB (a 14) n p + 1))) ht hn hb 7 (rQ (a 14) n (skn cB (a 14) n p + 1) + 1) [] _ a' rfl (by simp) (by simp) e14 h9 h7 rfl (by omega) ⟨f5, fun k q hk => by simp at hk⟩ (Q := LfP w y g z a b (match (match sRows (a 14) n 7 (rQ (a 14) n (skn cB (a 14) n p + 1) + 1) [] with | .inl b => .inl b | .inr (p3, rs) => p_if (sg (a 14) n (skn cB (a 14) n p3) = nI 41) (.inr (skn cB (a 14) n p3 + 1, wV (a 14) n (skn cB (a 14) n p + 1), rs)) (.inl (skn cB (a 14) n p3)) : Nat ⊕ (Nat × Nat × List (Nat × Nat))) with | .inl bd => .inl bd | .inr (p', en, rs) => .inr (p', [(7, en, 0, 0, rs)], mx))) (by
            cases hr : sRows (a 14) n 7 (rQ (a 14) n (skn cB (a 14) n p + 1) + 1) [] with
            | inl bd =>
              intro z' a2 q1 q2 q3
              obtain ⟨g1, g2, g3⟩ := k1 q2
              exact ⟨_, z', a2, rfl, Or.inr ⟨g2, _, g3, by omega⟩, q1, g1, k2 q3⟩
            | inr s =>
              obtain ⟨p3, rs3⟩ := s
              refine ⟨fun q0 z' a2 q1 q2 q3 q4 => ?_, fun q0 z' a2 q1 q2 q3 => ?_⟩
              · dsimp only
                rw [p_if_t q0]
                refine ⟨z', a2, _, rfl, rfl, q1, (q2 11 (by omega)).trans (u_s _ _ _), fun k h1 h2 => ?_, ⟨fun j hj => (q3.1 j (by omega)).trans (e1 j (by omega)), fun j hj => ?_, fun i hi => ?_⟩, ⟨?_, ?_, ?_, q4.1, q4.2⟩, ?_, ?_⟩
                · rw [q2 k h1, u_n _ _ h2, u_n _ _ h1]
                · have := e2 j hj
                  unfold mnv at this ⊢
                  rw [q3.1 15 (by omega), q3.1 16 (by omega), q3.1 17 (by omega), q3.1 18 (by omega), q3.1 19 (by omega), q3.2.1 j hj]
                  exact this
                · rw [(q3.2.2 i hi).1, (q3.2.2 i hi).2, e1 21 (by omega), e1 22 (by omega)]
                  exact ⟨rfl, rfl⟩
                · rw [q3.1 15 (by omega), f0]
                · rw [q3.1 16 (by omega), f1]
                · rw [q3.1 17 (by omega), f2]; exact m1_eq
                · rw [q3.1 18 (by omega), f3]
                · rw [q3.1 19 (by omega), f4]
              · dsimp only
                rw [p_if_f q0]
                obtain ⟨g1, g2, g3⟩ := k1 q2
                exact ⟨_, z', a2, rfl, Or.inr ⟨g2, _, g3, by omega⟩, q1, g1, k2 q3⟩))) (fun v h1 hP => ?_) (fun _ _ h => by first | (obtain ⟨_, he, _⟩ := h; cases he; done) | (obtain ⟨_, he⟩ := h; cases he; done) | (obtain ⟨_, _, he, _⟩ := h; cases he; done) | (obtain ⟨_, _, _, he, _⟩ := h; cases he; done) | (simp only [Prod.mk.injEq, reduceCtorEq, false_and, exists_false] at h)))
          obtain ⟨h2, he, hE2⟩ := hP
          cases he
          exact hE2
      · rw [p_if_t s3]
        refine (r_c0 xc_106_14 xm_106_14 rfl xrc_107 rfl (p_M.up (M_take_n (p := wE (a 14) n (skn cB (a 14) n p + 1)) (c := nI 58) h9 h7 rfl hn b1.2.2 s3) (by omega)) (r_aln xc_106_17 rfl ?_))
        rw [u_u]
        refine (r_cv xc_106_18 xm_106_18 rfl xrc_98 rfl (p_M.up (M_fine_n (b := rQ (a 14) n (skn cB (a 14) n p + 1)) rfl (by omega)) (by omega)) (r_zne xc_106_21 xj_106_21 (fun hc21 => (r_ic xc_106_24 kc_m1 (r_ri xc_106_25 xrt_106 ?_))) (fun hc21 => (r_aln xc_106_26 rfl (r_bi xc_106_27 kb_7 (r_iln xc_106_29 rfl (r_ic xc_106_30 kc_m1 (r_ic xc_106_31 kc_m1 (r_ic xc_106_32 kc_m1 ?_)))))))))
        · exact (fl _ _ _).mpr (Or.inl rfl)
        · exact absurd rfl hc21
    · rw [p_if_t s2]
      refine (r_cv xc_106_7 xm_106_7 rfl xrc_108 rfl (p_M.up (M_whole_n (p := skn cB (a 14) n p + 1) ht h9 h7 rfl hn (by omega) s2) (by omega)) (r_isn [_, _, _] xc_106_10 rfl rfl (r_aln xc_106_11 rfl (r_bi xc_106_12 kb_58 ?_))))
      rw [u_u]
      refine (r_c0 xc_106_14 xm_106_14 rfl xrc_107 rfl (p_M.up (M_take_b (b := wB (a 14) n (skn cB (a 14) n p + 1)) rfl (by omega)) (by omega)) (r_aln xc_106_17 rfl ?_))
      refine (r_cv xc_106_18 xm_106_18 rfl xrc_98 rfl (p_M.up (M_fine_n (b := wB (a 14) n (skn cB (a 14) n p + 1)) rfl (by omega)) (by omega)) (r_zne xc_106_21 xj_106_21 (fun hc21 => (r_ic xc_106_24 kc_m1 (r_ri xc_106_25 xrt_106 ?_))) (fun hc21 => (r_aln xc_106_26 rfl (r_bi xc_106_27 kb_7 (r_iln xc_106_29 rfl (r_ic xc_106_30 kc_m1 (r_ic xc_106_31 kc_m1 (r_ic xc_106_32 kc_m1 ?_)))))))))
      · exact (fl _ _ _).mpr (Or.inl rfl)
      · exact absurd rfl hc21
  · rw [p_if_t s1]
    refine (r_c0 xc_106_3 xm_106_3 rfl xrc_107 rfl (p_M.up (M_take_n (c := nI 40) h9 h7 h8 hn hq s1) (by omega)) (r_aln xc_106_6 rfl ?_))
    refine (r_cv xc_106_7 xm_106_7 rfl xrc_108 rfl (p_M.up (M_whole_b (b := skn cB (a 14) n p) rfl (by omega)) (by omega)) (r_isn [_, _, _] xc_106_10 rfl rfl (r_aln xc_106_11 rfl (r_bi xc_106_12 kb_58 ?_))))
    refine (r_c0 xc_106_14 xm_106_14 rfl xrc_107 rfl (p_M.up (M_take_b (b := skn cB (a 14) n p) rfl (by omega)) (by omega)) (r_aln xc_106_17 rfl ?_))
    refine (r_cv xc_106_18 xm_106_18 rfl xrc_98 rfl (p_M.up (M_fine_n (b := skn cB (a 14) n p) rfl (by omega)) (by omega)) (r_zne xc_106_21 xj_106_21 (fun hc21 => (r_ic xc_106_24 kc_m1 (r_ri xc_106_25 xrt_106 ?_))) (fun hc21 => (r_aln xc_106_26 rfl (r_bi xc_106_27 kb_7 (r_iln xc_106_29 rfl (r_ic xc_106_30 kc_m1 (r_ic xc_106_31 kc_m1 (r_ic xc_106_32 kc_m1 ?_)))))))))
    · exact (fl _ _ _).mpr (Or.inl rfl)
    · exact absurd rfl hc21
/-! frames -/
def pf (a : Nat → Nat → Int32) (i : Nat) (x : Int32) : Nat → Nat → Int32 := u_ (u_ (u_ (u_ a 23 (upd (a 23) i x)) 24 (upd (a 24) i (-1))) 25 (upd (a 25) i (-1))) 26 (upd (a 26) i (nI 0))
theorem M_opens_y {dd mx : Nat} {x x2 : Int32} {z : Nat → Int32} {a : Nat → Nat → Int32} (h16 : z 16 = nI dd) (hd : dd ≤ 12) (h15 : z 15 = nI mx) (hm : mx ≤ 12) : p_M X 1 96 [.ref 22, .int x, .int x2] (hp z a w y g) (fun q => q = (.inl none, hp (u_ (u_ z 16 (nI (dd + 1))) 15 (nI (max mx dd))) (pf a dd x) w y g)) := by
  have e1 : nI dd + nI 1 - nI 1 = nI dd := by rw [kI_add, kI_sub (by omega)]; rfl
  refine (r_in xin_96 (r_aln xc_96_0 rfl (r_get xc_96_1 xf_96_132 g_6_22 (r_bi xc_96_4 kb_13 (r_cne xc_96_6 xj_96_6 (fun hc6 => (r_aln xc_96_9 rfl (r_iln xc_96_10 rfl ?_))) (fun hc6 => (r_aln xc_96_15 rfl (r_get xc_96_16 xf_96_37 g_6_18 (r_aln xc_96_19 rfl (r_get xc_96_20 xf_96_132 g_6_22 (r_iln xc_96_23 rfl (r_ias xc_96_24 b_32 t_32 ?_ (r_aln xc_96_25 rfl (r_get xc_96_26 xf_96_40 g_6_19 (r_aln xc_96_29 rfl (r_get xc_96_30 xf_96_132 g_6_22 (r_ic xc_96_33 kc_m1 (r_ias xc_96_34 b_33 t_33 ?_ (r_aln xc_96_35 rfl (r_get xc_96_36 xf_96_43 g_6_20 (r_aln xc_96_39 rfl (r_get xc_96_40 xf_96_132 g_6_22 (r_ic xc_96_43 kc_m1 (r_ias xc_96_44 b_34 t_34 ?_ (r_aln xc_96_45 rfl (r_get xc_96_46 xf_96_46 g_6_21 (r_aln xc_96_49 rfl (r_get xc_96_50 xf_96_132 g_6_22 (r_ic xc_96_53 kc_0 (r_ias xc_96_54 b_35 t_35 ?_ (r_aln xc_96_55 rfl (r_dup xc_96_56 rfl (r_get xc_96_57 xf_96_132 g_6_22 (r_ic xc_96_60 kc_1 (r_iadd xc_96_61 (r_put xc_96_62 xf_96_132 rfl s_6_22 (r_aln xc_96_65 rfl (r_get xc_96_66 xf_96_132 g_6_22 (r_ic xc_96_69 kc_1 (r_isub xc_96_70 (r_aln xc_96_71 rfl (r_get xc_96_72 xf_96_135 g_6_17 (r_cle xc_96_75 xj_96_75 (fun hc75 => (r_aln xc_96_78 rfl (r_aln xc_96_79 rfl (r_get xc_96_80 xf_96_132 g_6_22 (r_ic xc_96_83 kc_1 (r_isub xc_96_84 (r_put xc_96_85 xf_96_135 rfl s_6_17 (r_r0 xc_96_88 xrt_96 ?_)))))))) (fun hc75 => (r_r0 xc_96_88 xrt_96 ?_)))))))))))))))))))))))))))))))))))))))))))))
  · rw [h16, kI_inj (by omega) (by omega)] at hc6; omega
  · rw [h16]; exact kI_in (by omega) (by omega)
  · rw [h16]; exact kI_in (by omega) (by omega)
  · rw [h16]; exact kI_in (by omega) (by omega)
  · rw [h16]; exact kI_in (by omega) (by omega)
  · have hc75 : z 15 < z 16 + nI 1 - nI 1 := hc75
    rw [h16, h15, e1, kI_lt (by omega) (by omega)] at hc75
    show _ = (_, hp (u_ (u_ z 16 (nI (dd + 1))) 15 (nI (max mx dd))) (pf a dd x) w y g)
    have e2 : u_ z 16 (z 16 + nI 1) 16 - nI 1 = nI (max mx dd) := by
      show z 16 + nI 1 - nI 1 = _
      rw [h16, e1, Nat.max_eq_right (by omega)]
    rw [e2, h16, kI_add, kI_cl (by omega)]; rfl
  · have hc75 : ¬ z 15 < z 16 + nI 1 - nI 1 := hc75
    rw [h16, h15, e1, kI_lt (by omega) (by omega)] at hc75
    have e2 : u_ (u_ z 16 (nI (dd + 1))) 15 (nI (max mx dd)) = u_ z 16 (nI (dd + 1)) := by
      refine u_idv ?_
      show z 15 = _
      rw [h15, Nat.max_eq_left (by omega)]
    rw [e2, h16, kI_add, kI_cl (by omega)]; rfl
theorem M_opens_n {x x2 : Int32} {z : Nat → Int32} {a : Nat → Nat → Int32} (h16 : z 16 = nI 13) (h9 : z 9 = -1) : p_M X 1 96 [.ref 22, .int x, .int x2] (hp z a w y g) (fun q => q = (.inl none, hp (u_ z 9 x2) a w y g)) := by
  refine (r_in xin_96 (r_aln xc_96_0 rfl (r_get xc_96_1 xf_96_132 g_6_22 (r_bi xc_96_4 kb_13 (r_cne xc_96_6 xj_96_6 (fun hc6 => (r_aln xc_96_9 rfl (r_iln xc_96_10 rfl ?_))) (fun hc6 => (r_aln xc_96_15 rfl (r_get xc_96_16 xf_96_37 g_6_18 (r_aln xc_96_19 rfl (r_get xc_96_20 xf_96_132 g_6_22 (r_iln xc_96_23 rfl (r_ias xc_96_24 b_32 t_32 ?_ (r_aln xc_96_25 rfl (r_get xc_96_26 xf_96_40 g_6_19 (r_aln xc_96_29 rfl (r_get xc_96_30 xf_96_132 g_6_22 (r_ic xc_96_33 kc_m1 (r_ias xc_96_34 b_33 t_33 ?_ (r_aln xc_96_35 rfl (r_get xc_96_36 xf_96_43 g_6_20 (r_aln xc_96_39 rfl (r_get xc_96_40 xf_96_132 g_6_22 (r_ic xc_96_43 kc_m1 (r_ias xc_96_44 b_34 t_34 ?_ (r_aln xc_96_45 rfl (r_get xc_96_46 xf_96_46 g_6_21 (r_aln xc_96_49 rfl (r_get xc_96_50 xf_96_132 g_6_22 (r_ic xc_96_53 kc_0 (r_ias xc_96_54 b_35 t_35 ?_ (r_aln xc_96_55 rfl (r_dup xc_96_56 rfl (r_get xc_96_57 xf_96_132 g_6_22 (r_ic xc_96_60 kc_1 (r_iadd xc_96_61 (r_put xc_96_62 xf_96_132 rfl s_6_22 (r_aln xc_96_65 rfl (r_get xc_96_66 xf_96_132 g_6_22 (r_ic xc_96_69 kc_1 (r_isub xc_96_70 (r_aln xc_96_71 rfl (r_get xc_96_72 xf_96_135 g_6_17 (r_cle xc_96_75 xj_96_75 (fun hc75 => (r_aln xc_96_78 rfl (r_aln xc_96_79 rfl (r_get xc_96_80 xf_96_132 g_6_22 (r_ic xc_96_83 kc_1 (r_isub xc_96_84 (r_put xc_96_85 xf_96_135 rfl s_6_17 (r_r0 xc_96_88 xrt_96 ?_)))))))) (fun hc75 => (r_r0 xc_96_88 xrt_96 ?_)))))))))))))))))))))))))))))))))))))))))))))
  · refine (r_c0 xc_96_11 xm_96_11 rfl xrc_97 rfl (M_fail h9) (r_r0 xc_96_14 xrt_96 ?_))
    rfl
  all_goals exact absurd h16 hc6
/-- what takePart leaves -/
def TPP (w : Nat → Nat → Int64) (y : Nat → Int64) (g : List pE) (z : Nat → Int32) (a : Nat → Nat → Int32) (deep b cnt : Nat) (o : pO) (q : pR) : Prop := match o with
  | .inl bd => FP w y g z a bd q
  | .inr (.inl (p', ns)) => ∃ z' a' v, q = (.inl (some (.int (nI b))), hp z' a' w y g) ∧ ns = [v] ∧ z' 8 = nI p' ∧ z' 11 = nI (b + 1) ∧ z' 12 = nI (cnt + 1) ∧ (∀ k, k ≠ 8 → k ≠ 11 → k ≠ 12 → z' k = z k) ∧ LKA a a' b ∧ mv a' b v ∧ a' 18 b = -1 ∧ a' 19 b = -1
  | .inr (.inr (k, p2, c2, m2)) => ∃ z', q = (.inl (some (.int (-1))), hp z' (pf a (deep + 1) (nI k)) w y g) ∧ z' 8 = nI p2 ∧ z' 12 = nI c2 ∧ z' 15 = nI m2 ∧ z' 16 = nI (deep + 2) ∧ ∀ k, k ≠ 8 → k ≠ 12 → k ≠ 15 → k ≠ 16 → z' k = z k
theorem LfP.ex {D mi : Nat} {as : List Value} {h0 : List pE} {z : Nat → Int32} {a : Nat → Nat → Int32} {res : pS} (h : p_M X D mi as h0 (LfP w y g z a b res)) : p_M X D mi as h0 (fun q => ∃ x z' a', q = (.inl (some (.int x)), hp z' a' w y g) ∧ LfP w y g z a b res q) := by
  refine h.mono (fun q hq => ?_)
  cases res with
  | inl bd =>
    obtain ⟨x, z', a', e, _⟩ := id hq
    exact ⟨x, z', a', e, hq⟩
  | inr s =>
    obtain ⟨p', ns, m'⟩ := s
    obtain ⟨z', a', v, e, _⟩ := id hq
    exact ⟨_, z', a', e, hq⟩
theorem TPP.ex {D mi : Nat} {as : List Value} {h0 : List pE} {z : Nat → Int32} {a : Nat → Nat → Int32} {deep cnt : Nat} {o : pO} (h : p_M X D mi as h0 (TPP w y g z a deep b cnt o)) : p_M X D mi as h0 (fun q => ∃ x z' a', q = (.inl (some (.int x)), hp z' a' w y g) ∧ TPP w y g z a deep b cnt o q) := by
  refine h.mono (fun q hq => ?_)
  cases o with
  | inl bd =>
    obtain ⟨x, z', a', e, _⟩ := id hq
    exact ⟨x, z', a', e, hq⟩
  | inr o =>
    cases o with
    | inl s =>
      obtain ⟨p', ns⟩ := s
      obtain ⟨z', a', v, e, _⟩ := id hq
      exact ⟨_, z', a', e, hq⟩
    | inr s =>
      obtain ⟨k, p2, c2, m2⟩ := s
      obtain ⟨z', e, _⟩ := id hq
      exact ⟨_, z', _, e, hq⟩
theorem TPP_of_LP {z z1 : Nat → Int32} {a : Nat → Nat → Int32} {deep cnt : Nat} {res : pS} {q : pR} (h : LfP w y g z1 a b res q) (h12 : z1 12 = nI (cnt + 1)) (hz : ∀ k, k ≠ 8 → k ≠ 12 → z1 k = z k) : TPP w y g z a deep b cnt (match res with
    | .inl bd => .inl bd
    | .inr (p', ns, _) => .inr (.inl (p', ns))) q := by
  cases res with
  | inl bd =>
    obtain ⟨x, z', a', e, h1, h2, h3, h4⟩ := h
    exact ⟨x, z', a', e, h1.elim Or.inl (fun h => Or.inr ⟨h.1.trans (hz 16 (by omega) (by omega)), h.2⟩), h2, fun k hk => (h3 k hk).trans (hz k (by omega) (by omega)), h4⟩
  | inr s =>
    obtain ⟨p', ns, m'⟩ := s
    obtain ⟨z', a', v, e, h1, h2, h3, h4, h5⟩ := h
    exact ⟨z', a', v, e, h1, h2, h3, (h4 12 (by omega) (by omega)).trans h12, fun k k1 k2 k3 => (h4 k k1 k2).trans (hz k k1 k3), h5⟩
theorem TPP.z8 {z : Nat → Int32} {a : Nat → Nat → Int32} {deep cnt : Nat} {o : pO} {q : pR} {v : Int32} (h : TPP w y g (u_ z 8 v) a deep b cnt o q) : TPP w y g z a deep b cnt o q := by
  cases o with
  | inl bd =>
    obtain ⟨x, z', a', e, h1, h2, h3, h4⟩ := h
    exact ⟨x, z', a', e, h1, h2, fun k hk => (h3 k hk).trans (u_n _ _ (by omega)), h4⟩
  | inr o =>
    cases o with
    | inl s =>
      obtain ⟨p', ns⟩ := s
      obtain ⟨z', a', v, e, h1, h2, h3, h4, h5, h6⟩ := h
      exact ⟨z', a', v, e, h1, h2, h3, h4, fun k k1 k2 k3 => (h5 k k1 k2 k3).trans (u_n _ _ k1), h6⟩
    | inr s =>
      obtain ⟨k, p2, c2, m2⟩ := s
      obtain ⟨z', e, h1, h2, h3, h4, h5⟩ := h
      exact ⟨z', e, h1, h2, h3, h4, fun k k1 k2 k3 k4 => (h5 k k1 k2 k3 k4).trans (u_n _ _ k1)⟩
theorem pif01 {C : Prop} : p_if C (nI 1) (nI 0) = nI 0 ↔ ¬ C := by
  by_cases h : C
  · rw [p_if_t h]; exact ⟨fun h => absurd h (by decide), fun h' => absurd h h'⟩
  · rw [p_if_f h]; exact ⟨fun _ => h, fun _ => rfl⟩
/-- the word is read: what comes of it -/
theorem L_mword {deep cnt q e mx : Nat} {z : Nat → Int32} {a : Nat → Nat → Int32} (ht : TX (a 14) n) (hn : n ≤ 300) (hb : b ≤ cnt) (hd : deep ≤ 12) (hc : cnt ≤ 60) (hm : mx ≤ 12) (h9 : z 9 = -1) (h7 : z 7 = nI n) (h8 : z 8 = nI e) (h11 : z 11 = nI b) (h12 : z 12 = nI cnt) (h15 : z 15 = nI mx) (h16 : z 16 = nI (deep + 1)) (hq : q ≤ e) (he : e ≤ n) (hse : skn cS (a 14) n q = e) :
    p_E X 5 102 44 [some (.ref 22), some (.int (nI q)), none, none, none, none] [] (hp z a w y g) (TPP w y g z a deep b cnt (oWord (a 14) n deep cnt q mx)) := by
  have hee : e ≤ 300 := by omega
  have FPz : ∀ {z1 : Nat → Int32} {bd : Nat}, z1 9 = nI bd → MKZ z z1 → FP w y g z a bd (.inl (some (.int (-1))), hp z1 a w y g) := fun h1 h2 => ⟨_, _, a, rfl, Or.inl rfl, h1, h2, MKA.rf a⟩
  have b2 := skn_ge cB (a 14) he
  have s1 : p_slen 1 = 3 := rfl
  have s2 : p_slen 2 = 3 := rfl
  have s3 : p_slen 3 = 4 := rfl
  have two : ∀ k V1 V2 V0 V3, oWord (a 14) n deep cnt q mx = p_if (60 ≤ cnt ∨ 12 ≤ deep) (.inl q) (oTwo (a 14) n k deep cnt e mx) → cnt < 60 → p_E X 5 102 170 [some (.ref 22), some (.int (nI q)), V1, V2, V0, V3] [.int (nI q), .int (nI k), .ref 22] (hp (u_ z 12 (nI (cnt + 1))) a w y g) (TPP w y g z a deep b cnt (oWord (a 14) n deep cnt q mx)) := by
    intro k V1 V2 V0 V3 ho hf
    rw [ho]
    by_cases hdd : deep < 12
    · rw [p_if_f (by omega)]
      refine (r_c0 xc_102_170 xm_102_170 rfl xrc_96 rfl (p_M.up (M_opens_y (dd := deep + 1) (mx := mx) h16 (by omega) h15 hm) (by omega)) (r_aln xc_102_173 rfl (r_bi xc_102_174 kb_40 ?_)))
      unfold oTwo
      by_cases hp1 : sg (a 14) n (skn cB (a 14) n e) = nI 40
      · rw [p_if_f (fun h => h hp1)]
        refine (r_c0 xc_102_176 xm_102_176 rfl xrc_107 rfl (p_M.up (M_take_y (p := e) (c := nI 40) h9 h7 h8 hn he hp1) (by omega)) (r_ic xc_102_179 kc_m1 (r_ri xc_102_180 xrt_102 ?_)))
        exact ⟨_, rfl, rfl, rfl, rfl, rfl, fun k k1 k2 k3 k4 => by rw [u_n _ _ k1, u_n _ _ k3, u_n _ _ k4, u_n _ _ k2]⟩
      · rw [p_if_t hp1]
        refine (r_c0 xc_102_176 xm_102_176 rfl xrc_107 rfl (p_M.up (M_take_n (p := e) (c := nI 40) h9 h7 h8 hn he hp1) (by omega)) (r_ic xc_102_179 kc_m1 (r_ri xc_102_180 xrt_102 ?_)))
        refine ⟨_, _, _, rfl, Or.inl rfl, rfl, ((((((MKZ.rf z).u (by omega)).u (by omega)).u (by omega)).u (by omega)).u (by omega)), fun j hj => ?_⟩
        unfold pf
        rw [u_n _ _ (by omega), u_n _ _ (by omega), u_n _ _ (by omega), u_n _ _ (by omega)]
    · rw [p_if_t (by omega)]
      have hd12 : deep = 12 := by omega
      subst hd12
      refine (r_c0 xc_102_170 xm_102_170 rfl xrc_96 rfl (p_M.up (M_opens_n h16 h9) (by omega)) (r_aln xc_102_173 rfl (r_bi xc_102_174 kb_40 ?_)))
      refine (r_c0 xc_102_176 xm_102_176 rfl xrc_107 rfl (p_M.up (M_take_b (b := q) rfl (by omega)) (by omega)) (r_ic xc_102_179 kc_m1 (r_ri xc_102_180 xrt_102 ?_)))
      exact FPz rfl (((MKZ.rf z).u (by omega)).u (by omega))
  have go : (isW (a 14) q e 0 ∨ isW (a 14) q e 1 ∨ isW (a 14) q e 2 ∨ isW (a 14) q e 3) → p_E X 5 102 123 [some (.ref 22), some (.int (nI q)), some (.int (p_if (isW (a 14) q e 1) (nI 1) (nI 0))), some (.int (p_if (isW (a 14) q e 2) (nI 1) (nI 0))), some (.int (p_if (isW (a 14) q e 0) (nI 1) (nI 0))), some (.int (p_if (isW (a 14) q e 3) (nI 1) (nI 0)))] [] (hp z a w y g) (TPP w y g z a deep b cnt (oWord (a 14) n deep cnt q mx)) := by
    intro hor
    refine (r_aln xc_102_123 rfl (r_iln xc_102_124 rfl ?_))
    by_cases hf : cnt < 60
    · refine (r_cv xc_102_125 xm_102_125 rfl xrc_104 rfl (p_M.up (M_counts_y h12 hf) (by omega)) (r_zne xc_102_128 xj_102_128 (fun hc128 => (r_ic xc_102_131 kc_m1 (r_ri xc_102_132 xrt_102 ?_))) (fun hc128 => (r_il xc_102_133 rfl (r_zeq xc_102_135 xj_102_135 (fun hc135 => (r_il xc_102_148 rfl (r_zeq xc_102_150 xj_102_150 (fun hc150 => (r_aln xc_102_158 rfl (r_iln xc_102_159 rfl (r_zeq xc_102_160 xj_102_160 (fun hc160 => (r_bi xc_102_167 kb_6 (r_iln xc_102_169 rfl ?_))) (fun hc160 => (r_ic xc_102_163 kc_5 (r_go xc_102_164 xj_102_164 (r_iln xc_102_169 rfl ?_)))))))) (fun hc150 => (r_aln xc_102_153 rfl ?_))))) (fun hc135 => (r_aln xc_102_138 rfl (r_ic xc_102_139 kc_0 (r_ic xc_102_140 kc_0 (r_ic xc_102_141 kc_m1 (r_ic xc_102_142 kc_m1 (r_ic xc_102_143 kc_m1 ?_))))))))))))
      · exact absurd hc128 (by decide)
      · rw [pif01] at hc135 hc150 hc160
        refine two 6 _ _ _ _ ?_ hf
        have g2 : isW (a 14) q e 2 := by
          rcases hor with h | h | h | h
          · exact absurd h hc135
          · exact absurd h hc160
          · exact h
          · exact absurd h hc150
        unfold oWord
        rw [hse, p_if_f hc135, p_if_f hc160, p_if_t g2]
      · rw [pif01] at hc135 hc150 hc160
        have g1 : isW (a 14) q e 1 := Classical.byContradiction hc160
        refine two 5 _ _ _ _ ?_ hf
        unfold oWord
        rw [hse, p_if_f hc135, p_if_t g1]
      · rw [pif01] at hc135 hc150
        have g3 : isW (a 14) q e 3 := Classical.byContradiction hc150
        have hl := isW_len g3
        have n1 : ¬ isW (a 14) q e 1 := fun h => by have := isW_len h; omega
        have n2 : ¬ isW (a 14) q e 2 := fun h => by have := isW_len h; omega
        refine (r_cq xc_102_154 xm_102_154 rfl xrc_106 rfl (LfP.ex (M_steps (p := e) (mx := mx) ht hn (by omega) h9 h7 h8 he h11)) (fun v h1 hP => ?_) (fun _ _ h => by first | (obtain ⟨_, he, _⟩ := h; cases he; done) | (obtain ⟨_, he⟩ := h; cases he; done) | (obtain ⟨_, _, he, _⟩ := h; cases he; done) | (obtain ⟨_, _, _, he, _⟩ := h; cases he; done) | (simp only [Prod.mk.injEq, reduceCtorEq, false_and, exists_false] at h)))
        obtain ⟨x, z', a', he', hx⟩ := hP
        cases he'
        refine (r_ri xc_102_157 xrt_102 ?_)
        have := TPP_of_LP (z := z) (deep := deep) (cnt := cnt) hx rfl (fun k _ hk => u_n _ _ hk)
        unfold oWord
        rw [hse, p_if_f hc135, p_if_f n1, p_if_f n2, p_if_t g3, p_if_f (by omega)]
        revert this
        cases sStep (a 14) n e with
        | inl b => exact id
        | inr s => exact id
      · rw [pif01] at hc135
        have g0 : isW (a 14) q e 0 := Classical.byContradiction hc135
        refine (r_cq xc_102_144 xm_102_144 rfl xrc_105 rfl (p_M.up (M_make (b := b) h11 (by omega)) (by omega)) (fun v h1 hP => ?_) (fun _ _ h => by first | (obtain ⟨_, he, _⟩ := h; cases he; done) | (obtain ⟨_, he⟩ := h; cases he; done) | (obtain ⟨_, _, he, _⟩ := h; cases he; done) | (obtain ⟨_, _, _, he, _⟩ := h; cases he; done) | (simp only [Prod.mk.injEq, reduceCtorEq, false_and, exists_false] at h)))
        obtain ⟨a', he', e1, e2, e3⟩ := hP
        cases he'
        refine (r_ri xc_102_147 xrt_102 ?_)
        unfold oWord
        rw [hse, p_if_t g0, p_if_f (by omega)]
        exact TPP_of_LP (z1 := u_ z 12 (nI (cnt + 1))) (res := .inr (e, [(0, 0, 0, 0, [])], mx)) (LP_make h8 (fun _ _ => rfl) e1 e2 (by rw [e3, ← m1_eq])) rfl (fun k _ hk => u_n _ _ hk)
    · have h60 : cnt = 60 := by omega
      subst h60
      refine (r_cv xc_102_125 xm_102_125 rfl xrc_104 rfl (p_M.up (M_counts_n h12 h9) (by omega)) (r_zne xc_102_128 xj_102_128 (fun hc128 => (r_ic xc_102_131 kc_m1 (r_ri xc_102_132 xrt_102 ?_))) (fun hc128 => (r_il xc_102_133 rfl (r_zeq xc_102_135 xj_102_135 (fun hc135 => (r_il xc_102_148 rfl (r_zeq xc_102_150 xj_102_150 (fun hc150 => (r_aln xc_102_158 rfl (r_iln xc_102_159 rfl (r_zeq xc_102_160 xj_102_160 (fun hc160 => (r_bi xc_102_167 kb_6 (r_iln xc_102_169 rfl ?_))) (fun hc160 => (r_ic xc_102_163 kc_5 (r_go xc_102_164 xj_102_164 (r_iln xc_102_169 rfl ?_)))))))) (fun hc150 => (r_aln xc_102_153 rfl ?_))))) (fun hc135 => (r_aln xc_102_138 rfl (r_ic xc_102_139 kc_0 (r_ic xc_102_140 kc_0 (r_ic xc_102_141 kc_m1 (r_ic xc_102_142 kc_m1 (r_ic xc_102_143 kc_m1 ?_))))))))))))
      · have ho : oWord (a 14) n deep 60 q mx = .inl q := by
          unfold oWord
          rw [hse]
          refine p_if_d (fun _ => p_if_t (by omega)) (fun n0 => p_if_d (fun _ => p_if_t (by omega)) (fun n1 => p_if_d (fun _ => p_if_t (by omega)) (fun n2 => p_if_d (fun _ => p_if_t (by omega)) (fun n3 => ?_))))
          rfl
        rw [ho]
        exact FPz rfl ((MKZ.rf z).u (by omega))
      all_goals exact absurd rfl hc128
  refine (r_aln xc_102_44 rfl (r_iln xc_102_45 rfl (r_aln xc_102_46 rfl (r_get xc_102_47 xf_102_80 g_6_2 (r_ldl xc_102_50 xl_102_143 ?_)))))
  rw [h8]
  refine (r_cv xc_102_53 xm_102_53 rfl xrc_103 rfl (p_M.up (M_isW_q wOk_1 hq hee) (by omega)) (r_isn [_, _, _, _, _, _] xc_102_56 rfl rfl (r_aln xc_102_57 rfl (r_iln xc_102_58 rfl (r_aln xc_102_59 rfl (r_get xc_102_60 xf_102_80 g_6_2 (r_ldl xc_102_63 xl_102_149 ?_)))))))
  rw [h8]
  refine (r_cv xc_102_66 xm_102_66 rfl xrc_103 rfl (p_M.up (M_isW_q wOk_2 hq hee) (by omega)) (r_isn [_, _, _, _, _, _] xc_102_69 rfl rfl (r_aln xc_102_70 rfl (r_iln xc_102_71 rfl (r_aln xc_102_72 rfl (r_get xc_102_73 xf_102_80 g_6_2 (r_ldl xc_102_76 xl_102_151 ?_)))))))
  rw [h8]
  refine (r_cv xc_102_79 xm_102_79 rfl xrc_103 rfl (p_M.up (M_isW_q wOk_0 hq hee) (by omega)) (r_is [_, _, _, _, _, _] xc_102_82 rfl rfl (r_aln xc_102_84 rfl (r_iln xc_102_85 rfl (r_aln xc_102_86 rfl (r_get xc_102_87 xf_102_80 g_6_2 (r_ldl xc_102_90 xl_102_153 ?_)))))))
  rw [h8]
  refine (r_cv xc_102_93 xm_102_93 rfl xrc_103 rfl (p_M.up (M_isW_q wOk_3 hq hee) (by omega)) (r_is [_, _, _, _, _, _] xc_102_96 rfl rfl (r_iln xc_102_98 rfl (r_zne xc_102_99 xj_102_99 (fun hc99 => (r_iln xc_102_102 rfl (r_zne xc_102_103 xj_102_103 (fun hc103 => (r_il xc_102_106 rfl (r_zne xc_102_108 xj_102_108 (fun hc108 => (r_il xc_102_111 rfl (r_zne xc_102_113 xj_102_113 (fun hc113 => ?_) (fun hc113 => ?_)))) (fun hc108 => ?_)))) (fun hc103 => ?_)))) (fun hc99 => ?_)))))
  · rw [pif01] at hc99 hc103 hc108 hc113
    refine (r_aln xc_102_116 rfl (r_iln xc_102_117 rfl ?_))
    refine (r_c0 xc_102_118 xm_102_118 rfl xrc_97 rfl (p_M.up (M_fail h9) (by omega)) (r_ic xc_102_121 kc_m1 (r_ri xc_102_122 xrt_102 ?_)))
    unfold oWord
    rw [hse, p_if_f hc108, p_if_f hc99, p_if_f hc103, p_if_f hc113]
    exact FPz rfl ((MKZ.rf z).u (by omega))
  · rw [pif01] at hc113
    exact go (Or.inr (Or.inr (Or.inr (Classical.byContradiction hc113))))
  · rw [pif01] at hc108
    exact go (Or.inl (Classical.byContradiction hc108))
  · rw [pif01] at hc103
    exact go (Or.inr (Or.inr (Or.inl (Classical.byContradiction hc103))))
  · rw [pif01] at hc99
    exact go (Or.inr (Or.inl (Classical.byContradiction hc99)))
theorem L_msm {deep cnt q mx : Nat} {z : Nat → Int32} {a : Nat → Nat → Int32} (ht : TX (a 14) n) (hn : n ≤ 300) (hb : b ≤ cnt) (hd : deep ≤ 12) (hc : cnt ≤ 60) (hm : mx ≤ 12) (h9 : z 9 = -1) (h7 : z 7 = nI n) (h11 : z 11 = nI b) (h12 : z 12 = nI cnt) (h15 : z 15 = nI mx) (h16 : z 16 = nI (deep + 1)) : ∀ k p, n - p = k → p ≤ n → q ≤ p → skn cS (a 14) n q = sk cS (a 14) k p →
    p_E X 5 102 5 [some (.ref 22), some (.int (nI q)), none, none, none, none] [] (hp (u_ z 8 (nI p)) a w y g) (TPP w y g z a deep b cnt (oWord (a 14) n deep cnt q mx)) := by
  intro k
  induction k with
  | zero =>
    intro p hk hp1 hqp hs
    have hc : ∀ {C : Prop}, nI p < z 7 → C := fun h => by rw [h7, kI_lt (by omega) (by omega)] at h; omega
    refine (r_aln xc_102_5 rfl (r_get xc_102_6 xf_102_80 g_6_2 (r_aln xc_102_9 rfl (r_get xc_102_10 xf_102_77 g_6_1 (r_cge xc_102_13 xj_102_13 (fun hc13 => (r_aln xc_102_16 rfl (r_get xc_102_17 xf_102_7 g_6_0 (r_aln xc_102_20 rfl (r_get xc_102_21 xf_102_80 g_6_2 (r_ia xc_102_24 b_23 ?_ ?_)))))) (fun hc13 => ?_))))))
    · exact hc hc13
    · exact hc hc13
    · refine (L_mword (e := p) (z := u_ z 8 (nI p)) ht hn hb hd (by assumption) hm h9 h7 rfl h11 h12 h15 h16 hqp hp1 hs).mono (fun q hq => hq.z8)
  | succ k ih =>
    intro p hk hp1 hqp hs
    have hcc : nI p < z 7 := by rw [h7, kI_lt (by omega) (by omega)]; omega
    refine (r_aln xc_102_5 rfl (r_get xc_102_6 xf_102_80 g_6_2 (r_aln xc_102_9 rfl (r_get xc_102_10 xf_102_77 g_6_1 (r_cge xc_102_13 xj_102_13 (fun hc13 => (r_aln xc_102_16 rfl (r_get xc_102_17 xf_102_7 g_6_0 (r_aln xc_102_20 rfl (r_get xc_102_21 xf_102_80 g_6_2 (r_ia xc_102_24 b_23 ?_ ?_)))))) (fun hc13 => ?_))))))
    · exact kI_in (by omega) (by omega)
    · have e : a 14 (u_ z 8 (nI p) 8).toNatClampNeg = a 14 p := by show a 14 (nI p).toNatClampNeg = _; rw [kI_cl (by omega)]
      rw [e]
      cases hd2 : cS (a 14 p) with
      | true =>
        refine (r_cv xc_102_25 xm_102_25 rfl xrc_101 rfl (p_M.up M_isSmall (by omega)) (r_zeq xc_102_28 xj_102_28 (fun hc28 => ?_) (fun hc28 => (r_aln xc_102_31 rfl (r_dup xc_102_32 rfl (r_get xc_102_33 xf_102_80 g_6_2 (r_ic xc_102_36 kc_1 (r_iadd xc_102_37 (r_put xc_102_38 xf_102_80 rfl s_6_2 (r_go xc_102_41 xj_102_41 ?_))))))))))
        · rw [hd2] at hc28; exact absurd hc28 (by decide)
        · have e4 : u_ z 8 (nI p) 8 + nI 1 = nI (p + 1) := kI_add _ 1
          rw [e4, u_u]
          exact ih (p + 1) (by omega) (by omega) (by omega) (by rw [hs, sk_t hd2])
      | false =>
        refine (r_cv xc_102_25 xm_102_25 rfl xrc_101 rfl (p_M.up M_isSmall (by omega)) (r_zeq xc_102_28 xj_102_28 (fun hc28 => ?_) (fun hc28 => (r_aln xc_102_31 rfl (r_dup xc_102_32 rfl (r_get xc_102_33 xf_102_80 g_6_2 (r_ic xc_102_36 kc_1 (r_iadd xc_102_37 (r_put xc_102_38 xf_102_80 rfl s_6_2 (r_go xc_102_41 xj_102_41 ?_))))))))))
        · rw [sk_f hd2] at hs
          refine (L_mword (e := p) (z := u_ z 8 (nI p)) ht hn hb hd hc hm h9 h7 rfl h11 h12 h15 h16 hqp hp1 hs).mono (fun q hq => hq.z8)
        · rw [hd2] at hc28; exact absurd rfl hc28
    · exact absurd hcc hc13
theorem M_takeWord {deep cnt q mx : Nat} {z : Nat → Int32} {a : Nat → Nat → Int32} (ht : TX (a 14) n) (hn : n ≤ 300) (hb : b ≤ cnt) (hd : deep ≤ 12) (hc : cnt ≤ 60) (hm : mx ≤ 12) (h9 : z 9 = -1) (h7 : z 7 = nI n) (h8 : z 8 = nI q) (h11 : z 11 = nI b) (h12 : z 12 = nI cnt) (h15 : z 15 = nI mx) (h16 : z 16 = nI (deep + 1)) (hq : q ≤ n) : p_M X 5 102 [.ref 22] (hp z a w y g) (TPP w y g z a deep b cnt (oWord (a 14) n deep cnt q mx)) := by
  refine (r_in xin_102 (r_aln xc_102_0 rfl (r_get xc_102_1 xf_102_80 g_6_2 (r_isn [_, _, _, _, _, _] xc_102_4 rfl rfl ?_))))
  have := L_msm (X := X) (b := b) (w := w) (y := y) (g := g) (q := q) ht hn hb hd hc hm h9 h7 h11 h12 h15 h16 (n - q) q rfl hq (Nat.le_refl _) rfl
  rw [u_idv h8] at this
  rw [h8]
  exact this
theorem cS_nD {c : Int32} (h : cS c = true) : ¬ c = nI 40 ∧ cD c = false := by
  unfold cS at h
  have h := of_decide_eq_true h
  refine ⟨?_, ?_⟩
  · rintro rfl; exact h.1 (by decide)
  · unfold cD
    refine decide_eq_false (fun h2 => ?_)
    have h1 := h.1
    have h3 := h2.2
    rw [Int32.lt_iff_toInt_lt, nI_toInt (by omega)] at h1 h3
    omega
theorem oWord_n {T : Nat → Int32} {deep cnt q mx : Nat} (hq : q ≤ n) (ns : cS (sg T n q) = false) : oWord T n deep cnt q mx = .inl q := by
  have hsk : skn cS T n q = q := by
    by_cases hl : q < n
    · unfold sg at ns
      rw [if_pos hl] at ns
      exact sk_f ns
    · have : n - q = 0 := by omega
      show sk cS T (n - q) q = _
      rw [this]; rfl
  have nw : ∀ j, 0 < p_slen j → ¬ isW T q q j := fun j hj h => by have := h.1; omega
  unfold oWord
  rw [hsk, p_if_f (nw 0 (by decide)), p_if_f (nw 1 (by decide)), p_if_f (nw 2 (by decide)), p_if_f (nw 3 (by decide))]
theorem M_takePart {deep cnt p mx : Nat} {z : Nat → Int32} {a : Nat → Nat → Int32} (ht : TX (a 14) n) (hn : n ≤ 300) (hb : b ≤ cnt) (hd : deep ≤ 12) (hc : cnt ≤ 60) (hm : mx ≤ 12) (h9 : z 9 = -1) (h7 : z 7 = nI n) (h8 : z 8 = nI p) (h11 : z 11 = nI b) (h12 : z 12 = nI cnt) (h15 : z 15 = nI mx) (h16 : z 16 = nI (deep + 1)) (hq : p ≤ n) : p_M X 6 99 [.ref 22] (hp z a w y g) (TPP w y g z a deep b cnt (oPart (a 14) n deep cnt p mx)) := by
  have b0 := skn_ge cB (a 14) hq
  have FPz : ∀ {z1 : Nat → Int32} {bd : Nat}, z1 9 = nI bd → MKZ z z1 → FP w y g z a bd (.inl (some (.int (-1))), hp z1 a w y g) := fun h1 h2 => ⟨_, _, a, rfl, Or.inl rfl, h1, h2, MKA.rf a⟩
  unfold oPart
  refine (r_in xin_99 (r_aln xc_99_0 rfl ?_))
  refine (r_cv xc_99_1 xm_99_1 rfl xrc_100 rfl (p_M.up (M_look h7 h8 hn hq) (by omega)) (r_isn [_, _, _] xc_99_4 rfl rfl (r_aln xc_99_5 rfl (r_get xc_99_6 xf_99_80 g_6_2 (r_isn [_, _, _] xc_99_9 rfl rfl (r_iln xc_99_10 rfl (r_bi xc_99_11 kb_40 (r_cne xc_99_13 xj_99_13 (fun hc13 => (r_aln xc_99_16 rfl (r_bi xc_99_17 kb_8 (r_iln xc_99_19 rfl ?_)))) (fun hc13 => (r_iln xc_99_42 rfl ?_))))))))))
  · rw [p_if_t hc13]
    have e8 : u_ z 8 (nI (skn cB (a 14) n p)) 8 = nI (skn cB (a 14) n p) := rfl
    rw [e8]
    by_cases hdd : deep < 12
    · rw [p_if_f (by omega)]
      refine (r_c0 xc_99_20 xm_99_20 rfl xrc_96 rfl (p_M.up (M_opens_y (dd := deep + 1) (mx := mx) h16 (by omega) h15 hm) (by omega)) (r_aln xc_99_23 rfl ?_))
      refine (r_cv xc_99_24 xm_99_24 rfl xrc_98 rfl (p_M.up (M_fine_y h9) (by omega)) (r_zeq xc_99_27 xj_99_27 (fun hc27 => (r_ic xc_99_40 kc_m1 (r_ri xc_99_41 xrt_99 ?_))) (fun hc27 => (r_aln xc_99_30 rfl (r_dup xc_99_31 rfl (r_get xc_99_32 xf_99_80 g_6_2 (r_ic xc_99_35 kc_1 (r_iadd xc_99_36 (r_put xc_99_37 xf_99_80 rfl s_6_2 (r_ic xc_99_40 kc_m1 (r_ri xc_99_41 xrt_99 ?_)))))))))))
      · exact absurd hc27 (by decide)
      · have e4 : u_ (u_ (u_ z 8 (nI (skn cB (a 14) n p))) 16 (nI (deep + 1 + 1))) 15 (nI (max mx (deep + 1))) 8 + nI 1 = nI (skn cB (a 14) n p + 1) := kI_add _ 1
        rw [e4]
        exact ⟨_, rfl, rfl, h12, rfl, rfl, fun k k1 k2 k3 k4 => by rw [u_n _ _ k1, u_n _ _ k3, u_n _ _ k4, u_n _ _ k1]⟩
    · rw [p_if_t (by omega)]
      have hd12 : deep = 12 := by omega
      subst hd12
      refine (r_c0 xc_99_20 xm_99_20 rfl xrc_96 rfl (p_M.up (M_opens_n h16 h9) (by omega)) (r_aln xc_99_23 rfl ?_))
      refine (r_cv xc_99_24 xm_99_24 rfl xrc_98 rfl (p_M.up (M_fine_n (b := skn cB (a 14) n p) rfl (by omega)) (by omega)) (r_zeq xc_99_27 xj_99_27 (fun hc27 => (r_ic xc_99_40 kc_m1 (r_ri xc_99_41 xrt_99 ?_))) (fun hc27 => (r_aln xc_99_30 rfl (r_dup xc_99_31 rfl (r_get xc_99_32 xf_99_80 g_6_2 (r_ic xc_99_35 kc_1 (r_iadd xc_99_36 (r_put xc_99_37 xf_99_80 rfl s_6_2 (r_ic xc_99_40 kc_m1 (r_ri xc_99_41 xrt_99 ?_)))))))))))
      · exact FPz rfl (((MKZ.rf z).u (by omega)).u (by omega))
      · exact absurd rfl hc27
  · rw [p_if_f hc13]
    refine (r_cv xc_99_43 xm_99_43 rfl xrc_101 rfl (p_M.up M_isSmall (by omega)) (r_zeq xc_99_46 xj_99_46 (fun hc46 => (r_iln xc_99_54 rfl ?_)) (fun hc46 => (r_aln xc_99_49 rfl ?_))))
    · have ns : cS (sg (a 14) n (skn cB (a 14) n p)) = false := by
        cases h : cS (sg (a 14) n (skn cB (a 14) n p)) with
        | false => rfl
        | true => rw [h] at hc46; exact absurd hc46 (by decide)
      refine (r_cv xc_99_55 xm_99_55 rfl xrc_110 rfl (p_M.up M_isDigit (by omega)) (r_zne xc_99_58 xj_99_58 (fun hc58 => (r_aln xc_99_61 rfl (r_iln xc_99_62 rfl (r_ic xc_99_63 kc_m1 (r_cne xc_99_64 xj_99_64 (fun hc64 => (r_aln xc_99_67 rfl (r_get xc_99_68 xf_99_77 g_6_1 (r_go xc_99_71 xj_99_71 ?_)))) (fun hc64 => (r_aln xc_99_74 rfl (r_get xc_99_75 xf_99_80 g_6_2 ?_)))))))) (fun hc58 => (r_aln xc_99_83 rfl (r_iln xc_99_84 rfl ?_)))))
      · have nd : ¬ cD (sg (a 14) n (skn cB (a 14) n p)) = true := by
          intro h
          rw [if_pos h] at hc58
          exact absurd hc58 (by decide)
        rw [p_if_f nd]
        rw [oWord_n b0.2 ns]
        have e := (sg_m1 ht b0.2).mp hc64
        have e2 : u_ z 8 (nI (skn cB (a 14) n p)) 7 = nI (skn cB (a 14) n p) := by
          show z 7 = nI (skn cB (a 14) n p)
          rw [e]; exact h7
        rw [e2]
        refine (r_c0 xc_99_78 xm_99_78 rfl xrc_97 rfl (p_M.up (M_fail h9) (by omega)) (r_ic xc_99_81 kc_m1 (r_ri xc_99_82 xrt_99 ?_)))
        exact FPz rfl (((MKZ.rf z).u (by omega)).u (by omega))
      · have nd : ¬ cD (sg (a 14) n (skn cB (a 14) n p)) = true := by
          intro h
          rw [if_pos h] at hc58
          exact absurd hc58 (by decide)
        rw [p_if_f nd, oWord_n b0.2 ns]
        refine (r_c0 xc_99_78 xm_99_78 rfl xrc_97 rfl (p_M.up (M_fail h9) (by omega)) (r_ic xc_99_81 kc_m1 (r_ri xc_99_82 xrt_99 ?_)))
        exact FPz rfl (((MKZ.rf z).u (by omega)).u (by omega))
      · have hD : cD (sg (a 14) n (skn cB (a 14) n p)) = true := by
          refine Classical.byContradiction (fun h => hc58 ?_)
          rw [if_neg h]
        rw [p_if_t hD]
        have e8 : u_ z 8 (nI (skn cB (a 14) n p)) 8 = nI (skn cB (a 14) n p) := rfl
        rw [e8]
        by_cases hf : cnt < 60
        · refine (r_cv xc_99_85 xm_99_85 rfl xrc_104 rfl (p_M.up (M_counts_y h12 hf) (by omega)) (r_zeq xc_99_88 xj_99_88 (fun hc88 => (r_ic xc_99_98 kc_m1 (r_ri xc_99_99 xrt_99 ?_))) (fun hc88 => (r_aln xc_99_91 rfl ?_))))
          · exact absurd hc88 (by decide)
          · refine (r_cq xc_99_92 xm_99_92 rfl xrc_113 rfl (LfP.ex (p_M.up (M_takeNumber (cnt := cnt) (mx := mx) (b := b) (p := skn cB (a 14) n p) h9 h7 rfl hn b0.2 hD hf h11 (by omega)) (by omega))) (fun v h1 hP => ?_) (fun _ _ h => by first | (obtain ⟨_, he, _⟩ := h; cases he; done) | (obtain ⟨_, he⟩ := h; cases he; done) | (obtain ⟨_, _, he, _⟩ := h; cases he; done) | (obtain ⟨_, _, _, he, _⟩ := h; cases he; done) | (simp only [Prod.mk.injEq, reduceCtorEq, false_and, exists_false] at h)))
            obtain ⟨x, z', a', he', hx⟩ := hP
            cases he'
            refine (r_go xc_99_95 xj_99_95 (r_ri xc_99_99 xrt_99 ?_))
            exact TPP_of_LP (z := z) (deep := deep) (cnt := cnt) hx rfl (fun k h1 h2 => by rw [u_n _ _ h2, u_n _ _ h1])
        · have h60 : cnt = 60 := by omega
          subst h60
          refine (r_cv xc_99_85 xm_99_85 rfl xrc_104 rfl (p_M.up (M_counts_n h12 h9) (by omega)) (r_zeq xc_99_88 xj_99_88 (fun hc88 => (r_ic xc_99_98 kc_m1 (r_ri xc_99_99 xrt_99 ?_))) (fun hc88 => (r_aln xc_99_91 rfl ?_))))
          · have hs : sNum (a 14) n 60 (skn cB (a 14) n p) mx = .inl (skn cB (a 14) n p) := by
              unfold sNum
              rw [p_if_t (Or.inr (Nat.le_refl _))]
            rw [hs]
            exact FPz rfl (((MKZ.rf z).u (by omega)).u (by omega))
          · exact absurd rfl hc88
    · have hS : cS (sg (a 14) n (skn cB (a 14) n p)) = true := by
        refine Classical.byContradiction (fun h => hc46 ?_)
        rw [if_neg h]
      rw [p_if_f (by rw [(cS_nD hS).2]; decide)]
      refine (r_cq xc_99_50 xm_99_50 rfl xrc_102 rfl (TPP.ex (M_takeWord (q := skn cB (a 14) n p) ht hn hb hd hc hm h9 h7 rfl h11 h12 h15 h16 b0.2)) (fun v h1 hP => ?_) (fun _ _ h => by first | (obtain ⟨_, he, _⟩ := h; cases he; done) | (obtain ⟨_, he⟩ := h; cases he; done) | (obtain ⟨_, _, he, _⟩ := h; cases he; done) | (obtain ⟨_, _, _, he, _⟩ := h; cases he; done) | (simp only [Prod.mk.injEq, reduceCtorEq, false_and, exists_false] at h)))
      obtain ⟨x, z', a', he', hx⟩ := hP
      cases he'
      refine (r_ri xc_99_53 xrt_99 ?_)
      exact hx.z8
/-! joins -/
theorem M_joins_0 {dp : Nat} {x : Int32} {z : Nat → Int32} {a : Nat → Nat → Int32} (h16 : z 16 = nI (dp + 1)) (hd : dp ≤ 12) (h26 : a 26 dp = nI 0) : p_M X 1 115 [.ref 22, .int x] (hp z a w y g) (fun q => q = (.inl none, hp z (u_ (u_ a 25 (upd (a 25) dp x)) 26 (upd (a 26) dp (nI 0))) w y g)) := by
  have e : z 16 - nI 1 = nI dp := by rw [h16, kI_sub (by omega)]; rfl
  refine (r_in xin_115 (r_aln xc_115_0 rfl (r_get xc_115_1 xf_115_132 g_6_22 (r_ic xc_115_4 kc_1 (r_isub xc_115_5 (r_isn [_, _, _] xc_115_6 rfl rfl (r_aln xc_115_7 rfl (r_get xc_115_8 xf_115_43 g_6_20 (r_iln xc_115_11 rfl (r_aln xc_115_12 rfl (r_get xc_115_13 xf_115_46 g_6_21 (r_iln xc_115_16 rfl (r_ia xc_115_17 b_35 ?_ (r_zne xc_115_18 xj_115_18 (fun hc18 => (r_iln xc_115_21 rfl (r_go xc_115_22 xj_115_22 (r_ias xc_115_44 b_34 t_34 ?_ (r_aln xc_115_45 rfl (r_get xc_115_46 xf_115_46 g_6_21 (r_iln xc_115_49 rfl (r_ic xc_115_50 kc_0 (r_ias xc_115_51 b_35 t_35 ?_ (r_r0 xc_115_52 xrt_115 ?_)))))))))) (fun hc18 => (r_aln xc_115_25 rfl (r_aln xc_115_26 rfl (r_get xc_115_27 xf_115_46 g_6_21 (r_iln xc_115_30 rfl (r_ia xc_115_31 b_35 ?_ (r_ic xc_115_32 kc_0 (r_ic xc_115_33 kc_m1 (r_aln xc_115_34 rfl (r_get xc_115_35 xf_115_43 g_6_20 (r_iln xc_115_38 rfl (r_ia xc_115_39 b_34 ?_ (r_iln xc_115_40 rfl ?_)))))))))))))))))))))))))))
  · rw [e]; exact kI_in (by omega) (by omega)
  · rw [e]; exact kI_in (by omega) (by omega)
  · rw [e]; exact kI_in (by omega) (by omega)
  · rw [e, kI_cl (by omega)]; rfl
  · rw [e]; exact kI_in (by omega) (by omega)
  · rw [e]; exact kI_in (by omega) (by omega)
  · rw [e, kI_cl (by omega)] at hc18; exact absurd h26 hc18
theorem M_joins_1 {dp : Nat} {x : Int32} {z : Nat → Int32} {a : Nat → Nat → Int32} (h16 : z 16 = nI (dp + 1)) (hd : dp ≤ 12) (h26 : ¬ a 26 dp = nI 0) (h11 : z 11 = nI b) (hb : b < 120) : p_M X 1 115 [.ref 22, .int x] (hp z a w y g) (fun q => ∃ a', q = (.inl none, hp (u_ z 11 (nI (b + 1))) a' w y g) ∧ (∀ j, j < 15 ∨ 20 < j → j ≠ 25 → j ≠ 26 → a' j = a j) ∧ (∀ j, j ≠ b → mnv a' j = mnv a j) ∧ mnv a' b = (a 26 dp, nI 0, -1, a 25 dp, x, nI 0) ∧ a' 25 = upd (a 25) dp (nI b) ∧ a' 26 = upd (a 26) dp (nI 0)) := by
  have e : z 16 - nI 1 = nI dp := by rw [h16, kI_sub (by omega)]; rfl
  refine (r_in xin_115 (r_aln xc_115_0 rfl (r_get xc_115_1 xf_115_132 g_6_22 (r_ic xc_115_4 kc_1 (r_isub xc_115_5 (r_isn [_, _, _] xc_115_6 rfl rfl (r_aln xc_115_7 rfl (r_get xc_115_8 xf_115_43 g_6_20 (r_iln xc_115_11 rfl (r_aln xc_115_12 rfl (r_get xc_115_13 xf_115_46 g_6_21 (r_iln xc_115_16 rfl (r_ia xc_115_17 b_35 ?_ (r_zne xc_115_18 xj_115_18 (fun hc18 => (r_iln xc_115_21 rfl (r_go xc_115_22 xj_115_22 (r_ias xc_115_44 b_34 t_34 ?_ (r_aln xc_115_45 rfl (r_get xc_115_46 xf_115_46 g_6_21 (r_iln xc_115_49 rfl (r_ic xc_115_50 kc_0 (r_ias xc_115_51 b_35 t_35 ?_ (r_r0 xc_115_52 xrt_115 ?_)))))))))) (fun hc18 => (r_aln xc_115_25 rfl (r_aln xc_115_26 rfl (r_get xc_115_27 xf_115_46 g_6_21 (r_iln xc_115_30 rfl (r_ia xc_115_31 b_35 ?_ (r_ic xc_115_32 kc_0 (r_ic xc_115_33 kc_m1 (r_aln xc_115_34 rfl (r_get xc_115_35 xf_115_43 g_6_20 (r_iln xc_115_38 rfl (r_ia xc_115_39 b_34 ?_ (r_iln xc_115_40 rfl ?_)))))))))))))))))))))))))))
  · rw [e]; exact kI_in (by omega) (by omega)
  · rw [e]; exact kI_in (by omega) (by omega)
  · rw [e]; exact kI_in (by omega) (by omega)
  · rw [e, kI_cl (by omega)] at hc18; exact absurd hc18 h26
  · rw [e]; exact kI_in (by omega) (by omega)
  · rw [e]; exact kI_in (by omega) (by omega)
  · rw [e, kI_cl (by omega)]
    refine (r_cq xc_115_41 xm_115_41 rfl xrc_105 rfl ((M_make (b := b) h11 hb)) (fun v h1 hP => ?_) (fun _ _ h => by first | (obtain ⟨_, he, _⟩ := h; cases he; done) | (obtain ⟨_, he⟩ := h; cases he; done) | (obtain ⟨_, _, he, _⟩ := h; cases he; done) | (obtain ⟨_, _, _, he, _⟩ := h; cases he; done) | (simp only [Prod.mk.injEq, reduceCtorEq, false_and, exists_false] at h)))
    obtain ⟨a', he', e1, e2, e3⟩ := hP
    cases he'
    refine (r_ias xc_115_44 b_34 t_34 ?_ (r_aln xc_115_45 rfl (r_get xc_115_46 xf_115_46 g_6_21 (r_iln xc_115_49 rfl (r_ic xc_115_50 kc_0 (r_ias xc_115_51 b_35 t_35 ?_ (r_r0 xc_115_52 xrt_115 ?_)))))))
    · exact kI_in (by omega) (by omega)
    · exact kI_in (by omega) (by omega)
    · rw [kI_cl (by omega)]
      refine ⟨_, rfl, fun j h1 h2 h3 => by rw [u_n _ _ h3, u_n _ _ h2, e1 j h1], e2, e3, ?_, ?_⟩
      · show upd (a' 25) dp (nI b) = _
        rw [e1 25 (by omega)]
      · show upd (a' 26) dp (nI 0) = _
        rw [e1 26 (by omega)]
theorem M_joins_f {dp : Nat} {x : Int32} {z : Nat → Int32} {a : Nat → Nat → Int32} (h16 : z 16 = nI (dp + 1)) (hd : dp ≤ 12) (h11 : z 11 = nI b) (hb : b < 120) : p_M X 1 115 [.ref 22, .int x] (hp z a w y g) (fun q => ∃ z' a', q = (.inl none, hp z' a' w y g) ∧ z' 9 = z 9 ∧ MKZ z z' ∧ MKA a a') := by
  by_cases h26 : a 26 dp = nI 0
  · refine (M_joins_0 h16 hd h26).mono (fun q hq => ⟨_, _, hq, rfl, MKZ.rf z, fun j hj => ?_⟩)
    rw [u_n _ _ (by omega), u_n _ _ (by omega)]
  · refine (M_joins_1 h16 hd h26 h11 hb).mono (fun q hq => ?_)
    obtain ⟨a', e, e1, _⟩ := hq
    exact ⟨_, a', e, rfl, (MKZ.rf z).u (by omega), fun j hj => e1 j (by omega) (by omega) (by omega)⟩
end MPART
