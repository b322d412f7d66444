/-! ===== the class reads parts and rates ===== -/
theorem Rp.kept {a a' : Nat → Nat → Int32} {r r' b : Nat} {ns : List pN} (h : Rp a r b ns) (hn : ∀ k, k < ns.length → nv a' (b + k) = nv a (b + k)) (hr : r ≤ r') (hw : RW a a' r) : Rp a' r' b ns :=
  fun k v hk => (h k v hk).kept (hn k (getElem?_lt hk)) hr hw
theorem Rp.app {a : Nat → Nat → Int32} {r b : Nat} {l m : List pN} (h1 : Rp a r b l) (h2 : Rp a r (b + l.length) m) : Rp a r b (l ++ m) := by
  intro k v hk
  by_cases hl : k < l.length
  · rw [List.getElem?_append_left hl] at hk; exact h1 k v hk
  · rw [List.getElem?_append_right (by omega)] at hk
    have := h2 (k - l.length) v hk
    rw [show b + l.length + (k - l.length) = b + k by omega] at this
    exact this
theorem Rp.cons {a : Nat → Nat → Int32} {r b : Nat} {v : pN} {t : List pN} (h1 : rp a r b v) (h2 : Rp a r (b + 1) t) : Rp a r b (v :: t) := by
  intro k x hk
  cases k with
  | zero => cases hk; exact h1
  | succ k =>
    have := h2 k x hk
    rw [show b + 1 + k = b + (k + 1) by omega] at this
    exact this
theorem RW.tr {a a1 a2 : Nat → Nat → Int32} {r r1 : Nat} (h : RW a a1 r) (h2 : RW a1 a2 r1) (hr : r ≤ r1) : RW a a2 r :=
  fun j hj => ⟨(h2 j (by omega)).1.trans (h j hj).1, (h2 j (by omega)).2.trans (h j hj).2⟩
theorem RW.of7 {a a' : Nat → Nat → Int32} {r : Nat} (h : ∀ j, 7 ≤ j → a' j = a j) : RW a a' r := fun j _ => ⟨by rw [h 7 (by omega)], by rw [h 8 (by omega)]⟩
section PARS
variable {X : pX} {n : Nat} {T : Nat → Int32} {w : Nat → Nat → Int64} {y : Nat → Int64} {g : List pE}
theorem CPost.pre {z z1 : Nat → Int32} {a : Nat → Nat → Int32} {cnt r : Nat} {res : pS} {q : pR} (h : CPost T n w y g z1 a cnt r res q) (hF : CF z a z1 a) : CPost T n w y g z a cnt r res q := by
  cases res with
  | inl b =>
    obtain ⟨z', a', g1, g2, g3⟩ := h
    exact ⟨z', a', g1, g2, hF.tr g3⟩
  | inr s =>
    obtain ⟨p', ns, mx'⟩ := s
    obtain ⟨z', a', r', g1, g2, g3, g4⟩ := h
    exact ⟨z', a', r', g1, g2, hF.tr g3, g4⟩
def PartOK (X : pX) (T : Nat → Int32) (n : Nat) (w : Nat → Nat → Int64) (y : Nat → Int64) (g : List pE) (P : Nat → Nat → Nat → Nat → Option pS) : Prop :=
  ∀ (D deep cnt p mx r : Nat) (z : Nat → Int32) (a : Nat → Nat → Int32) (res : pS), 6 + 3 * (12 - deep) ≤ D → deep ≤ 12 → CR T n p cnt mx r z a → P deep cnt p mx = some res → p_M X D 13 [.ref 11, .int (nI deep)] (hp z a w y g) (CPost T n w y g z a cnt r res)
def RateOK (X : pX) (T : Nat → Int32) (n : Nat) (w : Nat → Nat → Int64) (y : Nat → Int64) (g : List pE) (R : Nat → Nat → Nat → Nat → Option pS) : Prop :=
  ∀ (D deep cnt p mx r : Nat) (z : Nat → Int32) (a : Nat → Nat → Int32) (res : pS), 7 + 3 * (12 - deep) ≤ D → deep ≤ 12 → CR T n p cnt mx r z a → R deep cnt p mx = some res → p_M X D 12 [.ref 11, .int (nI deep)] (hp z a w y g) (CPost T n w y g z a cnt r res)
theorem mx_eq {z : Nat → Int32} {mx deep : Nat} (h2 : z 2 = nI mx) (hm : mx ≤ 12) (hd : deep ≤ 12) : (if z 2 < nI deep then nI deep else z 2) = nI (max mx deep) := by
  rw [h2]
  by_cases h : mx < deep
  · rw [if_pos ((kI_lt (by omega) (by omega)).mpr h), Nat.max_eq_right (by omega)]
  · rw [if_neg (fun h' => h ((kI_lt (by omega) (by omega)).mp h')), Nat.max_eq_left (by omega)]
theorem M_bracket {R : Nat → Nat → Nat → Nat → Option pS} (hR : RateOK X T n w y g R) {D deep cnt q mx r : Nat} {z : Nat → Int32} {a : Nat → Nat → Int32} {res : pS} (hD : 5 + 3 * (12 - deep) ≤ D) (hd : deep ≤ 12) (hC : CR T n q cnt mx r z a) (hlt : q < n)
    (hres : p_if (12 ≤ deep) (some (.inl q)) (sClose T n (nI 41) (R (deep + 1) cnt (q + 1) (max mx (deep + 1))) (fun p1 ns m1 => some (.inr (p1, ns, m1)))) = some res) : p_M X D 16 [.ref 11, .int (nI deep)] (hp z a w y g) (CPost T n w y g z a cnt r res) := by
  obtain ⟨h3, h4, h1, h2, h0, rfl, hn, hq, hs, hm, hr⟩ := id hC
  obtain ⟨D, rfl⟩ : ∃ D', D = D' + 1 := ⟨D - 1, by omega⟩
  refine (r_in xin_16 (r_iln xc_16_0 rfl (r_bi xc_16_1 kb_12 (r_clt xc_16_3 xj_16_3 (fun hc3 => (r_aln xc_16_15 rfl (r_dup xc_16_16 rfl (r_get xc_16_17 xf_16_28 g_1_3 (r_ic xc_16_20 kc_1 (r_iadd xc_16_21 (r_put xc_16_22 xf_16_28 rfl s_1_3 (r_aln xc_16_25 rfl (r_get xc_16_26 xf_16_15 g_1_0 (r_iln xc_16_29 rfl (r_ic xc_16_30 kc_1 (r_iadd xc_16_31 ?_)))))))))))) (fun hc3 => (r_aln xc_16_6 rfl (r_aln xc_16_7 rfl (r_get xc_16_8 xf_16_28 g_1_3 ?_))))))))
  · rw [kI_lt (by omega) (by omega)] at hc3
    rw [p_if_f (by omega)] at hres
    rw [h4, kI_add, kI_add]
    refine (r_c0 xc_16_32 xm_16_32 rfl xrc_18 rfl (p_M.up M_reachDeep (by omega)) (r_aln xc_16_35 rfl (r_iln xc_16_36 rfl (r_ic xc_16_37 kc_1 (r_iadd xc_16_38 ?_)))))
    have e2 : (if u_ z 4 (nI (q + 1)) 2 < nI (deep + 1) then nI (deep + 1) else u_ z 4 (nI (q + 1)) 2) = nI (max mx (deep + 1)) := mx_eq h2 hm (by omega)
    rw [e2, kI_add]
    have hC2 : CR (a 9) n (q + 1) cnt (max mx (deep + 1)) r (u_ (u_ z 4 (nI (q + 1))) 2 (nI (max mx (deep + 1)))) a := ⟨h3, rfl, h1, rfl, h0, rfl, hn, by omega, hs, by omega, by omega⟩
    have hF2 : CF z a (u_ (u_ z 4 (nI (q + 1))) 2 (nI (max mx (deep + 1)))) a := ((CF.rf z a).u (by omega) (by omega)).u (by omega) (by omega)
    cases hRr : R (deep + 1) cnt (q + 1) (max mx (deep + 1)) with
    | none => rw [hRr] at hres; cases hres
    | some s =>
      rw [hRr] at hres
      have hM := hR D (deep + 1) cnt (q + 1) (max mx (deep + 1)) r _ a s (by omega) (by omega) hC2 hRr
      cases s with
      | inl b =>
        have hres : some (Sum.inl b : pS) = some res := hres
        cases hres
        refine (r_cq xc_16_39 xm_16_39 rfl xrc_12 rfl (hM) (fun v h1 hP => ?_) (fun _ _ h => by first | (obtain ⟨_, he, _⟩ := h; cases he; done) | (obtain ⟨_, he⟩ := h; cases he; done) | (obtain ⟨_, _, he, _⟩ := h; cases he; done) | (obtain ⟨_, _, _, he, _⟩ := h; cases he; done) | (simp only [Prod.mk.injEq, reduceCtorEq, false_and, exists_false] at h)))
        obtain ⟨z', a', he, g2, g3⟩ := hP
        cases he
        refine (r_zeq xc_16_42 xj_16_42 (fun hc42 => (r_ic xc_16_58 kc_0 (r_rz xc_16_59 xrt_16 ?_ ?_))) (fun hc42 => (r_aln xc_16_45 rfl (r_bi xc_16_46 kb_41 ?_))))
        · exact Or.inl rfl
        · exact CPost_bad g2 (hF2.tr g3)
        · exact absurd rfl hc42
      | inr s =>
        obtain ⟨p1, ns, m1⟩ := s
        have hres : p_if (sg (a 9) n (skn cB (a 9) n p1) = nI 41) (some (.inr (skn cB (a 9) n p1 + 1, ns, m1))) (some (.inl (skn cB (a 9) n p1))) = some res := hres
        refine (r_cq xc_16_39 xm_16_39 rfl xrc_12 rfl (hM) (fun v h1 hP => ?_) (fun _ _ h => by first | (obtain ⟨_, he, _⟩ := h; cases he; done) | (obtain ⟨_, he⟩ := h; cases he; done) | (obtain ⟨_, _, he, _⟩ := h; cases he; done) | (obtain ⟨_, _, _, he, _⟩ := h; cases he; done) | (simp only [Prod.mk.injEq, reduceCtorEq, false_and, exists_false] at h)))
        obtain ⟨z', a', r', he, g2, g3, g4, g5, g6, g7, g8⟩ := hP
        cases he
        obtain ⟨k3, k4, k1, k2, k0, k9, _, kq, ks, km, kr⟩ := id g2
        have hid := skn_ge cB (a 9) kq
        refine (r_zeq xc_16_42 xj_16_42 (fun hc42 => (r_ic xc_16_58 kc_0 (r_rz xc_16_59 xrt_16 ?_ ?_))) (fun hc42 => (r_aln xc_16_45 rfl (r_bi xc_16_46 kb_41 ?_))))
        · exact Or.inl rfl
        · exact absurd hc42 (by decide)
        · by_cases hp2 : sg (a 9) n (skn cB (a 9) n p1) = nI 41
          · rw [p_if_t hp2] at hres
            cases hres
            have hl2 := (sg_lt (by decide) hp2).1
            rw [← k9] at hp2
            refine (r_cv xc_16_48 xm_16_48 rfl xrc_20 rfl (p_M.up (M_readSign_y (p := p1) (c := nI 41) k3 k4 hn kq hp2) (by omega)) (r_zeq xc_16_51 xj_16_51 (fun hc51 => (r_ic xc_16_58 kc_0 (r_rz xc_16_59 xrt_16 ?_ ?_))) (fun hc51 => (r_ic xc_16_54 kc_1 (r_go xc_16_55 xj_16_55 (r_rz xc_16_59 xrt_16 ?_ ?_))))))
            · exact Or.inl rfl
            · exact absurd hc51 (by decide)
            · exact Or.inr rfl
            · rw [k9]
              exact ⟨_, a', r', rfl, g2.at4 (by omega) (by omega), hF2.tr (g3.u (by omega) (by omega)), g4, g5, g6, g7, g8⟩
          · rw [p_if_f hp2] at hres
            cases hres
            rw [← k9] at hp2
            refine (r_cv xc_16_48 xm_16_48 rfl xrc_20 rfl (p_M.up (M_readSign_n (p := p1) (c := nI 41) k3 k4 hn kq hp2) (by omega)) (r_zeq xc_16_51 xj_16_51 (fun hc51 => (r_ic xc_16_58 kc_0 (r_rz xc_16_59 xrt_16 ?_ ?_))) (fun hc51 => (r_ic xc_16_54 kc_1 (r_go xc_16_55 xj_16_55 (r_rz xc_16_59 xrt_16 ?_ ?_))))))
            · exact Or.inl rfl
            · rw [k9]
              exact CPost_bad rfl (hF2.tr ((g3.u (by omega) (by omega)).u (by omega) (by omega)))
            · exact absurd rfl hc51
            · exact absurd rfl hc51
  · rw [kI_lt (by omega) (by omega)] at hc3
    rw [p_if_t (by omega)] at hres
    cases hres
    refine (r_cv xc_16_11 xm_16_11 rfl xrc_17 rfl (p_M.up M_refuse (by omega)) (r_rz xc_16_14 xrt_16 ?_ ?_))
    · exact Or.inl rfl
    · exact CPost_bad h4 ((CF.rf z a).u (by omega) (by omega))
/-- min and max -/
theorem M_two {R : Nat → Nat → Nat → Nat → Option pS} (hR : RateOK X T n w y g R) {D deep cnt p mx r kd : Nat} {z : Nat → Int32} {a : Nat → Nat → Int32} {res : pS} (hD : 5 + 3 * (12 - deep) ≤ D) (hd : deep < 12) (hC : CR T n p (cnt + 1) mx r z a) (hnv : nv a cnt = (nI kd, nI 0, -1, -1, -1, nI 0, nI 0))
    (hres : sTwo T n R kd deep cnt p (max mx (deep + 1)) = some res) : p_M X D 37 [.ref 11, .int (nI cnt), .int (nI (deep + 1))] (hp z a w y g) (CPost T n w y g z a cnt r res) := by
  obtain ⟨h3, h4, h1, h2, h0, rfl, hn, hq, hs, hm, hr⟩ := id hC
  obtain ⟨D, rfl⟩ : ∃ D', D = D' + 1 := ⟨D - 1, by omega⟩
  have hp1 := skn_ge cB (a 9) hq
  refine (r_in xin_37 (r_aln xc_37_0 rfl (r_get xc_37_1 xf_37_15 g_1_0 (r_iln xc_37_4 rfl ?_))))
  refine (r_c0 xc_37_5 xm_37_5 rfl xrc_18 rfl (p_M.up M_reachDeep (by omega)) (r_aln xc_37_8 rfl (r_bi xc_37_9 kb_40 ?_)))
  have e2 : (if z 2 < nI (deep + 1) then nI (deep + 1) else z 2) = nI (max mx (deep + 1)) := mx_eq h2 hm (by omega)
  rw [e2]
  have hF1 : CF z a (u_ z 2 (nI (max mx (deep + 1)))) a := (CF.rf z a).u (by omega) (by omega)
  unfold sTwo at hres
  by_cases hb : sg (a 9) n (skn cB (a 9) n p) = nI 40
  · rw [p_if_f (fun h => h hb)] at hres
    have hl1 := (sg_lt (by decide) hb).1
    refine (r_cv xc_37_11 xm_37_11 rfl xrc_20 rfl (p_M.up (M_readSign_y (p := p) (c := nI 40) h3 h4 hn hq hb) (by omega)) (r_zeq xc_37_14 xj_37_14 (fun hc14 => (r_ic xc_37_34 kc_0 (r_rz xc_37_35 xrt_37 ?_ ?_))) (fun hc14 => (r_aln xc_37_17 rfl (r_iln xc_37_18 rfl ?_)))))
    · exact Or.inl rfl
    · exact absurd hc14 (by decide)
    · have hC2 : CR (a 9) n (skn cB (a 9) n p + 1) (cnt + 1) (max mx (deep + 1)) r (u_ (u_ z 2 (nI (max mx (deep + 1)))) 4 (nI (skn cB (a 9) n p + 1))) a := ⟨h3, rfl, h1, rfl, h0, rfl, hn, by omega, hs, by omega, by omega⟩
      have hF2 : CF z a (u_ (u_ z 2 (nI (max mx (deep + 1)))) 4 (nI (skn cB (a 9) n p + 1))) a := hF1.u (by omega) (by omega)
      cases hRr : R (deep + 1) (cnt + 1) (skn cB (a 9) n p + 1) (max mx (deep + 1)) with
      | none => rw [hRr] at hres; cases hres
      | some s =>
        rw [hRr] at hres
        have hM := hR D (deep + 1) (cnt + 1) (skn cB (a 9) n p + 1) (max mx (deep + 1)) r _ a s (by omega) (by omega) hC2 hRr
        cases s with
        | inl b =>
          have hres : some (Sum.inl b : pS) = some res := hres
          cases hres
          refine (r_cq xc_37_19 xm_37_19 rfl xrc_12 rfl (hM) (fun v h1 hP => ?_) (fun _ _ h => by first | (obtain ⟨_, he, _⟩ := h; cases he; done) | (obtain ⟨_, he⟩ := h; cases he; done) | (obtain ⟨_, _, he, _⟩ := h; cases he; done) | (obtain ⟨_, _, _, he, _⟩ := h; cases he; done) | (simp only [Prod.mk.injEq, reduceCtorEq, false_and, exists_false] at h)))
          obtain ⟨z', a', he, g2, g3⟩ := hP
          cases he
          refine (r_zeq xc_37_22 xj_37_22 (fun hc22 => (r_ic xc_37_34 kc_0 (r_rz xc_37_35 xrt_37 ?_ ?_))) (fun hc22 => (r_aln xc_37_25 rfl (r_bi xc_37_26 kb_44 ?_))))
          · exact Or.inl rfl
          · exact CPost_bad g2 (hF2.tr g3)
          · exact absurd rfl hc22
        | inr s =>
          obtain ⟨p1, lf, m1⟩ := s
          have hres : p_if (sg (a 9) n (skn cB (a 9) n p1) = nI 44) (sClose (a 9) n (nI 41) (R (deep + 1) (cnt + 1 + lf.length) (skn cB (a 9) n p1 + 1) m1) (fun p2 rs m2 => some (.inr (p2, (kd, 0, 0, 1 + lf.length, []) :: (lf ++ rs), m2)))) (some (.inl (skn cB (a 9) n p1))) = some res := hres
          refine (r_cq xc_37_19 xm_37_19 rfl xrc_12 rfl (hM) (fun v h1 hP => ?_) (fun _ _ h => by first | (obtain ⟨_, he, _⟩ := h; cases he; done) | (obtain ⟨_, he⟩ := h; cases he; done) | (obtain ⟨_, _, he, _⟩ := h; cases he; done) | (obtain ⟨_, _, _, he, _⟩ := h; cases he; done) | (simp only [Prod.mk.injEq, reduceCtorEq, false_and, exists_false] at h)))
          obtain ⟨z1, a1, r1, he, g2, g3, g4, g5, g6, g7, g8, g9⟩ := hP
          cases he
          obtain ⟨k3, k4, k1, k2, k0, k9, _, kq, ks, km, kr⟩ := id g2
          have hid := skn_ge cB (a 9) kq
          refine (r_zeq xc_37_22 xj_37_22 (fun hc22 => (r_ic xc_37_34 kc_0 (r_rz xc_37_35 xrt_37 ?_ ?_))) (fun hc22 => (r_aln xc_37_25 rfl (r_bi xc_37_26 kb_44 ?_))))
          · exact Or.inl rfl
          · exact absurd hc22 (by decide)
          · by_cases hp2 : sg (a 9) n (skn cB (a 9) n p1) = nI 44
            · rw [p_if_t hp2] at hres
              have hl2 := (sg_lt (by decide) hp2).1
              rw [← k9] at hp2
              refine (r_cv xc_37_28 xm_37_28 rfl xrc_20 rfl (p_M.up (M_readSign_y (p := p1) (c := nI 44) k3 k4 hn kq hp2) (by omega)) (r_zne xc_37_31 xj_37_31 (fun hc31 => (r_ic xc_37_34 kc_0 (r_rz xc_37_35 xrt_37 ?_ ?_))) (fun hc31 => (r_aln xc_37_36 rfl (r_get xc_37_37 xf_37_15 g_1_0 (r_iln xc_37_40 rfl (r_iln xc_37_41 rfl (r_ic xc_37_42 kc_1 (r_iadd xc_37_43 (r_aln xc_37_44 rfl (r_get xc_37_45 xf_37_15 g_1_0 (r_get xc_37_48 xf_37_42 g_2_10 ?_))))))))))))
              · exact Or.inl rfl
              · exact absurd hc31 (by decide)
              · rw [k9, kI_add]
                have ek : u_ z1 4 (nI (skn cB (a 9) n p1 + 1)) 1 = nI (cnt + 1 + lf.length) := k1
                rw [ek]
                refine (r_c0 xc_37_51 xm_37_51 rfl xrc_38 rfl (p_M.up (M_setSides (s := cnt + 1 + lf.length) (i := cnt) k1 ks (by omega)) (by omega)) (r_aln xc_37_54 rfl (r_iln xc_37_55 rfl ?_)))
                have hC3 : CR (a 9) n (skn cB (a 9) n p1 + 1) (cnt + 1 + lf.length) m1 r1 (u_ z1 4 (nI (skn cB (a 9) n p1 + 1))) (u_ (u_ a1 3 (upd (a1 3) cnt (nI (cnt + 1)))) 4 (upd (a1 4) cnt (nI (cnt + 1 + lf.length)))) := ⟨k3, rfl, k1, k2, k0, k9, hn, by omega, ks, km, by omega⟩
                have hF3 : CF z a (u_ z1 4 (nI (skn cB (a 9) n p1 + 1))) (u_ (u_ a1 3 (upd (a1 3) cnt (nI (cnt + 1)))) 4 (upd (a1 4) cnt (nI (cnt + 1 + lf.length)))) := hF2.tr ((g3.u (by omega) (by omega)).tr ⟨fun _ _ => rfl, rfl, fun k hk => by rw [u_n _ _ (by omega), u_n _ _ (by omega)]⟩)
                have n3 : ∀ j, j ≠ cnt → nv (u_ (u_ a1 3 (upd (a1 3) cnt (nI (cnt + 1)))) 4 (upd (a1 4) cnt (nI (cnt + 1 + lf.length)))) j = nv a1 j := by
                  intro j hj
                  show (a1 0 j, a1 1 j, a1 2 j, upd (a1 3) cnt (nI (cnt + 1)) j, upd (a1 4) cnt (nI (cnt + 1 + lf.length)) j, a1 5 j, a1 6 j) = _
                  rw [up_n _ _ hj, up_n _ _ hj]; rfl
                have nc : nv (u_ (u_ a1 3 (upd (a1 3) cnt (nI (cnt + 1)))) 4 (upd (a1 4) cnt (nI (cnt + 1 + lf.length)))) cnt = (nI kd, nI 0, -1, nI (cnt + 1), nI (cnt + 1 + lf.length), nI 0, nI 0) := by
                  show (a1 0 cnt, a1 1 cnt, a1 2 cnt, upd (a1 3) cnt (nI (cnt + 1)) cnt, upd (a1 4) cnt (nI (cnt + 1 + lf.length)) cnt, a1 5 cnt, a1 6 cnt) = _
                  rw [up_s, up_s]
                  have := g5 cnt (by omega)
                  rw [hnv] at this
                  unfold nv at this
                  simp only [Prod.mk.injEq] at this
                  obtain ⟨q0, q1, q2, q3, q4, q5, q6⟩ := this
                  rw [q0, q1, q2, q5, q6]
                have w3 : RW a1 (u_ (u_ a1 3 (upd (a1 3) cnt (nI (cnt + 1)))) 4 (upd (a1 4) cnt (nI (cnt + 1 + lf.length)))) r1 := fun j _ => ⟨rfl, rfl⟩
                generalize (u_ (u_ a1 3 (upd (a1 3) cnt (nI (cnt + 1)))) 4 (upd (a1 4) cnt (nI (cnt + 1 + lf.length)))) = a2 at hC3 hF3 n3 nc w3
                cases hRr2 : R (deep + 1) (cnt + 1 + lf.length) (skn cB (a 9) n p1 + 1) m1 with
                | none => rw [hRr2] at hres; cases hres
                | some s2 =>
                  rw [hRr2] at hres
                  have hM2 := hR D (deep + 1) (cnt + 1 + lf.length) (skn cB (a 9) n p1 + 1) m1 r1 _ a2 s2 (by omega) (by omega) hC3 hRr2
                  cases s2 with
                  | inl b =>
                    have hres : some (Sum.inl b : pS) = some res := hres
                    cases hres
                    refine (r_cq xc_37_56 xm_37_56 rfl xrc_12 rfl (hM2) (fun v h1 hP => ?_) (fun _ _ h => by first | (obtain ⟨_, he, _⟩ := h; cases he; done) | (obtain ⟨_, he⟩ := h; cases he; done) | (obtain ⟨_, _, he, _⟩ := h; cases he; done) | (obtain ⟨_, _, _, he, _⟩ := h; cases he; done) | (simp only [Prod.mk.injEq, reduceCtorEq, false_and, exists_false] at h)))
                    obtain ⟨z', a', he, f2, f3⟩ := hP
                    cases he
                    refine (r_zeq xc_37_59 xj_37_59 (fun hc59 => (r_ic xc_37_75 kc_0 (r_rz xc_37_76 xrt_37 ?_ ?_))) (fun hc59 => (r_aln xc_37_62 rfl (r_bi xc_37_63 kb_41 ?_))))
                    · exact Or.inl rfl
                    · exact CPost_bad f2 (hF3.tr f3)
                    · exact absurd rfl hc59
                  | inr s2 =>
                    obtain ⟨p3, rt, m3⟩ := s2
                    have hres : p_if (sg (a 9) n (skn cB (a 9) n p3) = nI 41) (some (.inr (skn cB (a 9) n p3 + 1, (kd, 0, 0, 1 + lf.length, []) :: (lf ++ rt), m3))) (some (.inl (skn cB (a 9) n p3))) = some res := hres
                    refine (r_cq xc_37_56 xm_37_56 rfl xrc_12 rfl (hM2) (fun v h1 hP => ?_) (fun _ _ h => by first | (obtain ⟨_, he, _⟩ := h; cases he; done) | (obtain ⟨_, he⟩ := h; cases he; done) | (obtain ⟨_, _, he, _⟩ := h; cases he; done) | (obtain ⟨_, _, _, he, _⟩ := h; cases he; done) | (simp only [Prod.mk.injEq, reduceCtorEq, false_and, exists_false] at h)))
                    obtain ⟨z3, a3, r3, he, f2, f3, f4, f5, f6, f7, f8, f9⟩ := hP
                    cases he
                    obtain ⟨l3, l4, l1, l2, l0, l9, _, lq, ls, lm, lr⟩ := id f2
                    have hid3 := skn_ge cB (a 9) lq
                    refine (r_zeq xc_37_59 xj_37_59 (fun hc59 => (r_ic xc_37_75 kc_0 (r_rz xc_37_76 xrt_37 ?_ ?_))) (fun hc59 => (r_aln xc_37_62 rfl (r_bi xc_37_63 kb_41 ?_))))
                    · exact Or.inl rfl
                    · exact absurd hc59 (by decide)
                    · by_cases hp3 : sg (a 9) n (skn cB (a 9) n p3) = nI 41
                      · rw [p_if_t hp3] at hres
                        cases hres
                        have hl3 := (sg_lt (by decide) hp3).1
                        rw [← l9] at hp3
                        refine (r_cv xc_37_65 xm_37_65 rfl xrc_20 rfl (p_M.up (M_readSign_y (p := p3) (c := nI 41) l3 l4 hn lq hp3) (by omega)) (r_zeq xc_37_68 xj_37_68 (fun hc68 => (r_ic xc_37_75 kc_0 (r_rz xc_37_76 xrt_37 ?_ ?_))) (fun hc68 => (r_ic xc_37_71 kc_1 (r_go xc_37_72 xj_37_72 (r_rz xc_37_76 xrt_37 ?_ ?_))))))
                        · exact Or.inl rfl
                        · exact absurd hc68 (by decide)
                        · exact Or.inr rfl
                        · rw [l9]
                          have hlen : cnt + ((kd, 0, 0, 1 + lf.length, []) :: (lf ++ rt) : List pN).length = cnt + 1 + lf.length + rt.length := by simp; omega
                          refine ⟨_, a3, r3, rfl, ?_, hF3.tr (f3.u (by omega) (by omega)), by omega, fun i hi => ?_, (g6.tr (w3.tr f6 (Nat.le_refl _)) g4), ?_, by simp, ?_⟩
                          · rw [hlen]; exact f2.at4 (by omega) (by omega)
                          · rw [f5 i (by omega), n3 i (by omega), g5 i (by omega)]
                          · have hl4 : lf.length ≤ 60 := by omega
                            refine Rp.cons ?_ (Rp.app ?_ ?_)
                            · have := f5 cnt (by omega)
                              rw [nc] at this
                              unfold nv at this
                              simp only [Prod.mk.injEq] at this
                              obtain ⟨q0, q1, q2, q3, q4, q5, q6⟩ := this
                              refine ⟨q0, q1, by rw [q2]; exact m1_eq, by rw [q3]; rw [if_neg (by dsimp only; omega)], by rw [q4]; rw [if_neg (by dsimp only; omega)]; congr 1; dsimp only; omega, q6, 0, q5, by simp, fun k q hk => by simp at hk⟩
                            · exact g7.kept (fun k hk => by rw [f5 _ (by omega), n3 _ (by omega)]) f4 (w3.tr f6 (Nat.le_refl _))
                            · exact f7
                          · intro v hv
                            rcases List.mem_cons.mp hv with h | h
                            · subst h; dsimp only; omega
                            · rcases List.mem_append.mp h with h | h
                              · exact g9 v h
                              · exact f9 v h
                      · rw [p_if_f hp3] at hres
                        cases hres
                        rw [← l9] at hp3
                        refine (r_cv xc_37_65 xm_37_65 rfl xrc_20 rfl (p_M.up (M_readSign_n (p := p3) (c := nI 41) l3 l4 hn lq hp3) (by omega)) (r_zeq xc_37_68 xj_37_68 (fun hc68 => (r_ic xc_37_75 kc_0 (r_rz xc_37_76 xrt_37 ?_ ?_))) (fun hc68 => (r_ic xc_37_71 kc_1 (r_go xc_37_72 xj_37_72 (r_rz xc_37_76 xrt_37 ?_ ?_))))))
                        · exact Or.inl rfl
                        · rw [l9]
                          exact CPost_bad rfl (hF3.tr ((f3.u (by omega) (by omega)).u (by omega) (by omega)))
                        · exact absurd rfl hc68
                        · exact absurd rfl hc68
            · rw [p_if_f hp2] at hres
              cases hres
              rw [← k9] at hp2
              refine (r_cv xc_37_28 xm_37_28 rfl xrc_20 rfl (p_M.up (M_readSign_n (p := p1) (c := nI 44) k3 k4 hn kq hp2) (by omega)) (r_zne xc_37_31 xj_37_31 (fun hc31 => (r_ic xc_37_34 kc_0 (r_rz xc_37_35 xrt_37 ?_ ?_))) (fun hc31 => (r_aln xc_37_36 rfl (r_get xc_37_37 xf_37_15 g_1_0 (r_iln xc_37_40 rfl (r_iln xc_37_41 rfl (r_ic xc_37_42 kc_1 (r_iadd xc_37_43 (r_aln xc_37_44 rfl (r_get xc_37_45 xf_37_15 g_1_0 (r_get xc_37_48 xf_37_42 g_2_10 ?_))))))))))))
              · exact Or.inl rfl
              · rw [k9]
                exact CPost_bad rfl (hF2.tr ((g3.u (by omega) (by omega)).u (by omega) (by omega)))
              · exact absurd rfl hc31
  · rw [p_if_t hb] at hres
    cases hres
    refine (r_cv xc_37_11 xm_37_11 rfl xrc_20 rfl (p_M.up (M_readSign_n (p := p) (c := nI 40) h3 h4 hn hq hb) (by omega)) (r_zeq xc_37_14 xj_37_14 (fun hc14 => (r_ic xc_37_34 kc_0 (r_rz xc_37_35 xrt_37 ?_ ?_))) (fun hc14 => (r_aln xc_37_17 rfl (r_iln xc_37_18 rfl ?_)))))
    · exact Or.inl rfl
    · exact CPost_bad rfl ((hF1.u (by omega) (by omega)).u (by omega) (by omega))
    · exact absurd rfl hc14
end PARS
