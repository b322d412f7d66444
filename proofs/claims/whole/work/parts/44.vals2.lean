/-! ===== the class works the values out ===== -/
def vj (um : Nat → Option Nat) (pc : Nat) (t : List pN) (i : Nat) : Option Int64 := ev um pc 60 (t.drop i)
theorem vj_0 {um : Nat → Option Nat} {pc : Nat} {t : List pN} (h : TW t) (hl : t.length ≤ 60) : vj um pc t 0 = VAL um pc t := by
  unfold vj
  have := ev_app (um := um) (pc := pc) h 60 [] hl
  rw [List.append_nil] at this
  exact this
theorem vj_cases {um : Nat → Option Nat} {pc : Nat} {t : List pN} (h : TW t) (hl : t.length ≤ 60) {i : Nat} {v : pN} (hv : t[i]? = some v) : (lfOk v ∧ vj um pc t i = vL um pc v) ∨ (∃ m, inOk v m ∧ i + 1 < t.length ∧ i + v.2.2.2.1 < t.length ∧ vj um pc t i = vB v.1 (vj um pc t (i + 1)) (vj um pc t (i + v.2.2.2.1))) := by
  have hi := getElem?_lt hv
  obtain ⟨s, u, e, hs, x, s', e2, e3⟩ := TW_at h i [] hi
  rw [List.append_nil] at e
  rw [hv] at e3
  injection e3 with e3
  subst e3
  have hlen : (t.drop i).length = t.length - i := List.length_drop
  have hsl : s.length + u.length = t.length - i := by rw [← hlen, e, List.length_append]
  have e1 : vj um pc t i = VAL um pc s := by
    unfold vj
    rw [e]
    exact ev_app hs 60 u (by omega)
  rcases TW_cases hs with ⟨y, rfl, hy⟩ | ⟨y, l, r, rfl, hy, hL, hR⟩
  · injection e2 with e4 _
    subst e4
    exact Or.inl ⟨hy, by rw [e1]; exact VAL_leaf hy⟩
  · injection e2 with e4 _
    subst e4
    have hl1 := TW_ne hL
    have hr1 := TW_ne hR
    simp only [List.length_cons, List.length_append] at hsl
    have hR2 := hy.2.2.2.1
    refine Or.inr ⟨_, hy, by omega, by omega, ?_⟩
    have d1 : t.drop (i + 1) = l ++ (r ++ u) := by
      have : (t.drop i).drop 1 = l ++ (r ++ u) := by rw [e]; simp
      rw [← this, List.drop_drop]
    have d2 : t.drop (i + y.2.2.2.1) = r ++ u := by
      have : (t.drop i).drop (1 + l.length) = r ++ u := by
        rw [e, show 1 + l.length = l.length + 1 by omega]
        simp
      rw [← this, List.drop_drop, hR2]
    rw [e1, VAL_node hy hL hR]
    unfold vj
    rw [d1, d2, ev_app hL 60 _ (by omega), ev_app hR 60 _ (by omega)]
/-- what a unit's amount is to a value -/
def umF (A : Nat → Option Nat) (M G : Nat → Nat) (c : Nat) : Option Nat := match amt A M G 8 1 (c - 1) with
  | some x => if x ≤ 100000000 then some x else none
  | none => none
section VALS
variable {X : pX} {z : Nat → Int32} {y : Nat → Int64} {g : List pE} {A : Nat → Option Nat} {M G : Nat → Nat} {ns : List pN} {pc : Nat}
theorem M_maxL {a : Nat → Nat → Int32} {w : Nat → Nat → Int64} {x x2 : Int64} : p_M X 0 69 [.long x, .long x2] (hp z a w y g) (fun q => q = (.inl (some (.long (if x < x2 then x2 else x))), hp z a w y g)) := by
  refine (r_in xin_69 (r_lln xc_69_0 rfl (r_lln xc_69_1 rfl (r_llt xc_69_2 xc_69_3 xj_69_3 (fun hc3 => (r_lln xc_69_10 rfl (r_rl xc_69_11 xrt_69 ?_))) (fun hc3 => (r_lln xc_69_6 rfl (r_go xc_69_7 xj_69_7 (r_rl xc_69_11 xrt_69 ?_))))))))
  · rw [if_pos hc3]
  · rw [if_neg hc3]
theorem nar_1 : vp_nar .boolean (nI 1) = nI 1 := by decide
theorem nar_0 : vp_nar .boolean (nI 0) = nI 0 := by decide
theorem M_wUnits {a : Nat → Nat → Int32} {w : Nat → Nat → Int64} {i num : Nat} {o : Option Nat} (hi : i < 60) (ho : ∀ x, o = some x → x < 9223372036854775808) : p_M X 0 66 [.ref 17, .int (nI i), .long (nL num), .long (aL o)] (hp z a w y g) (fun q => ∃ a' w', q = (.inl none, hp z a' w' y g) ∧ (∀ j, j ≠ 12 → a' j = a j) ∧ (∀ j, j ≠ 1 → w' j = w j) ∧ (∀ j, j ≠ i → a' 12 j = a 12 j ∧ w' 1 j = w 1 j) ∧ match o with
    | some x => if x ≤ 100000000 then a' 12 i = nI 1 ∧ w' 1 i = nL num * nL x else a' 12 i = nI 0
    | none => a' 12 i = nI 0) := by
  have em : (-1 : Int64) < 0 := by decide
  have neg : aL o < 0 → o = none := by
    intro h
    cases o with
    | none => rfl
    | some x => exact absurd h (by rw [nL_0]; exact kL_neg (ho x rfl))
  have pos : ¬ aL o < 0 → ∃ x, o = some x := by
    intro h
    cases o with
    | none => exact absurd em h
    | some x => exact ⟨x, rfl⟩
  refine (r_in xin_66 (r_aln xc_66_0 rfl (r_get xc_66_1 xf_66_15 g_4_1 (r_iln xc_66_4 rfl (r_ll xc_66_5 rfl (r_lc xc_66_7 kl_0 (r_llt xc_66_8 xc_66_9 xj_66_9 (fun hc9 => (r_ic xc_66_25 kc_0 (r_bas xc_66_26 b_19 t_19 ?_ (r_aln xc_66_27 rfl (r_get xc_66_28 xf_66_9 g_4_0 (r_iln xc_66_31 rfl (r_aln xc_66_32 rfl (r_get xc_66_33 xf_66_15 g_4_1 (r_iln xc_66_36 rfl (r_ba xc_66_37 b_19 ?_ (r_zeq xc_66_38 xj_66_38 (fun hc38 => (r_lc xc_66_48 kl_0 (r_las xc_66_49 b_18 t_18 ?_ (r_r0 xc_66_50 xrt_66 ?_)))) (fun hc38 => (r_lln xc_66_41 rfl (r_ll xc_66_42 rfl (r_lmul xc_66_44 (r_go xc_66_45 xj_66_45 (r_las xc_66_49 b_18 t_18 ?_ (r_r0 xc_66_50 xrt_66 ?_)))))))))))))))))) (fun hc9 => (r_ll xc_66_12 rfl (r_ldl xc_66_14 xl_66_63 (r_lgt xc_66_17 xc_66_18 xj_66_18 (fun hc18 => (r_ic xc_66_25 kc_0 (r_bas xc_66_26 b_19 t_19 ?_ (r_aln xc_66_27 rfl (r_get xc_66_28 xf_66_9 g_4_0 (r_iln xc_66_31 rfl (r_aln xc_66_32 rfl (r_get xc_66_33 xf_66_15 g_4_1 (r_iln xc_66_36 rfl (r_ba xc_66_37 b_19 ?_ (r_zeq xc_66_38 xj_66_38 (fun hc38 => (r_lc xc_66_48 kl_0 (r_las xc_66_49 b_18 t_18 ?_ (r_r0 xc_66_50 xrt_66 ?_)))) (fun hc38 => (r_lln xc_66_41 rfl (r_ll xc_66_42 rfl (r_lmul xc_66_44 (r_go xc_66_45 xj_66_45 (r_las xc_66_49 b_18 t_18 ?_ (r_r0 xc_66_50 xrt_66 ?_)))))))))))))))))) (fun hc18 => (r_ic xc_66_21 kc_1 (r_go xc_66_22 xj_66_22 (r_bas xc_66_26 b_19 t_19 ?_ (r_aln xc_66_27 rfl (r_get xc_66_28 xf_66_9 g_4_0 (r_iln xc_66_31 rfl (r_aln xc_66_32 rfl (r_get xc_66_33 xf_66_15 g_4_1 (r_iln xc_66_36 rfl (r_ba xc_66_37 b_19 ?_ (r_zeq xc_66_38 xj_66_38 (fun hc38 => (r_lc xc_66_48 kl_0 (r_las xc_66_49 b_18 t_18 ?_ (r_r0 xc_66_50 xrt_66 ?_)))) (fun hc38 => (r_lln xc_66_41 rfl (r_ll xc_66_42 rfl (r_lmul xc_66_44 (r_go xc_66_45 xj_66_45 (r_las xc_66_49 b_18 t_18 ?_ (r_r0 xc_66_50 xrt_66 ?_))))))))))))))))))))))))))))))
  · exact kI_in (by omega) (by omega)
  · exact kI_in (by omega) (by omega)
  · exact kI_in (by omega) (by omega)
  · have h1 := neg hc9
    subst h1
    rw [kI_cl (by omega)]
    refine ⟨_, _, rfl, fun j hj => u_n _ _ hj, fun j hj => u_n _ _ hj, fun j hj => ⟨?_, ?_⟩, ?_⟩
    · show upd (a 12) i _ j = _; rw [up_n _ _ hj]
    · show vp_updL (w 1) i _ j = _; rw [ul_n _ _ hj]
    · show upd (a 12) i (vp_nar .boolean (nI 0)) i = _; rw [up_s, nar_0]
  · exact kI_in (by omega) (by omega)
  · exfalso
    have hc38 : ¬ upd (a 12) (nI i).toNatClampNeg (vp_nar .boolean (nI 0)) (nI i).toNatClampNeg = nI 0 := hc38
    rw [up_s] at hc38; exact hc38 nar_0
  · exact kI_in (by omega) (by omega)
  · exact kI_in (by omega) (by omega)
  · exact kI_in (by omega) (by omega)
  · obtain ⟨x, rfl⟩ := pos hc9
    have hc18 : 100000000 < nL x := hc18
    rw [nL_m, kL_lt (by omega) (ho x rfl)] at hc18
    rw [kI_cl (by omega)]
    refine ⟨_, _, rfl, fun j hj => u_n _ _ hj, fun j hj => u_n _ _ hj, fun j hj => ⟨?_, ?_⟩, ?_⟩
    · show upd (a 12) i _ j = _; rw [up_n _ _ hj]
    · show vp_updL (w 1) i _ j = _; rw [ul_n _ _ hj]
    · dsimp only
      rw [if_neg (by omega)]
      show upd (a 12) i (vp_nar .boolean (nI 0)) i = _; rw [up_s, nar_0]
  · exact kI_in (by omega) (by omega)
  · exfalso
    have hc38 : ¬ upd (a 12) (nI i).toNatClampNeg (vp_nar .boolean (nI 0)) (nI i).toNatClampNeg = nI 0 := hc38
    rw [up_s] at hc38; exact hc38 nar_0
  · exact kI_in (by omega) (by omega)
  · exact kI_in (by omega) (by omega)
  · exact kI_in (by omega) (by omega)
  · exfalso
    have hc38 : upd (a 12) (nI i).toNatClampNeg (vp_nar .boolean (nI 1)) (nI i).toNatClampNeg = nI 0 := hc38
    rw [up_s, nar_1] at hc38; exact absurd hc38 (by decide)
  · exact kI_in (by omega) (by omega)
  · obtain ⟨x, rfl⟩ := pos hc9
    have hc18 : ¬ 100000000 < nL x := hc18
    rw [nL_m, kL_lt (by omega) (ho x rfl)] at hc18
    rw [kI_cl (by omega)]
    refine ⟨_, _, rfl, fun j hj => u_n _ _ hj, fun j hj => u_n _ _ hj, fun j hj => ⟨?_, ?_⟩, ?_⟩
    · show upd (a 12) i _ j = _; rw [up_n _ _ hj]
    · show vp_updL (w 1) i _ j = _; rw [ul_n _ _ hj]
    · dsimp only
      rw [if_pos (by omega)]
      refine ⟨?_, ?_⟩
      · show upd (a 12) i (vp_nar .boolean (nI 1)) i = _; rw [up_s, nar_1]
      · show vp_updL (w 1) i _ i = _; rw [ul_s]; rfl
/-- the cents of steps -/
theorem L_steps {a : Nat → Nat → Int32} {w : Nat → Nat → Int64} {i fr en : Nat} {rs : List (Nat × Nat)} {x4 : Int32} (hpc : pc ≤ 100000000) (hen : en < 100000000) (hrs : ∀ q ∈ rs, q.1 < 1000000 ∧ q.2 < 1000000) (hfr : fr + rs.length ≤ 300) (hr : ∀ k q, rs[k]? = some q → a 7 (fr + k) = nI q.1 ∧ a 8 (fr + k) = nI q.2) : ∀ r j c, j + r = rs.length →
    p_E X 0 67 35 [some (.ref 1), some (.int (nI i)), some (.long (nL pc)), none, some (.int x4), some (.int (nI (fr + rs.length))), some (.long (nL en)), none, some (.long (nL c)), none, some (.int (nI (fr + j)))] [] (hp z a w y g) (fun q => q = (.inl (some (.long (nL (stC pc en (rs.drop j) c)))), hp z a w y g)) := by
  intro r
  induction r with
  | zero =>
    intro j c hj
    have hd : rs.drop j = [] := List.drop_eq_nil_of_le (by omega)
    rw [hd]
    refine (r_il xc_67_35 rfl (r_il xc_67_37 rfl (r_cge xc_67_39 xj_67_39 (fun hc39 => (r_il xc_67_42 rfl (r_si xc_67_44 ks_300 (r_cge xc_67_47 xj_67_47 (fun hc47 => (r_lln xc_67_50 rfl (r_lc xc_67_51 kl_0 (r_leq xc_67_52 xc_67_53 xj_67_53 (fun hc53 => (r_aln xc_67_76 rfl (r_get xc_67_77 xf_67_85 g_2_8 (r_il xc_67_80 rfl (r_ia xc_67_82 b_10 ?_ (r_i2l xc_67_83 (r_ls [_, _, _, _, _, _, _, _, _, _, _] xc_67_84 rfl rfl (r_inc [_, _, _, _, _, _, _, _, _, _, _] xc_67_86 rfl rfl (ki_1 _) rfl (r_go xc_67_89 xj_67_89 ?_))))))))) (fun hc53 => (r_aln xc_67_56 rfl (r_get xc_67_57 xf_67_80 g_2_7 (r_il xc_67_60 rfl (r_ia xc_67_62 b_9 ?_ (r_i2l xc_67_63 (r_ll xc_67_64 rfl (r_ldl xc_67_66 xl_67_83 (r_lmul xc_67_69 (r_lln xc_67_70 rfl (r_ldiv xc_67_71 ?_ (r_lgt xc_67_72 xc_67_73 xj_67_73 (fun hc73 => (r_inc [_, _, _, _, _, _, _, _, _, _, _] xc_67_86 rfl rfl (ki_1 _) rfl (r_go xc_67_89 xj_67_89 ?_))) (fun hc73 => (r_aln xc_67_76 rfl (r_get xc_67_77 xf_67_85 g_2_8 (r_il xc_67_80 rfl (r_ia xc_67_82 b_10 ?_ (r_i2l xc_67_83 (r_ls [_, _, _, _, _, _, _, _, _, _, _] xc_67_84 rfl rfl (r_inc [_, _, _, _, _, _, _, _, _, _, _] xc_67_86 rfl rfl (ki_1 _) rfl (r_go xc_67_89 xj_67_89 ?_))))))))))))))))))))))))) (fun hc47 => (r_ll xc_67_92 rfl (r_rl xc_67_94 xrt_67 ?_))))))) (fun hc39 => (r_ll xc_67_92 rfl (r_rl xc_67_94 xrt_67 ?_))))))
    all_goals try (rw [kI_lt (by omega) (by omega)] at hc39; omega)
    rfl
  | succ r ih =>
    intro j c hj
    have hjl : j < rs.length := by omega
    obtain ⟨q, hq⟩ : ∃ q, rs[j]? = some q := ⟨_, List.getElem?_eq_getElem hjl⟩
    obtain ⟨h7, h8⟩ := hr j q hq
    obtain ⟨q1, q2⟩ := hrs q (List.mem_of_getElem? hq)
    have hd : rs.drop j = q :: rs.drop (j + 1) := by
      rw [List.drop_eq_getElem_cons hjl]
      congr 1
      rw [List.getElem?_eq_getElem hjl] at hq
      exact Option.some.inj hq
    have c8 : (a 8 (nI (fr + j)).toNatClampNeg).toInt64 = nL q.2 := by rw [kI_cl (by omega), h8, kI_i2l (by omega)]
    have c7 : (a 7 (nI (fr + j)).toNatClampNeg).toInt64 = nL q.1 := by rw [kI_cl (by omega), h7, kI_i2l (by omega)]
    have eq : nL en * 100 / nL pc = nL (en * 100 / pc) := by
      rw [show (100 : Int64) = nL 100 from by decide, kL_mul, kL_div (by omega) (by omega)]
    have hdv : en * 100 / pc < 9223372036854775808 := Nat.lt_of_le_of_lt (Nat.div_le_self _ _) (by omega)
    have go : ∀ (c' : Nat), c' = (if pc = 0 ∨ q.1 ≤ en * 100 / pc then q.2 else c) → p_E X 0 67 35 [some (.ref 1), some (.int (nI i)), some (.long (nL pc)), none, some (.int x4), some (.int (nI (fr + rs.length))), some (.long (nL en)), none, some (.long (nL c')), none, some (.int (nI (fr + j) + nI 1))] [] (hp z a w y g) (fun q' => q' = (.inl (some (.long (nL (stC pc en (q :: rs.drop (j + 1)) c)))), hp z a w y g)) := by
      intro c' hc'
      rw [kI_add]
      have := ih (j + 1) c' (by omega)
      show p_E X 0 67 35 _ [] _ (fun q' => q' = (.inl (some (.long (nL (stC pc en (rs.drop (j + 1)) (if pc = 0 ∨ q.1 ≤ en * 100 / pc then q.2 else c))))), hp z a w y g))
      rw [← hc']
      exact this
    rw [hd]
    refine (r_il xc_67_35 rfl (r_il xc_67_37 rfl (r_cge xc_67_39 xj_67_39 (fun hc39 => (r_il xc_67_42 rfl (r_si xc_67_44 ks_300 (r_cge xc_67_47 xj_67_47 (fun hc47 => (r_lln xc_67_50 rfl (r_lc xc_67_51 kl_0 (r_leq xc_67_52 xc_67_53 xj_67_53 (fun hc53 => (r_aln xc_67_76 rfl (r_get xc_67_77 xf_67_85 g_2_8 (r_il xc_67_80 rfl (r_ia xc_67_82 b_10 ?_ (r_i2l xc_67_83 (r_ls [_, _, _, _, _, _, _, _, _, _, _] xc_67_84 rfl rfl (r_inc [_, _, _, _, _, _, _, _, _, _, _] xc_67_86 rfl rfl (ki_1 _) rfl (r_go xc_67_89 xj_67_89 ?_))))))))) (fun hc53 => (r_aln xc_67_56 rfl (r_get xc_67_57 xf_67_80 g_2_7 (r_il xc_67_60 rfl (r_ia xc_67_62 b_9 ?_ (r_i2l xc_67_63 (r_ll xc_67_64 rfl (r_ldl xc_67_66 xl_67_83 (r_lmul xc_67_69 (r_lln xc_67_70 rfl (r_ldiv xc_67_71 ?_ (r_lgt xc_67_72 xc_67_73 xj_67_73 (fun hc73 => (r_inc [_, _, _, _, _, _, _, _, _, _, _] xc_67_86 rfl rfl (ki_1 _) rfl (r_go xc_67_89 xj_67_89 ?_))) (fun hc73 => (r_aln xc_67_76 rfl (r_get xc_67_77 xf_67_85 g_2_8 (r_il xc_67_80 rfl (r_ia xc_67_82 b_10 ?_ (r_i2l xc_67_83 (r_ls [_, _, _, _, _, _, _, _, _, _, _] xc_67_84 rfl rfl (r_inc [_, _, _, _, _, _, _, _, _, _, _] xc_67_86 rfl rfl (ki_1 _) rfl (r_go xc_67_89 xj_67_89 ?_))))))))))))))))))))))))) (fun hc47 => (r_ll xc_67_92 rfl (r_rl xc_67_94 xrt_67 ?_))))))) (fun hc39 => (r_ll xc_67_92 rfl (r_rl xc_67_94 xrt_67 ?_))))))
    · exact kI_in (by omega) (by omega)
    · rw [nL_0, kL_inj (by omega) (by omega)] at hc53
      rw [c8]
      exact go _ (if_pos (Or.inl hc53)).symm
    · exact kI_in (by omega) (by omega)
    · exact hc53
    · rw [nL_0, kL_inj (by omega) (by omega)] at hc53
      rw [c7, eq, kL_lt hdv (by omega)] at hc73
      exact go _ (if_neg (by rintro (h | h); exact hc53 h; omega)).symm
    · exact kI_in (by omega) (by omega)
    · rw [c7, eq, kL_lt hdv (by omega)] at hc73
      rw [c8]
      exact go _ (if_pos (Or.inr (by omega))).symm
    · rw [kI_lt (by omega) (by omega)] at hc47; omega
    · rw [kI_lt (by omega) (by omega)] at hc39; omega
theorem M_steps67 {a : Nat → Nat → Int32} {w : Nat → Nat → Int64} {r i : Nat} {v : pN} (hpc : pc ≤ 100000000) (hi : i < 60) (hr300 : r ≤ 300) (hrp : rp a r i v) (hv : lfOk v) (h7 : v.1 = 7) : p_M X 0 67 [.ref 1, .int (nI i), .long (nL pc)] (hp z a w y g) (fun q => q = (.inl (some (.long (nL (stC pc v.2.1 v.2.2.2.2 0)))), hp z a w y g)) := by
  obtain ⟨r0, r1, r2, r3, r4, r6, fr, r5, rl, rr⟩ := hrp
  have hv7 : v.2.1 < 1000000 ∧ v.2.2.1 = 0 ∧ v.2.2.2.2 ≠ [] ∧ v.2.2.2.2.length ≤ 6 ∧ ∀ q ∈ v.2.2.2.2, q.1 < 1000000 ∧ q.2 < 1000000 := by
    rcases hv.2.2 with h | h | h | h
    · omega
    · omega
    · omega
    · exact h.2
  have c5 : a 5 (nI i).toNatClampNeg = nI fr := by rw [kI_cl (by omega)]; exact r5
  have c6 : a 6 (nI i).toNatClampNeg = nI v.2.2.2.2.length := by rw [kI_cl (by omega)]; exact r6
  have c1 : (a 1 (nI i).toNatClampNeg).toInt64 = nL v.2.1 := by rw [kI_cl (by omega), r1, kI_i2l (by omega)]
  refine (r_in xin_67 (r_aln xc_67_0 rfl (r_get xc_67_1 xf_67_74 g_2_5 (r_iln xc_67_4 rfl (r_ia xc_67_5 b_7 ?_ (r_is [_, _, _, _, _, _, _, _, _, _, _] xc_67_6 rfl rfl (r_il xc_67_8 rfl (r_aln xc_67_10 rfl (r_get xc_67_11 xf_67_77 g_2_6 (r_iln xc_67_14 rfl (r_ia xc_67_15 b_8 ?_ (r_iadd xc_67_16 (r_is [_, _, _, _, _, _, _, _, _, _, _] xc_67_17 rfl rfl (r_aln xc_67_19 rfl (r_get xc_67_20 xf_67_29 g_2_1 (r_iln xc_67_23 rfl (r_ia xc_67_24 b_3 ?_ (r_i2l xc_67_25 (r_ls [_, _, _, _, _, _, _, _, _, _, _] xc_67_26 rfl rfl (r_lc xc_67_28 kl_0 (r_ls [_, _, _, _, _, _, _, _, _, _, _] xc_67_29 rfl rfl (r_il xc_67_31 rfl (r_is [_, _, _, _, _, _, _, _, _, _, _] xc_67_33 rfl rfl ?_)))))))))))))))))))))))
  · exact kI_in (by omega) (by omega)
  · exact kI_in (by omega) (by omega)
  · exact kI_in (by omega) (by omega)
  · rw [c5, c6, c1, kI_add, nL_0]
    have := L_steps (X := X) (z := z) (y := y) (g := g) (w := w) (a := a) (i := i) (x4 := nI fr) hpc (show v.2.1 < 100000000 by omega) hv7.2.2.2.2 (by omega) rr v.2.2.2.2.length 0 0 (by omega)
    exact this
end VALS
