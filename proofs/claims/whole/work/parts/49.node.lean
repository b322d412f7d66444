/-! ===== node, part, at, step of the class ===== -/
def nV (k : Nat) (v : pN) (j : Nat) : Int32 := match j with
  | 0 => nI v.1
  | 1 => nI v.2.1
  | 2 => nI v.2.2.1 - nI 1
  | 3 => if v.2.2.2.1 = 0 then -1 else nI (k + 1)
  | 4 => if v.2.2.2.1 = 0 then -1 else nI (k + v.2.2.2.1)
  | _ => nI v.2.2.2.2.length
/-- an index below a length, or none -/
theorem ixOr (x : Int32) {n : Nat} (hn : n < 2147483648) : (x < nI 0 ∨ ¬ x < nI n) ∨ ∃ k, k < n ∧ x = nI k := by
  by_cases h : x < nI 0
  · exact Or.inl (Or.inl h)
  · by_cases h2 : x < nI n
    · have e := kI_of2 h
      rw [e, kI_lt (by have := Int32.toInt_lt x; omega) hn] at h2
      exact Or.inr ⟨_, h2, e⟩
    · exact Or.inl (Or.inr h2)
/-- the answer of step: code of what is thrown, or the value -/
def stS (e p : Int64) : Nat ⊕ Int64 := if (e < 0 ∨ 1000000000 < e) ∨ (p < 0 ∨ 1000000000 < p) then .inl 7 else if p = 0 then .inl 11 else .inr (e * 100 / p)
section NODE
variable {X : pX} {z : Nat → Int32} {a : Nat → Nat → Int32} {w : Nat → Nat → Int64} {y : Nat → Int64} {g : List pE} {A : Nat → Option Nat} {M G : Nat → Nat} {ns : List pN} {pc r : Nat}
theorem EV.rf (a : Nat → Nat → Int32) (w : Nat → Nat → Int64) : EV a w a w := ⟨fun _ _ => rfl, fun _ _ => rfl⟩
theorem M_nodeC_b {i jj : Int32} (h1 : z 1 = nI ns.length) (hl : ns.length ≤ 60) (hb : (i < nI 0 ∨ ¬ i < nI ns.length) ∨ (jj < nI 0 ∨ ¬ jj < nI 6)) : p_M X 9 74 [.ref 0, .int i, .int jj] (hp z a w y g) (AN z y g (EV a w) (.inl 10)) := by
  refine (r_in xin_74 (r_aln xc_74_0 rfl (r_get xc_74_1 xf_74_12 g_5_0 (r_iln xc_74_4 rfl ?_))))
  rcases ixOr i (n := ns.length) (by omega) with hi | ⟨k, hk, rfl⟩
  · refine (r_cv xc_74_5 xm_74_5 rfl xrc_39 rfl (p_M.up (M_has_n (by rw [h1]; exact hi)) (by omega)) (r_zne xc_74_8 xj_74_8 (fun hc8 => (r_th xc_74_11 xth_74_11 xhh_74 (by omega) (by decide) ?_)) (fun hc8 => (r_iln xc_74_21 rfl (r_ts xc_74_22 (by decide) (by decide) (fun j hj hx => ?_) (fun hx => ?_))))))
    · exact ⟨a, w, rfl, EV.rf a w⟩
    all_goals exact absurd rfl hc8
  · have hjj : jj < nI 0 ∨ ¬ jj < nI 6 := hb.elim (fun h => by
      rcases h with h | h
      · exact absurd h (kI_neg (by omega))
      · exact absurd ((kI_lt (by omega) (by omega)).mpr hk) h) id
    rw [Int32.lt_iff_toInt_lt, Int32.lt_iff_toInt_lt, nI_toInt (by omega), nI_toInt (by omega)] at hjj
    refine (r_cv xc_74_5 xm_74_5 rfl xrc_39 rfl (p_M.up (M_has_y h1 hl hk) (by omega)) (r_zne xc_74_8 xj_74_8 (fun hc8 => (r_th xc_74_11 xth_74_11 xhh_74 (by omega) (by decide) ?_)) (fun hc8 => (r_iln xc_74_21 rfl (r_ts xc_74_22 (by decide) (by decide) (fun j hj hx => ?_) (fun hx => ?_))))))
    · exact absurd hc8 (by decide)
    · exfalso
      have hj : j < 6 := hj
      omega
    · change p_E _ _ _ 120 _ _ _ _
      refine (r_th xc_74_120 xth_74_120 xhh_74 (by omega) (by decide) ?_)
      exact ⟨a, w, rfl, EV.rf a w⟩
theorem M_nodeC {k m : Nat} {v : pN} (h1 : z 1 = nI ns.length) (hl : ns.length ≤ 60) (hR : Rp a r 0 ns) (hv : ns[k]? = some v) (hm : m < 6) : p_M X 9 74 [.ref 0, .int (nI k), .int (nI m)] (hp z a w y g) (AN z y g (EV a w) (.inr (.int (nV k v m)))) := by
  have hk := getElem?_lt hv
  have hrp := hR k v hv
  rw [Nat.zero_add] at hrp
  obtain ⟨r0, r1, r2, r3, r4, r6, _⟩ := hrp
  refine (r_in xin_74 (r_aln xc_74_0 rfl (r_get xc_74_1 xf_74_12 g_5_0 (r_iln xc_74_4 rfl ?_))))
  refine (r_cv xc_74_5 xm_74_5 rfl xrc_39 rfl (p_M.up (M_has_y h1 hl hk) (by omega)) (r_zne xc_74_8 xj_74_8 (fun hc8 => (r_th xc_74_11 xth_74_11 xhh_74 (by omega) (by decide) ?_)) (fun hc8 => (r_iln xc_74_21 rfl (r_ts xc_74_22 (by decide) (by decide) (fun j hj hx => ?_) (fun hx => ?_))))))
  · exact absurd hc8 (by decide)
  · have hj : j < 6 := hj
    have hx : (nI m).toInt = 0 + (j : Int) := hx
    rw [nI_toInt (by omega)] at hx
    have hjm : m = j := by omega
    subst hjm
    match m, hj with
    | 0, _ =>
      change p_E _ _ _ 60 _ _ _ _
      refine (r_aln xc_74_60 rfl (r_get xc_74_61 xf_74_12 g_5_0 (r_get xc_74_64 xf_74_101 g_2_0 (r_iln xc_74_67 rfl (r_ia xc_74_68 b_2 ?_ (r_ri xc_74_69 xrt_74 ?_))))))
      · exact kI_in (by omega) (by omega)
      · rw [kI_cl (by omega), r0]; exact ⟨a, w, rfl, EV.rf a w⟩
    | 1, _ =>
      change p_E _ _ _ 70 _ _ _ _
      refine (r_aln xc_74_70 rfl (r_get xc_74_71 xf_74_12 g_5_0 (r_get xc_74_74 xf_74_105 g_2_1 (r_iln xc_74_77 rfl (r_ia xc_74_78 b_3 ?_ (r_ri xc_74_79 xrt_74 ?_))))))
      · exact kI_in (by omega) (by omega)
      · rw [kI_cl (by omega), r1]; exact ⟨a, w, rfl, EV.rf a w⟩
    | 2, _ =>
      change p_E _ _ _ 80 _ _ _ _
      refine (r_aln xc_74_80 rfl (r_get xc_74_81 xf_74_12 g_5_0 (r_get xc_74_84 xf_74_108 g_2_2 (r_iln xc_74_87 rfl (r_ia xc_74_88 b_4 ?_ (r_ri xc_74_89 xrt_74 ?_))))))
      · exact kI_in (by omega) (by omega)
      · rw [kI_cl (by omega), r2]; exact ⟨a, w, rfl, EV.rf a w⟩
    | 3, _ =>
      change p_E _ _ _ 90 _ _ _ _
      refine (r_aln xc_74_90 rfl (r_get xc_74_91 xf_74_12 g_5_0 (r_get xc_74_94 xf_74_111 g_2_3 (r_iln xc_74_97 rfl (r_ia xc_74_98 b_5 ?_ (r_ri xc_74_99 xrt_74 ?_))))))
      · exact kI_in (by omega) (by omega)
      · rw [kI_cl (by omega), r3]; exact ⟨a, w, rfl, EV.rf a w⟩
    | 4, _ =>
      change p_E _ _ _ 100 _ _ _ _
      refine (r_aln xc_74_100 rfl (r_get xc_74_101 xf_74_12 g_5_0 (r_get xc_74_104 xf_74_114 g_2_4 (r_iln xc_74_107 rfl (r_ia xc_74_108 b_6 ?_ (r_ri xc_74_109 xrt_74 ?_))))))
      · exact kI_in (by omega) (by omega)
      · rw [kI_cl (by omega), r4]; exact ⟨a, w, rfl, EV.rf a w⟩
    | 5, _ =>
      change p_E _ _ _ 110 _ _ _ _
      refine (r_aln xc_74_110 rfl (r_get xc_74_111 xf_74_12 g_5_0 (r_get xc_74_114 xf_74_117 g_2_6 (r_iln xc_74_117 rfl (r_ia xc_74_118 b_8 ?_ (r_ri xc_74_119 xrt_74 ?_))))))
      · exact kI_in (by omega) (by omega)
      · rw [kI_cl (by omega), r6]; exact ⟨a, w, rfl, EV.rf a w⟩
  · have hx : (nI m).toInt < 0 ∨ 5 < (nI m).toInt := hx
    rw [nI_toInt (by omega)] at hx
    omega
theorem M_partC_b {i : Int32} (h1 : z 1 = nI ns.length) (hb : i < nI 0 ∨ ¬ i < nI ns.length) : p_M X 9 76 [.ref 0, .int i] (hp z a w y g) (AN z y g (EV a w) (.inl 10)) := by
  refine (r_in xin_76 (r_aln xc_76_0 rfl (r_get xc_76_1 xf_76_12 g_5_0 (r_iln xc_76_4 rfl ?_))))
  refine (r_cv xc_76_5 xm_76_5 rfl xrc_39 rfl (p_M.up (M_has_n (by rw [h1]; exact hb)) (by omega)) (r_zne xc_76_8 xj_76_8 (fun hc8 => (r_th xc_76_11 xth_76_11 xhh_76 (by omega) (by decide) ?_)) (fun hc8 => (r_aln xc_76_21 rfl (r_iln xc_76_22 rfl ?_)))))
  · exact ⟨a, w, rfl, EV.rf a w⟩
  · exact absurd rfl hc8
theorem M_partC {i : Nat} (hT : TW ns) (hl : ns.length ≤ 60) (h1 : z 1 = nI ns.length) (hU : UNI a w A M G) (hR : Rp a r 0 ns) (hr : r ≤ 300) (hy : y 0 = nL pc) (hpc : pc ≤ 100000000) (hi : i < ns.length) : p_M X 9 76 [.ref 0, .int (nI i)] (hp z a w y g) (AN z y g (EV a w) (match vj (umF A M G) pc ns i with
    | none => .inl 9
    | some x => .inr (.long x))) := by
  refine (r_in xin_76 (r_aln xc_76_0 rfl (r_get xc_76_1 xf_76_12 g_5_0 (r_iln xc_76_4 rfl ?_))))
  refine (r_cv xc_76_5 xm_76_5 rfl xrc_39 rfl (p_M.up (M_has_y h1 hl hi) (by omega)) (r_zne xc_76_8 xj_76_8 (fun hc8 => (r_th xc_76_11 xth_76_11 xhh_76 (by omega) (by decide) ?_)) (fun hc8 => (r_aln xc_76_21 rfl (r_iln xc_76_22 rfl ?_)))))
  · exact absurd hc8 (by decide)
  · refine r_ct xc_76_23 xm_76_23 rfl xrc_64 rfl xhh_76 (M_nodeMic hT hl h1 hU hR hr hy hpc hi) (fun v h1 hP => ?_) (fun x h1 hP => hP)
    cases hV : vj (umF A M G) pc ns i with
    | none => rw [hV] at hP; obtain ⟨_, _, _, e, _⟩ := hP.val; cases e
    | some u =>
      rw [hV] at hP
      obtain ⟨x, a', w', e1, e2, e3, hE⟩ := hP.val
      injection e1 with e1
      subst e1
      subst e2
      subst e3
      refine (r_rl xc_76_26 xrt_76 ?_)
      exact ⟨a', w', rfl, hE⟩
theorem M_atC_b {i : Int32} {L : Nat} (h6 : z 6 = nI L) (hb : i < nI 0 ∨ ¬ i < nI L) : p_M X 9 89 [.ref 0, .int i] (hp z a w y g) (AN z y g (EV a w) (.inl 10)) := by
  refine (r_in xin_89 (r_iln xc_89_0 rfl (r_zlt xc_89_1 xj_89_1 (fun hc1 => (r_th xc_89_15 xth_89_15 xhh_89 (by omega) (by decide) ?_)) (fun hc1 => (r_iln xc_89_4 rfl (r_aln xc_89_5 rfl (r_get xc_89_6 xf_89_42 g_5_4 (r_get xc_89_9 xf_89_147 g_0_1 (r_clt xc_89_12 xj_89_12 (fun hc12 => (r_aln xc_89_25 rfl (r_get xc_89_26 xf_89_42 g_5_4 (r_get xc_89_29 xf_89_152 g_0_0 (r_iln xc_89_32 rfl (r_ia xc_89_33 b_21 ?_ (r_ri xc_89_34 xrt_89 ?_))))))) (fun hc12 => (r_th xc_89_15 xth_89_15 xhh_89 (by omega) (by decide) ?_)))))))))))
  · exact ⟨a, w, rfl, EV.rf a w⟩
  · rw [h6] at hc12
    rcases hb with h | h
    · exact absurd h hc1
    · exact absurd hc12 h
  · rw [h6] at hc12
    rcases hb with h | h
    · exact absurd h hc1
    · exact absurd hc12 h
  · exact ⟨a, w, rfl, EV.rf a w⟩
theorem M_atC {k L : Nat} (h6 : z 6 = nI L) (hL : L ≤ 900) (hk : k < L) : p_M X 9 89 [.ref 0, .int (nI k)] (hp z a w y g) (AN z y g (EV a w) (.inr (.int (a 13 k)))) := by
  refine (r_in xin_89 (r_iln xc_89_0 rfl (r_zlt xc_89_1 xj_89_1 (fun hc1 => (r_th xc_89_15 xth_89_15 xhh_89 (by omega) (by decide) ?_)) (fun hc1 => (r_iln xc_89_4 rfl (r_aln xc_89_5 rfl (r_get xc_89_6 xf_89_42 g_5_4 (r_get xc_89_9 xf_89_147 g_0_1 (r_clt xc_89_12 xj_89_12 (fun hc12 => (r_aln xc_89_25 rfl (r_get xc_89_26 xf_89_42 g_5_4 (r_get xc_89_29 xf_89_152 g_0_0 (r_iln xc_89_32 rfl (r_ia xc_89_33 b_21 ?_ (r_ri xc_89_34 xrt_89 ?_))))))) (fun hc12 => (r_th xc_89_15 xth_89_15 xhh_89 (by omega) (by decide) ?_)))))))))))
  · exact absurd hc1 (kI_neg (by omega))
  · exact kI_in (by omega) (by omega)
  · rw [kI_cl (by omega)]; exact ⟨a, w, rfl, EV.rf a w⟩
  · rw [h6, kI_lt (by omega) (by omega)] at hc12; omega
theorem M_stepC {e p : Int64} : p_M X 9 91 [.ref 0, .long e, .long p] (hp z a w y g) (AN z y g (EV a w) (match stS e p with
    | .inl ci => .inl ci
    | .inr x => .inr (.long x))) := by
  refine (r_in xin_91 (r_lln xc_91_0 rfl (r_lc xc_91_1 kl_0 (r_llt xc_91_2 xc_91_3 xj_91_3 (fun hc3 => (r_th xc_91_28 xth_91_28 xhh_91 (by omega) (by decide) ?_)) (fun hc3 => (r_lln xc_91_6 rfl (r_ldl xc_91_7 xl_91_155 (r_lgt xc_91_10 xc_91_11 xj_91_11 (fun hc11 => (r_th xc_91_28 xth_91_28 xhh_91 (by omega) (by decide) ?_)) (fun hc11 => (r_lln xc_91_14 rfl (r_lc xc_91_15 kl_0 (r_llt xc_91_16 xc_91_17 xj_91_17 (fun hc17 => (r_th xc_91_28 xth_91_28 xhh_91 (by omega) (by decide) ?_)) (fun hc17 => (r_lln xc_91_20 rfl (r_ldl xc_91_21 xl_91_155 (r_lle xc_91_24 xc_91_25 xj_91_25 (fun hc25 => (r_th xc_91_28 xth_91_28 xhh_91 (by omega) (by decide) ?_)) (fun hc25 => (r_lln xc_91_38 rfl (r_lc xc_91_39 kl_0 (r_lne xc_91_40 xc_91_41 xj_91_41 (fun hc41 => (r_th xc_91_44 xth_91_44 xhh_91 (by omega) (by decide) ?_)) (fun hc41 => (r_lln xc_91_54 rfl (r_ldl xc_91_55 xl_91_164 (r_lmul xc_91_58 (r_lln xc_91_59 rfl (r_ldiv xc_91_60 ?_ (r_rl xc_91_61 xrt_91 ?_)))))))))))))))))))))))))))
  · unfold stS; rw [if_pos (Or.inl (Or.inl hc3))]; exact ⟨a, w, rfl, EV.rf a w⟩
  · unfold stS; rw [if_pos (Or.inl (Or.inr hc11))]; exact ⟨a, w, rfl, EV.rf a w⟩
  · unfold stS; rw [if_pos (Or.inr (Or.inl hc17))]; exact ⟨a, w, rfl, EV.rf a w⟩
  · unfold stS; rw [if_pos (Or.inr (Or.inr hc25))]; exact ⟨a, w, rfl, EV.rf a w⟩
  · unfold stS; rw [if_neg (by rintro ((h | h) | (h | h)); exact hc3 h; exact hc11 h; exact hc17 h; exact hc25 h), if_pos hc41]; exact ⟨a, w, rfl, EV.rf a w⟩
  · exact hc41
  · unfold stS; rw [if_neg (by rintro ((h | h) | (h | h)); exact hc3 h; exact hc11 h; exact hc17 h; exact hc25 h), if_neg hc41]; exact ⟨a, w, rfl, EV.rf a w⟩
/-! the law's helpers -/
/-- what a helper answers: code 0 and the value, or a code -/
def HA (z : Nat → Int32) (y : Nat → Int64) (g : List pE) (E : (Nat → Nat → Int32) → (Nat → Nat → Int64) → Prop) (res : (Nat × Nat) ⊕ Int64) (q : pR) : Prop := match res with
  | .inr x => ∃ a' w', q = (.inl (some (.int (nI 0))), hp z a' (u_ w' 4 (vp_updL (w' 4) 0 x)) y g) ∧ E a' w'
  | .inl (ci, k) => ∃ a' w', q = (.inl (some (.int (nI k))), hp z a' w' y (g ++ [.inr (ci, [])])) ∧ E a' w'
def cdV (ci : Nat) : Nat := ci - 6
theorem M_hValue {side : Int32} {E : (Nat → Nat → Int32) → (Nat → Nat → Int64) → Prop} {o : Nat ⊕ Int64} (ho : ∀ ci, o = .inl ci → ci = 7 ∨ ci = 8 ∨ ci = 9) (hM : p_M X 10 62 [.ref 0, .int side] (hp z a w y g) (AN z y g E (match o with | .inl ci => .inl ci | .inr x => .inr (.long x)))) : p_M X 11 61 [.ref 0, .int side, .ref 43] (hp z a w y g) (HA z y g E (match o with | .inl ci => .inl (ci, ci - 6) | .inr x => .inr x)) := by
  refine (r_in xin_61 (r_aln xc_61_0 rfl (r_ic xc_61_1 kc_0 (r_aln xc_61_2 rfl (r_iln xc_61_3 rfl ?_)))))
  refine r_ch xc_61_4 xm_61_4 rfl xrc_62 rfl hM (fun v h1 hP => ?_) (fun x h1 hP => ?_)
  · obtain ⟨x, a', w', e1, e2, e3, hE⟩ := hP.val
    cases o with
    | inl ci => cases e1
    | inr u =>
      injection e1 with e1
      subst e1
      subst e2
      subst e3
      refine (r_las xc_61_7 b_43 t_43 ?_ (r_go xc_61_8 xj_61_8 (r_ic xc_61_20 kc_0 (r_ri xc_61_21 xrt_61 ?_))))
      · exact kI_in (by omega) (by omega)
      · exact ⟨a', w', rfl, hE⟩
  · obtain ⟨ci, a', w', e1, e2, e3, hE⟩ := hP.thr
    cases o with
    | inr u => cases e1
    | inl c =>
      injection e1 with e1
      subst e1
      subst e2
      subst e3
      rcases ho c rfl with rfl | rfl | rfl
      · refine ⟨11, hdl_of rfl (by rw [xhh_61]; rfl), ?_⟩
        refine (r_asn [_, _, _, _] xc_61_11 rfl rfl (r_ic xc_61_12 kc_1 (r_ri xc_61_13 xrt_61 ?_)))
        exact ⟨a', w', rfl, hE⟩
      · refine ⟨14, hdl_of rfl (by rw [xhh_61]; rfl), ?_⟩
        refine (r_asn [_, _, _, _] xc_61_14 rfl rfl (r_ic xc_61_15 kc_2 (r_ri xc_61_16 xrt_61 ?_)))
        exact ⟨a', w', rfl, hE⟩
      · refine ⟨17, hdl_of rfl (by rw [xhh_61]; rfl), ?_⟩
        refine (r_asn [_, _, _, _] xc_61_17 rfl rfl (r_ic xc_61_18 kc_3 (r_ri xc_61_19 xrt_61 ?_)))
        exact ⟨a', w', rfl, hE⟩
theorem M_hCents {side : Int32} {E : (Nat → Nat → Int32) → (Nat → Nat → Int64) → Prop} {o : Nat ⊕ Int64} (ho : ∀ ci, o = .inl ci → ci = 7 ∨ ci = 8 ∨ ci = 9) (hM : p_M X 10 72 [.ref 0, .int side] (hp z a w y g) (AN z y g E (match o with | .inl ci => .inl ci | .inr x => .inr (.long x)))) : p_M X 11 71 [.ref 0, .int side, .ref 43] (hp z a w y g) (HA z y g E (match o with | .inl ci => .inl (ci, ci - 6) | .inr x => .inr x)) := by
  refine (r_in xin_71 (r_aln xc_71_0 rfl (r_ic xc_71_1 kc_0 (r_aln xc_71_2 rfl (r_iln xc_71_3 rfl ?_)))))
  refine r_ch xc_71_4 xm_71_4 rfl xrc_72 rfl hM (fun v h1 hP => ?_) (fun x h1 hP => ?_)
  · obtain ⟨x, a', w', e1, e2, e3, hE⟩ := hP.val
    cases o with
    | inl ci => cases e1
    | inr u =>
      injection e1 with e1
      subst e1
      subst e2
      subst e3
      refine (r_las xc_71_7 b_43 t_43 ?_ (r_go xc_71_8 xj_71_8 (r_ic xc_71_20 kc_0 (r_ri xc_71_21 xrt_71 ?_))))
      · exact kI_in (by omega) (by omega)
      · exact ⟨a', w', rfl, hE⟩
  · obtain ⟨ci, a', w', e1, e2, e3, hE⟩ := hP.thr
    cases o with
    | inr u => cases e1
    | inl c =>
      injection e1 with e1
      subst e1
      subst e2
      subst e3
      rcases ho c rfl with rfl | rfl | rfl
      · refine ⟨11, hdl_of rfl (by rw [xhh_71]; rfl), ?_⟩
        refine (r_asn [_, _, _, _] xc_71_11 rfl rfl (r_ic xc_71_12 kc_1 (r_ri xc_71_13 xrt_71 ?_)))
        exact ⟨a', w', rfl, hE⟩
      · refine ⟨14, hdl_of rfl (by rw [xhh_71]; rfl), ?_⟩
        refine (r_asn [_, _, _, _] xc_71_14 rfl rfl (r_ic xc_71_15 kc_2 (r_ri xc_71_16 xrt_71 ?_)))
        exact ⟨a', w', rfl, hE⟩
      · refine ⟨17, hdl_of rfl (by rw [xhh_71]; rfl), ?_⟩
        refine (r_asn [_, _, _, _] xc_71_17 rfl rfl (r_ic xc_71_18 kc_3 (r_ri xc_71_19 xrt_71 ?_)))
        exact ⟨a', w', rfl, hE⟩
theorem M_hNode {i jj : Int32} {E : (Nat → Nat → Int32) → (Nat → Nat → Int64) → Prop} {o : Unit ⊕ Int32} (hM : p_M X 9 74 [.ref 0, .int i, .int jj] (hp z a w y g) (AN z y g E (match o with | .inl _ => .inl 10 | .inr x => .inr (.int x)))) : p_M X 10 73 [.ref 0, .int i, .int jj, .ref 43] (hp z a w y g) (HA z y g E (match o with | .inl _ => .inl (10, 1) | .inr x => .inr x.toInt64)) := by
  refine (r_in xin_73 (r_aln xc_73_0 rfl (r_ic xc_73_1 kc_0 (r_aln xc_73_2 rfl (r_iln xc_73_3 rfl (r_iln xc_73_4 rfl ?_))))))
  refine r_ch xc_73_5 xm_73_5 rfl xrc_74 rfl hM (fun v h1 hP => ?_) (fun x h1 hP => ?_)
  · obtain ⟨x, a', w', e1, e2, e3, hE⟩ := hP.val
    cases o with
    | inl ci => cases e1
    | inr u =>
      injection e1 with e1
      subst e1
      subst e2
      subst e3
      refine (r_i2l xc_73_8 (r_las xc_73_9 b_43 t_43 ?_ (r_go xc_73_10 xj_73_10 (r_ic xc_73_17 kc_0 (r_ri xc_73_18 xrt_73 ?_)))))
      · exact kI_in (by omega) (by omega)
      · exact ⟨a', w', rfl, hE⟩
  · obtain ⟨ci, a', w', e1, e2, e3, hE⟩ := hP.thr
    cases o with
    | inr u => cases e1
    | inl c =>
      injection e1 with e1
      subst e1
      subst e2
      subst e3
      refine ⟨13, hdl_of rfl (by rw [xhh_73]; rfl), ?_⟩
      refine (r_as [_, _, _, _, _] xc_73_13 rfl rfl (r_ic xc_73_15 kc_1 (r_ri xc_73_16 xrt_73 ?_)))
      exact ⟨a', w', rfl, hE⟩
theorem M_hPart {i : Int32} {E : (Nat → Nat → Int32) → (Nat → Nat → Int64) → Prop} {o : Nat ⊕ Int64} (ho : ∀ ci, o = .inl ci → ci = 9 ∨ ci = 10) (hM : p_M X 9 76 [.ref 0, .int i] (hp z a w y g) (AN z y g E (match o with | .inl ci => .inl ci | .inr x => .inr (.long x)))) : p_M X 10 75 [.ref 0, .int i, .ref 43] (hp z a w y g) (HA z y g E (match o with | .inl ci => .inl (ci, 11 - ci) | .inr x => .inr x)) := by
  refine (r_in xin_75 (r_aln xc_75_0 rfl (r_ic xc_75_1 kc_0 (r_aln xc_75_2 rfl (r_iln xc_75_3 rfl ?_)))))
  refine r_ch xc_75_4 xm_75_4 rfl xrc_76 rfl hM (fun v h1 hP => ?_) (fun x h1 hP => ?_)
  · obtain ⟨x, a', w', e1, e2, e3, hE⟩ := hP.val
    cases o with
    | inl ci => cases e1
    | inr u =>
      injection e1 with e1
      subst e1
      subst e2
      subst e3
      refine (r_las xc_75_7 b_43 t_43 ?_ (r_go xc_75_8 xj_75_8 (r_ic xc_75_17 kc_0 (r_ri xc_75_18 xrt_75 ?_))))
      · exact kI_in (by omega) (by omega)
      · exact ⟨a', w', rfl, hE⟩
  · obtain ⟨ci, a', w', e1, e2, e3, hE⟩ := hP.thr
    cases o with
    | inr u => cases e1
    | inl c =>
      injection e1 with e1
      subst e1
      subst e2
      subst e3
      rcases ho c rfl with rfl | rfl
      · refine ⟨14, hdl_of rfl (by rw [xhh_75]; rfl), ?_⟩
        refine (r_asn [_, _, _, _] xc_75_14 rfl rfl (r_ic xc_75_15 kc_2 (r_ri xc_75_16 xrt_75 ?_)))
        exact ⟨a', w', rfl, hE⟩
      · refine ⟨11, hdl_of rfl (by rw [xhh_75]; rfl), ?_⟩
        refine (r_asn [_, _, _, _] xc_75_11 rfl rfl (r_ic xc_75_12 kc_1 (r_ri xc_75_13 xrt_75 ?_)))
        exact ⟨a', w', rfl, hE⟩
theorem M_hAt {i : Int32} {E : (Nat → Nat → Int32) → (Nat → Nat → Int64) → Prop} {o : Unit ⊕ Int32} (hM : p_M X 9 89 [.ref 0, .int i] (hp z a w y g) (AN z y g E (match o with | .inl _ => .inl 10 | .inr x => .inr (.int x)))) : p_M X 10 88 [.ref 0, .int i, .ref 43] (hp z a w y g) (HA z y g E (match o with | .inl _ => .inl (10, 1) | .inr x => .inr x.toInt64)) := by
  refine (r_in xin_88 (r_aln xc_88_0 rfl (r_ic xc_88_1 kc_0 (r_aln xc_88_2 rfl (r_iln xc_88_3 rfl ?_)))))
  refine r_ch xc_88_4 xm_88_4 rfl xrc_89 rfl hM (fun v h1 hP => ?_) (fun x h1 hP => ?_)
  · obtain ⟨x, a', w', e1, e2, e3, hE⟩ := hP.val
    cases o with
    | inl ci => cases e1
    | inr u =>
      injection e1 with e1
      subst e1
      subst e2
      subst e3
      refine (r_i2l xc_88_7 (r_las xc_88_8 b_43 t_43 ?_ (r_go xc_88_9 xj_88_9 (r_ic xc_88_15 kc_0 (r_ri xc_88_16 xrt_88 ?_)))))
      · exact kI_in (by omega) (by omega)
      · exact ⟨a', w', rfl, hE⟩
  · obtain ⟨ci, a', w', e1, e2, e3, hE⟩ := hP.thr
    cases o with
    | inr u => cases e1
    | inl c =>
      injection e1 with e1
      subst e1
      subst e2
      subst e3
      refine ⟨12, hdl_of rfl (by rw [xhh_88]; rfl), ?_⟩
      refine (r_asn [_, _, _, _] xc_88_12 rfl rfl (r_ic xc_88_13 kc_1 (r_ri xc_88_14 xrt_88 ?_)))
      exact ⟨a', w', rfl, hE⟩
theorem M_hStep {e p : Int64} {E : (Nat → Nat → Int32) → (Nat → Nat → Int64) → Prop} {o : Nat ⊕ Int64} (ho : ∀ ci, o = .inl ci → ci = 7 ∨ ci = 11) (hM : p_M X 9 91 [.ref 0, .long e, .long p] (hp z a w y g) (AN z y g E (match o with | .inl ci => .inl ci | .inr x => .inr (.long x)))) : p_M X 10 90 [.ref 0, .long e, .long p, .ref 43] (hp z a w y g) (HA z y g E (match o with | .inl ci => .inl (ci, if ci = 7 then 1 else 2) | .inr x => .inr x)) := by
  refine (r_in xin_90 (r_al xc_90_0 rfl (r_ic xc_90_2 kc_0 (r_aln xc_90_3 rfl (r_lln xc_90_4 rfl (r_lln xc_90_5 rfl ?_))))))
  refine r_ch xc_90_6 xm_90_6 rfl xrc_91 rfl hM (fun v h1 hP => ?_) (fun x h1 hP => ?_)
  · obtain ⟨x, a', w', e1, e2, e3, hE⟩ := hP.val
    cases o with
    | inl ci => cases e1
    | inr u =>
      injection e1 with e1
      subst e1
      subst e2
      subst e3
      refine (r_las xc_90_9 b_43 t_43 ?_ (r_go xc_90_10 xj_90_10 (r_ic xc_90_21 kc_0 (r_ri xc_90_22 xrt_90 ?_))))
      · exact kI_in (by omega) (by omega)
      · exact ⟨a', w', rfl, hE⟩
  · obtain ⟨ci, a', w', e1, e2, e3, hE⟩ := hP.thr
    cases o with
    | inr u => cases e1
    | inl c =>
      injection e1 with e1
      subst e1
      subst e2
      subst e3
      rcases ho c rfl with rfl | rfl
      · refine ⟨13, hdl_of rfl (by rw [xhh_90]; rfl), ?_⟩
        refine (r_as [_, _, _, _, _, _, _] xc_90_13 rfl rfl (r_ic xc_90_15 kc_1 (r_ri xc_90_16 xrt_90 ?_)))
        exact ⟨a', w', rfl, hE⟩
      · refine ⟨17, hdl_of rfl (by rw [xhh_90]; rfl), ?_⟩
        refine (r_as [_, _, _, _, _, _, _] xc_90_17 rfl rfl (r_ic xc_90_19 kc_2 (r_ri xc_90_20 xrt_90 ?_)))
        exact ⟨a', w', rfl, hE⟩
end NODE
