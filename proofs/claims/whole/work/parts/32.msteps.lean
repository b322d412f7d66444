/-! ===== the model's reader: rows, steps ===== -/
def RK (a a' : Nat → Nat → Int32) (b : Nat) : Prop := (∀ j, j < 20 ∨ 22 < j → a' j = a j) ∧ (∀ j, j ≠ b → a' 20 j = a 20 j) ∧ ∀ i, i < 6 * b → a' 21 i = a 21 i ∧ a' 22 i = a 22 i
theorem RK.rf (a : Nat → Nat → Int32) (b : Nat) : RK a a b := ⟨fun _ _ => rfl, fun _ _ => rfl, fun _ _ => ⟨rfl, rfl⟩⟩
theorem RK.tr {a a1 a2 : Nat → Nat → Int32} {b : Nat} (h : RK a a1 b) (h2 : RK a1 a2 b) : RK a a2 b :=
  ⟨fun j hj => (h2.1 j hj).trans (h.1 j hj), fun j hj => (h2.2.1 j hj).trans (h.2.1 j hj), fun i hi => ⟨(h2.2.2 i hi).1.trans (h.2.2 i hi).1, (h2.2.2 i hi).2.trans (h.2.2 i hi).2⟩⟩
def RS (a : Nat → Nat → Int32) (b : Nat) (rs : List (Nat × Nat)) : Prop := a 20 b = nI rs.length ∧ ∀ k q, rs[k]? = some q → a 21 (6 * b + k) = nI q.1 ∧ a 22 (6 * b + k) = nI q.2
theorem RS_add {a : Nat → Nat → Int32} {b x x2 : Nat} {rs : List (Nat × Nat)} (h : RS a b rs) :
    RS (u_ (u_ (u_ a 21 (upd (a 21) (6 * b + rs.length) (nI x))) 22 (upd (a 22) (6 * b + rs.length) (nI x2))) 20 (upd (a 20) b (nI (rs.length + 1)))) b (rs ++ [(x, x2)]) ∧ RK a (u_ (u_ (u_ a 21 (upd (a 21) (6 * b + rs.length) (nI x))) 22 (upd (a 22) (6 * b + rs.length) (nI x2))) 20 (upd (a 20) b (nI (rs.length + 1)))) b := by
  refine ⟨⟨?_, fun k q hk => ?_⟩, fun j hj => ?_, fun j hj => ?_, fun i hi => ?_⟩
  · show upd (a 20) b (nI (rs.length + 1)) b = _
    rw [up_s, List.length_append]; rfl
  · show upd (a 21) (6 * b + rs.length) (nI x) (6 * b + k) = _ ∧ upd (a 22) (6 * b + rs.length) (nI x2) (6 * b + k) = _
    by_cases hkl : k < rs.length
    · rw [List.getElem?_append_left hkl] at hk
      rw [up_n _ _ (by omega), up_n _ _ (by omega)]
      exact h.2 k q hk
    · rw [List.getElem?_append_right (by omega)] at hk
      have hz : k - rs.length < 1 := getElem?_lt hk
      have hk0 : k = rs.length := by omega
      subst hk0
      rw [Nat.sub_self] at hk
      cases hk
      rw [up_s, up_s]
      exact ⟨rfl, rfl⟩
  · rw [u_n _ _ (by omega), u_n _ _ (by omega), u_n _ _ (by omega)]
  · show upd (a 20) b _ j = _
    rw [up_n _ _ hj]
  · show upd (a 21) _ _ i = _ ∧ upd (a 22) _ _ i = _
    rw [up_n _ _ (by omega), up_n _ _ (by omega)]
    exact ⟨rfl, rfl⟩
theorem last_i {rs : List (Nat × Nat)} {q : Nat × Nat} (h : rs.getLast? = some q) : rs[rs.length - 1]? = some q := by
  rw [List.getLast?_eq_getElem?] at h; exact h
section MSTEP
variable {X : pX} {n p b : Nat} {T : Nat → Int32} {z : Nat → Int32} {a : Nat → Nat → Int32} {w : Nat → Nat → Int64} {y : Nat → Int64} {g : List pE}
/-- the row is put down -/
theorem L_row76_y {rs : List (Nat × Nat)} {f x x2 : Nat} (hb : b < 60) (hS : RS a b rs) (hl : rs.length < 6) : p_E X 3 112 76 [some (.ref 22), some (.int (nI b)), some (.int (nI f)), some (.int (nI x)), some (.int (nI x2))] [] (hp z a w y g) (fun q => ∃ a', q = (.inl none, hp z a' w y g) ∧ RK a a' b ∧ RS a' b (rs ++ [(x, x2)])) := by
  have e20 : a 20 (nI b).toNatClampNeg = nI rs.length := by rw [kI_cl (by omega)]; exact hS.1
  refine (r_aln xc_112_76 rfl (r_get xc_112_77 xf_112_28 g_6_10 (r_iln xc_112_80 rfl (r_ia xc_112_81 b_29 ?_ (r_bi xc_112_82 kb_6 (r_cne xc_112_84 xj_112_84 (fun hc84 => (r_aln xc_112_87 rfl (r_iln xc_112_88 rfl ?_))) (fun hc84 => (r_aln xc_112_93 rfl (r_get xc_112_94 xf_112_31 g_6_11 (r_bi xc_112_97 kb_6 (r_iln xc_112_99 rfl (r_imul xc_112_100 (r_aln xc_112_101 rfl (r_get xc_112_102 xf_112_28 g_6_10 (r_iln xc_112_105 rfl (r_ia xc_112_106 b_29 ?_ (r_iadd xc_112_107 (r_iln xc_112_108 rfl (r_ias xc_112_109 b_30 t_30 ?_ (r_aln xc_112_110 rfl (r_get xc_112_111 xf_112_34 g_6_12 (r_bi xc_112_114 kb_6 (r_iln xc_112_116 rfl (r_imul xc_112_117 (r_aln xc_112_118 rfl (r_get xc_112_119 xf_112_28 g_6_10 (r_iln xc_112_122 rfl (r_ia xc_112_123 b_29 ?_ (r_iadd xc_112_124 (r_il xc_112_125 rfl (r_ias xc_112_127 b_31 t_31 ?_ (r_aln xc_112_128 rfl (r_get xc_112_129 xf_112_28 g_6_10 (r_iln xc_112_132 rfl (r_dup2 xc_112_133 rfl ⟨rfl, rfl⟩ (r_ia xc_112_134 b_29 ?_ (r_ic xc_112_135 kc_1 (r_iadd xc_112_136 (r_ias xc_112_137 b_29 t_29 ?_ (r_r0 xc_112_138 xrt_112 ?_))))))))))))))))))))))))))))))))))))))))
  · exact kI_in (by omega) (by omega)
  · rw [e20, kI_inj (by omega) (by omega)] at hc84; omega
  · exact kI_in (by omega) (by omega)
  · rw [e20, kI_mul, kI_add]; exact kI_in (by omega) (by omega)
  · exact kI_in (by omega) (by omega)
  · show p_inI (nI 6 * nI b + a 20 (nI b).toNatClampNeg) _
    rw [e20, kI_mul, kI_add]; exact kI_in (by omega) (by omega)
  · exact kI_in (by omega) (by omega)
  · exact kI_in (by omega) (by omega)
  · have e20' : ∀ f1 f2 : Nat → Int32, u_ (u_ a 21 f1) 22 f2 20 (nI b).toNatClampNeg = nI rs.length := fun _ _ => e20
    have e20'' : ∀ f1 : Nat → Int32, u_ a 21 f1 20 (nI b).toNatClampNeg = nI rs.length := fun _ => e20
    obtain ⟨r1, r2⟩ := RS_add (x := x) (x2 := x2) hS
    refine ⟨_, ?_, r2, r1⟩
    rw [e20', e20'', e20, kI_mul, kI_add, kI_add, kI_cl (by omega), kI_cl (by omega)]
    rfl
theorem M_row_y {rs : List (Nat × Nat)} (ht : TX (a 14) n) (h9 : z 9 = -1) (h7 : z 7 = nI n) (h8 : z 8 = nI p) (hn : n ≤ 300) (hq : p ≤ n) (hb : b < 60) (hS : RS a b rs) (hl : rs.length ≤ 6) (hB : ∀ q ∈ rs, q.1 < 1000000)
    (hG : wG (a 14) n p) (hE : sg (a 14) n (rQ (a 14) n p) = nI 61) (hG2 : wG (a 14) n (rQ (a 14) n p + 1)) (hnb : ¬ rBad (a 14) n p rs) : p_M X 3 112 [.ref 22, .int (nI b)] (hp z a w y g) (fun q => ∃ a', q = (.inl none, hp (u_ z 8 (nI (wE (a 14) n (rQ (a 14) n p + 1)))) a' w y g) ∧ RK a a' b ∧ RS a' b (rs ++ [rRow (a 14) n p])) := by
  have hwb := wB_le (T := a 14) hq
  have hid : wB (a 14) n (wB (a 14) n p) = wB (a 14) n p := skn_idem cB (a 14) hq
  have hidE : wE (a 14) n (wB (a 14) n p) = wE (a 14) n p := by unfold wE; rw [hid]
  have hidG : wG (a 14) n (wB (a 14) n p) ↔ wG (a 14) n p := by unfold wG; rw [hid, hidE]
  have hidV : wV (a 14) n (wB (a 14) n p) = wV (a 14) n p := by unfold wV; rw [hid, hidE]
  have hlt := (sg_lt (by decide) hE).1
  have hq1 := rQ_le (T := a 14) hq
  have hb2 := wB_le (T := a 14) (p := rQ (a 14) n p + 1) (n := n) (by omega)
  have hV := wV_lt hG
  have hV2 := wV_lt hG2
  have e20 : a 20 (nI b).toNatClampNeg = nI rs.length := by rw [kI_cl (by omega)]; exact hS.1
  have hl6 : rs.length < 6 := Nat.lt_of_le_of_ne hl (fun h => hnb (Or.inl h))
  have go : p_E X 3 112 19 [some (.ref 22), some (.int (nI b)), none, none, none] [.int (nI (wB (a 14) n p))] (hp (u_ z 8 (nI (wB (a 14) n p))) a w y g) (fun q => ∃ a', q = (.inl none, hp (u_ z 8 (nI (wE (a 14) n (rQ (a 14) n p + 1)))) a' w y g) ∧ RK a a' b ∧ RS a' b (rs ++ [rRow (a 14) n p])) := by
    refine (r_isn [_, _, _, _, _] xc_112_19 rfl rfl (r_aln xc_112_20 rfl ?_))
    refine (r_cv xc_112_21 xm_112_21 rfl xrc_108 rfl ((M_whole_y (p := wB (a 14) n p) ht h9 h7 rfl hn (by omega) (hidG.mpr hG))) (r_isn [_, _, _, _, _] xc_112_24 rfl rfl (r_aln xc_112_25 rfl (r_bi xc_112_26 kb_61 ?_))))
    rw [u_u, hidE, hidV]
    refine (r_c0 xc_112_28 xm_112_28 rfl xrc_107 rfl (p_M.up (M_take_y (p := wE (a 14) n p) (c := nI 61) h9 h7 rfl hn hwb.2.2 hE) (by omega)) (r_aln xc_112_31 rfl ?_))
    rw [u_u]
    refine (r_cv xc_112_32 xm_112_32 rfl xrc_108 rfl ((M_whole_y (p := rQ (a 14) n p + 1) ht h9 h7 rfl hn (by omega) hG2)) (r_is [_, _, _, _, _] xc_112_35 rfl rfl (r_aln xc_112_37 rfl ?_)))
    rw [u_u]
    refine (r_cv xc_112_38 xm_112_38 rfl xrc_98 rfl (p_M.up (M_fine_y h9) (by omega)) (r_zne xc_112_41 xj_112_41 (fun hc41 => (r_r0 xc_112_44 xrt_112 ?_)) (fun hc41 => (r_aln xc_112_45 rfl (r_get xc_112_46 xf_112_28 g_6_10 (r_iln xc_112_49 rfl (r_ia xc_112_50 b_29 ?_ (r_zle xc_112_51 xj_112_51 (fun hc51 => (r_iln xc_112_54 rfl (r_aln xc_112_55 rfl (r_get xc_112_56 xf_112_31 g_6_11 (r_bi xc_112_59 kb_6 (r_iln xc_112_61 rfl (r_imul xc_112_62 (r_aln xc_112_63 rfl (r_get xc_112_64 xf_112_28 g_6_10 (r_iln xc_112_67 rfl (r_ia xc_112_68 b_29 ?_ (r_iadd xc_112_69 (r_ic xc_112_70 kc_1 (r_isub xc_112_71 (r_ia xc_112_72 b_30 ?_ (r_cle xc_112_73 xj_112_73 (fun hc73 => ?_) (fun hc73 => ?_))))))))))))))))) (fun hc51 => ?_)))))))))
    · exact absurd hc41 (by decide)
    · exact kI_in (by omega) (by omega)
    · exact kI_in (by omega) (by omega)
    · rw [e20, kI_lt (by omega) (by omega)] at hc51
      rw [e20, kI_mul, kI_add, kI_sub (by omega)]; exact kI_in (by omega) (by omega)
    · exact L_row76_y hb hS hl6
    · exfalso
      rw [e20, kI_lt (by omega) (by omega)] at hc51
      rw [e20, kI_mul, kI_add, kI_sub (by omega), kI_cl (by omega)] at hc73
      refine hnb (Or.inr ?_)
      obtain ⟨q, hq⟩ : ∃ q, rs.getLast? = some q := by
        cases h : rs.getLast? with
        | none => rw [List.getLast?_eq_none_iff] at h; subst h; simp at hc51
        | some q => exact ⟨q, rfl⟩
      refine ⟨q, hq, ?_⟩
      have h1 := (hS.2 _ q (last_i hq)).1
      rw [show 6 * b + rs.length - 1 = 6 * b + (rs.length - 1) by omega, h1] at hc73
      have := hB q (List.mem_of_getLast? hq)
      rw [kI_lt (by omega) (by omega)] at hc73
      omega
    · exact L_row76_y hb hS hl6
  refine (r_in xin_112 (r_aln xc_112_0 rfl ?_))
  refine (r_cv xc_112_1 xm_112_1 rfl xrc_100 rfl (p_M.up (M_look h7 h8 hn hq) (by omega)) (r_ic xc_112_4 kc_m1 (r_cne xc_112_5 xj_112_5 (fun hc5 => (r_aln xc_112_8 rfl (r_get xc_112_9 xf_112_77 g_6_1 (r_go xc_112_12 xj_112_12 ?_)))) (fun hc5 => (r_aln xc_112_15 rfl (r_get xc_112_16 xf_112_80 g_6_2 ?_))))))
  · have e := (sg_m1 ht (show skn cB (a 14) n p ≤ n from (skn_ge cB (a 14) hq).2)).mp hc5
    have e2 : (u_ z 8 (nI (skn cB (a 14) n p))) 7 = nI (wB (a 14) n p) := by
      show z 7 = nI (skn cB (a 14) n p)
      rw [e]; exact h7
    rw [e2]
    exact go
  · exact go
theorem M_row_n {rs : List (Nat × Nat)} {bd : Nat} (ht : TX (a 14) n) (h9 : z 9 = -1) (h7 : z 7 = nI n) (h8 : z 8 = nI p) (hn : n ≤ 300) (hq : p ≤ n) (hb : b < 60) (hS : RS a b rs) (hl : rs.length ≤ 6) (hB : ∀ q ∈ rs, q.1 < 1000000)
    (hbd : (¬ wG (a 14) n p ∧ bd = wB (a 14) n p) ∨ (wG (a 14) n p ∧ ¬ sg (a 14) n (rQ (a 14) n p) = nI 61 ∧ bd = rQ (a 14) n p) ∨ (wG (a 14) n p ∧ sg (a 14) n (rQ (a 14) n p) = nI 61 ∧ ¬ wG (a 14) n (rQ (a 14) n p + 1) ∧ bd = wB (a 14) n (rQ (a 14) n p + 1)) ∨ (wG (a 14) n p ∧ sg (a 14) n (rQ (a 14) n p) = nI 61 ∧ wG (a 14) n (rQ (a 14) n p + 1) ∧ rBad (a 14) n p rs ∧ bd = wB (a 14) n p)) : p_M X 3 112 [.ref 22, .int (nI b)] (hp z a w y g) (fun q => ∃ z', q = (.inl none, hp z' a w y g) ∧ z' 9 = nI bd ∧ ∀ k, k ≠ 8 → k ≠ 9 → z' k = z k) := by
  have hwb := wB_le (T := a 14) hq
  have hid : wB (a 14) n (wB (a 14) n p) = wB (a 14) n p := skn_idem cB (a 14) hq
  have hidE : wE (a 14) n (wB (a 14) n p) = wE (a 14) n p := by unfold wE; rw [hid]
  have hidG : wG (a 14) n (wB (a 14) n p) ↔ wG (a 14) n p := by unfold wG; rw [hid, hidE]
  have hidV : wV (a 14) n (wB (a 14) n p) = wV (a 14) n p := by unfold wV; rw [hid, hidE]
  have hq1 := rQ_le (T := a 14) hq
  have e20 : a 20 (nI b).toNatClampNeg = nI rs.length := by rw [kI_cl (by omega)]; exact hS.1
  have uz : ∀ {v v2 : Int32} k, k ≠ 8 → k ≠ 9 → u_ (u_ z 8 v) 9 v2 k = z k := fun k h1 h2 => by rw [u_n _ _ h2, u_n _ _ h1]
  have go : p_E X 3 112 19 [some (.ref 22), some (.int (nI b)), none, none, none] [.int (nI (wB (a 14) n p))] (hp (u_ z 8 (nI (wB (a 14) n p))) a w y g) (fun q => ∃ z', q = (.inl none, hp z' a w y g) ∧ z' 9 = nI bd ∧ ∀ k, k ≠ 8 → k ≠ 9 → z' k = z k) := by
    refine (r_isn [_, _, _, _, _] xc_112_19 rfl rfl (r_aln xc_112_20 rfl ?_))
    rcases hbd with ⟨hG, rfl⟩ | ⟨hG, hE, rfl⟩ | ⟨hG, hE, hG2, rfl⟩ | ⟨hG, hE, hG2, hbb, rfl⟩
    · refine (r_cv xc_112_21 xm_112_21 rfl xrc_108 rfl ((M_whole_n (p := wB (a 14) n p) ht h9 h7 rfl hn (by omega) (fun h => hG (hidG.mp h)))) (r_isn [_, _, _, _, _] xc_112_24 rfl rfl (r_aln xc_112_25 rfl (r_bi xc_112_26 kb_61 ?_))))
      rw [u_u, hid]
      refine (r_c0 xc_112_28 xm_112_28 rfl xrc_107 rfl (p_M.up (M_take_b (b := wB (a 14) n p) rfl (by omega)) (by omega)) (r_aln xc_112_31 rfl ?_))
      refine (r_cv xc_112_32 xm_112_32 rfl xrc_108 rfl ((M_whole_b (b := wB (a 14) n p) rfl (by omega))) (r_is [_, _, _, _, _] xc_112_35 rfl rfl (r_aln xc_112_37 rfl ?_)))
      refine (r_cv xc_112_38 xm_112_38 rfl xrc_98 rfl (p_M.up (M_fine_n (b := wB (a 14) n p) rfl (by omega)) (by omega)) (r_zne xc_112_41 xj_112_41 (fun hc41 => (r_r0 xc_112_44 xrt_112 ?_)) (fun hc41 => ?_)))
      · exact ⟨_, rfl, rfl, uz⟩
      · exact absurd rfl hc41
    · refine (r_cv xc_112_21 xm_112_21 rfl xrc_108 rfl ((M_whole_y (p := wB (a 14) n p) ht h9 h7 rfl hn (by omega) (hidG.mpr hG))) (r_isn [_, _, _, _, _] xc_112_24 rfl rfl (r_aln xc_112_25 rfl (r_bi xc_112_26 kb_61 ?_))))
      rw [u_u, hidE, hidV]
      refine (r_c0 xc_112_28 xm_112_28 rfl xrc_107 rfl (p_M.up (M_take_n (p := wE (a 14) n p) (c := nI 61) h9 h7 rfl hn hwb.2.2 hE) (by omega)) (r_aln xc_112_31 rfl ?_))
      rw [u_u]
      refine (r_cv xc_112_32 xm_112_32 rfl xrc_108 rfl ((M_whole_b (b := rQ (a 14) n p) rfl (by omega))) (r_is [_, _, _, _, _] xc_112_35 rfl rfl (r_aln xc_112_37 rfl ?_)))
      refine (r_cv xc_112_38 xm_112_38 rfl xrc_98 rfl (p_M.up (M_fine_n (b := rQ (a 14) n p) rfl (by omega)) (by omega)) (r_zne xc_112_41 xj_112_41 (fun hc41 => (r_r0 xc_112_44 xrt_112 ?_)) (fun hc41 => ?_)))
      · exact ⟨_, rfl, rfl, uz⟩
      · exact absurd rfl hc41
    · have hlt := (sg_lt (by decide) hE).1
      have hb2 := wB_le (T := a 14) (p := rQ (a 14) n p + 1) (n := n) (by omega)
      refine (r_cv xc_112_21 xm_112_21 rfl xrc_108 rfl ((M_whole_y (p := wB (a 14) n p) ht h9 h7 rfl hn (by omega) (hidG.mpr hG))) (r_isn [_, _, _, _, _] xc_112_24 rfl rfl (r_aln xc_112_25 rfl (r_bi xc_112_26 kb_61 ?_))))
      rw [u_u, hidE, hidV]
      refine (r_c0 xc_112_28 xm_112_28 rfl xrc_107 rfl (p_M.up (M_take_y (p := wE (a 14) n p) (c := nI 61) h9 h7 rfl hn hwb.2.2 hE) (by omega)) (r_aln xc_112_31 rfl ?_))
      rw [u_u]
      refine (r_cv xc_112_32 xm_112_32 rfl xrc_108 rfl ((M_whole_n (p := rQ (a 14) n p + 1) ht h9 h7 rfl hn (by omega) hG2)) (r_is [_, _, _, _, _] xc_112_35 rfl rfl (r_aln xc_112_37 rfl ?_)))
      rw [u_u]
      refine (r_cv xc_112_38 xm_112_38 rfl xrc_98 rfl (p_M.up (M_fine_n (b := wB (a 14) n (rQ (a 14) n p + 1)) rfl (by omega)) (by omega)) (r_zne xc_112_41 xj_112_41 (fun hc41 => (r_r0 xc_112_44 xrt_112 ?_)) (fun hc41 => ?_)))
      · exact ⟨_, rfl, rfl, uz⟩
      · exact absurd rfl hc41
    · have hlt := (sg_lt (by decide) hE).1
      have hb2 := wB_le (T := a 14) (p := rQ (a 14) n p + 1) (n := n) (by omega)
      have hV := wV_lt hG
      refine (r_cv xc_112_21 xm_112_21 rfl xrc_108 rfl ((M_whole_y (p := wB (a 14) n p) ht h9 h7 rfl hn (by omega) (hidG.mpr hG))) (r_isn [_, _, _, _, _] xc_112_24 rfl rfl (r_aln xc_112_25 rfl (r_bi xc_112_26 kb_61 ?_))))
      rw [u_u, hidE, hidV]
      refine (r_c0 xc_112_28 xm_112_28 rfl xrc_107 rfl (p_M.up (M_take_y (p := wE (a 14) n p) (c := nI 61) h9 h7 rfl hn hwb.2.2 hE) (by omega)) (r_aln xc_112_31 rfl ?_))
      rw [u_u]
      refine (r_cv xc_112_32 xm_112_32 rfl xrc_108 rfl ((M_whole_y (p := rQ (a 14) n p + 1) ht h9 h7 rfl hn (by omega) hG2)) (r_is [_, _, _, _, _] xc_112_35 rfl rfl (r_aln xc_112_37 rfl ?_)))
      rw [u_u]
      have last : ∀ q, rs.getLast? = some q → 0 < rs.length ∧ a 21 (nI 6 * nI b + a 20 (nI b).toNatClampNeg - nI 1).toNatClampNeg = nI q.1 ∧ q.1 < 1000000 := by
        intro q hq
        have h1 := getElem?_lt (last_i hq)
        refine ⟨by omega, ?_, hB q (List.mem_of_getLast? hq)⟩
        rw [e20, kI_mul, kI_add, kI_sub (by omega), kI_cl (by omega), show 6 * b + rs.length - 1 = 6 * b + (rs.length - 1) by omega]
        exact (hS.2 _ q (last_i hq)).1
      refine (r_cv xc_112_38 xm_112_38 rfl xrc_98 rfl (p_M.up (M_fine_y h9) (by omega)) (r_zne xc_112_41 xj_112_41 (fun hc41 => (r_r0 xc_112_44 xrt_112 ?_)) (fun hc41 => (r_aln xc_112_45 rfl (r_get xc_112_46 xf_112_28 g_6_10 (r_iln xc_112_49 rfl (r_ia xc_112_50 b_29 ?_ (r_zle xc_112_51 xj_112_51 (fun hc51 => (r_iln xc_112_54 rfl (r_aln xc_112_55 rfl (r_get xc_112_56 xf_112_31 g_6_11 (r_bi xc_112_59 kb_6 (r_iln xc_112_61 rfl (r_imul xc_112_62 (r_aln xc_112_63 rfl (r_get xc_112_64 xf_112_28 g_6_10 (r_iln xc_112_67 rfl (r_ia xc_112_68 b_29 ?_ (r_iadd xc_112_69 (r_ic xc_112_70 kc_1 (r_isub xc_112_71 (r_ia xc_112_72 b_30 ?_ (r_cle xc_112_73 xj_112_73 (fun hc73 => ?_) (fun hc73 => ?_))))))))))))))))) (fun hc51 => ?_)))))))))
      · exact absurd hc41 (by decide)
      · exact kI_in (by omega) (by omega)
      · exact kI_in (by omega) (by omega)
      · rw [e20, kI_lt (by omega) (by omega)] at hc51
        rw [e20, kI_mul, kI_add, kI_sub (by omega)]; exact kI_in (by omega) (by omega)
      · refine (r_aln xc_112_76 rfl (r_get xc_112_77 xf_112_28 g_6_10 (r_iln xc_112_80 rfl (r_ia xc_112_81 b_29 ?_ (r_bi xc_112_82 kb_6 (r_cne xc_112_84 xj_112_84 (fun hc84 => (r_aln xc_112_87 rfl (r_iln xc_112_88 rfl ?_))) (fun hc84 => (r_aln xc_112_93 rfl (r_get xc_112_94 xf_112_31 g_6_11 (r_bi xc_112_97 kb_6 (r_iln xc_112_99 rfl (r_imul xc_112_100 (r_aln xc_112_101 rfl (r_get xc_112_102 xf_112_28 g_6_10 (r_iln xc_112_105 rfl (r_ia xc_112_106 b_29 ?_ (r_iadd xc_112_107 (r_iln xc_112_108 rfl (r_ias xc_112_109 b_30 t_30 ?_ (r_aln xc_112_110 rfl (r_get xc_112_111 xf_112_34 g_6_12 (r_bi xc_112_114 kb_6 (r_iln xc_112_116 rfl (r_imul xc_112_117 (r_aln xc_112_118 rfl (r_get xc_112_119 xf_112_28 g_6_10 (r_iln xc_112_122 rfl (r_ia xc_112_123 b_29 ?_ (r_iadd xc_112_124 (r_il xc_112_125 rfl (r_ias xc_112_127 b_31 t_31 ?_ (r_aln xc_112_128 rfl (r_get xc_112_129 xf_112_28 g_6_10 (r_iln xc_112_132 rfl (r_dup2 xc_112_133 rfl ⟨rfl, rfl⟩ (r_ia xc_112_134 b_29 ?_ (r_ic xc_112_135 kc_1 (r_iadd xc_112_136 (r_ias xc_112_137 b_29 t_29 ?_ (r_r0 xc_112_138 xrt_112 ?_))))))))))))))))))))))))))))))))))))))))
        · exact kI_in (by omega) (by omega)
        · refine (r_c0 xc_112_89 xm_112_89 rfl xrc_97 rfl (p_M.up (M_fail h9) (by omega)) (r_r0 xc_112_92 xrt_112 ?_))
          exact ⟨_, rfl, rfl, uz⟩
        all_goals
          exfalso
          rcases hbb with h | ⟨q, h1, h2⟩
          · exact hc84 (by rw [e20, h])
          · obtain ⟨_, l2, l3⟩ := last q h1
            rw [l2, kI_lt (by omega) (by omega)] at hc73
            omega
      · refine (r_aln xc_112_87 rfl (r_iln xc_112_88 rfl ?_))
        refine (r_c0 xc_112_89 xm_112_89 rfl xrc_97 rfl (p_M.up (M_fail h9) (by omega)) (r_r0 xc_112_92 xrt_112 ?_))
        exact ⟨_, rfl, rfl, uz⟩
      · refine (r_aln xc_112_76 rfl (r_get xc_112_77 xf_112_28 g_6_10 (r_iln xc_112_80 rfl (r_ia xc_112_81 b_29 ?_ (r_bi xc_112_82 kb_6 (r_cne xc_112_84 xj_112_84 (fun hc84 => (r_aln xc_112_87 rfl (r_iln xc_112_88 rfl ?_))) (fun hc84 => (r_aln xc_112_93 rfl (r_get xc_112_94 xf_112_31 g_6_11 (r_bi xc_112_97 kb_6 (r_iln xc_112_99 rfl (r_imul xc_112_100 (r_aln xc_112_101 rfl (r_get xc_112_102 xf_112_28 g_6_10 (r_iln xc_112_105 rfl (r_ia xc_112_106 b_29 ?_ (r_iadd xc_112_107 (r_iln xc_112_108 rfl (r_ias xc_112_109 b_30 t_30 ?_ (r_aln xc_112_110 rfl (r_get xc_112_111 xf_112_34 g_6_12 (r_bi xc_112_114 kb_6 (r_iln xc_112_116 rfl (r_imul xc_112_117 (r_aln xc_112_118 rfl (r_get xc_112_119 xf_112_28 g_6_10 (r_iln xc_112_122 rfl (r_ia xc_112_123 b_29 ?_ (r_iadd xc_112_124 (r_il xc_112_125 rfl (r_ias xc_112_127 b_31 t_31 ?_ (r_aln xc_112_128 rfl (r_get xc_112_129 xf_112_28 g_6_10 (r_iln xc_112_132 rfl (r_dup2 xc_112_133 rfl ⟨rfl, rfl⟩ (r_ia xc_112_134 b_29 ?_ (r_ic xc_112_135 kc_1 (r_iadd xc_112_136 (r_ias xc_112_137 b_29 t_29 ?_ (r_r0 xc_112_138 xrt_112 ?_))))))))))))))))))))))))))))))))))))))))
        · exact kI_in (by omega) (by omega)
        · refine (r_c0 xc_112_89 xm_112_89 rfl xrc_97 rfl (p_M.up (M_fail h9) (by omega)) (r_r0 xc_112_92 xrt_112 ?_))
          exact ⟨_, rfl, rfl, uz⟩
        all_goals
          exfalso
          rw [e20] at hc51
          rcases hbb with h | ⟨q, h1, h2⟩
          · exact hc84 (by rw [e20, h])
          · exact hc51 ((kI_lt (by omega) (by omega)).mpr (last q h1).1)
  refine (r_in xin_112 (r_aln xc_112_0 rfl ?_))
  refine (r_cv xc_112_1 xm_112_1 rfl xrc_100 rfl (p_M.up (M_look h7 h8 hn hq) (by omega)) (r_ic xc_112_4 kc_m1 (r_cne xc_112_5 xj_112_5 (fun hc5 => (r_aln xc_112_8 rfl (r_get xc_112_9 xf_112_77 g_6_1 (r_go xc_112_12 xj_112_12 ?_)))) (fun hc5 => (r_aln xc_112_15 rfl (r_get xc_112_16 xf_112_80 g_6_2 ?_))))))
  · have e := (sg_m1 ht (show skn cB (a 14) n p ≤ n from (skn_ge cB (a 14) hq).2)).mp hc5
    have e2 : (u_ z 8 (nI (skn cB (a 14) n p))) 7 = nI (wB (a 14) n p) := by
      show z 7 = nI (skn cB (a 14) n p)
      rw [e]; exact h7
    rw [e2]
    exact go
  · exact go
end MSTEP
