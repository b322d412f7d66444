/-! ===== the class: sides, all values ===== -/
section VALS3
variable {X : pX} {z : Nat → Int32} {y : Nat → Int64} {g : List pE} {A : Nat → Option Nat} {M G : Nat → Nat} {ns : List pN} {pc : Nat}
/-- what stands of node j -/
def kv (a : Nat → Nat → Int32) (w : Nat → Nat → Int64) (o : Option Int64) (j : Nat) : Prop := match o with
  | some x => a 12 j = nI 1 ∧ w 1 j = x
  | none => a 12 j = nI 0
theorem kv01 {a : Nat → Nat → Int32} {w : Nat → Nat → Int64} {o : Option Int64} {j : Nat} (h : kv a w o j) : (a 12 j = nI 0 ↔ o = none) := by
  cases o with
  | none => exact ⟨fun _ => rfl, fun _ => h⟩
  | some x => exact ⟨fun h' => by rw [h.1] at h'; exact absurd h' (by decide), fun h' => by cases h'⟩
theorem kvx {a : Nat → Nat → Int32} {w : Nat → Nat → Int64} {o : Option Int64} {j : Nat} (h : kv a w o j) (hn : ¬ a 12 j = nI 0) : o = some (w 1 j) := by
  cases o with
  | none => exact absurd h hn
  | some x => rw [h.2]
def WP (X : pX) (z : Nat → Int32) (y : Nat → Int64) (g : List pE) (a : Nat → Nat → Int32) (w : Nat → Nat → Int64) (i : Nat) (o : Option Int64) (q : pR) : Prop := ∃ a' w', q = (.inl none, hp z a' w' y g) ∧ (∀ j, j ≠ 12 → a' j = a j) ∧ (∀ j, j ≠ 1 → w' j = w j) ∧ (∀ j, j ≠ i → a' 12 j = a 12 j ∧ w' 1 j = w 1 j) ∧ kv a' w' o i
theorem WP_set {a : Nat → Nat → Int32} {w : Nat → Nat → Int64} {i : Nat} {o1 o2 : Option Int64} {k : Nat} {b : Int32} {x : Int64} (hb : b = if o1 = none ∨ o2 = none then nI 0 else nI 1) (hx : ∀ x1 x2, o1 = some x1 → o2 = some x2 → x = vI k x1 x2) : WP X z y g a w i (vB k o1 o2) (.inl none, hp z (u_ a 12 (upd (a 12) i b)) (u_ w 1 (vp_updL (w 1) i x)) y g) := by
  refine ⟨_, _, rfl, fun j hj => u_n _ _ hj, fun j hj => u_n _ _ hj, fun j hj => ⟨?_, ?_⟩, ?_⟩
  · show upd (a 12) i _ j = _; rw [up_n _ _ hj]
  · show vp_updL (w 1) i _ j = _; rw [ul_n _ _ hj]
  · have e12 : u_ a 12 (upd (a 12) i b) 12 i = b := up_s _ _ _
    have e1 : u_ w 1 (vp_updL (w 1) i x) 1 i = x := ul_s _ _ _
    cases o1 with
    | none =>
      show u_ a 12 (upd (a 12) i b) 12 i = nI 0
      rw [e12, hb, if_pos (Or.inl rfl)]
    | some x1 =>
      cases o2 with
      | none =>
        show u_ a 12 (upd (a 12) i b) 12 i = nI 0
        rw [e12, hb, if_pos (Or.inr rfl)]
      | some x2 =>
        refine ⟨?_, ?_⟩
        · rw [e12, hb, if_neg (by simp)]
        · rw [e1]; exact hx x1 x2 rfl rfl
theorem M_wSides {a : Nat → Nat → Int32} {w : Nat → Nat → Int64} {i l r k : Nat} {o1 o2 : Option Int64} (hl : i < l) (hl2 : l < 60) (hr : i < r) (hr2 : r < 60) (hk : k = 3 ∨ k = 4 ∨ k = 5 ∨ k = 6) (h1 : kv a w o1 l) (h2 : kv a w o2 r) : p_M X 1 68 [.ref 17, .int (nI i), .int (nI k), .int (nI l), .int (nI r)] (hp z a w y g) (WP X z y g a w i (vB k o1 o2)) := by
  have c12l : a 12 (nI l).toNatClampNeg = a 12 l := by rw [kI_cl (by omega)]
  have c12r : a 12 (nI r).toNatClampNeg = a 12 r := by rw [kI_cl (by omega)]
  have c1l : w 1 (nI l).toNatClampNeg = w 1 l := by rw [kI_cl (by omega)]
  have c1r : w 1 (nI r).toNatClampNeg = w 1 r := by rw [kI_cl (by omega)]
  have val : ∀ x1 x2, o1 = some x1 → o2 = some x2 → x1 = w 1 l ∧ x2 = w 1 r := by
    rintro x1 x2 rfl rfl
    exact ⟨h1.2.symm, h2.2.symm⟩
  have go : ∀ b : Int32, b = (if o1 = none ∨ o2 = none then nI 0 else nI 1) → p_E X 1 68 79 [some (.ref 17), some (.int (nI i)), some (.int (nI k)), some (.int (nI l)), some (.int (nI r)), some (.long (w 1 l)), none, some (.long (w 1 r)), none] [] (hp z (u_ a 12 (upd (a 12) i b)) w y g) (WP X z y g a w i (vB k o1 o2)) := by
    intro b hb
    refine (r_iln xc_68_79 rfl (r_ts xc_68_80 (by decide) (by decide) (fun j hj hx => ?_) (fun hx => ?_)))
    · have hj : j < 3 := hj
      have hx : (nI k).toInt = 3 + (j : Int) := hx
      rw [nI_toInt (by omega)] at hx
      match j, hj, hx with
      | 0, _, hx =>
        have hk3 : k = 3 := by omega
        subst hk3
        change p_E _ _ _ 108 _ _ _ _
        refine (r_aln xc_68_108 rfl (r_get xc_68_109 xf_68_9 g_4_0 (r_iln xc_68_112 rfl (r_ll xc_68_113 rfl (r_ll xc_68_115 rfl (r_ladd xc_68_117 (r_las xc_68_118 b_18 t_18 ?_ (r_go xc_68_119 xj_68_119 (r_r0 xc_68_165 xrt_68 ?_)))))))))
        · exact kI_in (by omega) (by omega)
        · rw [kI_cl (by omega)]
          exact WP_set hb (fun x1 x2 e1 e2 => by obtain ⟨f1, f2⟩ := val x1 x2 e1 e2; rw [f1, f2]; rfl)
      | 1, _, hx =>
        have hk3 : k = 4 := by omega
        subst hk3
        change p_E _ _ _ 122 _ _ _ _
        refine (r_aln xc_68_122 rfl (r_get xc_68_123 xf_68_9 g_4_0 (r_iln xc_68_126 rfl (r_ll xc_68_127 rfl (r_ll xc_68_129 rfl (r_lsub xc_68_131 (r_las xc_68_132 b_18 t_18 ?_ (r_go xc_68_133 xj_68_133 (r_r0 xc_68_165 xrt_68 ?_)))))))))
        · exact kI_in (by omega) (by omega)
        · rw [kI_cl (by omega)]
          exact WP_set hb (fun x1 x2 e1 e2 => by obtain ⟨f1, f2⟩ := val x1 x2 e1 e2; rw [f1, f2]; rfl)
      | 2, _, hx =>
        have hk3 : k = 5 := by omega
        subst hk3
        change p_E _ _ _ 136 _ _ _ _
        refine (r_aln xc_68_136 rfl (r_get xc_68_137 xf_68_9 g_4_0 (r_iln xc_68_140 rfl (r_ll xc_68_141 rfl (r_ll xc_68_143 rfl ?_)))))
        refine (r_cv xc_68_145 xm_68_145 rfl xrc_59 rfl (M_minL) (r_las xc_68_148 b_18 t_18 ?_ (r_go xc_68_149 xj_68_149 (r_r0 xc_68_165 xrt_68 ?_))))
        · exact kI_in (by omega) (by omega)
        · rw [kI_cl (by omega)]
          refine WP_set hb (fun x1 x2 e1 e2 => ?_)
          obtain ⟨f1, f2⟩ := val x1 x2 e1 e2
          rw [f1, f2]
          show _ = if w 1 l < w 1 r then w 1 l else w 1 r
          by_cases hlt : w 1 r < w 1 l
          · rw [if_pos hlt, if_neg (by rw [Int64.lt_iff_toInt_lt] at hlt ⊢; omega)]
          · rw [if_neg hlt]
            by_cases hlt2 : w 1 l < w 1 r
            · rw [if_pos hlt2]
            · rw [if_neg hlt2]
              rw [Int64.lt_iff_toInt_lt] at hlt hlt2
              exact Int64.toInt_inj.mp (by omega)
    · have hx : (nI k).toInt < 3 ∨ 5 < (nI k).toInt := hx
      rw [nI_toInt (by omega)] at hx
      have hk3 : k = 6 := by omega
      subst hk3
      change p_E _ _ _ 152 _ _ _ _
      refine (r_aln xc_68_152 rfl (r_get xc_68_153 xf_68_9 g_4_0 (r_iln xc_68_156 rfl (r_ll xc_68_157 rfl (r_ll xc_68_159 rfl ?_)))))
      refine (r_cv xc_68_161 xm_68_161 rfl xrc_69 rfl (M_maxL) (r_las xc_68_164 b_18 t_18 ?_ (r_r0 xc_68_165 xrt_68 ?_)))
      · exact kI_in (by omega) (by omega)
      · rw [kI_cl (by omega)]
        exact WP_set hb (fun x1 x2 e1 e2 => by obtain ⟨f1, f2⟩ := val x1 x2 e1 e2; rw [f1, f2]; rfl)
  have n1 := kv01 h1
  have n2 := kv01 h2
  refine (r_in xin_68 (r_iln xc_68_0 rfl (r_iln xc_68_1 rfl (r_cle xc_68_2 xj_68_2 (fun hc2 => (r_iln xc_68_5 rfl (r_bi xc_68_6 kb_60 (r_cge xc_68_8 xj_68_8 (fun hc8 => (r_il xc_68_11 rfl (r_iln xc_68_13 rfl (r_cle xc_68_14 xj_68_14 (fun hc14 => (r_il xc_68_17 rfl (r_bi xc_68_19 kb_60 (r_clt xc_68_21 xj_68_21 (fun hc21 => ?_) (fun hc21 => ?_))))) (fun hc14 => ?_))))) (fun hc8 => ?_))))) (fun hc2 => ?_)))))
  · refine (r_aln xc_68_32 rfl (r_get xc_68_33 xf_68_9 g_4_0 (r_iln xc_68_36 rfl (r_la xc_68_37 b_18 ?_ (r_ls [_, _, _, _, _, _, _, _, _] xc_68_38 rfl rfl (r_aln xc_68_40 rfl (r_get xc_68_41 xf_68_9 g_4_0 (r_il xc_68_44 rfl (r_la xc_68_46 b_18 ?_ (r_ls [_, _, _, _, _, _, _, _, _] xc_68_47 rfl rfl (r_aln xc_68_49 rfl (r_get xc_68_50 xf_68_15 g_4_1 (r_iln xc_68_53 rfl (r_aln xc_68_54 rfl (r_get xc_68_55 xf_68_15 g_4_1 (r_iln xc_68_58 rfl (r_ba xc_68_59 b_19 ?_ (r_zeq xc_68_60 xj_68_60 (fun hc60 => (r_ic xc_68_77 kc_0 (r_bas xc_68_78 b_19 t_19 ?_ ?_))) (fun hc60 => (r_aln xc_68_63 rfl (r_get xc_68_64 xf_68_15 g_4_1 (r_il xc_68_67 rfl (r_ba xc_68_69 b_19 ?_ (r_zeq xc_68_70 xj_68_70 (fun hc70 => (r_ic xc_68_77 kc_0 (r_bas xc_68_78 b_19 t_19 ?_ ?_))) (fun hc70 => (r_ic xc_68_73 kc_1 (r_go xc_68_74 xj_68_74 (r_bas xc_68_78 b_19 t_19 ?_ ?_))))))))))))))))))))))))))))
    · exact kI_in (by omega) (by omega)
    · exact kI_in (by omega) (by omega)
    · exact kI_in (by omega) (by omega)
    · exact kI_in (by omega) (by omega)
    · rw [c12l, n1] at hc60
      rw [kI_cl (by omega), kI_cl (by omega), kI_cl (by omega)]
      exact go _ (by rw [if_pos (Or.inl hc60)]; exact nar_0)
    · exact kI_in (by omega) (by omega)
    · exact kI_in (by omega) (by omega)
    · rw [c12r, n2] at hc70
      rw [kI_cl (by omega), kI_cl (by omega), kI_cl (by omega)]
      exact go _ (by rw [if_pos (Or.inr hc70)]; exact nar_0)
    · exact kI_in (by omega) (by omega)
    · rw [c12l, n1] at hc60
      rw [c12r, n2] at hc70
      rw [kI_cl (by omega), kI_cl (by omega), kI_cl (by omega)]
      exact go _ (by rw [if_neg (by rintro (h | h); exact hc60 h; exact hc70 h)]; exact nar_1)
  all_goals first
    | (rw [kI_lt (by omega) (by omega)] at hc2; omega)
    | (rw [kI_lt (by omega) (by omega)] at hc8; omega)
    | (rw [kI_lt (by omega) (by omega)] at hc14; omega)
    | (rw [kI_lt (by omega) (by omega)] at hc21; omega)
end VALS3
