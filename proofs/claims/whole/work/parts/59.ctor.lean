/-! ===== the constructors ===== -/
section CTR
variable {X : pX} {d mi pc : Nat} {ls : pL} {st : List Value} {h : List pE} {Q : pR → Prop}
theorem r_nai {n q : Nat} (hc : p_code mi pc = some (.newarray .int, 2)) (hn : n ≤ 10000) (hl : h.length = q) (k : p_E X d mi (pc + 2) ls (.ref q :: st) (h ++ [.inl (.int, n, .inl (fun _ => 0))]) Q) : p_E X d mi pc ls (.int (nI n) :: st) h Q := by
  subst hl
  have e := kI_cl (a := n) (by omega)
  have e0 : (0 : Int32) = nI 0 := by decide
  refine R_st hc rfl rfl ⟨by rw [e0]; exact kI_neg (by omega), by rw [e]; omega⟩ ?_
  rw [e]; exact k
theorem r_nab {n q : Nat} (hc : p_code mi pc = some (.newarray .boolean, 2)) (hn : n ≤ 10000) (hl : h.length = q) (k : p_E X d mi (pc + 2) ls (.ref q :: st) (h ++ [.inl (.boolean, n, .inl (fun _ => 0))]) Q) : p_E X d mi pc ls (.int (nI n) :: st) h Q := by
  subst hl
  have e := kI_cl (a := n) (by omega)
  have e0 : (0 : Int32) = nI 0 := by decide
  refine R_st hc rfl rfl ⟨by rw [e0]; exact kI_neg (by omega), by rw [e]; omega⟩ ?_
  rw [e]; exact k
theorem r_nal {n q : Nat} (hc : p_code mi pc = some (.newarray .long, 2)) (hn : n ≤ 10000) (hl : h.length = q) (k : p_E X d mi (pc + 2) ls (.ref q :: st) (h ++ [.inl (.long, n, .inr (.inl (fun _ => 0)))]) Q) : p_E X d mi pc ls (.int (nI n) :: st) h Q := by
  subst hl
  have e := kI_cl (a := n) (by omega)
  have e0 : (0 : Int32) = nI 0 := by decide
  refine R_st hc rfl rfl ⟨by rw [e0]; exact kI_neg (by omega), by rw [e]; omega⟩ ?_
  rw [e]; exact k
theorem r_new {i q ci : Nat} {fs : List Value} (hc : p_code mi pc = some (.new i, 3)) (hx : p_exn (p_own mi) i = none) (hf : p_new (p_own mi) i = some (ci, fs)) (hl : h.length = q) (k : p_E X d mi (pc + 3) ls (.ref q :: st) (h ++ [.inr (ci, fs)]) Q) : p_E X d mi pc ls st h Q := by
  subst hl
  refine R_st hc (by unfold p_plain; dsimp only; rw [hx]; rfl) (by dsimp only [p_step]; rw [hf]) trivial k
theorem r_obj {i q : Nat} (hc : p_code mi pc = some (.invokespecial i, 3)) (hm : p_mtI (p_own mi) i = none) (he : p_ext (p_own mi) i = some 0) (hd : 1 ≤ d) (hw : p_words st ≤ 8) (k : p_E X d mi (pc + 3) ls st h Q) : p_E X d mi pc ls (.ref q :: st) h Q :=
  R_st (C := 1 ≤ d ∧ p_words st ≤ 8) hc (by unfold p_plain; dsimp only; rw [hm]; rfl) (by dsimp only [p_step]; rw [he]; rfl) ⟨hd, hw⟩ k
end CTR
def zI (n : Nat) : pE := .inl (.int, n, .inl (fun _ => 0))
def zL (n : Nat) : pE := .inl (.long, n, .inr (.inl (fun _ => 0)))
def zB (n : Nat) : pE := .inl (.boolean, n, .inl (fun _ => 0))
def o5 (t r u v p : Value) : pE := .inr (5, [t, r, u, v, p, .long 0])
def oT0 : pE := .inr (2, [.null, .null, .null, .null, .null, .null, .null, .null, .null, .int 0, .int 0, .int 0])
def oT : List pE := [.inr (2, [.ref 2, .ref 3, .ref 4, .ref 5, .ref 6, .ref 7, .ref 8, .ref 9, .ref 10, .int 0, .int 0, .int 0]), zI 60, zI 60, zI 60, zI 60, zI 60, zI 60, zI 60, zI 300, zI 300]
def oR : List pE := [.inr (1, [.ref 1, .ref 12, .int 0, .int 0, .int 0]), zI 300]
def oU (f : Nat → Int64) : List pE := [.inr (3, [.ref 14, .ref 15, .ref 16]), .inl (.long, 8, .inr (.inl f)), zI 8, zI 8]
def oV : List pE := [.inr (4, [.ref 18, .ref 19]), zL 60, zB 60]
def oP : List pE := [.inr (0, [.ref 21, .int 0]), zI 900]
def fl : Nat → Nat → (Nat → Int64) → Nat → Int64
  | 0, _, f => f
  | r + 1, i, f => fl r (i + 1) (vp_updL f i (-1))
def fA : Nat → Int64 := fl 8 0 (fun _ => 0)
theorem fA_m1 : ∀ u, u < 8 → fA u = -1 := by decide
def oM0 : pE := .inr (6, [.null, .int 0, .int 0, .int 0, .int 0, .null, .null, .null, .null, .null, .null, .null, .null, .int 0, .int 0, .int 0, .int 0, .int 0, .null, .null, .null, .null, .int 0, .null, .null, .long 0, .null, .null, .null, .null, .null, .int 0])
def oM (f : Nat → Int64) : List pE := [.inr (6, [.ref 23, .int 0, .int 0, .int 0, .int 0, .ref 24, .ref 25, .ref 26, .ref 27, .ref 28, .ref 29, .ref 30, .ref 31, .int 0, .int 0, .int 0, .int 0, .int 0, .ref 32, .ref 33, .ref 34, .ref 35, .int 0, .ref 36, .ref 37, .long 0, .ref 38, .ref 39, .ref 40, .ref 41, .ref 42, .int 0]), zI 300, zI 120, zI 120, zI 120, zI 120, zI 120, zI 120, zI 720, zI 720, zI 14, zI 14, zI 14, zI 14, zI 300, zI 60, .inl (.long, 8, .inr (.inl f)), zI 8, zI 8, zL 60, zI 3000]
section CTR2
variable {X : pX}

set_option maxRecDepth 100000 in
theorem C_1 : p_M X 1 1 [.ref 1] [o5 .null .null .null .null .null, oT0] (fun q => q = (.inl none, o5 .null .null .null .null .null :: oT)) := by
  refine r_in xin_1 ?_
  refine r_aln xc_1_0 rfl ?_
  refine r_obj xc_1_1 rfl rfl (by omega) (by decide) ?_
  refine r_aln xc_1_4 rfl ?_
  refine r_bi xc_1_5 kb_60 ?_
  refine r_nai xc_1_7 (by decide) rfl ?_
  refine r_put xc_1_9 xf_1_9 rfl rfl ?_
  refine r_aln xc_1_12 rfl ?_
  refine r_bi xc_1_13 kb_60 ?_
  refine r_nai xc_1_15 (by decide) rfl ?_
  refine r_put xc_1_17 xf_1_15 rfl rfl ?_
  refine r_aln xc_1_20 rfl ?_
  refine r_bi xc_1_21 kb_60 ?_
  refine r_nai xc_1_23 (by decide) rfl ?_
  refine r_put xc_1_25 xf_1_18 rfl rfl ?_
  refine r_aln xc_1_28 rfl ?_
  refine r_bi xc_1_29 kb_60 ?_
  refine r_nai xc_1_31 (by decide) rfl ?_
  refine r_put xc_1_33 xf_1_21 rfl rfl ?_
  refine r_aln xc_1_36 rfl ?_
  refine r_bi xc_1_37 kb_60 ?_
  refine r_nai xc_1_39 (by decide) rfl ?_
  refine r_put xc_1_41 xf_1_24 rfl rfl ?_
  refine r_aln xc_1_44 rfl ?_
  refine r_bi xc_1_45 kb_60 ?_
  refine r_nai xc_1_47 (by decide) rfl ?_
  refine r_put xc_1_49 xf_1_27 rfl rfl ?_
  refine r_aln xc_1_52 rfl ?_
  refine r_bi xc_1_53 kb_60 ?_
  refine r_nai xc_1_55 (by decide) rfl ?_
  refine r_put xc_1_57 xf_1_30 rfl rfl ?_
  refine r_aln xc_1_60 rfl ?_
  refine r_si xc_1_61 ks_300 ?_
  refine r_nai xc_1_64 (by decide) rfl ?_
  refine r_put xc_1_66 xf_1_33 rfl rfl ?_
  refine r_aln xc_1_69 rfl ?_
  refine r_si xc_1_70 ks_300 ?_
  refine r_nai xc_1_73 (by decide) rfl ?_
  refine r_put xc_1_75 xf_1_36 rfl rfl ?_
  refine r_r0 xc_1_78 xrt_1 ?_
  rfl
set_option maxRecDepth 100000 in
theorem C_2 : p_M X 1 2 [.ref 11, .ref 1] (o5 (.ref 1) .null .null .null .null :: (oT ++ [.inr (1, [.null, .null, .int 0, .int 0, .int 0])])) (fun q => q = (.inl none, (o5 (.ref 1) .null .null .null .null :: (oT ++ oR)))) := by
  refine r_in xin_2 ?_
  refine r_aln xc_2_0 rfl ?_
  refine r_obj xc_2_1 rfl rfl (by omega) (by decide) ?_
  refine r_aln xc_2_4 rfl ?_
  refine r_si xc_2_5 ks_300 ?_
  refine r_nai xc_2_8 (by decide) rfl ?_
  refine r_put xc_2_10 xf_2_9 rfl rfl ?_
  refine r_aln xc_2_13 rfl ?_
  refine r_aln xc_2_14 rfl ?_
  refine r_put xc_2_15 xf_2_15 rfl rfl ?_
  refine r_r0 xc_2_18 xrt_2 ?_
  rfl
set_option maxRecDepth 100000 in
theorem L_fill {A : List pE} (hA : A = o5 (.ref 1) (.ref 11) .null .null .null :: (oT ++ oR)) : ∀ r i f, i + r = 8 → p_E X 0 4 6 [some (.ref 14), some (.long (-1)), none, some (.int (nI i)), some (.int (nI 8))] [] (o5 (.ref 1) (.ref 11) .null .null .null :: (oT ++ oR ++ oU f)) (fun q => q = (.inl none, o5 (.ref 1) (.ref 11) .null .null .null :: (oT ++ oR ++ oU (fl r i f)))) := by
  intro r
  induction r with
  | zero =>
    intro i f hi
    have : i = 8 := by omega
    subst this
    refine r_iln xc_4_6 rfl (r_il xc_4_7 rfl (r_cge xc_4_9 xj_4_9 (fun hc => absurd hc (by decide)) (fun _ => r_r0 xc_4_22 xrt_4 ?_)))
    rfl
  | succ r ih =>
    intro i f hi
    refine r_iln xc_4_6 rfl (r_il xc_4_7 rfl (r_cge xc_4_9 xj_4_9 (fun hc => ?_) (fun hc => absurd ((kI_lt (by omega) (by omega)).mpr (by omega)) hc)))
    refine r_aln xc_4_12 rfl (r_iln xc_4_13 rfl (r_lln xc_4_14 rfl ?_))
    refine r_las (h' := o5 (.ref 1) (.ref 11) .null .null .null :: (oT ++ oR ++ oU (vp_updL f (nI i).toNatClampNeg (-1)))) xc_4_15 rfl rfl (kI_in (by omega) (by omega)) ?_
    rw [kI_cl (by omega)]
    refine r_inc [_, _, _, _, _] xc_4_16 rfl rfl (ki_1 _) rfl ?_
    refine r_go xc_4_19 xj_4_19 ?_
    rw [kI_add]
    exact ih (i + 1) _ (by omega)
set_option maxRecDepth 100000 in
theorem C_4 : p_M X 0 4 [.ref 14, .long (-1)] (o5 (.ref 1) (.ref 11) .null .null .null :: (oT ++ oR ++ oU (fun _ => 0))) (fun q => q = (.inl none, o5 (.ref 1) (.ref 11) .null .null .null :: (oT ++ oR ++ oU fA))) := by
  refine r_in xin_4 ?_
  refine r_ic xc_4_0 kc_0 (r_isn [_, _, _, _, _] xc_4_1 rfl rfl (r_aln xc_4_2 rfl ?_))
  refine R_st xc_4_3 rfl rfl trivial ?_
  refine r_is [_, _, _, _, _] xc_4_4 rfl rfl ?_
  exact L_fill rfl 8 0 (fun _ => 0) (by omega)

set_option maxRecDepth 100000 in
theorem C_3 : p_M X 1 3 [.ref 13] (o5 (.ref 1) (.ref 11) .null .null .null :: (oT ++ oR ++ [.inr (3, [.null, .null, .null])])) (fun q => q = (.inl none, (o5 (.ref 1) (.ref 11) .null .null .null :: (oT ++ oR ++ oU fA)))) := by
  refine r_in xin_3 ?_
  refine r_aln xc_3_0 rfl ?_
  refine r_obj xc_3_1 rfl rfl (by omega) (by decide) ?_
  refine r_aln xc_3_4 rfl ?_
  refine r_bi xc_3_5 kb_8 ?_
  refine r_nal xc_3_7 (by decide) rfl ?_
  refine r_put xc_3_9 xf_3_9 rfl rfl ?_
  refine r_aln xc_3_12 rfl ?_
  refine r_bi xc_3_13 kb_8 ?_
  refine r_nai xc_3_15 (by decide) rfl ?_
  refine r_put xc_3_17 xf_3_15 rfl rfl ?_
  refine r_aln xc_3_20 rfl ?_
  refine r_bi xc_3_21 kb_8 ?_
  refine r_nai xc_3_23 (by decide) rfl ?_
  refine r_put xc_3_25 xf_3_19 rfl rfl ?_
  refine r_aln xc_3_28 rfl ?_
  refine r_get xc_3_29 xf_3_9 rfl ?_
  refine r_ldl xc_3_32 xl_3_22 ?_
  refine r_c0 xc_3_35 xm_3_35 rfl rfl rfl (p_M.up (C_4) (by omega)) ?_
  refine r_r0 xc_3_38 xrt_3 ?_
  rfl
set_option maxRecDepth 100000 in
theorem C_5 : p_M X 1 5 [.ref 17] (o5 (.ref 1) (.ref 11) (.ref 13) .null .null :: (oT ++ oR ++ oU fA ++ [.inr (4, [.null, .null])])) (fun q => q = (.inl none, (o5 (.ref 1) (.ref 11) (.ref 13) .null .null :: (oT ++ oR ++ oU fA ++ oV)))) := by
  refine r_in xin_5 ?_
  refine r_aln xc_5_0 rfl ?_
  refine r_obj xc_5_1 rfl rfl (by omega) (by decide) ?_
  refine r_aln xc_5_4 rfl ?_
  refine r_bi xc_5_5 kb_60 ?_
  refine r_nal xc_5_7 (by decide) rfl ?_
  refine r_put xc_5_9 xf_5_9 rfl rfl ?_
  refine r_aln xc_5_12 rfl ?_
  refine r_bi xc_5_13 kb_60 ?_
  refine r_nab xc_5_15 (by decide) rfl ?_
  refine r_put xc_5_17 xf_5_15 rfl rfl ?_
  refine r_r0 xc_5_20 xrt_5 ?_
  rfl
set_option maxRecDepth 100000 in
theorem C_6 : p_M X 1 6 [.ref 20] (o5 (.ref 1) (.ref 11) (.ref 13) (.ref 17) .null :: (oT ++ oR ++ oU fA ++ oV ++ [.inr (0, [.null, .int 0])])) (fun q => q = (.inl none, (o5 (.ref 1) (.ref 11) (.ref 13) (.ref 17) .null :: (oT ++ oR ++ oU fA ++ oV ++ oP)))) := by
  refine r_in xin_6 ?_
  refine r_aln xc_6_0 rfl ?_
  refine r_obj xc_6_1 rfl rfl (by omega) (by decide) ?_
  refine r_aln xc_6_4 rfl ?_
  refine r_si xc_6_5 ks_900 ?_
  refine r_nai xc_6_8 (by decide) rfl ?_
  refine r_put xc_6_10 xf_6_9 rfl rfl ?_
  refine r_r0 xc_6_13 xrt_6 ?_
  rfl
set_option maxRecDepth 100000 in
theorem C_0 : p_M X 2 0 [.ref 0] [o5 .null .null .null .null .null] (fun q => q = (.inl none, (o5 (.ref 1) (.ref 11) (.ref 13) (.ref 17) (.ref 20) :: (oT ++ oR ++ oU fA ++ oV ++ oP)))) := by
  refine r_in xin_0 ?_
  refine r_aln xc_0_0 rfl ?_
  refine r_obj xc_0_1 rfl rfl (by omega) (by decide) ?_
  refine r_aln xc_0_4 rfl ?_
  refine r_new xc_0_5 rfl rfl rfl ?_
  refine r_dup xc_0_8 rfl ?_
  refine r_c0 xc_0_9 xm_0_9 rfl rfl rfl (p_M.up (C_1) (by omega)) ?_
  refine r_put xc_0_12 xf_0_12 rfl rfl ?_
  refine r_aln xc_0_15 rfl ?_
  refine r_new xc_0_16 rfl rfl rfl ?_
  refine r_dup xc_0_19 rfl ?_
  refine r_aln xc_0_20 rfl ?_
  refine r_get xc_0_21 xf_0_12 rfl ?_
  refine r_c0 xc_0_24 xm_0_24 rfl rfl rfl (p_M.up (C_2) (by omega)) ?_
  refine r_put xc_0_27 xf_0_21 rfl rfl ?_
  refine r_aln xc_0_30 rfl ?_
  refine r_new xc_0_31 rfl rfl rfl ?_
  refine r_dup xc_0_34 rfl ?_
  refine r_c0 xc_0_35 xm_0_35 rfl rfl rfl (p_M.up (C_3) (by omega)) ?_
  refine r_put xc_0_38 xf_0_28 rfl rfl ?_
  refine r_aln xc_0_41 rfl ?_
  refine r_new xc_0_42 rfl rfl rfl ?_
  refine r_dup xc_0_45 rfl ?_
  refine r_c0 xc_0_46 xm_0_46 rfl rfl rfl (p_M.up (C_5) (by omega)) ?_
  refine r_put xc_0_49 xf_0_35 rfl rfl ?_
  refine r_aln xc_0_52 rfl ?_
  refine r_new xc_0_53 rfl rfl rfl ?_
  refine r_dup xc_0_56 rfl ?_
  refine r_c0 xc_0_57 xm_0_57 rfl rfl rfl (p_M.up (C_6) (by omega)) ?_
  refine r_put xc_0_60 xf_0_42 rfl rfl ?_
  refine r_aln xc_0_63 rfl ?_
  refine r_lc xc_0_64 kl_0 ?_
  refine r_put xc_0_65 xf_0_46 rfl rfl ?_
  refine r_r0 xc_0_68 xrt_0 ?_
  rfl
def hK (f : Nat → Int64) : List pE := o5 (.ref 1) (.ref 11) (.ref 13) (.ref 17) (.ref 20) :: (oT ++ oR ++ oU fA ++ oV ++ oP ++ oM f)
set_option maxRecDepth 100000 in
theorem L_m92 : ∀ r i f, i + r = 8 → p_E X 1 92 171 [some (.ref 22), some (.int (nI i))] [] (hK f) (fun q => q = (.inl none, hK (fl r i f))) := by
  intro r
  induction r with
  | zero =>
    intro i f hi
    have : i = 8 := by omega
    subst this
    refine r_iln xc_92_171 rfl (r_bi xc_92_172 kb_8 (r_cge xc_92_174 xj_92_174 (fun hc => absurd hc (by decide)) (fun _ => r_r0 xc_92_192 xrt_92 ?_)))
    rfl
  | succ r ih =>
    intro i f hi
    refine r_iln xc_92_171 rfl (r_bi xc_92_172 kb_8 (r_cge xc_92_174 xj_92_174 (fun hc => ?_) (fun hc => absurd ((kI_lt (by omega) (by omega)).mpr (by omega)) hc)))
    refine r_aln xc_92_177 rfl (r_get xc_92_178 xf_92_55 rfl (r_iln xc_92_181 rfl (r_ldl xc_92_182 xl_92_71 ?_)))
    refine r_las (h' := hK (vp_updL f (nI i).toNatClampNeg (-1))) xc_92_185 rfl rfl (kI_in (by omega) (by omega)) ?_
    rw [kI_cl (by omega)]
    refine r_inc [_, _] xc_92_186 rfl rfl (ki_1 _) rfl ?_
    refine r_go xc_92_189 xj_92_189 ?_
    rw [kI_add]
    exact ih (i + 1) _ (by omega)
set_option maxRecDepth 100000 in
theorem C_92 : p_M X 1 92 [.ref 22] (o5 (.ref 1) (.ref 11) (.ref 13) (.ref 17) (.ref 20) :: (oT ++ oR ++ oU fA ++ oV ++ oP ++ [oM0])) (fun q => q = (.inl none, hK fA)) := by
  refine r_in xin_92 ?_
  refine r_aln xc_92_0 rfl ?_
  refine r_obj xc_92_1 rfl rfl (by omega) (by decide) ?_
  refine r_aln xc_92_4 rfl ?_
  refine r_si xc_92_5 ks_300 ?_
  refine r_nai xc_92_8 (by decide) rfl ?_
  refine r_put xc_92_10 xf_92_7 rfl rfl ?_
  refine r_aln xc_92_13 rfl ?_
  refine r_bi xc_92_14 kb_120 ?_
  refine r_nai xc_92_16 (by decide) rfl ?_
  refine r_put xc_92_18 xf_92_13 rfl rfl ?_
  refine r_aln xc_92_21 rfl ?_
  refine r_bi xc_92_22 kb_120 ?_
  refine r_nai xc_92_24 (by decide) rfl ?_
  refine r_put xc_92_26 xf_92_16 rfl rfl ?_
  refine r_aln xc_92_29 rfl ?_
  refine r_bi xc_92_30 kb_120 ?_
  refine r_nai xc_92_32 (by decide) rfl ?_
  refine r_put xc_92_34 xf_92_19 rfl rfl ?_
  refine r_aln xc_92_37 rfl ?_
  refine r_bi xc_92_38 kb_120 ?_
  refine r_nai xc_92_40 (by decide) rfl ?_
  refine r_put xc_92_42 xf_92_22 rfl rfl ?_
  refine r_aln xc_92_45 rfl ?_
  refine r_bi xc_92_46 kb_120 ?_
  refine r_nai xc_92_48 (by decide) rfl ?_
  refine r_put xc_92_50 xf_92_25 rfl rfl ?_
  refine r_aln xc_92_53 rfl ?_
  refine r_bi xc_92_54 kb_120 ?_
  refine r_nai xc_92_56 (by decide) rfl ?_
  refine r_put xc_92_58 xf_92_28 rfl rfl ?_
  refine r_aln xc_92_61 rfl ?_
  refine r_si xc_92_62 ks_720 ?_
  refine r_nai xc_92_65 (by decide) rfl ?_
  refine r_put xc_92_67 xf_92_31 rfl rfl ?_
  refine r_aln xc_92_70 rfl ?_
  refine r_si xc_92_71 ks_720 ?_
  refine r_nai xc_92_74 (by decide) rfl ?_
  refine r_put xc_92_76 xf_92_34 rfl rfl ?_
  refine r_aln xc_92_79 rfl ?_
  refine r_bi xc_92_80 kb_14 ?_
  refine r_nai xc_92_82 (by decide) rfl ?_
  refine r_put xc_92_84 xf_92_37 rfl rfl ?_
  refine r_aln xc_92_87 rfl ?_
  refine r_bi xc_92_88 kb_14 ?_
  refine r_nai xc_92_90 (by decide) rfl ?_
  refine r_put xc_92_92 xf_92_40 rfl rfl ?_
  refine r_aln xc_92_95 rfl ?_
  refine r_bi xc_92_96 kb_14 ?_
  refine r_nai xc_92_98 (by decide) rfl ?_
  refine r_put xc_92_100 xf_92_43 rfl rfl ?_
  refine r_aln xc_92_103 rfl ?_
  refine r_bi xc_92_104 kb_14 ?_
  refine r_nai xc_92_106 (by decide) rfl ?_
  refine r_put xc_92_108 xf_92_46 rfl rfl ?_
  refine r_aln xc_92_111 rfl ?_
  refine r_si xc_92_112 ks_300 ?_
  refine r_nai xc_92_115 (by decide) rfl ?_
  refine r_put xc_92_117 xf_92_49 rfl rfl ?_
  refine r_aln xc_92_120 rfl ?_
  refine r_bi xc_92_121 kb_60 ?_
  refine r_nai xc_92_123 (by decide) rfl ?_
  refine r_put xc_92_125 xf_92_52 rfl rfl ?_
  refine r_aln xc_92_128 rfl ?_
  refine r_bi xc_92_129 kb_8 ?_
  refine r_nal xc_92_131 (by decide) rfl ?_
  refine r_put xc_92_133 xf_92_55 rfl rfl ?_
  refine r_aln xc_92_136 rfl ?_
  refine r_bi xc_92_137 kb_8 ?_
  refine r_nai xc_92_139 (by decide) rfl ?_
  refine r_put xc_92_141 xf_92_59 rfl rfl ?_
  refine r_aln xc_92_144 rfl ?_
  refine r_bi xc_92_145 kb_8 ?_
  refine r_nai xc_92_147 (by decide) rfl ?_
  refine r_put xc_92_149 xf_92_62 rfl rfl ?_
  refine r_aln xc_92_152 rfl ?_
  refine r_bi xc_92_153 kb_60 ?_
  refine r_nal xc_92_155 (by decide) rfl ?_
  refine r_put xc_92_157 xf_92_65 rfl rfl ?_
  refine r_aln xc_92_160 rfl ?_
  refine r_si xc_92_161 ks_3000 ?_
  refine r_nai xc_92_164 (by decide) rfl ?_
  refine r_put xc_92_166 xf_92_68 rfl rfl ?_
  refine r_ic xc_92_169 kc_0 (r_isn [_, _] xc_92_170 rfl rfl ?_)
  exact L_m92 8 0 (fun _ => 0) (by omega)
def wW (j : Nat) : Nat → Int64 := match j with
  | 0 => fA
  | 2 => fA
  | _ => fun _ => 0
theorem REL0 : REL (fun _ => 0) (fun _ _ => 0) wW (fun _ => 0) := by
  have e0 : (0 : Int32) = nI 0 := by decide
  refine ⟨0, [], 0, 0, fun _ => none, fun _ => 0, fun _ => 0, 0, [], ⟨e0, e0, by omega, rfl, fun i hi => by omega⟩, ⟨Or.inl rfl, by simp, by simp [PR, pr], e0, e0, by omega, fun k v hk => by simp at hk, fun k v hk => by simp at hk, e0, fun _ => rfl, fun h => absurd rfl h⟩, fun u hu => ⟨fA_m1 u hu, fA_m1 u hu, e0, e0, e0, e0, fun x hx => (by cases hx), (by show 0 < 8; omega), (by show 0 ≤ 1000; omega), Or.inl rfl⟩, ⟨nL_0, nL_0, by omega⟩, ⟨e0, e0, by simp, fun i c hi => by simp at hi⟩⟩
set_option maxRecDepth 100000 in
theorem M_law (hX : X.1 ≤ 2560) : p_M X 70 144 [.retAddr 0] [] (fun q => ∃ z' a' w' y' g', q = (.inl (some (.int (nI 1))), hp z' a' w' y' g') ∧ gM g' ≤ 512) := by
  refine r_in xin_144 ?_
  refine r_new xc_144_0 rfl rfl rfl ?_
  refine r_dup xc_144_3 rfl ?_
  refine r_c0 xc_144_4 xm_144_4 rfl rfl rfl (p_M.up C_0 (by omega)) ?_
  refine r_asn [_, _, _, _, _, _, _, _] xc_144_7 rfl rfl ?_
  refine r_new xc_144_8 rfl rfl rfl ?_
  refine r_dup xc_144_11 rfl ?_
  refine r_c0 xc_144_12 xm_144_12 rfl rfl rfl (p_M.up C_92 (by omega)) ?_
  refine r_asn [_, _, _, _, _, _, _, _] xc_144_15 rfl rfl ?_
  refine r_ic xc_144_16 kc_1 ?_
  refine r_nal xc_144_17 (by decide) rfl ?_
  refine r_asn [_, _, _, _, _, _, _, _] xc_144_19 rfl rfl ?_
  refine r_ic xc_144_20 kc_0 ?_
  refine r_is [_, _, _, _, _, _, _, _] xc_144_21 rfl rfl ?_
  exact LAW_loop hX X.1 0 (fun _ => 0) (fun _ _ => 0) wW (fun _ => 0) [] (by omega) (by omega) (Nat.zero_le _) REL0
end CTR2
