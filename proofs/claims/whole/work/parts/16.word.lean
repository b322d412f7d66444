/-! ===== literals, words, numbers of the text ===== -/
section STRG
variable {X : pX} {d mi pc i j : Nat} {ls : pL} {st : List Value} {h : List pE} {Q : pR → Prop}
theorem r_gs0 (hc : p_code mi pc = some (.getstatic i, 3)) (hf : p_stat (p_own mi) i = some 0) (k : p_E X d mi (pc + 3) ls (.int 1 :: st) h Q) : p_E X d mi pc ls st h Q := R_st hc rfl (by dsimp only [p_step]; rw [hf]; rfl) trivial k
theorem r_gs1 (hc : p_code mi pc = some (.getstatic i, 3)) (hf : p_stat (p_own mi) i = some 1) (k : p_E X d mi (pc + 3) ls (.float 0 :: st) h Q) : p_E X d mi pc ls st h Q := R_st hc rfl (by dsimp only [p_step]; rw [hf]; rfl) trivial k
theorem r_gl0 (hc : p_code mi pc = some (.getfield i, 3)) (hf : p_sfld (p_own mi) i = some 0) (hj : j < p_lits) (k : p_E X d mi (pc + 3) ls (.retAddr (p_lits + j + 1) :: st) h Q) : p_E X d mi pc ls (.retAddr (j + 1) :: st) h Q :=
  R_st (pc' := pc + 3) (ls' := ls) (h' := h) (st' := .retAddr (p_lits + j + 1) :: st) hc rfl (by dsimp only [p_step]; rw [hf, Nat.add_right_comm p_lits 1 j]; rfl) hj k
theorem r_gl1 (hc : p_code mi pc = some (.getfield i, 3)) (hf : p_sfld (p_own mi) i = some 1) (hj : j < p_lits) (k : p_E X d mi (pc + 3) ls (.int 0 :: st) h Q) : p_E X d mi pc ls (.retAddr (j + 1) :: st) h Q :=
  R_st hc rfl (by dsimp only [p_step]; rw [hf]; rfl) hj k
theorem r_nl (hc : p_code mi pc = some (.arraylength, 1)) (hj : j < p_lits) (k : p_E X d mi (pc + 1) ls (.int (nI (p_slen j)) :: st) h Q) : p_E X d mi pc ls (.retAddr (p_lits + j + 1) :: st) h Q := by
  refine R_st (pc' := pc + 1) (ls' := ls) (h' := h) (st' := .int (nI (p_slen (p_lits + j - p_lits))) :: st) hc rfl rfl ⟨Nat.le_add_right _ _, ?_⟩ ?_
  · rw [Nat.add_sub_cancel_left]; exact hj
  · rw [Nat.add_sub_cancel_left]; exact k
theorem r_bl {x : Int32} (hc : p_code mi pc = some (.baload, 1)) (hj : j < p_lits) (hin : p_inI x (p_slen j)) (k : p_E X d mi (pc + 1) ls (.int (p_schr j x.toNatClampNeg) :: st) h Q) : p_E X d mi pc ls (.int x :: .retAddr (p_lits + j + 1) :: st) h Q := by
  refine R_st (pc' := pc + 1) (ls' := ls) (h' := h) (st' := .int (p_schr (p_lits + j - p_lits) x.toNatClampNeg) :: st) hc rfl rfl ⟨Nat.le_add_right _ _, ?_, ?_⟩ ?_
  · rw [Nat.add_sub_cancel_left]; exact hj
  · rw [Nat.add_sub_cancel_left]; exact hin
  · rw [Nat.add_sub_cancel_left]; exact k
theorem M_coder (hj : j < p_lits) : p_M X 0 31 [.retAddr (j + 1)] h (fun q => q = (.inl (some (.int 0)), h)) := by
  refine r_in xin_31 (r_gs0 xc_31_0 rfl (r_zeq xc_31_3 xj_31_3 (fun hc => absurd hc (by decide)) (fun _ => r_arn xc_31_6 rfl (r_gl1 xc_31_7 rfl hj (r_go xc_31_10 xj_31_10 ?_)))))
  exact R_ret xc_31_14 rfl (Or.inr ⟨_, xrt_31, rfl⟩) rfl
theorem M_latin (hj : j < p_lits) : p_M X 0 33 [.retAddr (j + 1)] h (fun q => q = (.inl (some (.int (nI 1))), h)) := by
  refine r_in xin_33 (r_gs0 xc_33_0 rfl (r_zeq xc_33_3 xj_33_3 (fun hc => absurd hc (by decide)) (fun _ => r_arn xc_33_6 rfl (r_gl1 xc_33_7 rfl hj (r_zne xc_33_10 xj_33_10 (fun _ => r_ic xc_33_13 kc_1 (r_go xc_33_14 xj_33_14 (r_rz xc_33_18 xrt_33 (Or.inr rfl) rfl))) (fun hc => absurd rfl hc))))))
theorem M_length (hj : j < p_lits) : p_M X 1 30 [.retAddr (j + 1)] h (fun q => q = (.inl (some (.int (nI (p_slen j)))), h)) := by
  refine r_in xin_30 (r_arn xc_30_0 rfl (r_gl0 xc_30_1 rfl hj (r_nl xc_30_4 hj (r_arn xc_30_5 rfl (r_cv xc_30_6 xm_30_6 rfl (xrc_31 hj) rfl (M_coder hj) ?_)))))
  refine R_st xc_30_9 rfl rfl trivial ?_
  refine r_ri xc_30_10 xrt_30 ?_
  have e : nI (p_slen j) >>> ((0 : Int32) &&& 31) = nI (p_slen j) := by rw [show (0 : Int32) &&& 31 = 0 by decide]; exact Int32.shiftRight_zero
  rw [e]
theorem M_chk {x l : Int32} (h0 : ¬ x < nI 0) (h1 : x < l) : p_M X 0 36 [.int x, .int l, .float 0] h (fun q => q = (.inl (some (.int x)), h)) := by
  refine r_in xin_36 (r_iln xc_36_0 rfl (r_zlt xc_36_1 xj_36_1 (fun hc => absurd hc h0) (fun _ => r_iln xc_36_4 rfl (r_iln xc_36_5 rfl (r_clt xc_36_6 xj_36_6 (fun _ => r_iln xc_36_16 rfl (r_ri xc_36_17 xrt_36 rfl)) (fun hc => absurd h1 hc))))))
theorem M_chk2 {x l : Int32} (h0 : ¬ x < nI 0) (h1 : x < l) : p_M X 1 35 [.int x, .int l] h (fun q => q = (.inl none, h)) := by
  refine r_in xin_35 (r_iln xc_35_0 rfl (r_iln xc_35_1 rfl (r_gs1 xc_35_2 rfl (r_cv xc_35_5 xm_35_5 rfl rfl rfl (M_chk h0 h1) (r_pop xc_35_8 rfl (r_r0 xc_35_9 xrt_35 rfl))))))
theorem p_chr_ok : ∀ j, j < 20 → ∀ k, k < p_slen j → ((p_schr j k &&& nI 255).toUInt32 % 65536).toInt32 = p_schr j k ∧ narrow .char (.int (p_schr j k)) = .int (p_schr j k) ∧ p_slen j ≤ 100 := by decide +kernel
theorem M_chr1 {k : Nat} (hj : j < p_lits) (hk : k < p_slen j) : p_M X 2 34 [.retAddr (p_lits + j + 1), .int (nI k)] h (fun q => q = (.inl (some (.int (p_schr j k))), h)) := by
  obtain ⟨e1, e2, e3⟩ := p_chr_ok j hj k hk
  refine r_in xin_34 (r_iln xc_34_0 rfl (r_arn xc_34_1 rfl (r_nl xc_34_2 hj (r_c0 xc_34_3 xm_34_3 rfl rfl rfl (M_chk2 (kI_neg (by omega)) ((kI_lt (by omega) (by omega)).mpr hk)) (r_arn xc_34_6 rfl (r_iln xc_34_7 rfl (r_bl xc_34_8 hj (kI_in hk (by omega)) (r_si xc_34_9 ks_255 (r_iand xc_34_12 ?_)))))))))
  refine R_st xc_34_13 rfl rfl trivial ?_
  rw [kI_cl (by omega), e1]
  exact R_ret xc_34_14 rfl (Or.inr ⟨_, xrt_34, e2⟩) rfl
theorem M_charAt {k : Nat} (hj : j < p_lits) (hk : k < p_slen j) : p_M X 3 32 [.retAddr (j + 1), .int (nI k)] h (fun q => q = (.inl (some (.int (p_schr j k))), h)) := by
  obtain ⟨e1, e2, e3⟩ := p_chr_ok j hj k hk
  refine r_in xin_32 (r_arn xc_32_0 rfl (r_cv xc_32_1 xm_32_1 rfl (xrc_33 hj) rfl ((M_latin hj).up (by omega)) (r_zeq xc_32_4 xj_32_4 (fun hc => absurd hc (by decide)) (fun _ => r_arn xc_32_7 rfl (r_gl0 xc_32_8 rfl hj (r_iln xc_32_11 rfl (r_cv xc_32_12 xm_32_12 rfl rfl rfl (M_chr1 hj hk) ?_)))))))
  exact R_ret xc_32_15 rfl (Or.inr ⟨_, xrt_32, e2⟩) rfl
end STRG
/-! numbers -/
def dg (c : Int32) : Nat := (c.toInt - 48).toNat
def vN (T : Nat → Int32) : Nat → Nat → Nat → Nat
  | 0, _, x => x
  | k + 1, i, x => vN T k (i + 1) (x * 10 + dg (T i))
theorem cD_dg {c : Int32} (h : cD c = true) : c = nI (48 + dg c) ∧ dg c ≤ 9 := by
  unfold cD at h
  have h := of_decide_eq_true h
  rw [Int32.lt_iff_toInt_lt, Int32.lt_iff_toInt_lt, nI_toInt (by omega), nI_toInt (by omega)] at h
  have e : dg c ≤ 9 := by unfold dg; omega
  refine ⟨?_, e⟩
  rw [← Int32.toInt_inj, nI_toInt (by omega)]
  unfold dg; omega
theorem cD_sub {c : Int32} (h : cD c = true) : c - nI 48 = nI (dg c) := by
  conv => lhs; rw [(cD_dg h).1]
  rw [kI_sub (by omega)]; congr 1; omega
theorem dv_vN (T : Nat → Int32) : ∀ k i x, (∀ j, i ≤ j → j < i + k → cD (T j) = true) → dv T k i (nI x) = nI (vN T k i x) := by
  intro k
  induction k with
  | zero => intro i x _; rfl
  | succ k ih =>
    intro i x h
    show dv T k (i + 1) (nI x * nI 10 + (T i - nI 48)) = nI (vN T k (i + 1) (x * 10 + dg (T i)))
    rw [cD_sub (h i (by omega) (by omega)), kI_mul, kI_add]
    exact ih _ _ (fun j h1 h2 => h j (by omega) (by omega))
theorem vN_lt (T : Nat → Int32) : ∀ k i x, (∀ j, i ≤ j → j < i + k → cD (T j) = true) → vN T k i x < (x + 1) * 10 ^ k := by
  intro k
  induction k with
  | zero => intro i x _; simp [vN]
  | succ k ih =>
    intro i x h
    have h9 := (cD_dg (h i (by omega) (by omega))).2
    have := ih (i + 1) (x * 10 + dg (T i)) (fun j h1 h2 => h j (by omega) (by omega))
    show vN T k (i + 1) (x * 10 + dg (T i)) < (x + 1) * 10 ^ (k + 1)
    have e : (x * 10 + dg (T i) + 1) * 10 ^ k ≤ (x + 1) * 10 ^ (k + 1) := by
      rw [Nat.pow_succ, Nat.mul_comm (10 ^ k) 10, ← Nat.mul_assoc]
      exact Nat.mul_le_mul_right _ (by omega)
    omega
/-- the digits from a place on -/
theorem skD_all (T : Nat → Int32) {n p : Nat} : ∀ j, p ≤ j → j < p + (skn cD T n p - p) → cD (T j) = true := by
  intro j h1 h2
  exact sk_all cD T (n - p) p j h1 (by unfold skn at h2; have := sk_ge cD T (n - p) p; omega)
