/-! ===== updates, scans of the text ===== -/
theorem u_id {α : Type} (f : Nat → α) (k : Nat) : u_ f k (f k) = f := funext fun i => by
  by_cases h : i = k
  · subst h; rw [u_s]
  · rw [u_n _ _ h]
theorem u_idv {α : Type} {f : Nat → α} {k : Nat} {v : α} (h : f k = v) : u_ f k v = f := by rw [← h]; exact u_id f k
theorem u_u {α : Type} (f : Nat → α) (k : Nat) (v v' : α) : u_ (u_ f k v) k v' = u_ f k v' := funext fun i => by
  by_cases h : i = k
  · subst h; rw [u_s, u_s]
  · rw [u_n _ _ h, u_n _ _ h, u_n _ _ h]
theorem u_c {α : Type} (f : Nat → α) {j k : Nat} (v v' : α) (h : j ≠ k) : u_ (u_ f j v) k v' = u_ (u_ f k v') j v := funext fun i => by
  by_cases h1 : i = k
  · subst h1; rw [u_s, u_n _ _ (Ne.symm h), u_s]
  · by_cases h2 : i = j
    · subst h2; rw [u_n _ _ h1, u_s, u_s]
    · rw [u_n _ _ h1, u_n _ _ h2, u_n _ _ h2, u_n _ _ h1]
def sk (P : Int32 → Bool) (T : Nat → Int32) : Nat → Nat → Nat
  | 0, p => p
  | k + 1, p => bif P (T p) then sk P T k (p + 1) else p
def skn (P : Int32 → Bool) (T : Nat → Int32) (n p : Nat) : Nat := sk P T (n - p) p
def cB (c : Int32) : Bool := decide (c = nI 32)
def cD (c : Int32) : Bool := decide (¬ c < nI 48 ∧ ¬ nI 57 < c)
def cS (c : Int32) : Bool := decide (¬ c < nI 97 ∧ ¬ nI 122 < c)
theorem sk_ge (P : Int32 → Bool) (T : Nat → Int32) : ∀ k p, p ≤ sk P T k p ∧ sk P T k p ≤ p + k := by
  intro k
  induction k with
  | zero => intro p; exact ⟨Nat.le_refl _, Nat.le_refl _⟩
  | succ k ih =>
    intro p
    unfold sk
    cases P (T p) with
    | false => exact ⟨Nat.le_refl _, by simp⟩
    | true => have := ih (p + 1); simp only [cond_true]; omega
theorem skn_ge (P : Int32 → Bool) (T : Nat → Int32) {n p : Nat} (h : p ≤ n) : p ≤ skn P T n p ∧ skn P T n p ≤ n := by
  have := sk_ge P T (n - p) p
  unfold skn; omega
theorem sk_t {P : Int32 → Bool} {T : Nat → Int32} {k p : Nat} (h : P (T p) = true) : sk P T (k + 1) p = sk P T k (p + 1) := by
  conv => lhs; unfold sk
  rw [h]; rfl
theorem sk_f {P : Int32 → Bool} {T : Nat → Int32} {k p : Nat} (h : P (T p) = false) : sk P T k p = p := by
  cases k with
  | zero => rfl
  | succ k => unfold sk; rw [h]; rfl
/-- what stands at the scan's end is none of them -/
theorem sk_end (P : Int32 → Bool) (T : Nat → Int32) : ∀ k p, sk P T k p < p + k → P (T (sk P T k p)) = false := by
  intro k
  induction k with
  | zero => intro p h; simp [sk] at h
  | succ k ih =>
    intro p h
    cases hp : P (T p) with
    | false => rw [sk_f hp]; exact hp
    | true => rw [sk_t hp] at h ⊢; exact ih _ (by omega)
theorem sk_all (P : Int32 → Bool) (T : Nat → Int32) : ∀ k p i, p ≤ i → i < sk P T k p → P (T i) = true := by
  intro k
  induction k with
  | zero => intro p i h1 h2; simp [sk] at h2; omega
  | succ k ih =>
    intro p i h1 h2
    cases hp : P (T p) with
    | false => rw [sk_f hp] at h2; omega
    | true =>
      rw [sk_t hp] at h2
      by_cases hi : i = p
      · subst hi; exact hp
      · exact ih (p + 1) i (by omega) h2
/-- the sign at a place -/
def sg (T : Nat → Int32) (n p : Nat) : Int32 := if p < n then T p else -1
/-- a number's digits -/
def dv (T : Nat → Int32) : Nat → Nat → Int32 → Int32
  | 0, _, x => x
  | k + 1, i, x => dv T k (i + 1) (x * nI 10 + (T i - nI 48))
section LEAF
variable {X : pX} {d n p : Nat} {z : Nat → Int32} {a : Nat → Nat → Int32} {w : Nat → Nat → Int64} {y : Nat → Int64} {g : List pE}
theorem M_clear : p_M X 0 11 [.ref 1] (hp z a w y g) (fun q => q = (.inl none, hp (u_ (u_ (u_ z 0 (nI 0)) 1 (nI 0)) 2 (nI 0)) a w y g)) := by
  refine (r_in xin_11 (r_aln xc_11_0 rfl (r_ic xc_11_1 kc_0 (r_put xc_11_2 xf_11_39 rfl s_2_9 (r_aln xc_11_5 rfl (r_ic xc_11_6 kc_0 (r_put xc_11_7 xf_11_43 rfl s_2_10 (r_aln xc_11_10 rfl (r_ic xc_11_11 kc_0 (r_put xc_11_12 xf_11_46 rfl s_2_11 (r_r0 xc_11_15 xrt_11 ?_)))))))))))
  rfl
theorem M_refuse {x : Int32} : p_M X 0 17 [.ref 11, .int x] (hp z a w y g) (fun q => q = (.inl (some (.int (nI 0))), hp (u_ z 5 x) a w y g)) := by
  refine (r_in xin_17 (r_aln xc_17_0 rfl (r_iln xc_17_1 rfl (r_put xc_17_2 xf_17_31 rfl s_1_4 (r_ic xc_17_5 kc_0 (r_rz xc_17_6 xrt_17 ?_ ?_))))))
  · exact Or.inl rfl
  · rfl
theorem M_isFull : p_M X 0 25 [.ref 1] (hp z a w y g) (fun q => q = (.inl (some (.int (if z 1 < nI 60 then nI 0 else nI 1))), hp z a w y g)) := by
  refine (r_in xin_25 (r_aln xc_25_0 rfl (r_get xc_25_1 xf_25_43 g_2_10 (r_bi xc_25_4 kb_60 (r_clt xc_25_6 xj_25_6 (fun hc6 => (r_ic xc_25_13 kc_0 (r_rz xc_25_14 xrt_25 ?_ ?_))) (fun hc6 => (r_ic xc_25_9 kc_1 (r_go xc_25_10 xj_25_10 (r_rz xc_25_14 xrt_25 ?_ ?_)))))))))
  · exact Or.inl rfl
  · rw [if_pos hc6]
  · exact Or.inr rfl
  · rw [if_neg hc6]
theorem M_signHere (h3 : z 3 = nI n) (h4 : z 4 = nI p) (hn : n ≤ 300) (hq : p ≤ n) : p_M X 0 15 [.ref 11] (hp z a w y g) (fun q => q = (.inl (some (.int (sg (a 9) n p))), hp z a w y g)) := by
  refine (r_in xin_15 (r_aln xc_15_0 rfl (r_get xc_15_1 xf_15_28 g_1_3 (r_aln xc_15_4 rfl (r_get xc_15_5 xf_15_19 g_1_2 (r_cge xc_15_8 xj_15_8 (fun hc8 => (r_aln xc_15_11 rfl (r_get xc_15_12 xf_15_9 g_1_1 (r_aln xc_15_15 rfl (r_get xc_15_16 xf_15_28 g_1_3 (r_ia xc_15_19 b_12 ?_ (r_go xc_15_20 xj_15_20 (r_ri xc_15_24 xrt_15 ?_)))))))) (fun hc8 => (r_ic xc_15_23 kc_m1 (r_ri xc_15_24 xrt_15 ?_)))))))))
  · rw [h3, h4, kI_lt (by omega) (by omega)] at hc8
    rw [h4]; exact kI_in (by omega) (by omega)
  · rw [h3, h4, kI_lt (by omega) (by omega)] at hc8
    rw [h4, kI_cl (by omega)]; unfold sg; rw [if_pos hc8]
  · rw [h3, h4, kI_lt (by omega) (by omega)] at hc8
    unfold sg; rw [if_neg hc8]
theorem L_skipB (h3 : z 3 = nI n) (hn : n ≤ 300) : ∀ k p, n - p = k → p ≤ n → p_E X 0 14 0 [some (.ref 11)] [] (hp (u_ z 4 (nI p)) a w y g) (fun q => q = (.inl none, hp (u_ z 4 (nI (sk cB (a 9) k p))) a w y g)) := by
  intro k
  induction k with
  | zero =>
    intro p hk hq
    have hc : ∀ {C : Prop}, nI p < z 3 → C := fun h => by rw [h3, kI_lt (by omega) (by omega)] at h; omega
    refine (r_aln xc_14_0 rfl (r_get xc_14_1 xf_14_28 g_1_3 (r_aln xc_14_4 rfl (r_get xc_14_5 xf_14_19 g_1_2 (r_cge xc_14_8 xj_14_8 (fun hc8 => (r_aln xc_14_11 rfl (r_get xc_14_12 xf_14_9 g_1_1 (r_aln xc_14_15 rfl (r_get xc_14_16 xf_14_28 g_1_3 (r_ia xc_14_19 b_12 ?_ (r_bi xc_14_20 kb_32 (r_cne xc_14_22 xj_14_22 (fun hc22 => (r_aln xc_14_25 rfl (r_dup xc_14_26 rfl (r_get xc_14_27 xf_14_28 g_1_3 (r_ic xc_14_30 kc_1 (r_iadd xc_14_31 (r_put xc_14_32 xf_14_28 rfl s_1_3 (r_go xc_14_35 xj_14_35 ?_)))))))) (fun hc22 => (r_r0 xc_14_38 xrt_14 ?_)))))))))) (fun hc8 => (r_r0 xc_14_38 xrt_14 ?_)))))))
    · exact hc hc8
    · exact hc hc8
    · exact hc hc8
    · rfl
  | succ k ih =>
    intro p hk hq
    have hc : nI p < z 3 := by rw [h3, kI_lt (by omega) (by omega)]; omega
    refine (r_aln xc_14_0 rfl (r_get xc_14_1 xf_14_28 g_1_3 (r_aln xc_14_4 rfl (r_get xc_14_5 xf_14_19 g_1_2 (r_cge xc_14_8 xj_14_8 (fun hc8 => (r_aln xc_14_11 rfl (r_get xc_14_12 xf_14_9 g_1_1 (r_aln xc_14_15 rfl (r_get xc_14_16 xf_14_28 g_1_3 (r_ia xc_14_19 b_12 ?_ (r_bi xc_14_20 kb_32 (r_cne xc_14_22 xj_14_22 (fun hc22 => (r_aln xc_14_25 rfl (r_dup xc_14_26 rfl (r_get xc_14_27 xf_14_28 g_1_3 (r_ic xc_14_30 kc_1 (r_iadd xc_14_31 (r_put xc_14_32 xf_14_28 rfl s_1_3 (r_go xc_14_35 xj_14_35 ?_)))))))) (fun hc22 => (r_r0 xc_14_38 xrt_14 ?_)))))))))) (fun hc8 => (r_r0 xc_14_38 xrt_14 ?_)))))))
    · exact kI_in (by omega) (by omega)
    · have hc22 : a 9 (nI p).toNatClampNeg = nI 32 := hc22
      rw [kI_cl (by omega)] at hc22
      rw [u_u, sk_t (by unfold cB; rw [hc22]; rfl)]
      have e : u_ z 4 (nI p) 4 + nI 1 = nI (p + 1) := kI_add p 1
      rw [e]
      exact ih (p + 1) (by omega) (by omega)
    · have hc22 : ¬ a 9 (nI p).toNatClampNeg = nI 32 := hc22
      rw [kI_cl (by omega)] at hc22
      rw [sk_f (by unfold cB; exact decide_eq_false hc22)]
    · exact absurd hc hc8
theorem M_skipB (h3 : z 3 = nI n) (h4 : z 4 = nI p) (hn : n ≤ 300) (hq : p ≤ n) : p_M X 0 14 [.ref 11] (hp z a w y g) (fun q => q = (.inl none, hp (u_ z 4 (nI (skn cB (a 9) n p))) a w y g)) := by
  refine r_in xin_14 ?_
  have := L_skipB (X := X) (a := a) (w := w) (y := y) (g := g) h3 hn (n - p) p rfl hq
  rw [u_idv h4] at this
  exact this
theorem L_skipD (h3 : z 3 = nI n) (hn : n ≤ 300) : ∀ k p, n - p = k → p ≤ n → p_E X 0 23 0 [some (.ref 11)] [] (hp (u_ z 4 (nI p)) a w y g) (fun q => q = (.inl none, hp (u_ z 4 (nI (sk cD (a 9) k p))) a w y g)) := by
  intro k
  induction k with
  | zero =>
    intro p hk hq
    have hc : ∀ {C : Prop}, nI p < z 3 → C := fun h => by rw [h3, kI_lt (by omega) (by omega)] at h; omega
    refine (r_aln xc_23_0 rfl (r_get xc_23_1 xf_23_28 g_1_3 (r_aln xc_23_4 rfl (r_get xc_23_5 xf_23_19 g_1_2 (r_cge xc_23_8 xj_23_8 (fun hc8 => (r_aln xc_23_11 rfl (r_get xc_23_12 xf_23_9 g_1_1 (r_aln xc_23_15 rfl (r_get xc_23_16 xf_23_28 g_1_3 (r_ia xc_23_19 b_12 ?_ (r_bi xc_23_20 kb_48 (r_clt xc_23_22 xj_23_22 (fun hc22 => (r_r0 xc_23_52 xrt_23 ?_)) (fun hc22 => (r_aln xc_23_25 rfl (r_get xc_23_26 xf_23_9 g_1_1 (r_aln xc_23_29 rfl (r_get xc_23_30 xf_23_28 g_1_3 (r_ia xc_23_33 b_12 ?_ (r_bi xc_23_34 kb_57 (r_cgt xc_23_36 xj_23_36 (fun hc36 => (r_r0 xc_23_52 xrt_23 ?_)) (fun hc36 => (r_aln xc_23_39 rfl (r_dup xc_23_40 rfl (r_get xc_23_41 xf_23_28 g_1_3 (r_ic xc_23_44 kc_1 (r_iadd xc_23_45 (r_put xc_23_46 xf_23_28 rfl s_1_3 (r_go xc_23_49 xj_23_49 ?_)))))))))))))))))))))))) (fun hc8 => (r_r0 xc_23_52 xrt_23 ?_)))))))
    · exact hc hc8
    · exact hc hc8
    · exact hc hc8
    · exact hc hc8
    · exact hc hc8
    · rfl
  | succ k ih =>
    intro p hk hq
    have hc : nI p < z 3 := by rw [h3, kI_lt (by omega) (by omega)]; omega
    refine (r_aln xc_23_0 rfl (r_get xc_23_1 xf_23_28 g_1_3 (r_aln xc_23_4 rfl (r_get xc_23_5 xf_23_19 g_1_2 (r_cge xc_23_8 xj_23_8 (fun hc8 => (r_aln xc_23_11 rfl (r_get xc_23_12 xf_23_9 g_1_1 (r_aln xc_23_15 rfl (r_get xc_23_16 xf_23_28 g_1_3 (r_ia xc_23_19 b_12 ?_ (r_bi xc_23_20 kb_48 (r_clt xc_23_22 xj_23_22 (fun hc22 => (r_r0 xc_23_52 xrt_23 ?_)) (fun hc22 => (r_aln xc_23_25 rfl (r_get xc_23_26 xf_23_9 g_1_1 (r_aln xc_23_29 rfl (r_get xc_23_30 xf_23_28 g_1_3 (r_ia xc_23_33 b_12 ?_ (r_bi xc_23_34 kb_57 (r_cgt xc_23_36 xj_23_36 (fun hc36 => (r_r0 xc_23_52 xrt_23 ?_)) (fun hc36 => (r_aln xc_23_39 rfl (r_dup xc_23_40 rfl (r_get xc_23_41 xf_23_28 g_1_3 (r_ic xc_23_44 kc_1 (r_iadd xc_23_45 (r_put xc_23_46 xf_23_28 rfl s_1_3 (r_go xc_23_49 xj_23_49 ?_)))))))))))))))))))))))) (fun hc8 => (r_r0 xc_23_52 xrt_23 ?_)))))))
    · exact kI_in (by omega) (by omega)
    · have hc22 : a 9 (nI p).toNatClampNeg < nI 48 := hc22
      rw [kI_cl (by omega)] at hc22
      rw [sk_f (by unfold cD; exact decide_eq_false (fun h => h.1 hc22))]
    · exact kI_in (by omega) (by omega)
    · have hc36 : nI 57 < a 9 (nI p).toNatClampNeg := hc36
      rw [kI_cl (by omega)] at hc36
      rw [sk_f (by unfold cD; exact decide_eq_false (fun h => h.2 hc36))]
    · have hc22 : ¬ a 9 (nI p).toNatClampNeg < nI 48 := hc22
      have hc36 : ¬ nI 57 < a 9 (nI p).toNatClampNeg := hc36
      rw [kI_cl (by omega)] at hc22 hc36
      rw [u_u, sk_t (by unfold cD; exact decide_eq_true ⟨hc22, hc36⟩)]
      have e : u_ z 4 (nI p) 4 + nI 1 = nI (p + 1) := kI_add p 1
      rw [e]
      exact ih (p + 1) (by omega) (by omega)
    · exact absurd hc hc8
theorem M_skipD (h3 : z 3 = nI n) (h4 : z 4 = nI p) (hn : n ≤ 300) (hq : p ≤ n) : p_M X 0 23 [.ref 11] (hp z a w y g) (fun q => q = (.inl none, hp (u_ z 4 (nI (skn cD (a 9) n p))) a w y g)) := by
  refine r_in xin_23 ?_
  have := L_skipD (X := X) (a := a) (w := w) (y := y) (g := g) h3 hn (n - p) p rfl hq
  rw [u_idv h4] at this
  exact this
theorem L_digits (h4 : z 4 = nI p) (hq : p ≤ 300) {f : Int32} : ∀ k i x, p - i = k → i ≤ p → p_E X 0 24 4 [some (.ref 11), some (.int f), some (.int x), some (.int (nI i))] [] (hp z a w y g) (fun q => q = (.inl (some (.int (dv (a 9) k i x))), hp z a w y g)) := by
  intro k
  induction k with
  | zero =>
    intro i x hk hi
    have hc : ∀ {C : Prop}, nI i < z 4 → C := fun h => by rw [h4, kI_lt (by omega) (by omega)] at h; omega
    refine (r_iln xc_24_4 rfl (r_aln xc_24_5 rfl (r_get xc_24_6 xf_24_28 g_1_3 (r_cge xc_24_9 xj_24_9 (fun hc9 => (r_iln xc_24_12 rfl (r_bi xc_24_13 kb_10 (r_imul xc_24_15 (r_aln xc_24_16 rfl (r_get xc_24_17 xf_24_9 g_1_1 (r_iln xc_24_20 rfl (r_ia xc_24_21 b_12 ?_ (r_bi xc_24_22 kb_48 (r_isub xc_24_24 (r_iadd xc_24_25 (r_isn [_, _, _, _] xc_24_26 rfl rfl (r_inc [_, _, _, _] xc_24_27 rfl rfl (ki_1 _) rfl (r_go xc_24_30 xj_24_30 ?_)))))))))))))) (fun hc9 => (r_iln xc_24_33 rfl (r_ri xc_24_34 xrt_24 ?_)))))))
    · exact hc hc9
    · exact hc hc9
    · rfl
  | succ k ih =>
    intro i x hk hi
    have hc : nI i < z 4 := by rw [h4, kI_lt (by omega) (by omega)]; omega
    refine (r_iln xc_24_4 rfl (r_aln xc_24_5 rfl (r_get xc_24_6 xf_24_28 g_1_3 (r_cge xc_24_9 xj_24_9 (fun hc9 => (r_iln xc_24_12 rfl (r_bi xc_24_13 kb_10 (r_imul xc_24_15 (r_aln xc_24_16 rfl (r_get xc_24_17 xf_24_9 g_1_1 (r_iln xc_24_20 rfl (r_ia xc_24_21 b_12 ?_ (r_bi xc_24_22 kb_48 (r_isub xc_24_24 (r_iadd xc_24_25 (r_isn [_, _, _, _] xc_24_26 rfl rfl (r_inc [_, _, _, _] xc_24_27 rfl rfl (ki_1 _) rfl (r_go xc_24_30 xj_24_30 ?_)))))))))))))) (fun hc9 => (r_iln xc_24_33 rfl (r_ri xc_24_34 xrt_24 ?_)))))))
    · exact kI_in (by omega) (by omega)
    · rw [kI_cl (by omega), kI_add]
      exact ih (i + 1) _ (by omega) (by omega)
    · exact absurd hc hc9
theorem M_digitsFrom {i : Nat} (h4 : z 4 = nI p) (hq : p ≤ 300) (hi : i ≤ p) : p_M X 0 24 [.ref 11, .int (nI i)] (hp z a w y g) (fun q => q = (.inl (some (.int (dv (a 9) (p - i) i (nI 0)))), hp z a w y g)) := by
  refine (r_in xin_24 (r_ic xc_24_0 kc_0 (r_isn [_, _, _, _] xc_24_1 rfl rfl (r_iln xc_24_2 rfl (r_isn [_, _, _, _] xc_24_3 rfl rfl ?_)))))
  exact L_digits h4 hq (p - i) i (nI 0) rfl hi
end LEAF
