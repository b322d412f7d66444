/-! ===== the model prints by a pile ===== -/
abbrev pI : Type := Nat ⊕ (Nat × List pN)
def itv (a : Nat → Nat → Int32) (x : Int32) (it : pI) : Prop := match it with
  | .inl c => x = -1 - nI c ∧ c < 128
  | .inr (k, t) => x = nI k ∧ TW t ∧ MpT a k t ∧ k + t.length ≤ 60
def pileOk (a : Nat → Nat → Int32) (f : Nat → Int32) (S : List pI) : Prop := ∀ i it, S[i]? = some it → itv a (f (S.length - 1 - i)) it
def oI (it : pI) : List Nat := match it with
  | .inl c => [c]
  | .inr (_, t) => PR t
def oS (S : List pI) : List Nat := (S.map oI).flatten
def wI (it : pI) : Nat := match it with
  | .inl _ => 1
  | .inr (_, t) => 3 * t.length - 2
def wS (S : List pI) : Nat := (S.map wI).sum
def uI (it : pI) : Nat := match it with
  | .inl _ => 1
  | .inr (_, t) => 7 * t.length
def uS (S : List pI) : Nat := (S.map uI).sum
theorem wS_cons (it : pI) (S : List pI) : wS (it :: S) = wI it + wS S := by unfold wS; simp
theorem uS_cons (it : pI) (S : List pI) : uS (it :: S) = uI it + uS S := by unfold uS; simp
theorem oS_cons (it : pI) (S : List pI) : oS (it :: S) = oI it ++ oS S := by unfold oS; simp
theorem pile_push {a : Nat → Nat → Int32} {f : Nat → Int32} {S : List pI} {x : Int32} {it : pI} (h : pileOk a f S) (hi : itv a x it) : pileOk a (upd f S.length x) (it :: S) := by
  intro i it' hit
  cases i with
  | zero =>
    cases hit
    rw [List.length_cons, show S.length + 1 - 1 - 0 = S.length by omega, up_s]
    exact hi
  | succ i =>
    have hl := getElem?_lt hit
    rw [List.length_cons] at hl
    rw [List.length_cons, show S.length + 1 - 1 - (i + 1) = S.length - 1 - i by omega, up_n _ _ (by omega)]
    exact h i it' hit
theorem pile_len {a : Nat → Nat → Int32} {f : Nat → Int32} {S : List pI} (h : pileOk a f S) : S.length ≤ wS S := by
  have : ∀ S : List pI, (∀ it ∈ S, 1 ≤ wI it) → S.length ≤ wS S := by
    intro S
    induction S with
    | nil => intro _; exact Nat.zero_le _
    | cons it S ih =>
      intro h
      rw [wS_cons, List.length_cons]
      have := ih (fun x hx => h x (List.mem_cons_of_mem _ hx))
      have := h it List.mem_cons_self
      omega
  refine this S (fun it hit => ?_)
  obtain ⟨i, hi⟩ := List.getElem?_of_mem hit
  have := h i it hi
  cases it with
  | inl c => exact Nat.le_refl _
  | inr s =>
    obtain ⟨k, t⟩ := s
    have := TW_ne this.2.1
    show 1 ≤ 3 * t.length - 2
    omega
section MPR2
variable {X : pX} {z : Nat → Int32} {w : Nat → Nat → Int64} {y : Nat → Int64} {g : List pE}
theorem m1c : ∀ c, c < 128 → (-1 : Int32) - nI c = Int32.ofInt (-1 - (c : Int)) := by decide
/-- the signs of + and - and both sides go on the pile -/
theorem Q_two {a b : Nat → Nat → Int32} {S : List pI} {k : Nat} {v : pN} {tl tr : List pN} (hb : ∀ j, j ≠ 27 → j ≠ 31 → b j = a j) (hS : pileOk a (b 27) S) (hlen : S.length ≤ 200) (hv : inOk v tl.length) (hk34 : v.1 = 3 ∨ v.1 = 4) (hl : TW tl) (hr : TW tr) (hM : MpT a k (v :: (tl ++ tr))) (hk : k + (v :: (tl ++ tr)).length ≤ 60) :
    p_M X 0 140 [.ref 22, .int (nI (60 + k)), .int (nI S.length)] (hp z b w y g) (fun q => ∃ f S', q = (.inl (some (.int (nI (S' ++ S).length))), hp z (u_ b 27 f) w y g) ∧ pileOk a f (S' ++ S) ∧ S' = [.inr (k + 1, tl), .inl 32, .inl (if v.1 = 3 then 43 else 45), .inl 32] ++ ((if isSum tr then [.inl 40] else []) ++ (.inr (k + 1 + tl.length, tr) :: (if isSum tr then [.inl 41] else [])))) := by
  simp only [List.length_cons, List.length_append] at hk
  have hl1 := TW_ne hl
  have hr1 := TW_ne hr
  have upp : ∀ (f : Nat → Int32) (i : Nat) (x : Int32), u_ (u_ b 27 f) 27 (upd (u_ b 27 f 27) i x) = u_ b 27 (upd f i x) := fun f i x => by rw [u_u]; rfl
  have hR := hv.2.2.2.1
  obtain ⟨hmv, h18, h19⟩ := hM 0 v rfl
  rw [if_neg (by omega), Nat.add_zero] at h18 h19
  rw [hR, show k + (1 + tl.length) = k + 1 + tl.length by omega] at h19
  rw [Nat.add_zero] at hmv
  have hMl : MpT a (k + 1) tl := by
    intro i x hi
    have := hM (i + 1) x (by rw [List.getElem?_cons_succ, List.getElem?_append_left (getElem?_lt hi)]; exact hi)
    rw [show k + (i + 1) = k + 1 + i by omega] at this
    exact this
  have hMr : MpT a (k + 1 + tl.length) tr := hM.right
  have iL : itv a (nI (k + 1)) (.inr (k + 1, tl)) := ⟨rfl, hl, hMl, by omega⟩
  have iR : itv a (nI (k + 1 + tl.length)) (.inr (k + 1 + tl.length, tr)) := ⟨rfl, hr, hMr, by omega⟩
  obtain ⟨kr, kr0, kr8, krs⟩ : ∃ kr, a 15 (60 + (k + 1 + tl.length)) = nI kr ∧ kr < 8 ∧ (isSum tr = true ↔ kr = 3 ∨ kr = 4) := by
    have h1 := TW_ne hr
    cases htr : tr with
    | nil => rw [htr] at h1; simp at h1
    | cons x t =>
      rw [htr] at hMr hr
      have := (hMr 0 x rfl).1
      rw [Nat.add_zero] at this
      refine ⟨x.1, this.1, (TW_unit hr x List.mem_cons_self).2, ?_⟩
      show (x.1 == 3 || x.1 == 4) = true ↔ _
      simp
  have c19 : b 19 (nI (60 + k)).toNatClampNeg = nI (k + 1 + tl.length) := by rw [kI_cl (by omega), hb 19 (by omega) (by omega)]; exact h19
  have c18 : ∀ f : Nat → Int32, u_ b 27 f 18 (nI (60 + k)).toNatClampNeg = nI (k + 1) := fun _ => by show b 18 (nI (60 + k)).toNatClampNeg = _; rw [kI_cl (by omega), hb 18 (by omega) (by omega)]; exact h18
  have c15 : ∀ f : Nat → Int32, u_ b 27 f 15 (nI (60 + k)).toNatClampNeg = nI v.1 := fun _ => by show b 15 (nI (60 + k)).toNatClampNeg = _; rw [kI_cl (by omega), hb 15 (by omega) (by omega)]; exact hmv.1
  have c15r : b 15 (nI 60 + nI (k + 1 + tl.length)).toNatClampNeg = nI kr := by rw [kI_add, kI_cl (by omega), hb 15 (by omega) (by omega)]; exact kr0
  -- the last four
  have last : ∀ (f : Nat → Int32) (S1 : List pI) (vb : Option Value), S1.length ≤ 210 → pileOk a f S1 → p_E X 0 140 92 [some (.ref 22), some (.int (nI (60 + k))), some (.int (nI S.length)), some (.int (nI S1.length)), vb] [] (hp z (u_ b 27 f) w y g) (fun q => ∃ f', q = (.inl (some (.int (nI (S1.length + 4)))), hp z (u_ b 27 f') w y g) ∧ pileOk a f' (.inr (k + 1, tl) :: .inl 32 :: .inl (if v.1 = 3 then 43 else 45) :: .inl 32 :: S1)) := by
    intro f S1 vb h210 hS1
    have fin : ∀ c, c = (if v.1 = 3 then 43 else 45) → pileOk a (upd (upd (upd (upd f S1.length (-33)) (S1.length + 1) (-1 - nI c)) (S1.length + 2) (-33)) (S1.length + 3) (nI (k + 1))) (.inr (k + 1, tl) :: .inl 32 :: .inl (if v.1 = 3 then 43 else 45) :: .inl 32 :: S1) := by
      intro c hc'
      subst hc'
      have q1 := pile_push (x := -33) (it := .inl 32) hS1 ⟨by decide, by omega⟩
      have q2 := pile_push (x := -1 - nI (if v.1 = 3 then 43 else 45)) (it := .inl (if v.1 = 3 then 43 else 45)) q1 ⟨rfl, by split <;> omega⟩
      have q3 := pile_push (x := -33) (it := .inl 32) q2 ⟨by decide, by omega⟩
      exact pile_push q3 iL
    refine (r_aln xc_140_92 rfl (r_get xc_140_93 xf_140_49 g_6_23 (r_iln xc_140_96 rfl (r_bi xc_140_97 kb_m33 (r_ias xc_140_99 b_36 t_36 ?_ (r_aln xc_140_100 rfl (r_get xc_140_101 xf_140_49 g_6_23 (r_iln xc_140_104 rfl (r_ic xc_140_105 kc_1 (r_iadd xc_140_106 (r_ic xc_140_107 kc_m1 (r_aln xc_140_108 rfl (r_get xc_140_109 xf_140_13 g_6_5 (r_iln xc_140_112 rfl (r_ia xc_140_113 b_24 ?_ (r_ic xc_140_114 kc_3 (r_cne xc_140_115 xj_140_115 (fun hc115 => (r_bi xc_140_118 kb_43 (r_go xc_140_120 xj_140_120 (r_isub xc_140_125 (r_ias xc_140_126 b_36 t_36 ?_ (r_aln xc_140_127 rfl (r_get xc_140_128 xf_140_49 g_6_23 (r_iln xc_140_131 rfl (r_ic xc_140_132 kc_2 (r_iadd xc_140_133 (r_bi xc_140_134 kb_m33 (r_ias xc_140_136 b_36 t_36 ?_ (r_aln xc_140_137 rfl (r_get xc_140_138 xf_140_49 g_6_23 (r_iln xc_140_141 rfl (r_ic xc_140_142 kc_3 (r_iadd xc_140_143 (r_aln xc_140_144 rfl (r_get xc_140_145 xf_140_22 g_6_8 (r_iln xc_140_148 rfl (r_ia xc_140_149 b_27 ?_ (r_ias xc_140_150 b_36 t_36 ?_ (r_iln xc_140_151 rfl (r_ic xc_140_152 kc_4 (r_iadd xc_140_153 (r_ri xc_140_154 xrt_140 ?_)))))))))))))))))))))))))) (fun hc115 => (r_bi xc_140_123 kb_45 (r_isub xc_140_125 (r_ias xc_140_126 b_36 t_36 ?_ (r_aln xc_140_127 rfl (r_get xc_140_128 xf_140_49 g_6_23 (r_iln xc_140_131 rfl (r_ic xc_140_132 kc_2 (r_iadd xc_140_133 (r_bi xc_140_134 kb_m33 (r_ias xc_140_136 b_36 t_36 ?_ (r_aln xc_140_137 rfl (r_get xc_140_138 xf_140_49 g_6_23 (r_iln xc_140_141 rfl (r_ic xc_140_142 kc_3 (r_iadd xc_140_143 (r_aln xc_140_144 rfl (r_get xc_140_145 xf_140_22 g_6_8 (r_iln xc_140_148 rfl (r_ia xc_140_149 b_27 ?_ (r_ias xc_140_150 b_36 t_36 ?_ (r_iln xc_140_151 rfl (r_ic xc_140_152 kc_4 (r_iadd xc_140_153 (r_ri xc_140_154 xrt_140 ?_))))))))))))))))))))))))))))))))))))))))))
    · exact kI_in (by omega) (by omega)
    · exact kI_in (by omega) (by omega)
    · rw [kI_add]; exact kI_in (by omega) (by omega)
    · rw [kI_add]; exact kI_in (by omega) (by omega)
    · exact kI_in (by omega) (by omega)
    · rw [kI_add]; exact kI_in (by omega) (by omega)
    · have hc115 : u_ b 27 f 15 (nI (60 + k)).toNatClampNeg = nI 3 := hc115
      rw [c15, kI_inj (by omega) (by omega)] at hc115
      rw [upp, upp, upp, upp, c18, kI_add, kI_add, kI_add, kI_add, kI_cl (by omega), kI_cl (by omega), kI_cl (by omega), kI_cl (by omega)]
      exact ⟨_, rfl, fin 43 (by rw [if_pos hc115])⟩
    · rw [kI_add]; exact kI_in (by omega) (by omega)
    · rw [kI_add]; exact kI_in (by omega) (by omega)
    · exact kI_in (by omega) (by omega)
    · rw [kI_add]; exact kI_in (by omega) (by omega)
    · have hc115 : ¬ u_ b 27 f 15 (nI (60 + k)).toNatClampNeg = nI 3 := hc115
      rw [c15, kI_inj (by omega) (by omega)] at hc115
      rw [upp, upp, upp, upp, c18, kI_add, kI_add, kI_add, kI_add, kI_cl (by omega), kI_cl (by omega), kI_cl (by omega), kI_cl (by omega)]
      exact ⟨_, rfl, fin 45 (by rw [if_neg hc115])⟩
  have nob : isSum tr = false → p_E X 0 140 43 [some (.ref 22), some (.int (nI (60 + k))), some (.int (nI S.length)), some (.int (nI S.length)), none] [.int (nI 0)] (hp z b w y g) (fun q => ∃ f S', q = (.inl (some (.int (nI (S' ++ S).length))), hp z (u_ b 27 f) w y g) ∧ pileOk a f (S' ++ S) ∧ S' = [.inr (k + 1, tl), .inl 32, .inl (if v.1 = 3 then 43 else 45), .inl 32] ++ ((if isSum tr then [.inl 40] else []) ++ (.inr (k + 1 + tl.length, tr) :: (if isSum tr then [.inl 41] else [])))) := by
    intro hbr
    refine (r_is [_, _, _, _, _] xc_140_43 rfl rfl (r_il xc_140_45 rfl (r_zeq xc_140_47 xj_140_47 (fun hc47 => ?_) (fun hc47 => (r_aln xc_140_50 rfl (r_get xc_140_51 xf_140_49 g_6_23 (r_iln xc_140_54 rfl (r_bi xc_140_55 kb_m42 (r_ias xc_140_57 b_36 t_36 ?_ (r_inc [_, _, _, _, _] xc_140_58 rfl rfl (ki_1 _) rfl ?_))))))))))
    · refine (r_aln xc_140_61 rfl (r_get xc_140_62 xf_140_49 g_6_23 (r_iln xc_140_65 rfl (r_aln xc_140_66 rfl (r_get xc_140_67 xf_140_25 g_6_9 (r_iln xc_140_70 rfl (r_ia xc_140_71 b_28 ?_ (r_ias xc_140_72 b_36 t_36 ?_ (r_inc [_, _, _, _, _] xc_140_73 rfl rfl (ki_1 _) rfl (r_il xc_140_76 rfl (r_zeq xc_140_78 xj_140_78 (fun hc78 => ?_) (fun hc78 => (r_aln xc_140_81 rfl (r_get xc_140_82 xf_140_49 g_6_23 (r_iln xc_140_85 rfl (r_bi xc_140_86 kb_m41 (r_ias xc_140_88 b_36 t_36 ?_ (r_inc [_, _, _, _, _] xc_140_89 rfl rfl (ki_1 _) rfl ?_))))))))))))))))))
      · exact kI_in (by omega) (by omega)
      · exact kI_in (by omega) (by omega)
      · rw [c19, kI_add, kI_cl (by omega)]
        have q1 := pile_push hS iR
        refine (last _ (.inr (k + 1 + tl.length, tr) :: S) _ (by simp; omega) q1).mono (fun q hq => ?_)
        obtain ⟨f', e, hp'⟩ := hq
        refine ⟨f', _, ?_, ?_, rfl⟩
        · rw [e, hbr]; simp <;> omega
        · rw [hbr]; exact hp'
      · exact absurd rfl hc78
      · exact absurd rfl hc78
    · exact absurd rfl hc47
    · exact absurd rfl hc47
  have yesb : isSum tr = true → p_E X 0 140 43 [some (.ref 22), some (.int (nI (60 + k))), some (.int (nI S.length)), some (.int (nI S.length)), none] [.int (nI 1)] (hp z b w y g) (fun q => ∃ f S', q = (.inl (some (.int (nI (S' ++ S).length))), hp z (u_ b 27 f) w y g) ∧ pileOk a f (S' ++ S) ∧ S' = [.inr (k + 1, tl), .inl 32, .inl (if v.1 = 3 then 43 else 45), .inl 32] ++ ((if isSum tr then [.inl 40] else []) ++ (.inr (k + 1 + tl.length, tr) :: (if isSum tr then [.inl 41] else [])))) := by
    intro hbr
    have q1 := pile_push (x := -42) (it := .inl 41) hS ⟨by decide, by omega⟩
    have q2 := pile_push q1 iR
    have q3 := pile_push (x := -41) (it := .inl 40) q2 ⟨by decide, by omega⟩
    refine (r_is [_, _, _, _, _] xc_140_43 rfl rfl (r_il xc_140_45 rfl (r_zeq xc_140_47 xj_140_47 (fun hc47 => ?_) (fun hc47 => (r_aln xc_140_50 rfl (r_get xc_140_51 xf_140_49 g_6_23 (r_iln xc_140_54 rfl (r_bi xc_140_55 kb_m42 (r_ias xc_140_57 b_36 t_36 ?_ (r_inc [_, _, _, _, _] xc_140_58 rfl rfl (ki_1 _) rfl ?_))))))))))
    · exact absurd hc47 (by decide)
    · exact kI_in (by omega) (by omega)
    · refine (r_aln xc_140_61 rfl (r_get xc_140_62 xf_140_49 g_6_23 (r_iln xc_140_65 rfl (r_aln xc_140_66 rfl (r_get xc_140_67 xf_140_25 g_6_9 (r_iln xc_140_70 rfl (r_ia xc_140_71 b_28 ?_ (r_ias xc_140_72 b_36 t_36 ?_ (r_inc [_, _, _, _, _] xc_140_73 rfl rfl (ki_1 _) rfl (r_il xc_140_76 rfl (r_zeq xc_140_78 xj_140_78 (fun hc78 => ?_) (fun hc78 => (r_aln xc_140_81 rfl (r_get xc_140_82 xf_140_49 g_6_23 (r_iln xc_140_85 rfl (r_bi xc_140_86 kb_m41 (r_ias xc_140_88 b_36 t_36 ?_ (r_inc [_, _, _, _, _] xc_140_89 rfl rfl (ki_1 _) rfl ?_))))))))))))))))))
      · exact kI_in (by omega) (by omega)
      · rw [kI_add]; exact kI_in (by omega) (by omega)
      · exact absurd hc78 (by decide)
      · rw [kI_add, kI_add]; exact kI_in (by omega) (by omega)
      · have c19' : ∀ f : Nat → Int32, u_ b 27 f 19 (nI (60 + k)).toNatClampNeg = nI (k + 1 + tl.length) := fun _ => c19
        have up0 : ∀ (i : Nat) (x : Int32), u_ b 27 (upd (b 27) i x) = u_ b 27 (upd (b 27) i x) := fun _ _ => rfl
        rw [c19', upp, upp, kI_add, kI_add, kI_add, kI_cl (by omega), kI_cl (by omega), kI_cl (by omega)]
        refine (last _ (.inl 40 :: .inr (k + 1 + tl.length, tr) :: .inl 41 :: S) _ (by simp; omega) q3).mono (fun q hq => ?_)
        obtain ⟨f', e, hp'⟩ := hq
        refine ⟨f', _, ?_, ?_, rfl⟩
        · rw [e, hbr]; simp <;> omega
        · rw [hbr]; exact hp'
  refine (r_in xin_140 (r_iln xc_140_0 rfl (r_isn [_, _, _, _, _] xc_140_1 rfl rfl (r_aln xc_140_2 rfl (r_get xc_140_3 xf_140_13 g_6_5 (r_bi xc_140_6 kb_60 (r_aln xc_140_8 rfl (r_get xc_140_9 xf_140_25 g_6_9 (r_iln xc_140_12 rfl (r_ia xc_140_13 b_28 ?_ (r_iadd xc_140_14 (r_ia xc_140_15 b_24 ?_ (r_ic xc_140_16 kc_3 (r_ceq xc_140_17 xj_140_17 (fun hc17 => (r_ic xc_140_38 kc_1 (r_go xc_140_39 xj_140_39 ?_))) (fun hc17 => (r_aln xc_140_20 rfl (r_get xc_140_21 xf_140_13 g_6_5 (r_bi xc_140_24 kb_60 (r_aln xc_140_26 rfl (r_get xc_140_27 xf_140_25 g_6_9 (r_iln xc_140_30 rfl (r_ia xc_140_31 b_28 ?_ (r_iadd xc_140_32 (r_ia xc_140_33 b_24 ?_ (r_ic xc_140_34 kc_4 (r_cne xc_140_35 xj_140_35 (fun hc35 => (r_ic xc_140_38 kc_1 (r_go xc_140_39 xj_140_39 ?_))) (fun hc35 => (r_ic xc_140_42 kc_0 ?_))))))))))))))))))))))))))))
  · exact kI_in (by omega) (by omega)
  · rw [c19, kI_add]; exact kI_in (by omega) (by omega)
  · rw [c19, c15r, kI_inj (by omega) (by omega)] at hc17
    exact yesb (krs.mpr (Or.inl hc17))
  · exact kI_in (by omega) (by omega)
  · rw [c19, kI_add]; exact kI_in (by omega) (by omega)
  · rw [c19, c15r, kI_inj (by omega) (by omega)] at hc35
    exact yesb (krs.mpr (Or.inr hc35))
  · rw [c19, c15r, kI_inj (by omega) (by omega)] at hc17 hc35
    refine nob ?_
    cases hs : isSum tr with
    | false => rfl
    | true => exfalso; rcases krs.mp hs with h | h <;> omega
end MPR2
