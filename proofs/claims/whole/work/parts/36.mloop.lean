/-! ===== the model's loop keeps the grammar ===== -/
def MC (T : Nat → Int32) (n p cnt mx b deep : Nat) (z : Nat → Int32) (a : Nat → Nat → Int32) : Prop := z 7 = nI n ∧ z 8 = nI p ∧ z 9 = -1 ∧ z 11 = nI b ∧ z 12 = nI cnt ∧ z 15 = nI mx ∧ z 16 = nI (deep + 1) ∧ a 14 = T ∧ n ≤ 300 ∧ p ≤ n ∧ cnt ≤ 60 ∧ mx ≤ 12 ∧ deep ≤ 12 ∧ b ≤ cnt
def KFr (a a' : Nat → Nat → Int32) (dp b : Nat) : Prop := (∀ j, j < 15 ∨ 26 < j → a' j = a j) ∧ (∀ i, i < dp → a' 23 i = a 23 i ∧ a' 24 i = a 24 i ∧ a' 25 i = a 25 i ∧ a' 26 i = a 26 i) ∧ (∀ j, j < b → mnv a' j = mnv a j) ∧ ∀ i, i < 6 * b → a' 21 i = a 21 i ∧ a' 22 i = a 22 i
theorem KFr.tr {a a1 a2 : Nat → Nat → Int32} {dp dp1 b b1 : Nat} (h : KFr a a1 dp b) (h2 : KFr a1 a2 dp1 b1) (hd : dp ≤ dp1) (hb : b ≤ b1) : KFr a a2 dp b :=
  ⟨fun j hj => (h2.1 j hj).trans (h.1 j hj), fun i hi => ⟨(h2.2.1 i (by omega)).1.trans (h.2.1 i hi).1, (h2.2.1 i (by omega)).2.1.trans (h.2.1 i hi).2.1, (h2.2.1 i (by omega)).2.2.1.trans (h.2.1 i hi).2.2.1, (h2.2.1 i (by omega)).2.2.2.trans (h.2.1 i hi).2.2.2⟩, fun j hj => (h2.2.2.1 j (by omega)).trans (h.2.2.1 j hj), fun i hi => ⟨(h2.2.2.2 i (by omega)).1.trans (h.2.2.2 i hi).1, (h2.2.2.2 i (by omega)).2.trans (h.2.2.2 i hi).2⟩⟩
theorem KFr.mt {a a' : Nat → Nat → Int32} {dp b b0 : Nat} {ns : List pN} (h : KFr a a' dp b) (hm : MT a b0 ns) (hb : b0 + ns.length ≤ b) : MT a' b0 ns :=
  MT_kept hm (fun j _ h2 => h.2.2.1 j (by omega)) (fun i _ h2 => h.2.2.2 i (by omega))
/-- what is pending ahead of a part -/
def Jl (pre : Option (Nat × List pN)) (ns : List pN) : List pN := match pre with
  | none => ns
  | some (k, ls) => (k, 0, 0, 1 + ls.length, []) :: (ls ++ ns)
def Jb (pre : Option (Nat × List pN)) (b : Nat) : Nat := match pre with
  | none => b
  | some (_, ls) => b - ls.length
def Jp (pre : Option (Nat × List pN)) : Nat := match pre with
  | none => 0
  | some _ => 1
def Jok (a : Nat → Nat → Int32) (dp b : Nat) (pre : Option (Nat × List pN)) : Prop := match pre with
  | none => a 26 dp = nI 0
  | some (k, ls) => (k = 3 ∨ k = 4) ∧ a 26 dp = nI k ∧ a 25 dp = nI (b - 1) ∧ ls.length ≤ b ∧ MT a (b - ls.length) ls
theorem Jb_le (pre : Option (Nat × List pN)) (b : Nat) : Jb pre b ≤ b := by
  cases pre with
  | none => exact Nat.le_refl _
  | some s => obtain ⟨k, ls⟩ := s; exact Nat.sub_le _ _
theorem Jok.kept {a a' : Nat → Nat → Int32} {dp b : Nat} {pre : Option (Nat × List pN)} (h : Jok a dp b pre) (h25 : a' 25 dp = a 25 dp) (h26 : a' 26 dp = a 26 dp) (hm : ∀ j, j < b → mnv a' j = mnv a j) (hr : ∀ i, i < 6 * b → a' 21 i = a 21 i ∧ a' 22 i = a 22 i) : Jok a' dp b pre := by
  cases pre with
  | none => exact h26.trans h
  | some s =>
    obtain ⟨k, ls⟩ := s
    obtain ⟨h1, h2, h3, h4, h5⟩ := h
    exact ⟨h1, h26.trans h2, h25.trans h3, h4, MT_kept h5 (fun j _ h7 => hm j (by omega)) (fun i _ h7 => hr i (by omega))⟩
/-- what joining leaves -/
def JR (a : Nat → Nat → Int32) (z : Nat → Int32) (dp b m : Nat) (pre : Option (Nat × List pN)) (ns : List pN) (z' : Nat → Int32) (a' : Nat → Nat → Int32) : Prop :=
  z' 11 = nI (b + m + Jp pre) ∧ (∀ k, k ≠ 11 → z' k = z k) ∧ a' 23 = a 23 ∧ a' 24 = a 24 ∧ a' 25 dp = nI (b + m + Jp pre - 1) ∧ a' 26 dp = nI 0 ∧ (∀ i, i ≠ dp → a' 25 i = a 25 i ∧ a' 26 i = a 26 i) ∧ (∀ j, j < 15 ∨ 26 < j → a' j = a j) ∧ (∀ j, j < b + m → mnv a' j = mnv a j) ∧ a' 21 = a 21 ∧ a' 22 = a 22 ∧ MT a' (Jb pre b) (Jl pre ns)
section MLOOP
variable {X : pX} {n : Nat} {T : Nat → Int32} {w : Nat → Nat → Int64} {y : Nat → Int64} {g : List pE}
theorem M_join {dp b : Nat} {pre : Option (Nat × List pN)} {ns : List pN} {z : Nat → Int32} {a : Nat → Nat → Int32} (h16 : z 16 = nI (dp + 1)) (hd : dp ≤ 12) (h11 : z 11 = nI (b + ns.length)) (hb : b + ns.length < 120) (hJ : Jok a dp b pre) (hm : MT a b ns) : p_M X 1 115 [.ref 22, .int (nI (b + ns.length - 1))] (hp z a w y g) (fun q => ∃ z' a', q = (.inl none, hp z' a' w y g) ∧ JR a z dp b ns.length pre ns z' a') := by
  have hl := TW_ne (MT_tw hm)
  cases pre with
  | none =>
    refine (M_joins_0 h16 hd hJ).mono (fun q hq => ⟨_, _, hq, h11, fun _ _ => rfl, rfl, rfl, ?_, ?_, fun i hi => ?_, fun j hj => ?_, fun j hj => rfl, rfl, rfl, ?_⟩)
    · show upd (a 25) dp _ dp = _
      rw [up_s]; rfl
    · show upd (a 26) dp _ dp = _
      rw [up_s]
    · show upd (a 25) dp _ i = _ ∧ upd (a 26) dp _ i = _
      rw [up_n _ _ hi, up_n _ _ hi]; exact ⟨rfl, rfl⟩
    · rw [u_n _ _ (by omega), u_n _ _ (by omega)]
    · exact MT_kept hm (fun _ _ _ => rfl) (fun _ _ _ => ⟨rfl, rfl⟩)
  | some s =>
    obtain ⟨k, ls⟩ := s
    obtain ⟨j1, j2, j3, j4, j5⟩ := hJ
    have h26 : ¬ a 26 dp = nI 0 := by rw [j2, kI_inj (by omega) (by omega)]; omega
    refine (M_joins_1 h16 hd h26 h11 hb).mono (fun q hq => ?_)
    obtain ⟨a', e, e1, e2, e3, e4, e5⟩ := hq
    have e21 : a' 21 = a 21 := e1 21 (by omega) (by omega) (by omega)
    have e22 : a' 22 = a 22 := e1 22 (by omega) (by omega) (by omega)
    refine ⟨_, a', e, rfl, fun k hk => u_n _ _ hk, e1 23 (by omega) (by omega) (by omega), e1 24 (by omega) (by omega) (by omega), ?_, ?_, fun i hi => ?_, fun j hj => e1 j (by omega) (by omega) (by omega), fun j hj => e2 j (by omega), e21, e22, ?_⟩
    · rw [e4, up_s]; rfl
    · rw [e5, up_s]
    · rw [e4, e5, up_n _ _ hi, up_n _ _ hi]; exact ⟨rfl, rfl⟩
    · unfold mnv at e3
      simp only [Prod.mk.injEq] at e3
      obtain ⟨f0, f1, f2, f3, f4, f5⟩ := e3
      have hll := TW_ne (MT_tw j5)
      have hx : b - ls.length + ls.length = b := by omega
      refine MT_node (b := b - ls.length) (l := ls) (r := ns) ⟨by dsimp only; omega, rfl, rfl, rfl, rfl⟩ (MT_kept j5 (fun j _ h7 => e2 j (by omega)) (fun i _ _ => ⟨by rw [e21], by rw [e22]⟩)) ?_ ?_ ?_ ?_
      · rw [hx]
        exact MT_kept hm (fun j _ h7 => e2 j (by omega)) (fun i _ _ => ⟨by rw [e21], by rw [e22]⟩)
      · rw [hx]
        exact ⟨f0.trans j2, f1, by rw [f2]; exact m1_eq, f5, fun k q hk => by simp at hk⟩
      · rw [hx, f3, j3]
      · rw [hx, f4]
/-- the loop's head -/
def MLp (X : pX) (w : Nat → Nat → Int64) (y : Nat → Int64) (g : List pE) (wanted : Int32) (z : Nat → Int32) (a : Nat → Nat → Int32) (Q : pR → Prop) : Prop := p_E X 7 95 55 [some (.ref 22), some (.int wanted), some (.int (nI 1)), none] [] (hp z a w y g) Q
def FC (w : Nat → Nat → Int64) (y : Nat → Int64) (g : List pE) (Q : pR → Prop) (z : Nat → Int32) (a : Nat → Nat → Int32) (bd : Nat) : Prop := bd < 1000 ∧ ∀ z' a', z' 9 = nI bd → MKZ z z' → MKA a a' → Q (.inl (some (.int (-1 - nI bd))), hp (u_ z' 7 (nI 0)) a' w y g)
theorem FC.at {Q : pR → Prop} {z z1 : Nat → Int32} {a a1 : Nat → Nat → Int32} {bd : Nat} (h : FC w y g Q z a bd) (hz : MKZ z z1) (ha : MKA a a1) : FC w y g Q z1 a1 bd := ⟨h.1, fun z' a' h1 h2 h3 => h.2 z' a' h1 (hz.tr h2) (ha.tr h3)⟩
theorem L_124b {Q : pR → Prop} {l1 l2 l3 : Option Value} {z z' : Nat → Int32} {a a' : Nat → Nat → Int32} {bd : Nat} (h : FC w y g Q z a bd) (h9 : z' 9 = nI bd) (hz : MKZ z z') (ha : MKA a a') : p_E X 7 95 124 [some (.ref 22), l1, l2, l3] [] (hp z' a' w y g) Q := by
  have hb := h.1
  refine (r_aln xc_95_124 rfl (r_ic xc_95_125 kc_0 (r_put xc_95_126 xf_95_77 rfl s_6_1 (r_aln xc_95_129 rfl ?_))))
  refine (r_cv xc_95_130 xm_95_130 rfl xrc_98 rfl (p_M.up (M_fine_n (b := bd) h9 hb) (by omega)) (r_zne xc_95_133 xj_95_133 (fun hc133 => (r_ic xc_95_136 kc_m1 (r_aln xc_95_137 rfl (r_get xc_95_138 xf_95_83 g_6_3 (r_isub xc_95_141 (r_ri xc_95_142 xrt_95 ?_)))))) (fun hc133 => (r_aln xc_95_143 rfl (r_aln xc_95_144 rfl (r_get xc_95_145 xf_95_43 g_6_20 (r_ic xc_95_148 kc_0 (r_ia xc_95_149 b_34 ?_ ?_))))))))
  · have e : u_ z' 7 (nI 0) 9 = nI bd := h9
    rw [e]
    exact h.2 z' a' h9 hz ha
  · exact absurd rfl hc133
  · exact absurd rfl hc133
theorem L_exit {Q : pR → Prop} {wanted : Int32} {z z' : Nat → Int32} {a a' : Nat → Nat → Int32} {bd : Nat} (h : FC w y g Q z a bd) (h9 : z' 9 = nI bd) (hz : MKZ z z') (ha : MKA a a') : MLp X w y g wanted z' a' Q := by
  have hb := h.1
  unfold MLp
  refine (r_aln xc_95_55 rfl ?_)
  refine (r_cv xc_95_56 xm_95_56 rfl xrc_98 rfl (p_M.up (M_fine_n (b := bd) h9 hb) (by omega)) (r_zeq xc_95_59 xj_95_59 (fun hc59 => ?_) (fun hc59 => (r_iln xc_95_62 rfl (r_zeq xc_95_63 xj_95_63 (fun hc63 => ?_) (fun hc63 => (r_iln xc_95_66 rfl (r_zeq xc_95_67 xj_95_67 (fun hc67 => ?_) (fun hc67 => (r_aln xc_95_70 rfl ?_))))))))))
  · exact L_124b h h9 hz ha
  all_goals exact absurd rfl hc59
/-- a part is wanted -/
theorem L_part {Q : pR → Prop} {deep cnt p mx b : Nat} {z : Nat → Int32} {a : Nat → Nat → Int32} (ht : TX T n) (hC : MC T n p cnt mx b deep z a) (k : ∀ x h', TPP w y g z a deep b cnt (oPart T n deep cnt p mx) (.inl (some (.int x)), h') → (x = -1 → p_E X 7 95 55 [some (.ref 22), some (.int (nI 1)), some (.int (nI 1)), none] [] h' Q) ∧ (¬ x = -1 → p_M X 1 115 [.ref 22, .int x] h' (fun q => ∃ z2 a2, q = (.inl none, hp z2 a2 w y g) ∧ MLp X w y g (nI 0) z2 a2 Q))) : MLp X w y g (nI 1) z a Q := by
  obtain ⟨h7, h8, h9, h11, h12, h15, h16, rfl, hn, hq, hc, hm, hd, hb⟩ := hC
  unfold MLp
  refine (r_aln xc_95_55 rfl ?_)
  refine (r_cv xc_95_56 xm_95_56 rfl xrc_98 rfl (p_M.up (M_fine_y h9) (by omega)) (r_zeq xc_95_59 xj_95_59 (fun hc59 => ?_) (fun hc59 => (r_iln xc_95_62 rfl (r_zeq xc_95_63 xj_95_63 (fun hc63 => ?_) (fun hc63 => (r_iln xc_95_66 rfl (r_zeq xc_95_67 xj_95_67 (fun hc67 => ?_) (fun hc67 => (r_aln xc_95_70 rfl ?_))))))))))
  · exact absurd hc59 (by decide)
  · exact absurd hc63 (by decide)
  · exact absurd hc67 (by decide)
  · refine (r_cq xc_95_71 xm_95_71 rfl xrc_99 rfl (TPP.ex (M_takePart (b := b) (p := p) ht hn hb hd hc hm h9 h7 h8 h11 h12 h15 h16 hq)) (fun v h1 hP => ?_) (fun _ _ h => by first | (obtain ⟨_, he, _⟩ := h; cases he; done) | (obtain ⟨_, he⟩ := h; cases he; done) | (obtain ⟨_, _, he, _⟩ := h; cases he; done) | (obtain ⟨_, _, _, he, _⟩ := h; cases he; done) | (simp only [Prod.mk.injEq, reduceCtorEq, false_and, exists_false] at h)))
    obtain ⟨x, z', a', he, hx⟩ := hP
    cases he
    have hk := k x _ hx
    refine (r_isn [_, _, _, _] xc_95_74 rfl rfl (r_iln xc_95_75 rfl (r_ic xc_95_76 kc_m1 (r_ceq xc_95_77 xj_95_77 (fun hc77 => (r_go xc_95_87 xj_95_87 ?_)) (fun hc77 => (r_aln xc_95_80 rfl (r_iln xc_95_81 rfl ?_)))))))
    · exact R_fg [_, _, _, none] (p_lle_eq (p_lle_eq (p_lle_eq (p_lle_no p_lle_nil)))) (hk.1 hc77)
    · refine (r_cq xc_95_82 xm_95_82 rfl xrc_115 rfl (p_M.up (hk.2 hc77) (by omega)) (fun v h1 hP => ?_) (fun _ _ h => by first | (obtain ⟨_, he, _⟩ := h; cases he; done) | (obtain ⟨_, he⟩ := h; cases he; done) | (obtain ⟨_, _, he, _⟩ := h; cases he; done) | (obtain ⟨_, _, _, he, _⟩ := h; cases he; done) | (simp only [Prod.mk.injEq, reduceCtorEq, false_and, exists_false] at h)))
      obtain ⟨z2, a2, he, hE⟩ := hP
      cases he
      refine (r_ic xc_95_85 kc_0 (r_isn [_, _, _, _] xc_95_86 rfl rfl (r_go xc_95_87 xj_95_87 ?_)))
      exact R_fg [_, _, _, none] (p_lle_eq (p_lle_eq (p_lle_eq (p_lle_no p_lle_nil)))) hE
/-- what stands behind is looked at -/
theorem L_behind {Q : pR → Prop} {p : Nat} {z : Nat → Int32} {a : Nat → Nat → Int32} (h9 : z 9 = -1) (h7 : z 7 = nI n) (h8 : z 8 = nI p) (hn : n ≤ 300) (hq : p ≤ n) (hmore : ¬ sg (a 14) n (skn cB (a 14) n p) = -1 ∨ nI 1 < z 16) (k : p_M X 6 116 [.ref 22] (hp (u_ z 8 (nI (skn cB (a 14) n p))) a w y g) (fun q => ∃ x z' a', q = (.inl (some (.int x)), hp z' a' w y g) ∧ MLp X w y g x z' a' Q)) : MLp X w y g (nI 0) z a Q := by
  unfold MLp
  have fin : p_E X 7 95 117 [some (.ref 22), some (.int (nI 0)), some (.int (nI 1)), none] [.ref 22] (hp (u_ z 8 (nI (skn cB (a 14) n p))) a w y g) Q := by
    refine (r_cq xc_95_117 xm_95_117 rfl xrc_116 rfl (k) (fun v h1 hP => ?_) (fun _ _ h => by first | (obtain ⟨_, he, _⟩ := h; cases he; done) | (obtain ⟨_, he⟩ := h; cases he; done) | (obtain ⟨_, _, he, _⟩ := h; cases he; done) | (obtain ⟨_, _, _, he, _⟩ := h; cases he; done) | (simp only [Prod.mk.injEq, reduceCtorEq, false_and, exists_false] at h)))
    obtain ⟨x, z', a', he, hE⟩ := hP
    cases he
    refine (r_isn [_, _, _, _] xc_95_120 rfl rfl (r_go xc_95_121 xj_95_121 ?_))
    exact hE
  refine (r_aln xc_95_55 rfl ?_)
  refine (r_cv xc_95_56 xm_95_56 rfl xrc_98 rfl (p_M.up (M_fine_y h9) (by omega)) (r_zeq xc_95_59 xj_95_59 (fun hc59 => ?_) (fun hc59 => (r_iln xc_95_62 rfl (r_zeq xc_95_63 xj_95_63 (fun hc63 => ?_) (fun hc63 => (r_iln xc_95_66 rfl (r_zeq xc_95_67 xj_95_67 (fun hc67 => ?_) (fun hc67 => (r_aln xc_95_70 rfl ?_))))))))))
  · exact absurd hc59 (by decide)
  · exact absurd hc63 (by decide)
  · refine (r_aln xc_95_90 rfl ?_)
    refine (r_cv xc_95_91 xm_95_91 rfl xrc_100 rfl (p_M.up (M_look h7 h8 hn hq) (by omega)) (r_ic xc_95_94 kc_m1 (r_cne xc_95_95 xj_95_95 (fun hc95 => (r_aln xc_95_98 rfl (r_get xc_95_99 xf_95_132 g_6_22 (r_ic xc_95_102 kc_1 (r_cle xc_95_103 xj_95_103 (fun hc103 => (r_ic xc_95_106 kc_1 (r_go xc_95_107 xj_95_107 (r_isn [_, _, _, _] xc_95_111 rfl rfl (r_iln xc_95_112 rfl (r_zeq xc_95_113 xj_95_113 (fun hc113 => ?_) (fun hc113 => (r_aln xc_95_116 rfl ?_)))))))) (fun hc103 => (r_ic xc_95_110 kc_0 (r_isn [_, _, _, _] xc_95_111 rfl rfl (r_iln xc_95_112 rfl (r_zeq xc_95_113 xj_95_113 (fun hc113 => ?_) (fun hc113 => (r_aln xc_95_116 rfl ?_)))))))))))) (fun hc95 => (r_ic xc_95_106 kc_1 (r_go xc_95_107 xj_95_107 (r_isn [_, _, _, _] xc_95_111 rfl rfl (r_iln xc_95_112 rfl (r_zeq xc_95_113 xj_95_113 (fun hc113 => ?_) (fun hc113 => (r_aln xc_95_116 rfl ?_)))))))))))
    · exact absurd hc113 (by decide)
    · exact fin
    · rcases hmore with h | h
      · exact absurd hc95 h
      · exact absurd h hc103
    · rcases hmore with h | h
      · exact absurd hc95 h
      · exact absurd h hc103
    · exact absurd hc113 (by decide)
    · exact fin
  · exact absurd rfl hc67
/-- the text ends -/
theorem L_ends {Q : pR → Prop} {p : Nat} {z : Nat → Int32} {a : Nat → Nat → Int32} (h9 : z 9 = -1) (h7 : z 7 = nI n) (h8 : z 8 = nI p) (hn : n ≤ 300) (hq : p ≤ n) (h16 : z 16 = nI 1) (hs : sg (a 14) n (skn cB (a 14) n p) = -1) (k : p_E X 7 95 124 [some (.ref 22), some (.int (nI 0)), some (.int (nI 0)), none] [] (hp (u_ z 8 (nI (skn cB (a 14) n p))) a w y g) Q) : MLp X w y g (nI 0) z a Q := by
  unfold MLp
  refine (r_aln xc_95_55 rfl ?_)
  refine (r_cv xc_95_56 xm_95_56 rfl xrc_98 rfl (p_M.up (M_fine_y h9) (by omega)) (r_zeq xc_95_59 xj_95_59 (fun hc59 => ?_) (fun hc59 => (r_iln xc_95_62 rfl (r_zeq xc_95_63 xj_95_63 (fun hc63 => ?_) (fun hc63 => (r_iln xc_95_66 rfl (r_zeq xc_95_67 xj_95_67 (fun hc67 => ?_) (fun hc67 => (r_aln xc_95_70 rfl ?_))))))))))
  · exact absurd hc59 (by decide)
  · exact absurd hc63 (by decide)
  · refine (r_aln xc_95_90 rfl ?_)
    refine (r_cv xc_95_91 xm_95_91 rfl xrc_100 rfl (p_M.up (M_look h7 h8 hn hq) (by omega)) (r_ic xc_95_94 kc_m1 (r_cne xc_95_95 xj_95_95 (fun hc95 => (r_aln xc_95_98 rfl (r_get xc_95_99 xf_95_132 g_6_22 (r_ic xc_95_102 kc_1 (r_cle xc_95_103 xj_95_103 (fun hc103 => (r_ic xc_95_106 kc_1 (r_go xc_95_107 xj_95_107 (r_isn [_, _, _, _] xc_95_111 rfl rfl (r_iln xc_95_112 rfl (r_zeq xc_95_113 xj_95_113 (fun hc113 => ?_) (fun hc113 => (r_aln xc_95_116 rfl ?_)))))))) (fun hc103 => (r_ic xc_95_110 kc_0 (r_isn [_, _, _, _] xc_95_111 rfl rfl (r_iln xc_95_112 rfl (r_zeq xc_95_113 xj_95_113 (fun hc113 => ?_) (fun hc113 => (r_aln xc_95_116 rfl ?_)))))))))))) (fun hc95 => (r_ic xc_95_106 kc_1 (r_go xc_95_107 xj_95_107 (r_isn [_, _, _, _] xc_95_111 rfl rfl (r_iln xc_95_112 rfl (r_zeq xc_95_113 xj_95_113 (fun hc113 => ?_) (fun hc113 => (r_aln xc_95_116 rfl ?_)))))))))))
    · have hc103 : nI 1 < z 16 := hc103
      rw [h16, kI_lt (by omega) (by omega)] at hc103; omega
    · have hc103 : nI 1 < z 16 := hc103
      rw [h16, kI_lt (by omega) (by omega)] at hc103; omega
    · refine (r_aln xc_95_55 rfl ?_)
      refine (r_cv xc_95_56 xm_95_56 rfl xrc_98 rfl (p_M.up (M_fine_y h9) (by omega)) (r_zeq xc_95_59 xj_95_59 (fun hc59 => ?_) (fun hc59 => (r_iln xc_95_62 rfl (r_zeq xc_95_63 xj_95_63 (fun hc63 => ?_) (fun hc63 => (r_iln xc_95_66 rfl (r_zeq xc_95_67 xj_95_67 (fun hc67 => ?_) (fun hc67 => (r_aln xc_95_70 rfl ?_))))))))))
      · exact absurd hc59 (by decide)
      · exact k
      · exact absurd rfl hc63
      · exact absurd rfl hc63
    · exact absurd rfl hc113
    · exact absurd hs hc95
    · exact absurd hs hc95
  · exact absurd rfl hc67
end MLOOP
