/-! ===== the law: class and model side by side ===== -/
def R1 (z : Nat → Int32) (a : Nat → Nat → Int32) (n : Nat) : Prop := z 3 = nI n ∧ z 7 = nI n ∧ n ≤ 300 ∧ a 9 = a 14 ∧ TX (a 14) n
def R2 (z : Nat → Int32) (a : Nat → Nat → Int32) (ns : List pN) (mx r : Nat) : Prop := (ns = [] ∨ TW ns) ∧ ns.length ≤ 60 ∧ (PR ns).length ≤ 900 ∧ z 1 = nI ns.length ∧ z 13 = nI ns.length ∧ r ≤ 300 ∧ Rp a r 0 ns ∧ Mp a ns ∧ z 2 = nI mx ∧ (ns = [] → mx = 0) ∧ (¬ ns = [] → z 14 = nI mx)
def R4 (y : Nat → Int64) (pc : Nat) : Prop := y 0 = nL pc ∧ y 1 = nL pc ∧ pc ≤ 100000000
def R5 (z : Nat → Int32) (a : Nat → Nat → Int32) (P : List Nat) : Prop := z 6 = nI P.length ∧ z 17 = nI P.length ∧ P.length ≤ 900 ∧ ∀ i c, P[i]? = some c → a 13 i = nI c ∧ a 31 i = nI c
def REL (z : Nat → Int32) (a : Nat → Nat → Int32) (w : Nat → Nat → Int64) (y : Nat → Int64) : Prop := ∃ n ns mx r A M G pc P, R1 z a n ∧ R2 z a ns mx r ∧ UNI a w A M G ∧ R4 y pc ∧ R5 z a P
theorem R1.congr {z z' : Nat → Int32} {a a' : Nat → Nat → Int32} {n : Nat} (h : R1 z a n) (h3 : z' 3 = z 3) (h7 : z' 7 = z 7) (h9 : a' 9 = a 9) (h14 : a' 14 = a 14) : R1 z' a' n := by
  unfold R1
  rw [h3, h7, h9, h14]
  exact h
theorem R2.congr {z z' : Nat → Int32} {a a' : Nat → Nat → Int32} {ns : List pN} {mx r : Nat} (h : R2 z a ns mx r) (h1 : z' 1 = z 1) (h2 : z' 2 = z 2) (h13 : z' 13 = z 13) (h14 : z' 14 = z 14) (ha : ∀ j, j < 9 ∨ (14 < j ∧ j < 23) → a' j = a j) : R2 z' a' ns mx r := by
  obtain ⟨q1, q2, q3, q4, q5, q6, q7, q8, q9, q10, q11⟩ := h
  refine ⟨q1, q2, q3, h1.trans q4, h13.trans q5, q6, fun k v hk => (q7 k v hk).congr (fun j hj => ha j (by omega)), fun k v hk => ?_, h2.trans q9, q10, fun hn => h14.trans (q11 hn)⟩
  have := q8 k v hk
  unfold mv at this ⊢
  rw [ha 15 (by omega), ha 16 (by omega), ha 17 (by omega), ha 18 (by omega), ha 19 (by omega), ha 20 (by omega), ha 21 (by omega), ha 22 (by omega)]
  exact this
theorem R5.congr {z z' : Nat → Int32} {a a' : Nat → Nat → Int32} {P : List Nat} (h : R5 z a P) (h6 : z' 6 = z 6) (h17 : z' 17 = z 17) (h13 : a' 13 = a 13) (h31 : a' 31 = a 31) : R5 z' a' P := by
  unfold R5
  rw [h6, h17, h13, h31]
  exact h
theorem REL.z10 {z : Nat → Int32} {a : Nat → Nat → Int32} {w : Nat → Nat → Int64} {y : Nat → Int64} {x : Int32} (h : REL z a w y) : REL (u_ z 10 x) a w y := h
/-- what a call may change besides: values, thrown, out -/
theorem REL.ev {z : Nat → Int32} {a a' : Nat → Nat → Int32} {w w' : Nat → Nat → Int64} {y : Nat → Int64} {x : Int32} (h : REL z a w y) (ha : ∀ j, j ≠ 12 → a' j = a j) (hw : ∀ j, j = 0 ∨ j = 2 → w' j = w j) : REL (u_ z 10 x) a' w' y := by
  obtain ⟨n, ns, mx, r, A, M, G, pc, P, h1, h2, h3, h4, h5⟩ := h
  exact ⟨n, ns, mx, r, A, M, G, pc, P, h1.congr rfl rfl (ha 9 (by omega)) (ha 14 (by omega)), h2.congr rfl rfl rfl rfl (fun j hj => ha j (by omega)), h3.congr (fun j hj => ha j (by omega)) hw, h4, h5.congr rfl rfl (ha 13 (by omega)) (ha 31 (by omega))⟩
/-- what the cells behind the 44 weigh: one each, and an array its length beside -/
def gM : List pE → Nat
  | [] => 0
  | .inl (_, a) :: t => a.1 + 1 + gM t
  | .inr _ :: t => 1 + gM t
theorem gM_one : ∀ (g : List pE) (q : Nat × List Value), gM (g ++ [.inr q]) = gM g + 1 := by
  intro g q
  induction g with
  | nil => rfl
  | cons e t ih =>
    cases e with
    | inl r => show r.2.1 + 1 + gM (t ++ [.inr q]) = r.2.1 + 1 + gM t + 1; rw [ih]; omega
    | inr r => show 1 + gM (t ++ [.inr q]) = 1 + gM t + 1; rw [ih]; omega
def LW (X : pX) (k : Nat) (Q : pR → Prop) (g : List pE) : Prop := ∀ z' a' w' y' g' l5 l6, REL z' a' w' y' → gM g' ≤ gM g + 1 → p_E X 70 144 835 [some (.retAddr 0), some (.ref 0), some (.ref 22), some (.ref 43), some (.int (nI (5 * k))), l5, l6, none] [] (hp z' a' w' y' g') Q
abbrev Ls (k : Nat) : pL := [some (.retAddr 0), some (.ref 0), some (.ref 22), some (.ref 43), some (.int (nI (5 * k))), none, none, none]
section LAW
variable {X : pX} {z : Nat → Int32} {a : Nat → Nat → Int32} {w : Nat → Nat → Int64} {y : Nat → Int64} {g : List pE} {k : Nat} {Q : pR → Prop}
theorem xin {j : Nat} (hk : 5 * k + 5 ≤ X.1) (hX : X.1 ≤ 2560) (hj : j < 5) : p_inI (nI (5 * k) + nI j) X.1 := by
  rw [kI_add]; exact kI_in (by omega) (by omega)
theorem LAW_sign (hR : REL z a w y) (hk : 5 * k + 5 ≤ X.1) (hX : X.1 ≤ 2560) (K : LW X k Q g) : p_E X 70 144 108 (Ls k) [] (hp z a w y g) Q := by
  obtain ⟨n, ns, mx, r, A, M, G, pc, P, h1, h2, h3, h4, h5⟩ := id hR
  obtain ⟨e3, e7, hn, e9, ht⟩ := id h1
  refine (r_aln xc_144_108 rfl (r_arn xc_144_109 rfl (r_il xc_144_110 rfl (r_ic xc_144_112 kc_1 (r_iadd xc_144_113 (r_xa xc_144_114 ?_ ?_))))))
  · exact xin hk hX (by omega)
  · by_cases hc : okS (X.2 (nI (5 * k) + nI 1).toNatClampNeg) ∧ n < 300
    · refine (r_cv xc_144_115 xm_144_115 rfl xrc_7 rfl (p_M.up (M_signC_y e3 hc.2 hc.1) (by omega)) (r_aln xc_144_118 rfl (r_arn xc_144_119 rfl (r_il xc_144_120 rfl (r_ic xc_144_122 kc_1 (r_iadd xc_144_123 (r_xa xc_144_124 ?_ ?_)))))))
      · exact xin hk hX (by omega)
      · refine (r_cv xc_144_125 xm_144_125 rfl xrc_94 rfl (p_M.up (M_signM_y (n := n) e7 hc.2 hc.1) (by omega)) (r_ceq xc_144_128 xj_144_128 (fun hc128 => ?_) (fun hc128 => (r_ic xc_144_131 kc_0 (r_rz xc_144_132 xrt_144 ?_ ?_)))))
        · refine K _ _ _ _ _ _ _ ⟨n + 1, ns, mx, r, A, M, G, pc, P, ⟨rfl, rfl, by omega, ?_, ?_⟩, h2.congr rfl rfl rfl rfl (fun j hj => by rw [u_n _ _ (by omega), u_n _ _ (by omega)]), h3.congr (fun j hj => by rw [u_n _ _ (by omega), u_n _ _ (by omega)]) (fun _ _ => rfl), h4, h5.congr rfl rfl rfl rfl⟩ (by omega)
          · show upd (a 9) n _ = upd (a 14) n _
            rw [e9]
          · show TX (upd (a 14) n _) (n + 1)
            intro i hi
            by_cases hin : i = n
            · subst hin; rw [up_s]; exact hc.1
            · rw [up_n _ _ hin]; exact ht i (by omega)
        · exact Or.inl rfl
        · exact absurd rfl hc128
    · refine (r_cv xc_144_115 xm_144_115 rfl xrc_7 rfl (p_M.up (M_signC_n e3 hn hc) (by omega)) (r_aln xc_144_118 rfl (r_arn xc_144_119 rfl (r_il xc_144_120 rfl (r_ic xc_144_122 kc_1 (r_iadd xc_144_123 (r_xa xc_144_124 ?_ ?_)))))))
      · exact xin hk hX (by omega)
      · refine (r_cv xc_144_125 xm_144_125 rfl xrc_94 rfl (p_M.up (M_signM_n (n := n) e7 hn hc) (by omega)) (r_ceq xc_144_128 xj_144_128 (fun hc128 => ?_) (fun hc128 => (r_ic xc_144_131 kc_0 (r_rz xc_144_132 xrt_144 ?_ ?_)))))
        · exact K _ _ _ _ _ _ _ hR.z10 (by omega)
        · exact Or.inl rfl
        · exact absurd rfl hc128
theorem RDP.ex {D mi : Nat} {as : List Value} {h0 : List pE} {o : Nat ⊕ (List pN × Nat)} (h : p_M X D mi as h0 (RDP w y g z a o)) : p_M X D mi as h0 (fun q => ∃ x z' a', q = (.inl (some (.int x)), hp z' a' w y g) ∧ RDP w y g z a o q) := p_mono h (fun q hq => by obtain ⟨x, z', a', e⟩ := hq.val; exact ⟨x, z', a', e, hq⟩)
theorem LAW_read (hR : REL z a w y) (K : LW X k Q g) : p_E X 70 144 133 (Ls k) [] (hp z a w y g) Q := by
  obtain ⟨n, ns, mx, r, A, M, G, pc, P, h1, h2, h3, h4, h5⟩ := id hR
  obtain ⟨e3, e7, hn, e9, ht⟩ := id h1
  have hok := rdS_ok (a 9) n hn
  refine (r_aln xc_144_133 rfl ?_)
  cases hv : rdS (a 9) n with
  | inl b =>
    have hC := M_readC (X := X) (z := z) (a := a) (w := w) (y := y) (g := g) e3 hn
    rw [hv] at hC
    refine (r_cq xc_144_134 xm_144_134 rfl xrc_9 rfl (p_M.up hC (by omega)) (fun v h1 hP => ?_) (fun _ _ h => by first | (obtain ⟨_, he, _⟩ := h; cases he; done) | (obtain ⟨_, he⟩ := h; cases he; done) | (obtain ⟨_, _, he, _⟩ := h; cases he; done) | (obtain ⟨_, _, _, he, _⟩ := h; cases he; done) | (simp only [Prod.mk.injEq, reduceCtorEq, false_and, exists_false] at h)))
    obtain ⟨z1, a1, he, q3, q1, q2, qz, qa⟩ := hP
    cases he
    refine (r_aln xc_144_137 rfl ?_)
    have hM := M_readM (X := X) (z := z1) (a := a1) (w := w) (y := y) (g := g) (n := n) (by rw [qa 14 (by omega)]; exact ht) ((qz 7 (by omega)).trans e7) hn
    rw [qa 14 (by omega), ← e9, hv] at hM
    refine (r_cq xc_144_138 xm_144_138 rfl xrc_95 rfl (p_M.up hM (by omega)) (fun v h1 hP => ?_) (fun _ _ h => by first | (obtain ⟨_, he, _⟩ := h; cases he; done) | (obtain ⟨_, he⟩ := h; cases he; done) | (obtain ⟨_, _, he, _⟩ := h; cases he; done) | (obtain ⟨_, _, _, he, _⟩ := h; cases he; done) | (simp only [Prod.mk.injEq, reduceCtorEq, false_and, exists_false] at h)))
    obtain ⟨z2, a2, he, s7, s13, s14, sz, sa⟩ := hP
    cases he
    refine (r_ceq xc_144_141 xj_144_141 (fun hc141 => ?_) (fun hc141 => (r_ic xc_144_144 kc_0 (r_rz xc_144_145 xrt_144 ?_ ?_))))
    · refine K _ _ _ _ _ _ _ ⟨0, [], 0, 0, A, M, G, pc, P, ⟨(sz 3 (by omega)).trans q3, s7, by omega, ?_, fun i hi => by omega⟩, ⟨Or.inl rfl, by simp, by simp [PR, pr], (sz 1 (by omega)).trans q1, s13, by omega, fun k v hk => by simp at hk, fun k v hk => by simp at hk, (sz 2 (by omega)).trans q2, fun _ => rfl, fun h => absurd rfl h⟩, h3.congr (fun j hj => ?_) (fun _ _ => rfl), h4, h5.congr ?_ ?_ ?_ ?_⟩ (by omega)
      · rw [sa 9 (by omega), sa 14 (by omega), qa 9 (by omega), qa 14 (by omega)]; exact e9
      · rw [sa j (by omega), qa j (by omega)]
      · rw [sz 6 (by omega), qz 6 (by omega)]
      · rw [sz 17 (by omega), qz 17 (by omega)]
      · rw [sa 13 (by omega), qa 13 (by omega)]
      · rw [sa 31 (by omega), qa 31 (by omega)]
    · exact Or.inl rfl
    · exact absurd rfl hc141
  | inr s =>
    obtain ⟨ns', mx'⟩ := s
    rw [hv] at hok
    obtain ⟨o1, o2, o3, o4⟩ := hok
    have hne : ¬ ns' = [] := fun h => by have := TW_ne o3; rw [h] at this; simp at this
    have hC := M_readC (X := X) (z := z) (a := a) (w := w) (y := y) (g := g) e3 hn
    rw [hv] at hC
    refine (r_cq xc_144_134 xm_144_134 rfl xrc_9 rfl (p_M.up hC (by omega)) (fun v h1 hP => ?_) (fun _ _ h => by first | (obtain ⟨_, he, _⟩ := h; cases he; done) | (obtain ⟨_, he⟩ := h; cases he; done) | (obtain ⟨_, _, he, _⟩ := h; cases he; done) | (obtain ⟨_, _, _, he, _⟩ := h; cases he; done) | (simp only [Prod.mk.injEq, reduceCtorEq, false_and, exists_false] at h)))
    obtain ⟨z1, a1, r1, he, q3, q1, q2, qR, qr, qz, qa⟩ := hP
    cases he
    refine (r_aln xc_144_137 rfl ?_)
    have hM := M_readM (X := X) (z := z1) (a := a1) (w := w) (y := y) (g := g) (n := n) (by rw [qa 14 (by omega)]; exact ht) ((qz 7 (by omega)).trans e7) hn
    rw [qa 14 (by omega), ← e9, hv] at hM
    refine (r_cq xc_144_138 xm_144_138 rfl xrc_95 rfl (p_M.up hM (by omega)) (fun v h1 hP => ?_) (fun _ _ h => by first | (obtain ⟨_, he, _⟩ := h; cases he; done) | (obtain ⟨_, he⟩ := h; cases he; done) | (obtain ⟨_, _, he, _⟩ := h; cases he; done) | (obtain ⟨_, _, _, he, _⟩ := h; cases he; done) | (simp only [Prod.mk.injEq, reduceCtorEq, false_and, exists_false] at h)))
    obtain ⟨z2, a2, he, s7, s13, s14, sM, sz, sa⟩ := hP
    cases he
    refine (r_ceq xc_144_141 xj_144_141 (fun hc141 => ?_) (fun hc141 => (r_ic xc_144_144 kc_0 (r_rz xc_144_145 xrt_144 ?_ ?_))))
    · refine K _ _ _ _ _ _ _ ⟨0, ns', mx', r1, A, M, G, pc, P, ⟨(sz 3 (by omega)).trans q3, s7, by omega, ?_, fun i hi => by omega⟩, ⟨Or.inr o3, o1, o4, (sz 1 (by omega)).trans q1, s13, qr, fun k v hk => (qR k v hk).congr (fun j hj => sa j (by omega)), sM, (sz 2 (by omega)).trans q2, fun h => absurd h hne, fun _ => s14⟩, h3.congr (fun j hj => ?_) (fun _ _ => rfl), h4, h5.congr ?_ ?_ ?_ ?_⟩ (by omega)
      · rw [sa 9 (by omega), sa 14 (by omega), qa 9 (by omega), qa 14 (by omega)]; exact e9
      · rw [sa j (by omega), qa j (by omega)]
      · rw [sz 6 (by omega), qz 6 (by omega)]
      · rw [sz 17 (by omega), qz 17 (by omega)]
      · rw [sa 13 (by omega), qa 13 (by omega)]
      · rw [sa 31 (by omega), qa 31 (by omega)]
    · exact Or.inl rfl
    · exact absurd rfl hc141
theorem LAW_price (hR : REL z a w y) (hk : 5 * k + 5 ≤ X.1) (hX : X.1 ≤ 2560) (K : LW X k Q g) : p_E X 70 144 146 (Ls k) [] (hp z a w y g) Q := by
  obtain ⟨n, ns, mx, r, A, M, G, pc, P, h1, h2, h3, h4, h5⟩ := id hR
  refine (r_aln xc_144_146 rfl (r_arn xc_144_147 rfl (r_il xc_144_148 rfl (r_ic xc_144_150 kc_1 (r_iadd xc_144_151 (r_xa xc_144_152 ?_ (r_i2l xc_144_153 (r_bi xc_144_154 kb_32 (r_lshl xc_144_156 (r_arn xc_144_157 rfl (r_il xc_144_158 rfl (r_ic xc_144_160 kc_2 (r_iadd xc_144_161 (r_xa xc_144_162 ?_ (r_i2l xc_144_163 (r_ldl xc_144_164 xl_144_58 (r_land xc_144_167 (r_lor xc_144_168 ?_))))))))))))))))))
  · exact xin hk hX (by omega)
  · exact xin hk hX (by omega)
  · generalize hx : (X.2 (nI (5 * k) + nI 1).toNatClampNeg).toInt64 <<< ((nI 32).toInt64 &&& 63) ||| (X.2 (nI (5 * k) + nI 2).toNatClampNeg).toInt64 &&& 4294967295 = x
    by_cases hb : x < 0 ∨ 100000000 < x
    · refine (r_cv xc_144_169 xm_144_169 rfl xrc_49 rfl (p_M.up (p_mono (M_priceC (x := x)) (fun q hq => hq.1 hb)) (by omega)) (r_aln xc_144_172 rfl (r_arn xc_144_173 rfl (r_il xc_144_174 rfl (r_ic xc_144_176 kc_1 (r_iadd xc_144_177 (r_xa xc_144_178 ?_ (r_i2l xc_144_179 (r_bi xc_144_180 kb_32 (r_lshl xc_144_182 (r_arn xc_144_183 rfl (r_il xc_144_184 rfl (r_ic xc_144_186 kc_2 (r_iadd xc_144_187 (r_xa xc_144_188 ?_ (r_i2l xc_144_189 (r_ldl xc_144_190 xl_144_58 (r_land xc_144_193 (r_lor xc_144_194 ?_)))))))))))))))))))
      · exact xin hk hX (by omega)
      · exact xin hk hX (by omega)
      · rw [hx]
        refine (r_cv xc_144_195 xm_144_195 rfl xrc_118 rfl (p_M.up (p_mono (M_priceM (x := x)) (fun q hq => hq.1 hb)) (by omega)) (r_ceq xc_144_198 xj_144_198 (fun hc198 => ?_) (fun hc198 => (r_ic xc_144_201 kc_0 (r_rz xc_144_202 xrt_144 ?_ ?_)))))
        · exact K _ _ _ _ _ _ _ hR.z10 (by omega)
        · exact Or.inl rfl
        · exact absurd rfl hc198
    · refine (r_cv xc_144_169 xm_144_169 rfl xrc_49 rfl (p_M.up (p_mono (M_priceC (x := x)) (fun q hq => hq.2 hb)) (by omega)) (r_aln xc_144_172 rfl (r_arn xc_144_173 rfl (r_il xc_144_174 rfl (r_ic xc_144_176 kc_1 (r_iadd xc_144_177 (r_xa xc_144_178 ?_ (r_i2l xc_144_179 (r_bi xc_144_180 kb_32 (r_lshl xc_144_182 (r_arn xc_144_183 rfl (r_il xc_144_184 rfl (r_ic xc_144_186 kc_2 (r_iadd xc_144_187 (r_xa xc_144_188 ?_ (r_i2l xc_144_189 (r_ldl xc_144_190 xl_144_58 (r_land xc_144_193 (r_lor xc_144_194 ?_)))))))))))))))))))
      · exact xin hk hX (by omega)
      · exact xin hk hX (by omega)
      · rw [hx]
        refine (r_cv xc_144_195 xm_144_195 rfl xrc_118 rfl (p_M.up (p_mono (M_priceM (x := x)) (fun q hq => hq.2 hb)) (by omega)) (r_ceq xc_144_198 xj_144_198 (fun hc198 => ?_) (fun hc198 => (r_ic xc_144_201 kc_0 (r_rz xc_144_202 xrt_144 ?_ ?_)))))
        · have n0 : ¬ x < nL 0 := by rw [← nL_0]; exact fun h => hb (Or.inl h)
          obtain ⟨e, _⟩ := kL_of2 n0
          refine K _ _ _ _ _ _ _ ⟨n, ns, mx, r, A, M, G, x.toInt.toNat, P, h1.congr rfl rfl rfl rfl, h2.congr rfl rfl rfl rfl (fun _ _ => rfl), h3, ⟨e, e, ?_⟩, h5.congr rfl rfl rfl rfl⟩ (by omega)
          have h8 : ¬ 100000000 < x := fun h => hb (Or.inr h)
          rw [Int64.lt_iff_toInt_lt] at h8
          have eM : (100000000 : Int64).toInt = 100000000 := by decide
          omega
        · exact Or.inl rfl
        · exact absurd rfl hc198
theorem LAW_amount (hR : REL z a w y) (hk : 5 * k + 5 ≤ X.1) (hX : X.1 ≤ 2560) (K : LW X k Q g) : p_E X 70 144 203 (Ls k) [] (hp z a w y g) Q := by
  obtain ⟨n, ns, mx, r, A, M, G, pc, P, h1, h2, h3, h4, h5⟩ := id hR
  refine (r_aln xc_144_203 rfl (r_arn xc_144_204 rfl (r_il xc_144_205 rfl (r_ic xc_144_207 kc_1 (r_iadd xc_144_208 (r_xa xc_144_209 ?_ (r_arn xc_144_210 rfl (r_il xc_144_211 rfl (r_ic xc_144_213 kc_2 (r_iadd xc_144_214 (r_xa xc_144_215 ?_ (r_i2l xc_144_216 (r_bi xc_144_217 kb_32 (r_lshl xc_144_219 (r_arn xc_144_220 rfl (r_il xc_144_221 rfl (r_ic xc_144_223 kc_3 (r_iadd xc_144_224 (r_xa xc_144_225 ?_ (r_i2l xc_144_226 (r_ldl xc_144_227 xl_144_58 (r_land xc_144_230 (r_lor xc_144_231 ?_)))))))))))))))))))))))
  · exact xin hk hX (by omega)
  · exact xin hk hX (by omega)
  · exact xin hk hX (by omega)
  · generalize hx : (X.2 (nI (5 * k) + nI 2).toNatClampNeg).toInt64 <<< ((nI 32).toInt64 &&& 63) ||| (X.2 (nI (5 * k) + nI 3).toNatClampNeg).toInt64 &&& 4294967295 = x
    generalize hu : X.2 (nI (5 * k) + nI 1).toNatClampNeg = u
    have bad : ((u < nI 0 ∨ ¬ u < nI 8) ∨ ((x < 0 ∨ 100000000 < x) ∧ ¬ x = -1)) → ((u < nI 0 ∨ ¬ u < nI 8) ∨ (x < -1 ∨ 100000000 < x)) → p_E X 70 144 232 (Ls k) [.long x, .int u, .ref 0] (hp z a w y g) Q := by
      intro hb1 hb2
      refine (r_cv xc_144_232 xm_144_232 rfl xrc_50 rfl (p_M.up (M_amountC_n hb1) (by omega)) (r_aln xc_144_235 rfl (r_arn xc_144_236 rfl (r_il xc_144_237 rfl (r_ic xc_144_239 kc_1 (r_iadd xc_144_240 (r_xa xc_144_241 ?_ (r_arn xc_144_242 rfl (r_il xc_144_243 rfl (r_ic xc_144_245 kc_2 (r_iadd xc_144_246 (r_xa xc_144_247 ?_ (r_i2l xc_144_248 (r_bi xc_144_249 kb_32 (r_lshl xc_144_251 (r_arn xc_144_252 rfl (r_il xc_144_253 rfl (r_ic xc_144_255 kc_3 (r_iadd xc_144_256 (r_xa xc_144_257 ?_ (r_i2l xc_144_258 (r_ldl xc_144_259 xl_144_58 (r_land xc_144_262 (r_lor xc_144_263 ?_))))))))))))))))))))))))
      · exact xin hk hX (by omega)
      · exact xin hk hX (by omega)
      · exact xin hk hX (by omega)
      · rw [hx, hu]
        refine (r_cv xc_144_264 xm_144_264 rfl xrc_119 rfl (p_M.up (M_amountM_n hb2) (by omega)) (r_ceq xc_144_267 xj_144_267 (fun hc267 => ?_) (fun hc267 => (r_ic xc_144_270 kc_0 (r_rz xc_144_271 xrt_144 ?_ ?_)))))
        · exact K _ _ _ _ _ _ _ hR.z10 (by omega)
        · exact Or.inl rfl
        · exact absurd rfl hc267
    rcases isU u with hbu | ⟨uu, hu8, rfl⟩
    · exact bad (Or.inl hbu) (Or.inl hbu)
    · rcases amt_ok x with ⟨b1, b2, b3⟩ | ⟨o, ho, ho2, g1, g2, g3⟩
      · exact bad (Or.inr ⟨b2, b3⟩) (Or.inr b1)
      · refine (r_cv xc_144_232 xm_144_232 rfl xrc_50 rfl (p_M.up (M_amountC_y hu8 g3) (by omega)) (r_aln xc_144_235 rfl (r_arn xc_144_236 rfl (r_il xc_144_237 rfl (r_ic xc_144_239 kc_1 (r_iadd xc_144_240 (r_xa xc_144_241 ?_ (r_arn xc_144_242 rfl (r_il xc_144_243 rfl (r_ic xc_144_245 kc_2 (r_iadd xc_144_246 (r_xa xc_144_247 ?_ (r_i2l xc_144_248 (r_bi xc_144_249 kb_32 (r_lshl xc_144_251 (r_arn xc_144_252 rfl (r_il xc_144_253 rfl (r_ic xc_144_255 kc_3 (r_iadd xc_144_256 (r_xa xc_144_257 ?_ (r_i2l xc_144_258 (r_ldl xc_144_259 xl_144_58 (r_land xc_144_262 (r_lor xc_144_263 ?_))))))))))))))))))))))))
        · exact xin hk hX (by omega)
        · exact xin hk hX (by omega)
        · exact xin hk hX (by omega)
        · rw [hx, hu]
          refine (r_cv xc_144_264 xm_144_264 rfl xrc_119 rfl (p_M.up (M_amountM_y hu8 g1 g2) (by omega)) (r_ceq xc_144_267 xj_144_267 (fun hc267 => ?_) (fun hc267 => (r_ic xc_144_270 kc_0 (r_rz xc_144_271 xrt_144 ?_ ?_)))))
          · subst ho
            exact K _ _ _ _ _ _ _ ⟨n, ns, mx, r, _, M, G, pc, P, h1.congr rfl rfl rfl rfl, h2.congr rfl rfl rfl rfl (fun _ _ => rfl), h3.amount ho2, h4, h5.congr rfl rfl rfl rfl⟩ (by omega)
          · exact Or.inl rfl
          · exact absurd rfl hc267
theorem LAW_conv (hR : REL z a w y) (hk : 5 * k + 5 ≤ X.1) (hX : X.1 ≤ 2560) (K : LW X k Q g) : p_E X 70 144 272 (Ls k) [] (hp z a w y g) Q := by
  obtain ⟨n, ns, mx, r, A, M, G, pc, P, h1, h2, h3, h4, h5⟩ := id hR
  refine (r_aln xc_144_272 rfl (r_arn xc_144_273 rfl (r_il xc_144_274 rfl (r_ic xc_144_276 kc_1 (r_iadd xc_144_277 (r_xa xc_144_278 ?_ (r_arn xc_144_279 rfl (r_il xc_144_280 rfl (r_ic xc_144_282 kc_2 (r_iadd xc_144_283 (r_xa xc_144_284 ?_ (r_arn xc_144_285 rfl (r_il xc_144_286 rfl (r_ic xc_144_288 kc_3 (r_iadd xc_144_289 (r_xa xc_144_290 ?_ ?_))))))))))))))))
  · exact xin hk hX (by omega)
  · exact xin hk hX (by omega)
  · exact xin hk hX (by omega)
  · generalize hu : X.2 (nI (5 * k) + nI 1).toNatClampNeg = u
    generalize ht : X.2 (nI (5 * k) + nI 2).toNatClampNeg = t
    generalize hc' : X.2 (nI (5 * k) + nI 3).toNatClampNeg = c
    rcases badC_or u t c with hb | ⟨uu, tt, cc, u8, t8, c1, rfl, rfl, rfl⟩
    · refine (r_cv xc_144_291 xm_144_291 rfl xrc_53 rfl (p_M.up (M_convC_b hb) (by omega)) (r_aln xc_144_294 rfl (r_arn xc_144_295 rfl (r_il xc_144_296 rfl (r_ic xc_144_298 kc_1 (r_iadd xc_144_299 (r_xa xc_144_300 ?_ (r_arn xc_144_301 rfl (r_il xc_144_302 rfl (r_ic xc_144_304 kc_2 (r_iadd xc_144_305 (r_xa xc_144_306 ?_ (r_arn xc_144_307 rfl (r_il xc_144_308 rfl (r_ic xc_144_310 kc_3 (r_iadd xc_144_311 (r_xa xc_144_312 ?_ ?_)))))))))))))))))
      · exact xin hk hX (by omega)
      · exact xin hk hX (by omega)
      · exact xin hk hX (by omega)
      · rw [hu, ht, hc']
        refine (r_cv xc_144_313 xm_144_313 rfl xrc_121 rfl (p_M.up (M_convM_b hb) (by omega)) (r_ceq xc_144_316 xj_144_316 (fun hc316 => ?_) (fun hc316 => (r_ic xc_144_319 kc_0 (r_rz xc_144_320 xrt_144 ?_ ?_)))))
        · exact K _ _ _ _ _ _ _ hR.z10 (by omega)
        · exact Or.inl rfl
        · exact absurd rfl hc316
    · by_cases hr : cc = 0 ∨ ¬ rl M G uu 8 tt
      · refine (r_cv xc_144_291 xm_144_291 rfl xrc_53 rfl (p_M.up (p_mono (M_convC h3 u8 t8 c1) (fun q hq => hq.1 hr)) (by omega)) (r_aln xc_144_294 rfl (r_arn xc_144_295 rfl (r_il xc_144_296 rfl (r_ic xc_144_298 kc_1 (r_iadd xc_144_299 (r_xa xc_144_300 ?_ (r_arn xc_144_301 rfl (r_il xc_144_302 rfl (r_ic xc_144_304 kc_2 (r_iadd xc_144_305 (r_xa xc_144_306 ?_ (r_arn xc_144_307 rfl (r_il xc_144_308 rfl (r_ic xc_144_310 kc_3 (r_iadd xc_144_311 (r_xa xc_144_312 ?_ ?_)))))))))))))))))
        · exact xin hk hX (by omega)
        · exact xin hk hX (by omega)
        · exact xin hk hX (by omega)
        · rw [hu, ht, hc']
          refine (r_cv xc_144_313 xm_144_313 rfl xrc_121 rfl (p_M.up (p_mono (M_convM (M := M) (G := G) (fun v hv => h3.m v hv) u8 t8 c1) (fun q hq => hq.1 hr)) (by omega)) (r_ceq xc_144_316 xj_144_316 (fun hc316 => ?_) (fun hc316 => (r_ic xc_144_319 kc_0 (r_rz xc_144_320 xrt_144 ?_ ?_)))))
          · exact K _ _ _ _ _ _ _ ⟨n, ns, mx, r, A, _, _, pc, P, h1.congr rfl rfl rfl rfl, h2.congr rfl rfl rfl rfl (fun j hj => by rw [u_n _ _ (by omega), u_n _ _ (by omega), u_n _ _ (by omega), u_n _ _ (by omega)]), h3.conv t8 c1 hr, h4, h5.congr rfl rfl rfl rfl⟩ (by omega)
          · exact Or.inl rfl
          · exact absurd rfl hc316
      · refine (r_cv xc_144_291 xm_144_291 rfl xrc_53 rfl (p_M.up (p_mono (M_convC h3 u8 t8 c1) (fun q hq => hq.2 hr)) (by omega)) (r_aln xc_144_294 rfl (r_arn xc_144_295 rfl (r_il xc_144_296 rfl (r_ic xc_144_298 kc_1 (r_iadd xc_144_299 (r_xa xc_144_300 ?_ (r_arn xc_144_301 rfl (r_il xc_144_302 rfl (r_ic xc_144_304 kc_2 (r_iadd xc_144_305 (r_xa xc_144_306 ?_ (r_arn xc_144_307 rfl (r_il xc_144_308 rfl (r_ic xc_144_310 kc_3 (r_iadd xc_144_311 (r_xa xc_144_312 ?_ ?_)))))))))))))))))
        · exact xin hk hX (by omega)
        · exact xin hk hX (by omega)
        · exact xin hk hX (by omega)
        · rw [hu, ht, hc']
          refine (r_cv xc_144_313 xm_144_313 rfl xrc_121 rfl (p_M.up (p_mono (M_convM h3.m u8 t8 c1) (fun q hq => hq.2 hr)) (by omega)) (r_ceq xc_144_316 xj_144_316 (fun hc316 => ?_) (fun hc316 => (r_ic xc_144_319 kc_0 (r_rz xc_144_320 xrt_144 ?_ ?_)))))
          · exact K _ _ _ _ _ _ _ hR.z10 (by omega)
          · exact Or.inl rfl
          · exact absurd rfl hc316
theorem vlS_ci {um : Nat → Option Nat} {pc : Nat} {ns : List pN} {s : Int32} {ci : Nat} (h : vlS um pc ns s = .inl ci) : ci = 7 ∨ ci = 8 ∨ ci = 9 := by
  unfold vlS rtS at h
  split at h
  · split at h
    · next c hc =>
      injection h with h
      subst h
      split at hc
      · injection hc with hc; omega
      · split at hc
        · injection hc with hc; omega
        · cases hc
    · cases h
  · injection h with h; omega
theorem ceS_ci {um : Nat → Option Nat} {pc : Nat} {ns : List pN} {s : Int32} {ci : Nat} (h : ceS um pc ns s = .inl ci) : ci = 7 ∨ ci = 8 ∨ ci = 9 := by
  unfold ceS rtS at h
  split at h
  · injection h with h; omega
  · split at h
    · next c hc =>
      injection h with h
      subst h
      split at hc
      · injection hc with hc; omega
      · split at hc
        · injection hc with hc; omega
        · cases hc
    · cases h
theorem LAW_value (hR : REL z a w y) (hk : 5 * k + 5 ≤ X.1) (hX : X.1 ≤ 2560) (K : LW X k Q g) : p_E X 70 144 321 (Ls k) [] (hp z a w y g) Q := by
  obtain ⟨n, ns, mx, r, A, M, G, pc, P, h1, h2, h3, h4, h5⟩ := id hR
  obtain ⟨t1, t2, t3, t4, t5, t6, t7, t8, t9, t10, t11⟩ := id h2
  refine (r_aln xc_144_321 rfl (r_arn xc_144_322 rfl (r_il xc_144_323 rfl (r_ic xc_144_325 kc_1 (r_iadd xc_144_326 (r_xa xc_144_327 ?_ (r_aln xc_144_328 rfl ?_)))))))
  · exact xin hk hX (by omega)
  · generalize hx : X.2 (nI (5 * k) + nI 1).toNatClampNeg = x
    cases hv : vlS (umF A M G) pc ns x with
    | inl ci =>
      have hci := vlS_ci hv
      have hC := M_valueC (X := X) (g := g) (z := z) (a := a) (w := w) (y := y) (A := A) (M := M) (G := G) (ns := ns) (pc := pc) (r := r) (side := x) t1 t2 t4 h3 t7 t6 h4.1 h4.2.2
      rw [hv] at hC
      refine (r_cq xc_144_329 xm_144_329 rfl xrc_61 rfl (p_M.up (M_hValue (o := .inl ci) (fun c hc' => by injection hc' with hc'; subst hc'; exact hci) hC) (by omega)) (fun v h1 hP => ?_) (fun _ _ h => by first | (obtain ⟨_, he, _⟩ := h; cases he; done) | (obtain ⟨_, he⟩ := h; cases he; done) | (obtain ⟨_, _, he, _⟩ := h; cases he; done) | (obtain ⟨_, _, _, he, _⟩ := h; cases he; done) | (simp only [Prod.mk.injEq, reduceCtorEq, false_and, exists_false] at h)))
      obtain ⟨a1, w1, he, hE⟩ := hP
      cases he
      refine (r_is [_, _, _, _, _, _, _, _] xc_144_332 rfl rfl (r_aln xc_144_334 rfl (r_arn xc_144_335 rfl (r_il xc_144_336 rfl (r_ic xc_144_338 kc_1 (r_iadd xc_144_339 (r_xa xc_144_340 ?_ ?_)))))))
      · exact xin hk hX (by omega)
      · rw [hx]
        have h2' : R2 z a1 ns mx r := h2.congr rfl rfl rfl rfl (fun j hj => hE.1 j (by omega))
        have hM := M_valueM (X := X) (z := z) (a := a1) (w := w1) (y := y) (g := g ++ [.inr (ci, [])]) (A := A) (M := M) (G := G) (ns := ns) (pc := pc) (side := x) t1 t2 t5 h2'.2.2.2.2.2.2.2.1 (h3.congr (fun j hj => hE.1 j (by omega)) (fun j hj => hE.2 j (by omega))) h4.2.2 h4.2.1
        rw [hv] at hM
        refine (r_cq xc_144_341 xm_144_341 rfl xrc_122 rfl (p_M.up hM (by omega)) (fun v h1 hP => ?_) (fun _ _ h => by first | (obtain ⟨_, he, _⟩ := h; cases he; done) | (obtain ⟨_, he⟩ := h; cases he; done) | (obtain ⟨_, _, he, _⟩ := h; cases he; done) | (obtain ⟨_, _, _, he, _⟩ := h; cases he; done) | (simp only [Prod.mk.injEq, reduceCtorEq, false_and, exists_false] at h)))
        obtain ⟨w2, he, hw⟩ := hP
        cases he
        refine (r_ls [_, _, _, _, _, _, _, _] xc_144_344 rfl rfl (r_aln xc_144_346 rfl ?_))
        refine (r_cv xc_144_347 xm_144_347 rfl xrc_93 rfl (p_M.up M_thrown (by omega)) (r_il xc_144_350 rfl (r_ceq xc_144_352 xj_144_352 (fun hc352 => (r_il xc_144_357 rfl (r_zne xc_144_359 xj_144_359 (fun hc359 => (r_aln xc_144_362 rfl (r_ic xc_144_363 kc_0 (r_la xc_144_364 b_43 ?_ (r_ll xc_144_365 rfl (r_leq xc_144_367 xc_144_368 xj_144_368 (fun hc368 => (r_go xc_144_373 xj_144_373 ?_)) (fun hc368 => (r_ic xc_144_371 kc_0 (r_rz xc_144_372 xrt_144 ?_ ?_))))))))) (fun hc359 => (r_go xc_144_373 xj_144_373 ?_))))) (fun hc352 => (r_ic xc_144_355 kc_0 (r_rz xc_144_356 xrt_144 ?_ ?_))))))
        · rw [kI_inj (by omega) (by omega)] at hc359; omega
        · rw [kI_inj (by omega) (by omega)] at hc359; omega
        · exact Or.inl rfl
        · rw [kI_inj (by omega) (by omega)] at hc359; omega
        · exact K _ _ _ _ _ _ _ (hR.ev hE.1 (fun j hj => by rw [hw j (by omega), hE.2 j (by omega)])) (by first | (rw [gM_one]; exact Nat.le_refl _) | omega)
        · exact Or.inl rfl
        · exact absurd rfl hc352
    | inr m =>
      have hC := M_valueC (X := X) (g := g) (z := z) (a := a) (w := w) (y := y) (A := A) (M := M) (G := G) (ns := ns) (pc := pc) (r := r) (side := x) t1 t2 t4 h3 t7 t6 h4.1 h4.2.2
      rw [hv] at hC
      refine (r_cq xc_144_329 xm_144_329 rfl xrc_61 rfl (p_M.up (M_hValue (o := .inr (nL m)) (fun c hc' => by cases hc') hC) (by omega)) (fun v h1 hP => ?_) (fun _ _ h => by first | (obtain ⟨_, he, _⟩ := h; cases he; done) | (obtain ⟨_, he⟩ := h; cases he; done) | (obtain ⟨_, _, he, _⟩ := h; cases he; done) | (obtain ⟨_, _, _, he, _⟩ := h; cases he; done) | (simp only [Prod.mk.injEq, reduceCtorEq, false_and, exists_false] at h)))
      obtain ⟨a1, w1, he, hE⟩ := hP
      cases he
      refine (r_is [_, _, _, _, _, _, _, _] xc_144_332 rfl rfl (r_aln xc_144_334 rfl (r_arn xc_144_335 rfl (r_il xc_144_336 rfl (r_ic xc_144_338 kc_1 (r_iadd xc_144_339 (r_xa xc_144_340 ?_ ?_)))))))
      · exact xin hk hX (by omega)
      · rw [hx]
        have h2' : R2 z a1 ns mx r := h2.congr rfl rfl rfl rfl (fun j hj => hE.1 j (by omega))
        have hM := M_valueM (X := X) (z := z) (a := a1) (w := u_ w1 4 (vp_updL (w1 4) 0 (nL m))) (y := y) (g := g) (A := A) (M := M) (G := G) (ns := ns) (pc := pc) (side := x) t1 t2 t5 h2'.2.2.2.2.2.2.2.1 (h3.congr (fun j hj => hE.1 j (by omega)) (fun j hj => by rw [u_n _ _ (by omega)]; exact hE.2 j (by omega))) h4.2.2 h4.2.1
        rw [hv] at hM
        refine (r_cq xc_144_341 xm_144_341 rfl xrc_122 rfl (p_M.up hM (by omega)) (fun v h1 hP => ?_) (fun _ _ h => by first | (obtain ⟨_, he, _⟩ := h; cases he; done) | (obtain ⟨_, he⟩ := h; cases he; done) | (obtain ⟨_, _, he, _⟩ := h; cases he; done) | (obtain ⟨_, _, _, he, _⟩ := h; cases he; done) | (simp only [Prod.mk.injEq, reduceCtorEq, false_and, exists_false] at h)))
        obtain ⟨w2, he, hw⟩ := hP
        cases he
        have hout : w2 4 (nI 0).toNatClampNeg = (nL m) := by
          rw [hw 4 (by omega), show (nI 0).toNatClampNeg = 0 by decide]
          exact ul_s (w1 4) 0 _
        refine (r_ls [_, _, _, _, _, _, _, _] xc_144_344 rfl rfl (r_aln xc_144_346 rfl ?_))
        refine (r_cv xc_144_347 xm_144_347 rfl xrc_93 rfl (p_M.up M_thrown (by omega)) (r_il xc_144_350 rfl (r_ceq xc_144_352 xj_144_352 (fun hc352 => (r_il xc_144_357 rfl (r_zne xc_144_359 xj_144_359 (fun hc359 => (r_aln xc_144_362 rfl (r_ic xc_144_363 kc_0 (r_la xc_144_364 b_43 ?_ (r_ll xc_144_365 rfl (r_leq xc_144_367 xc_144_368 xj_144_368 (fun hc368 => (r_go xc_144_373 xj_144_373 ?_)) (fun hc368 => (r_ic xc_144_371 kc_0 (r_rz xc_144_372 xrt_144 ?_ ?_))))))))) (fun hc359 => (r_go xc_144_373 xj_144_373 ?_))))) (fun hc352 => (r_ic xc_144_355 kc_0 (r_rz xc_144_356 xrt_144 ?_ ?_))))))
        · exact kI_in (by omega) (by omega)
        · exact K _ _ _ _ _ _ _ (hR.ev hE.1 (fun j hj => by rw [hw j (by omega), u_n _ _ (by omega), hE.2 j (by omega)])) (by omega)
        · exact Or.inl rfl
        · exact absurd hout hc368
        · exact absurd rfl hc359
        · exact Or.inl rfl
        · exact absurd rfl hc352
theorem LAW_cents (hR : REL z a w y) (hk : 5 * k + 5 ≤ X.1) (hX : X.1 ≤ 2560) (K : LW X k Q g) : p_E X 70 144 376 (Ls k) [] (hp z a w y g) Q := by
  obtain ⟨n, ns, mx, r, A, M, G, pc, P, h1, h2, h3, h4, h5⟩ := id hR
  obtain ⟨t1, t2, t3, t4, t5, t6, t7, t8, t9, t10, t11⟩ := id h2
  refine (r_aln xc_144_376 rfl (r_arn xc_144_377 rfl (r_il xc_144_378 rfl (r_ic xc_144_380 kc_1 (r_iadd xc_144_381 (r_xa xc_144_382 ?_ (r_aln xc_144_383 rfl ?_)))))))
  · exact xin hk hX (by omega)
  · generalize hx : X.2 (nI (5 * k) + nI 1).toNatClampNeg = x
    cases hv : ceS (umF A M G) pc ns x with
    | inl ci =>
      have hci := ceS_ci hv
      have hC := M_centsC (X := X) (g := g) (z := z) (a := a) (w := w) (y := y) (A := A) (M := M) (G := G) (ns := ns) (pc := pc) (r := r) (rule := x) t1 t2 t4 h3 t7 t6 h4.1 h4.2.2
      rw [hv] at hC
      refine (r_cq xc_144_384 xm_144_384 rfl xrc_71 rfl (p_M.up (M_hCents (o := .inl ci) (fun c hc' => by injection hc' with hc'; subst hc'; exact hci) hC) (by omega)) (fun v h1 hP => ?_) (fun _ _ h => by first | (obtain ⟨_, he, _⟩ := h; cases he; done) | (obtain ⟨_, he⟩ := h; cases he; done) | (obtain ⟨_, _, he, _⟩ := h; cases he; done) | (obtain ⟨_, _, _, he, _⟩ := h; cases he; done) | (simp only [Prod.mk.injEq, reduceCtorEq, false_and, exists_false] at h)))
      obtain ⟨a1, w1, he, hE⟩ := hP
      cases he
      refine (r_is [_, _, _, _, _, _, _, _] xc_144_387 rfl rfl (r_aln xc_144_389 rfl (r_arn xc_144_390 rfl (r_il xc_144_391 rfl (r_ic xc_144_393 kc_1 (r_iadd xc_144_394 (r_xa xc_144_395 ?_ ?_)))))))
      · exact xin hk hX (by omega)
      · rw [hx]
        have h2' : R2 z a1 ns mx r := h2.congr rfl rfl rfl rfl (fun j hj => hE.1 j (by omega))
        have hM := M_centsM (X := X) (z := z) (a := a1) (w := w1) (y := y) (g := g ++ [.inr (ci, [])]) (A := A) (M := M) (G := G) (ns := ns) (pc := pc) (rule := x) t1 t2 t5 h2'.2.2.2.2.2.2.2.1 (h3.congr (fun j hj => hE.1 j (by omega)) (fun j hj => hE.2 j (by omega))) h4.2.2 h4.2.1
        rw [hv] at hM
        refine (r_cq xc_144_396 xm_144_396 rfl xrc_129 rfl (p_M.up hM (by omega)) (fun v h1 hP => ?_) (fun _ _ h => by first | (obtain ⟨_, he, _⟩ := h; cases he; done) | (obtain ⟨_, he⟩ := h; cases he; done) | (obtain ⟨_, _, he, _⟩ := h; cases he; done) | (obtain ⟨_, _, _, he, _⟩ := h; cases he; done) | (simp only [Prod.mk.injEq, reduceCtorEq, false_and, exists_false] at h)))
        obtain ⟨w2, he, hw⟩ := hP
        cases he
        refine (r_ls [_, _, _, _, _, _, _, _] xc_144_399 rfl rfl (r_aln xc_144_401 rfl ?_))
        refine (r_cv xc_144_402 xm_144_402 rfl xrc_93 rfl (p_M.up M_thrown (by omega)) (r_il xc_144_405 rfl (r_ceq xc_144_407 xj_144_407 (fun hc407 => (r_il xc_144_412 rfl (r_zne xc_144_414 xj_144_414 (fun hc414 => (r_aln xc_144_417 rfl (r_ic xc_144_418 kc_0 (r_la xc_144_419 b_43 ?_ (r_ll xc_144_420 rfl (r_leq xc_144_422 xc_144_423 xj_144_423 (fun hc423 => (r_go xc_144_428 xj_144_428 ?_)) (fun hc423 => (r_ic xc_144_426 kc_0 (r_rz xc_144_427 xrt_144 ?_ ?_))))))))) (fun hc414 => (r_go xc_144_428 xj_144_428 ?_))))) (fun hc407 => (r_ic xc_144_410 kc_0 (r_rz xc_144_411 xrt_144 ?_ ?_))))))
        · rw [kI_inj (by omega) (by omega)] at hc414; omega
        · rw [kI_inj (by omega) (by omega)] at hc414; omega
        · exact Or.inl rfl
        · rw [kI_inj (by omega) (by omega)] at hc414; omega
        · exact K _ _ _ _ _ _ _ (hR.ev hE.1 (fun j hj => by rw [hw j (by omega), hE.2 j (by omega)])) (by first | (rw [gM_one]; exact Nat.le_refl _) | omega)
        · exact Or.inl rfl
        · exact absurd rfl hc407
    | inr m =>
      have hC := M_centsC (X := X) (g := g) (z := z) (a := a) (w := w) (y := y) (A := A) (M := M) (G := G) (ns := ns) (pc := pc) (r := r) (rule := x) t1 t2 t4 h3 t7 t6 h4.1 h4.2.2
      rw [hv] at hC
      refine (r_cq xc_144_384 xm_144_384 rfl xrc_71 rfl (p_M.up (M_hCents (o := .inr m) (fun c hc' => by cases hc') hC) (by omega)) (fun v h1 hP => ?_) (fun _ _ h => by first | (obtain ⟨_, he, _⟩ := h; cases he; done) | (obtain ⟨_, he⟩ := h; cases he; done) | (obtain ⟨_, _, he, _⟩ := h; cases he; done) | (obtain ⟨_, _, _, he, _⟩ := h; cases he; done) | (simp only [Prod.mk.injEq, reduceCtorEq, false_and, exists_false] at h)))
      obtain ⟨a1, w1, he, hE⟩ := hP
      cases he
      refine (r_is [_, _, _, _, _, _, _, _] xc_144_387 rfl rfl (r_aln xc_144_389 rfl (r_arn xc_144_390 rfl (r_il xc_144_391 rfl (r_ic xc_144_393 kc_1 (r_iadd xc_144_394 (r_xa xc_144_395 ?_ ?_)))))))
      · exact xin hk hX (by omega)
      · rw [hx]
        have h2' : R2 z a1 ns mx r := h2.congr rfl rfl rfl rfl (fun j hj => hE.1 j (by omega))
        have hM := M_centsM (X := X) (z := z) (a := a1) (w := u_ w1 4 (vp_updL (w1 4) 0 m)) (y := y) (g := g) (A := A) (M := M) (G := G) (ns := ns) (pc := pc) (rule := x) t1 t2 t5 h2'.2.2.2.2.2.2.2.1 (h3.congr (fun j hj => hE.1 j (by omega)) (fun j hj => by rw [u_n _ _ (by omega)]; exact hE.2 j (by omega))) h4.2.2 h4.2.1
        rw [hv] at hM
        refine (r_cq xc_144_396 xm_144_396 rfl xrc_129 rfl (p_M.up hM (by omega)) (fun v h1 hP => ?_) (fun _ _ h => by first | (obtain ⟨_, he, _⟩ := h; cases he; done) | (obtain ⟨_, he⟩ := h; cases he; done) | (obtain ⟨_, _, he, _⟩ := h; cases he; done) | (obtain ⟨_, _, _, he, _⟩ := h; cases he; done) | (simp only [Prod.mk.injEq, reduceCtorEq, false_and, exists_false] at h)))
        obtain ⟨w2, he, hw⟩ := hP
        cases he
        have hout : w2 4 (nI 0).toNatClampNeg = m := by
          rw [hw 4 (by omega), show (nI 0).toNatClampNeg = 0 by decide]
          exact ul_s (w1 4) 0 _
        refine (r_ls [_, _, _, _, _, _, _, _] xc_144_399 rfl rfl (r_aln xc_144_401 rfl ?_))
        refine (r_cv xc_144_402 xm_144_402 rfl xrc_93 rfl (p_M.up M_thrown (by omega)) (r_il xc_144_405 rfl (r_ceq xc_144_407 xj_144_407 (fun hc407 => (r_il xc_144_412 rfl (r_zne xc_144_414 xj_144_414 (fun hc414 => (r_aln xc_144_417 rfl (r_ic xc_144_418 kc_0 (r_la xc_144_419 b_43 ?_ (r_ll xc_144_420 rfl (r_leq xc_144_422 xc_144_423 xj_144_423 (fun hc423 => (r_go xc_144_428 xj_144_428 ?_)) (fun hc423 => (r_ic xc_144_426 kc_0 (r_rz xc_144_427 xrt_144 ?_ ?_))))))))) (fun hc414 => (r_go xc_144_428 xj_144_428 ?_))))) (fun hc407 => (r_ic xc_144_410 kc_0 (r_rz xc_144_411 xrt_144 ?_ ?_))))))
        · exact kI_in (by omega) (by omega)
        · exact K _ _ _ _ _ _ _ (hR.ev hE.1 (fun j hj => by rw [hw j (by omega), u_n _ _ (by omega), hE.2 j (by omega)])) (by omega)
        · exact Or.inl rfl
        · exact absurd hout hc423
        · exact absurd rfl hc414
        · exact Or.inl rfl
        · exact absurd rfl hc407
end LAW
