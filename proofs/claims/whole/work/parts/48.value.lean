/-! ===== value, cents, node, part, at, step of the class ===== -/
theorem kL_rem {a b : Nat} (ha : a < 9223372036854775808) (hb : b < 9223372036854775808) : nL a - nL a / nL b * nL b = nL (a % b) := by
  have h1 : a / b * b ≤ a := Nat.div_mul_le_self a b
  rw [kL_div ha hb, kL_mul, kL_sub h1]
  congr 1
  have := Nat.div_add_mod a b
  rw [Nat.mul_comm] at this
  omega
theorem nL_ne0 {a : Nat} (ha : a < 9223372036854775808) : ¬ nL a = 0 ↔ ¬ a = 0 := by
  rw [nL_0, kL_inj ha (by omega)]
theorem gcd_pos (m : Nat) : 0 < Nat.gcd m 1000000 := Nat.gcd_pos_of_pos_right _ (by omega)
theorem gcd_le (m : Nat) : Nat.gcd m 1000000 ≤ 1000000 := Nat.gcd_le_right _ (by omega)
def vlS (um : Nat → Option Nat) (pc : Nat) (ns : List pN) (side : Int32) : Nat ⊕ Nat := if side = nI 0 ∨ side = nI 1 then (match rtS um pc ns with
    | .inl ci => .inl ci
    | .inr m => .inr (if side = nI 0 then m / Nat.gcd m 1000000 else 1000000 / Nat.gcd m 1000000)) else .inl 7
def ceS (um : Nat → Option Nat) (pc : Nat) (ns : List pN) (rule : Int32) : Nat ⊕ Int64 := if rule < nI 0 ∨ nI 3 < rule then .inl 7 else match rtS um pc ns with
    | .inl ci => .inl ci
    | .inr m => .inr (if rule = nI 0 then nL m / 1000000 else if rule = nI 1 then (nL m + 500000) / 1000000 else if rule = nI 2 then (nL m + 999999) / 1000000 else nL m / 10000000 * 10)
section VALUE
variable {X : pX} {z : Nat → Int32} {a : Nat → Nat → Int32} {w : Nat → Nat → Int64} {y : Nat → Int64} {g : List pE} {A : Nat → Option Nat} {M G : Nat → Nat} {ns : List pN} {pc r : Nat}
theorem L_gcd {l0 l2 : Option Value} : ∀ k t m l, t + k = 100 → m < 9223372036854775808 → l < 9223372036854775808 → p_E X 0 70 9 [l0, none, l2, none, some (.long (nL m)), none, some (.long (nL l)), none, some (.int (nI t)), none, none] [] (hp z a w y g) (fun q => q = (.inl (some (.long (nL (if 0 < gc k m l then gc k m l else 1)))), hp z a w y g)) := by
  intro k
  induction k with
  | zero =>
    intro t m l ht hm hl
    refine (r_il xc_70_9 rfl (r_bi xc_70_11 kb_100 (r_cge xc_70_13 xj_70_13 (fun hc13 => (r_ll xc_70_16 rfl (r_lc xc_70_18 kl_0 (r_leq xc_70_19 xc_70_20 xj_70_20 (fun hc20 => (r_ll xc_70_44 rfl (r_lc xc_70_46 kl_0 (r_lle xc_70_47 xc_70_48 xj_70_48 (fun hc48 => (r_ll xc_70_51 rfl (r_go xc_70_53 xj_70_53 (r_rl xc_70_57 xrt_70 ?_)))) (fun hc48 => (r_lc xc_70_56 kl_1 (r_rl xc_70_57 xrt_70 ?_))))))) (fun hc20 => (r_ll xc_70_23 rfl (r_ll xc_70_25 rfl (r_lrem xc_70_27 ?_ (r_ls [_, _, _, _, _, _, _, _, _, _, _] xc_70_28 rfl rfl (r_ll xc_70_30 rfl (r_ls [_, _, _, _, _, _, _, _, _, _, _] xc_70_32 rfl rfl (r_ll xc_70_34 rfl (r_ls [_, _, _, _, _, _, _, _, _, _, _] xc_70_36 rfl rfl (r_inc [_, _, _, _, _, _, _, _, _, _, _] xc_70_38 rfl rfl (ki_1 _) rfl (r_go xc_70_41 xj_70_41 ?_))))))))))))))) (fun hc13 => (r_ll xc_70_44 rfl (r_lc xc_70_46 kl_0 (r_lle xc_70_47 xc_70_48 xj_70_48 (fun hc48 => (r_ll xc_70_51 rfl (r_go xc_70_53 xj_70_53 (r_rl xc_70_57 xrt_70 ?_)))) (fun hc48 => (r_lc xc_70_56 kl_1 (r_rl xc_70_57 xrt_70 ?_))))))))))
    all_goals try (rw [kI_lt (by omega) (by omega)] at hc13; omega)
    · rw [nL_0, kL_lt (by omega) hm] at hc48
      rw [if_pos (show 0 < gc 0 m l from hc48)]; rfl
    · rw [nL_0, kL_lt (by omega) hm] at hc48
      rw [if_neg (show ¬ 0 < gc 0 m l from hc48)]; rfl
  | succ k ih =>
    intro t m l ht hm hl
    refine (r_il xc_70_9 rfl (r_bi xc_70_11 kb_100 (r_cge xc_70_13 xj_70_13 (fun hc13 => (r_ll xc_70_16 rfl (r_lc xc_70_18 kl_0 (r_leq xc_70_19 xc_70_20 xj_70_20 (fun hc20 => (r_ll xc_70_44 rfl (r_lc xc_70_46 kl_0 (r_lle xc_70_47 xc_70_48 xj_70_48 (fun hc48 => (r_ll xc_70_51 rfl (r_go xc_70_53 xj_70_53 (r_rl xc_70_57 xrt_70 ?_)))) (fun hc48 => (r_lc xc_70_56 kl_1 (r_rl xc_70_57 xrt_70 ?_))))))) (fun hc20 => (r_ll xc_70_23 rfl (r_ll xc_70_25 rfl (r_lrem xc_70_27 ?_ (r_ls [_, _, _, _, _, _, _, _, _, _, _] xc_70_28 rfl rfl (r_ll xc_70_30 rfl (r_ls [_, _, _, _, _, _, _, _, _, _, _] xc_70_32 rfl rfl (r_ll xc_70_34 rfl (r_ls [_, _, _, _, _, _, _, _, _, _, _] xc_70_36 rfl rfl (r_inc [_, _, _, _, _, _, _, _, _, _, _] xc_70_38 rfl rfl (ki_1 _) rfl (r_go xc_70_41 xj_70_41 ?_))))))))))))))) (fun hc13 => (r_ll xc_70_44 rfl (r_lc xc_70_46 kl_0 (r_lle xc_70_47 xc_70_48 xj_70_48 (fun hc48 => (r_ll xc_70_51 rfl (r_go xc_70_53 xj_70_53 (r_rl xc_70_57 xrt_70 ?_)))) (fun hc48 => (r_lc xc_70_56 kl_1 (r_rl xc_70_57 xrt_70 ?_))))))))))
    · rw [nL_0, kL_inj hl (by omega)] at hc20
      rw [nL_0, kL_lt (by omega) hm] at hc48
      have e : gc (k + 1) m l = m := if_pos hc20
      rw [e, if_pos hc48]
    · rw [nL_0, kL_inj hl (by omega)] at hc20
      rw [nL_0, kL_lt (by omega) hm] at hc48
      have e : gc (k + 1) m l = m := if_pos hc20
      rw [e, if_neg hc48]; rfl
    · exact hc20
    · rw [nL_ne0 hl] at hc20
      rw [kL_rem hm hl, kI_add]
      have e : gc (k + 1) m l = gc k l (m % l) := if_neg hc20
      rw [e]
      refine R_fg [_, _, _, _, _, _, _, _, _, none, none] (p_lle_eq (p_lle_eq (p_lle_eq (p_lle_eq (p_lle_eq (p_lle_eq (p_lle_eq (p_lle_eq (p_lle_eq (p_lle_no (p_lle_eq p_lle_nil))))))))))) ?_
      exact ih (t + 1) l (m % l) (by omega) hl (Nat.lt_of_le_of_lt (Nat.mod_le _ _) hm)
    all_goals (rw [kI_lt (by omega) (by omega)] at hc13; omega)
theorem M_gcd {m : Nat} (hm : m < 9223372036854775808) : p_M X 0 70 [.long (nL m), .long 1000000] (hp z a w y g) (fun q => q = (.inl (some (.long (nL (Nat.gcd m 1000000)))), hp z a w y g)) := by
  refine (r_in xin_70 (r_lln xc_70_0 rfl (r_ls [_, _, _, _, _, _, _, _, _, _, _] xc_70_1 rfl rfl (r_lln xc_70_3 rfl (r_ls [_, _, _, _, _, _, _, _, _, _, _] xc_70_4 rfl rfl (r_ic xc_70_6 kc_0 (r_is [_, _, _, _, _, _, _, _, _, _, _] xc_70_7 rfl rfl ?_)))))))
  have e6 : (1000000 : Int64) = nL 1000000 := by decide
  have := L_gcd (X := X) (z := z) (a := a) (w := w) (y := y) (g := g) (l0 := some (.long (nL m))) (l2 := some (.long (nL 1000000))) 100 0 m 1000000 (by omega) hm (by omega)
  have eg : gc 100 m 1000000 = Nat.gcd m 1000000 := gc_gcd 50 m 1000000 (by decide)
  rw [eg, if_pos (gcd_pos m)] at this
  rw [e6]
  exact this
theorem M_valueC {side : Int32} (hT : ns = [] ∨ TW ns) (hl : ns.length ≤ 60) (h1 : z 1 = nI ns.length) (hU : UNI a w A M G) (hR : Rp a r 0 ns) (hr : r ≤ 300) (hy : y 0 = nL pc) (hpc : pc ≤ 100000000) : p_M X 10 62 [.ref 0, .int side] (hp z a w y g) (AN z y g (EV a w) (match vlS (umF A M G) pc ns side with
    | .inl ci => .inl ci
    | .inr m => .inr (.long (nL m)))) := by
  have e6 : (1000000 : Int64) = nL 1000000 := by decide
  have go : side = nI 0 ∨ side = nI 1 → p_E X 10 62 20 [some (.ref 0), some (.int side), none, none, none, none] [.ref 0] (hp z a w y g) (AN z y g (EV a w) (match vlS (umF A M G) pc ns side with
    | .inl ci => .inl ci
    | .inr m => .inr (.long (nL m)))) := by
    intro hs
    unfold vlS
    rw [if_pos hs]
    refine r_ct xc_62_20 xm_62_20 rfl xrc_63 rfl xhh_62 (M_rateMic hT hl h1 hU hR hr hy hpc) (fun v h1 hP => ?_) (fun x h1 hP => ?_)
    · obtain ⟨x, a', w', e1, e2, e3, hE⟩ := hP.val
      subst e2
      subst e3
      cases hv : rtS (umF A M G) pc ns with
      | inl ci => rw [hv] at e1; cases e1
      | inr m =>
        rw [hv] at e1
        injection e1 with e1
        subst e1
        have hm := rtS_lt hv
        refine (r_lsn [_, _, _, _, _, _] xc_62_23 rfl rfl (r_lln xc_62_24 rfl (r_ldl xc_62_25 xl_62_79 ?_)))
        refine (r_cv xc_62_28 xm_62_28 rfl xrc_70 rfl (p_M.up (d' := 9) (M_gcd hm) (by omega)) (r_ls [_, _, _, _, _, _] xc_62_31 rfl rfl (r_iln xc_62_33 rfl (r_zne xc_62_34 xj_62_34 (fun hc34 => (r_lln xc_62_37 rfl (r_ll xc_62_38 rfl (r_ldiv xc_62_40 ?_ (r_go xc_62_41 xj_62_41 (r_rl xc_62_50 xrt_62 ?_)))))) (fun hc34 => (r_ldl xc_62_44 xl_62_79 (r_ll xc_62_47 rfl (r_ldiv xc_62_49 ?_ (r_rl xc_62_50 xrt_62 ?_)))))))))
        · have := gcd_pos m
          rw [nL_ne0 (by have := gcd_le m; omega)]; omega
        · have hg := gcd_le m
          rw [kL_div hm (by omega)]
          refine ⟨a', w', ?_, hE⟩
          rw [if_pos hc34]
        · have := gcd_pos m
          rw [nL_ne0 (by have := gcd_le m; omega)]; omega
        · have hg := gcd_le m
          rw [e6, kL_div (by omega) (by omega)]
          refine ⟨a', w', ?_, hE⟩
          rw [if_neg hc34]
    · obtain ⟨ci, a', w', e1, e2, e3, hE⟩ := hP.thr
      subst e2
      subst e3
      cases hv : rtS (umF A M G) pc ns with
      | inl c => rw [hv] at e1; injection e1 with e1; subst e1; exact ⟨a', w', rfl, hE⟩
      | inr m => rw [hv] at e1; cases e1
  refine (r_in xin_62 (r_iln xc_62_0 rfl (r_zeq xc_62_1 xj_62_1 (fun hc1 => (r_aln xc_62_19 rfl ?_)) (fun hc1 => (r_iln xc_62_4 rfl (r_ic xc_62_5 kc_1 (r_ceq xc_62_6 xj_62_6 (fun hc6 => (r_aln xc_62_19 rfl ?_)) (fun hc6 => (r_th xc_62_9 xth_62_9 xhh_62 (by omega) (by decide) ?_)))))))))
  · exact go (Or.inl hc1)
  · exact go (Or.inr hc6)
  · unfold vlS
    rw [if_neg (by rintro (h | h); exact hc1 h; exact hc6 h)]
    exact ⟨a, w, rfl, fun _ _ => rfl, fun _ _ => rfl⟩
theorem M_centsC {rule : Int32} (hT : ns = [] ∨ TW ns) (hl : ns.length ≤ 60) (h1 : z 1 = nI ns.length) (hU : UNI a w A M G) (hR : Rp a r 0 ns) (hr : r ≤ 300) (hy : y 0 = nL pc) (hpc : pc ≤ 100000000) : p_M X 10 72 [.ref 0, .int rule] (hp z a w y g) (AN z y g (EV a w) (match ceS (umF A M G) pc ns rule with
    | .inl ci => .inl ci
    | .inr m => .inr (.long m))) := by
  refine (r_in xin_72 (r_iln xc_72_0 rfl (r_zlt xc_72_1 xj_72_1 (fun hc1 => (r_th xc_72_9 xth_72_9 xhh_72 (by omega) (by decide) ?_)) (fun hc1 => (r_iln xc_72_4 rfl (r_ic xc_72_5 kc_3 (r_cle xc_72_6 xj_72_6 (fun hc6 => (r_th xc_72_9 xth_72_9 xhh_72 (by omega) (by decide) ?_)) (fun hc6 => (r_aln xc_72_19 rfl ?_)))))))))
  · unfold ceS
    rw [if_pos (Or.inl hc1)]
    exact ⟨a, w, rfl, fun _ _ => rfl, fun _ _ => rfl⟩
  · unfold ceS
    rw [if_pos (Or.inr hc6)]
    exact ⟨a, w, rfl, fun _ _ => rfl, fun _ _ => rfl⟩
  · unfold ceS
    rw [if_neg (by rintro (h | h); exact hc1 h; exact hc6 h)]
    have e := kI_of2 hc1
    have hlt : rule.toInt.toNat ≤ 3 := by
      rw [e, kI_lt (by omega) (by have := Int32.toInt_lt rule; omega)] at hc6
      omega
    refine r_ct xc_72_20 xm_72_20 rfl xrc_63 rfl xhh_72 (M_rateMic hT hl h1 hU hR hr hy hpc) (fun v h1 hP => ?_) (fun x h1 hP => ?_)
    · obtain ⟨x, a', w', e1, e2, e3, hE⟩ := hP.val
      subst e2
      subst e3
      cases hv : rtS (umF A M G) pc ns with
      | inl ci => rw [hv] at e1; cases e1
      | inr m =>
        rw [hv] at e1
        injection e1 with e1
        subst e1
        dsimp only
        generalize rule.toInt.toNat = k at e hlt
        subst e
        have c1 : ∀ x : Int64, x + 1000000 - 1 = x + 999999 := fun x => by
          rw [Int64.sub_eq_add_neg, Int64.add_assoc]
          exact congrArg (x + ·) (by decide)
        refine (r_lsn [_, _, _, _] xc_72_23 rfl rfl (r_iln xc_72_24 rfl (r_ts xc_72_25 (by decide) (by decide) (fun j hj hx => ?_) (fun hx => ?_))))
        · have hj : j < 3 := hj
          have hx : (nI k).toInt = 0 + (j : Int) := hx
          rw [nI_toInt (by omega)] at hx
          match j, hj, hx with
          | 0, _, hx =>
            have : k = 0 := by omega
            subst this
            change p_E _ _ _ 52 _ _ _ _
            refine (r_lln xc_72_52 rfl (r_ldl xc_72_53 xl_72_79 (r_ldiv xc_72_56 (by decide) (r_rl xc_72_57 xrt_72 ?_))))
            exact ⟨a', w', rfl, hE⟩
          | 1, _, hx =>
            have : k = 1 := by omega
            subst this
            change p_E _ _ _ 58 _ _ _ _
            refine (r_lln xc_72_58 rfl (r_ldl xc_72_59 xl_72_87 (r_ladd xc_72_62 (r_ldl xc_72_63 xl_72_79 (r_ldiv xc_72_66 (by decide) (r_rl xc_72_67 xrt_72 ?_))))))
            exact ⟨a', w', rfl, hE⟩
          | 2, _, hx =>
            have : k = 2 := by omega
            subst this
            change p_E _ _ _ 68 _ _ _ _
            refine (r_lln xc_72_68 rfl (r_ldl xc_72_69 xl_72_79 (r_ladd xc_72_72 (r_lc xc_72_73 kl_1 (r_lsub xc_72_74 (r_ldl xc_72_75 xl_72_79 (r_ldiv xc_72_78 (by decide) (r_rl xc_72_79 xrt_72 ?_))))))))
            rw [c1]
            exact ⟨a', w', rfl, hE⟩
        · have hx : (nI k).toInt < 0 ∨ 2 < (nI k).toInt := hx
          rw [nI_toInt (by omega)] at hx
          have : k = 3 := by omega
          subst this
          change p_E _ _ _ 80 _ _ _ _
          refine (r_lln xc_72_80 rfl (r_ldl xc_72_81 xl_72_89 (r_ldiv xc_72_84 (by decide) (r_ldl xc_72_85 xl_72_91 (r_lmul xc_72_88 (r_rl xc_72_89 xrt_72 ?_))))))
          exact ⟨a', w', rfl, hE⟩
    · obtain ⟨ci, a', w', e1, e2, e3, hE⟩ := hP.thr
      subst e2
      subst e3
      cases hv : rtS (umF A M G) pc ns with
      | inl c => rw [hv] at e1; injection e1 with e1; subst e1; exact ⟨a', w', rfl, hE⟩
      | inr m => rw [hv] at e1; cases e1
end VALUE
