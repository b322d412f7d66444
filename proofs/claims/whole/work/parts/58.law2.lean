/-! ===== the law: node, part, missing, print, at, step, count ===== -/
section LAW2
variable {X : pX} {z : Nat → Int32} {a : Nat → Nat → Int32} {w : Nat → Nat → Int64} {y : Nat → Int64} {g : List pE} {k : Nat} {Q : pR → Prop}
theorem out0 {w1 w2 : Nat → Nat → Int64} {x : Int64} (hw : ∀ j, j ≠ 3 → w2 j = u_ w1 4 (vp_updL (w1 4) 0 x) j) : w2 4 (nI 0).toNatClampNeg = x := by
  rw [hw 4 (by omega), show (nI 0).toNatClampNeg = 0 by decide]
  exact ul_s (w1 4) 0 x
theorem LAW_node (hR : REL z a w y) (hk : 5 * k + 5 ≤ X.1) (hX : X.1 ≤ 2560) (K : LW X k Q g) : p_E X 70 144 431 (Ls k) [] (hp z a w y g) Q := by
  obtain ⟨n, ns, mx, r, A, M, G, pc, P, h1, h2, h3, h4, h5⟩ := id hR
  obtain ⟨t1, t2, t3, t4, t5, t6, t7, t8, t9, t10, t11⟩ := id h2
  refine (r_aln xc_144_431 rfl (r_arn xc_144_432 rfl (r_il xc_144_433 rfl (r_ic xc_144_435 kc_1 (r_iadd xc_144_436 (r_xa xc_144_437 ?_ (r_arn xc_144_438 rfl (r_il xc_144_439 rfl (r_ic xc_144_441 kc_2 (r_iadd xc_144_442 (r_xa xc_144_443 ?_ (r_aln xc_144_444 rfl ?_))))))))))))
  · exact xin hk hX (by omega)
  · exact xin hk hX (by omega)
  · generalize hx : X.2 (nI (5 * k) + nI 1).toNatClampNeg = x
    generalize hx2 : X.2 (nI (5 * k) + nI 2).toNatClampNeg = x2
    by_cases hb : (x < nI 0 ∨ ¬ x < nI ns.length) ∨ (x2 < nI 0 ∨ ¬ x2 < nI 6)
    · refine (r_cq xc_144_445 xm_144_445 rfl xrc_73 rfl (p_M.up (M_hNode (o := .inl ()) (M_nodeC_b t4 t2 hb)) (by omega)) (fun v h1 hP => ?_) (fun _ _ h => by first | (obtain ⟨_, he, _⟩ := h; cases he; done) | (obtain ⟨_, he⟩ := h; cases he; done) | (obtain ⟨_, _, he, _⟩ := h; cases he; done) | (obtain ⟨_, _, _, he, _⟩ := h; cases he; done) | (simp only [Prod.mk.injEq, reduceCtorEq, false_and, exists_false] at h)))
      obtain ⟨a1, w1, he, hE⟩ := hP
      cases he
      refine (r_is [_, _, _, _, _, _, _, _] xc_144_448 rfl rfl (r_aln xc_144_450 rfl (r_arn xc_144_451 rfl (r_il xc_144_452 rfl (r_ic xc_144_454 kc_1 (r_iadd xc_144_455 (r_xa xc_144_456 ?_ (r_arn xc_144_457 rfl (r_il xc_144_458 rfl (r_ic xc_144_460 kc_2 (r_iadd xc_144_461 (r_xa xc_144_462 ?_ ?_))))))))))))
      · exact xin hk hX (by omega)
      · exact xin hk hX (by omega)
      · rw [hx, hx2]
        refine (r_cq xc_144_463 xm_144_463 rfl xrc_130 rfl (p_M.up (M_nodeM_b (ns := ns) t5 hb) (by omega)) (fun v h1 hP => ?_) (fun _ _ h => by first | (obtain ⟨_, he, _⟩ := h; cases he; done) | (obtain ⟨_, he⟩ := h; cases he; done) | (obtain ⟨_, _, he, _⟩ := h; cases he; done) | (obtain ⟨_, _, _, he, _⟩ := h; cases he; done) | (simp only [Prod.mk.injEq, reduceCtorEq, false_and, exists_false] at h)))
        obtain ⟨w2, he, hw⟩ := hP
        cases he
        refine (r_is [_, _, _, _, _, _, _, _] xc_144_466 rfl rfl (r_aln xc_144_468 rfl ?_))
        refine (r_cv xc_144_469 xm_144_469 rfl xrc_93 rfl (p_M.up M_thrown (by omega)) (r_il xc_144_472 rfl (r_ceq xc_144_474 xj_144_474 (fun hc474 => (r_il xc_144_479 rfl (r_zne xc_144_481 xj_144_481 (fun hc481 => (r_aln xc_144_484 rfl (r_ic xc_144_485 kc_0 (r_la xc_144_486 b_43 ?_ (r_il xc_144_487 rfl (r_i2l xc_144_489 (r_leq xc_144_490 xc_144_491 xj_144_491 (fun hc491 => (r_go xc_144_496 xj_144_496 ?_)) (fun hc491 => (r_ic xc_144_494 kc_0 (r_rz xc_144_495 xrt_144 ?_ ?_)))))))))) (fun hc481 => (r_go xc_144_496 xj_144_496 ?_))))) (fun hc474 => (r_ic xc_144_477 kc_0 (r_rz xc_144_478 xrt_144 ?_ ?_))))))
        · exact absurd hc481 (by decide)
        · exact absurd hc481 (by decide)
        · exact Or.inl rfl
        · exact absurd hc481 (by decide)
        · exact K _ _ _ _ _ _ _ (hR.ev hE.1 (fun j hj => by rw [hw j (by omega), hE.2 j (by omega)])) (by first | (rw [gM_one]; exact Nat.le_refl _) | omega)
        · exact Or.inl rfl
        · exact absurd rfl hc474
    · obtain ⟨i, hi, rfl⟩ := (ixOr x (n := ns.length) (by omega)).elim (fun h => absurd (Or.inl h) hb) id
      obtain ⟨m, hm, rfl⟩ := (ixOr x2 (n := 6) (by omega)).elim (fun h => absurd (Or.inr h) hb) id
      obtain ⟨v, hv⟩ : ∃ v, ns[i]? = some v := ⟨_, List.getElem?_eq_getElem hi⟩
      refine (r_cq xc_144_445 xm_144_445 rfl xrc_73 rfl (p_M.up (M_hNode (o := .inr (nV i v m)) (M_nodeC t4 t2 t7 hv hm)) (by omega)) (fun v h1 hP => ?_) (fun _ _ h => by first | (obtain ⟨_, he, _⟩ := h; cases he; done) | (obtain ⟨_, he⟩ := h; cases he; done) | (obtain ⟨_, _, he, _⟩ := h; cases he; done) | (obtain ⟨_, _, _, he, _⟩ := h; cases he; done) | (simp only [Prod.mk.injEq, reduceCtorEq, false_and, exists_false] at h)))
      obtain ⟨a1, w1, he, hE⟩ := hP
      cases he
      refine (r_is [_, _, _, _, _, _, _, _] xc_144_448 rfl rfl (r_aln xc_144_450 rfl (r_arn xc_144_451 rfl (r_il xc_144_452 rfl (r_ic xc_144_454 kc_1 (r_iadd xc_144_455 (r_xa xc_144_456 ?_ (r_arn xc_144_457 rfl (r_il xc_144_458 rfl (r_ic xc_144_460 kc_2 (r_iadd xc_144_461 (r_xa xc_144_462 ?_ ?_))))))))))))
      · exact xin hk hX (by omega)
      · exact xin hk hX (by omega)
      · rw [hx, hx2]
        have h2' : R2 z a1 ns mx r := h2.congr rfl rfl rfl rfl (fun j hj => hE.1 j (by omega))
        refine (r_cq xc_144_463 xm_144_463 rfl xrc_130 rfl (p_M.up (M_nodeM t2 t5 h2'.2.2.2.2.2.2.2.1 hv hm) (by omega)) (fun v h1 hP => ?_) (fun _ _ h => by first | (obtain ⟨_, he, _⟩ := h; cases he; done) | (obtain ⟨_, he⟩ := h; cases he; done) | (obtain ⟨_, _, he, _⟩ := h; cases he; done) | (obtain ⟨_, _, _, he, _⟩ := h; cases he; done) | (simp only [Prod.mk.injEq, reduceCtorEq, false_and, exists_false] at h)))
        obtain ⟨w2, he, hw⟩ := hP
        cases he
        refine (r_is [_, _, _, _, _, _, _, _] xc_144_466 rfl rfl (r_aln xc_144_468 rfl ?_))
        refine (r_cv xc_144_469 xm_144_469 rfl xrc_93 rfl (p_M.up M_thrown (by omega)) (r_il xc_144_472 rfl (r_ceq xc_144_474 xj_144_474 (fun hc474 => (r_il xc_144_479 rfl (r_zne xc_144_481 xj_144_481 (fun hc481 => (r_aln xc_144_484 rfl (r_ic xc_144_485 kc_0 (r_la xc_144_486 b_43 ?_ (r_il xc_144_487 rfl (r_i2l xc_144_489 (r_leq xc_144_490 xc_144_491 xj_144_491 (fun hc491 => (r_go xc_144_496 xj_144_496 ?_)) (fun hc491 => (r_ic xc_144_494 kc_0 (r_rz xc_144_495 xrt_144 ?_ ?_)))))))))) (fun hc481 => (r_go xc_144_496 xj_144_496 ?_))))) (fun hc474 => (r_ic xc_144_477 kc_0 (r_rz xc_144_478 xrt_144 ?_ ?_))))))
        · exact kI_in (by omega) (by omega)
        · exact K _ _ _ _ _ _ _ (hR.ev hE.1 (fun j hj => by rw [hw j (by omega), u_n _ _ (by omega), hE.2 j (by omega)])) (by omega)
        · exact Or.inl rfl
        · exact absurd (out0 hw) hc491
        · exact absurd rfl hc481
        · exact Or.inl rfl
        · exact absurd rfl hc474
theorem LAW_part (hR : REL z a w y) (hk : 5 * k + 5 ≤ X.1) (hX : X.1 ≤ 2560) (K : LW X k Q g) : p_E X 70 144 499 (Ls k) [] (hp z a w y g) Q := by
  obtain ⟨n, ns, mx, r, A, M, G, pc, P, h1, h2, h3, h4, h5⟩ := id hR
  obtain ⟨t1, t2, t3, t4, t5, t6, t7, t8, t9, t10, t11⟩ := id h2
  refine (r_aln xc_144_499 rfl (r_arn xc_144_500 rfl (r_il xc_144_501 rfl (r_ic xc_144_503 kc_1 (r_iadd xc_144_504 (r_xa xc_144_505 ?_ (r_aln xc_144_506 rfl ?_)))))))
  · exact xin hk hX (by omega)
  · generalize hx : X.2 (nI (5 * k) + nI 1).toNatClampNeg = x
    rcases ixOr x (n := ns.length) (by omega) with hb | ⟨i, hi, rfl⟩
    · refine (r_cq xc_144_507 xm_144_507 rfl xrc_75 rfl (p_M.up (M_hPart (o := .inl 10) (fun c hc' => by injection hc' with hc'; omega) (M_partC_b t4 hb)) (by omega)) (fun v h1 hP => ?_) (fun _ _ h => by first | (obtain ⟨_, he, _⟩ := h; cases he; done) | (obtain ⟨_, he⟩ := h; cases he; done) | (obtain ⟨_, _, he, _⟩ := h; cases he; done) | (obtain ⟨_, _, _, he, _⟩ := h; cases he; done) | (simp only [Prod.mk.injEq, reduceCtorEq, false_and, exists_false] at h)))
      obtain ⟨a1, w1, he, hE⟩ := hP
      cases he
      refine (r_is [_, _, _, _, _, _, _, _] xc_144_510 rfl rfl (r_aln xc_144_512 rfl (r_arn xc_144_513 rfl (r_il xc_144_514 rfl (r_ic xc_144_516 kc_1 (r_iadd xc_144_517 (r_xa xc_144_518 ?_ ?_)))))))
      · exact xin hk hX (by omega)
      · rw [hx]
        refine (r_cq xc_144_519 xm_144_519 rfl xrc_131 rfl (p_M.up (M_partM_b (ns := ns) t5 hb) (by omega)) (fun v h1 hP => ?_) (fun _ _ h => by first | (obtain ⟨_, he, _⟩ := h; cases he; done) | (obtain ⟨_, he⟩ := h; cases he; done) | (obtain ⟨_, _, he, _⟩ := h; cases he; done) | (obtain ⟨_, _, _, he, _⟩ := h; cases he; done) | (simp only [Prod.mk.injEq, reduceCtorEq, false_and, exists_false] at h)))
        obtain ⟨w2, he, hw⟩ := hP
        cases he
        refine (r_ls [_, _, _, _, _, _, _, _] xc_144_522 rfl rfl (r_aln xc_144_524 rfl ?_))
        refine (r_cv xc_144_525 xm_144_525 rfl xrc_93 rfl (p_M.up M_thrown (by omega)) (r_il xc_144_528 rfl (r_ceq xc_144_530 xj_144_530 (fun hc530 => (r_il xc_144_535 rfl (r_zne xc_144_537 xj_144_537 (fun hc537 => (r_aln xc_144_540 rfl (r_ic xc_144_541 kc_0 (r_la xc_144_542 b_43 ?_ (r_ll xc_144_543 rfl (r_leq xc_144_545 xc_144_546 xj_144_546 (fun hc546 => (r_go xc_144_551 xj_144_551 ?_)) (fun hc546 => (r_ic xc_144_549 kc_0 (r_rz xc_144_550 xrt_144 ?_ ?_))))))))) (fun hc537 => (r_go xc_144_551 xj_144_551 ?_))))) (fun hc530 => (r_ic xc_144_533 kc_0 (r_rz xc_144_534 xrt_144 ?_ ?_))))))
        · exact absurd hc537 (by decide)
        · exact absurd hc537 (by decide)
        · exact Or.inl rfl
        · exact absurd hc537 (by decide)
        · exact K _ _ _ _ _ _ _ (hR.ev hE.1 (fun j hj => by rw [hw j (by omega), hE.2 j (by omega)])) (by first | (rw [gM_one]; exact Nat.le_refl _) | omega)
        · exact Or.inl rfl
        · exact absurd rfl hc530
    · have hT : TW ns := t1.elim (fun h => by rw [h] at hi; simp at hi) id
      cases hv : vj (umF A M G) pc ns i with
      | none =>
        have hC := M_partC (X := X) (g := g) (z := z) (a := a) (w := w) (y := y) hT t2 t4 h3 t7 t6 h4.1 h4.2.2 hi
        rw [hv] at hC
        refine (r_cq xc_144_507 xm_144_507 rfl xrc_75 rfl (p_M.up (M_hPart (o := .inl 9) (fun c hc' => by injection hc' with hc'; omega) hC) (by omega)) (fun v h1 hP => ?_) (fun _ _ h => by first | (obtain ⟨_, he, _⟩ := h; cases he; done) | (obtain ⟨_, he⟩ := h; cases he; done) | (obtain ⟨_, _, he, _⟩ := h; cases he; done) | (obtain ⟨_, _, _, he, _⟩ := h; cases he; done) | (simp only [Prod.mk.injEq, reduceCtorEq, false_and, exists_false] at h)))
        obtain ⟨a1, w1, he, hE⟩ := hP
        cases he
        refine (r_is [_, _, _, _, _, _, _, _] xc_144_510 rfl rfl (r_aln xc_144_512 rfl (r_arn xc_144_513 rfl (r_il xc_144_514 rfl (r_ic xc_144_516 kc_1 (r_iadd xc_144_517 (r_xa xc_144_518 ?_ ?_)))))))
        · exact xin hk hX (by omega)
        · rw [hx]
          have h2' : R2 z a1 ns mx r := h2.congr rfl rfl rfl rfl (fun j hj => hE.1 j (by omega))
          have hM := M_partM (X := X) (z := z) (a := a1) (w := w1) (y := y) (g := g ++ [.inr (9, [])]) (A := A) (M := M) (G := G) (pc := pc) hT t2 t5 h2'.2.2.2.2.2.2.2.1 (h3.congr (fun j hj => hE.1 j (by omega)) (fun j hj => hE.2 j (by omega))) h4.2.2 h4.2.1 hi
          rw [hv] at hM
          refine (r_cq xc_144_519 xm_144_519 rfl xrc_131 rfl (p_M.up hM (by omega)) (fun v h1 hP => ?_) (fun _ _ h => by first | (obtain ⟨_, he, _⟩ := h; cases he; done) | (obtain ⟨_, he⟩ := h; cases he; done) | (obtain ⟨_, _, he, _⟩ := h; cases he; done) | (obtain ⟨_, _, _, he, _⟩ := h; cases he; done) | (simp only [Prod.mk.injEq, reduceCtorEq, false_and, exists_false] at h)))
          obtain ⟨w2, he, hw⟩ := hP
          cases he
          refine (r_ls [_, _, _, _, _, _, _, _] xc_144_522 rfl rfl (r_aln xc_144_524 rfl ?_))
          refine (r_cv xc_144_525 xm_144_525 rfl xrc_93 rfl (p_M.up M_thrown (by omega)) (r_il xc_144_528 rfl (r_ceq xc_144_530 xj_144_530 (fun hc530 => (r_il xc_144_535 rfl (r_zne xc_144_537 xj_144_537 (fun hc537 => (r_aln xc_144_540 rfl (r_ic xc_144_541 kc_0 (r_la xc_144_542 b_43 ?_ (r_ll xc_144_543 rfl (r_leq xc_144_545 xc_144_546 xj_144_546 (fun hc546 => (r_go xc_144_551 xj_144_551 ?_)) (fun hc546 => (r_ic xc_144_549 kc_0 (r_rz xc_144_550 xrt_144 ?_ ?_))))))))) (fun hc537 => (r_go xc_144_551 xj_144_551 ?_))))) (fun hc530 => (r_ic xc_144_533 kc_0 (r_rz xc_144_534 xrt_144 ?_ ?_))))))
          · exact absurd hc537 (by decide)
          · exact absurd hc537 (by decide)
          · exact Or.inl rfl
          · exact absurd hc537 (by decide)
          · exact K _ _ _ _ _ _ _ (hR.ev hE.1 (fun j hj => by rw [hw j (by omega), hE.2 j (by omega)])) (by first | (rw [gM_one]; exact Nat.le_refl _) | omega)
          · exact Or.inl rfl
          · exact absurd rfl hc530
      | some u =>
        have hC := M_partC (X := X) (g := g) (z := z) (a := a) (w := w) (y := y) hT t2 t4 h3 t7 t6 h4.1 h4.2.2 hi
        rw [hv] at hC
        refine (r_cq xc_144_507 xm_144_507 rfl xrc_75 rfl (p_M.up (M_hPart (o := .inr u) (fun c hc' => by cases hc') hC) (by omega)) (fun v h1 hP => ?_) (fun _ _ h => by first | (obtain ⟨_, he, _⟩ := h; cases he; done) | (obtain ⟨_, he⟩ := h; cases he; done) | (obtain ⟨_, _, he, _⟩ := h; cases he; done) | (obtain ⟨_, _, _, he, _⟩ := h; cases he; done) | (simp only [Prod.mk.injEq, reduceCtorEq, false_and, exists_false] at h)))
        obtain ⟨a1, w1, he, hE⟩ := hP
        cases he
        refine (r_is [_, _, _, _, _, _, _, _] xc_144_510 rfl rfl (r_aln xc_144_512 rfl (r_arn xc_144_513 rfl (r_il xc_144_514 rfl (r_ic xc_144_516 kc_1 (r_iadd xc_144_517 (r_xa xc_144_518 ?_ ?_)))))))
        · exact xin hk hX (by omega)
        · rw [hx]
          have h2' : R2 z a1 ns mx r := h2.congr rfl rfl rfl rfl (fun j hj => hE.1 j (by omega))
          have hM := M_partM (X := X) (z := z) (a := a1) (w := u_ w1 4 (vp_updL (w1 4) 0 u)) (y := y) (g := g) (A := A) (M := M) (G := G) (pc := pc) hT t2 t5 h2'.2.2.2.2.2.2.2.1 (h3.congr (fun j hj => hE.1 j (by omega)) (fun j hj => by rw [u_n _ _ (by omega)]; exact hE.2 j (by omega))) h4.2.2 h4.2.1 hi
          rw [hv] at hM
          refine (r_cq xc_144_519 xm_144_519 rfl xrc_131 rfl (p_M.up hM (by omega)) (fun v h1 hP => ?_) (fun _ _ h => by first | (obtain ⟨_, he, _⟩ := h; cases he; done) | (obtain ⟨_, he⟩ := h; cases he; done) | (obtain ⟨_, _, he, _⟩ := h; cases he; done) | (obtain ⟨_, _, _, he, _⟩ := h; cases he; done) | (simp only [Prod.mk.injEq, reduceCtorEq, false_and, exists_false] at h)))
          obtain ⟨w2, he, hw⟩ := hP
          cases he
          refine (r_ls [_, _, _, _, _, _, _, _] xc_144_522 rfl rfl (r_aln xc_144_524 rfl ?_))
          refine (r_cv xc_144_525 xm_144_525 rfl xrc_93 rfl (p_M.up M_thrown (by omega)) (r_il xc_144_528 rfl (r_ceq xc_144_530 xj_144_530 (fun hc530 => (r_il xc_144_535 rfl (r_zne xc_144_537 xj_144_537 (fun hc537 => (r_aln xc_144_540 rfl (r_ic xc_144_541 kc_0 (r_la xc_144_542 b_43 ?_ (r_ll xc_144_543 rfl (r_leq xc_144_545 xc_144_546 xj_144_546 (fun hc546 => (r_go xc_144_551 xj_144_551 ?_)) (fun hc546 => (r_ic xc_144_549 kc_0 (r_rz xc_144_550 xrt_144 ?_ ?_))))))))) (fun hc537 => (r_go xc_144_551 xj_144_551 ?_))))) (fun hc530 => (r_ic xc_144_533 kc_0 (r_rz xc_144_534 xrt_144 ?_ ?_))))))
          · exact kI_in (by omega) (by omega)
          · exact K _ _ _ _ _ _ _ (hR.ev hE.1 (fun j hj => by rw [hw j (by omega), u_n _ _ (by omega), hE.2 j (by omega)])) (by omega)
          · exact Or.inl rfl
          · exact absurd (out0 hw) hc546
          · exact absurd rfl hc537
          · exact Or.inl rfl
          · exact absurd rfl hc530
theorem vOK {ns : List pN} (h : ns = [] ∨ TW ns) : ∀ v ∈ ns, v.2.2.1 ≤ 8 ∧ v.1 < 8 := by
  rcases h with rfl | h
  · intro v hv; simp at hv
  · exact TW_unit h
theorem LAW_miss (hR : REL z a w y) (hk : 5 * k + 5 ≤ X.1) (hX : X.1 ≤ 2560) (K : LW X k Q g) : p_E X 70 144 554 (Ls k) [] (hp z a w y g) Q := by
  obtain ⟨n, ns, mx, r, A, M, G, pc, P, h1, h2, h3, h4, h5⟩ := id hR
  obtain ⟨t1, t2, t3, t4, t5, t6, t7, t8, t9, t10, t11⟩ := id h2
  refine (r_aln xc_144_554 rfl (r_arn xc_144_555 rfl (r_il xc_144_556 rfl (r_ic xc_144_558 kc_1 (r_iadd xc_144_559 (r_xa xc_144_560 ?_ ?_))))))
  · exact xin hk hX (by omega)
  · generalize hx : X.2 (nI (5 * k) + nI 1).toNatClampNeg = x
    refine (r_cv xc_144_561 xm_144_561 rfl xrc_56 rfl (p_M.up (M_missC (i := x) h3 t7 (vOK t1) t4 t2) (by omega)) (r_aln xc_144_564 rfl (r_arn xc_144_565 rfl (r_il xc_144_566 rfl (r_ic xc_144_568 kc_1 (r_iadd xc_144_569 (r_xa xc_144_570 ?_ ?_)))))))
    · exact xin hk hX (by omega)
    · rw [hx]
      refine (r_cv xc_144_571 xm_144_571 rfl xrc_132 rfl (p_M.up (M_missM (i := x) h3 t8 (vOK t1) t5 t2) (by omega)) (r_ceq xc_144_574 xj_144_574 (fun hc574 => ?_) (fun hc574 => (r_ic xc_144_577 kc_0 (r_rz xc_144_578 xrt_144 ?_ ?_)))))
      · exact K _ _ _ _ _ _ _ hR.z10 (by omega)
      · exact Or.inl rfl
      · exact absurd rfl hc574
theorem LAW_print (hR : REL z a w y) (K : LW X k Q g) : p_E X 70 144 579 (Ls k) [] (hp z a w y g) Q := by
  obtain ⟨n, ns, mx, r, A, M, G, pc, P, h1, h2, h3, h4, h5⟩ := id hR
  obtain ⟨t1, t2, t3, t4, t5, t6, t7, t8, t9, t10, t11⟩ := id h2
  refine (r_aln xc_144_579 rfl (r_aln xc_144_580 rfl ?_))
  by_cases hn : ns = []
  · refine (r_cv xc_144_581 xm_144_581 rfl xrc_77 rfl ((p_mono (M_hPrint t1 t2 t4 t7 t6 t3) (fun q hq => hq.1 hn))) (r_is [_, _, _, _, _, _, _, _] xc_144_584 rfl rfl (r_aln xc_144_586 rfl ?_)))
    refine (r_cv xc_144_587 xm_144_587 rfl xrc_133 rfl (p_M.up (p_mono (M_printM (z := z) t1 t2 t5 t8 t3) (fun q hq => hq.1 hn)) (by omega)) (r_is [_, _, _, _, _, _, _, _] xc_144_590 rfl rfl (r_aln xc_144_592 rfl ?_)))
    refine (r_cv xc_144_593 xm_144_593 rfl xrc_93 rfl (p_M.up M_thrown (by omega)) (r_il xc_144_596 rfl (r_ceq xc_144_598 xj_144_598 (fun hc598 => (r_il xc_144_603 rfl (r_zne xc_144_605 xj_144_605 (fun hc605 => (r_aln xc_144_608 rfl (r_ic xc_144_609 kc_0 (r_la xc_144_610 b_43 ?_ (r_il xc_144_611 rfl (r_i2l xc_144_613 (r_leq xc_144_614 xc_144_615 xj_144_615 (fun hc615 => (r_go xc_144_620 xj_144_620 ?_)) (fun hc615 => (r_ic xc_144_618 kc_0 (r_rz xc_144_619 xrt_144 ?_ ?_)))))))))) (fun hc605 => (r_go xc_144_620 xj_144_620 ?_))))) (fun hc598 => (r_ic xc_144_601 kc_0 (r_rz xc_144_602 xrt_144 ?_ ?_))))))
    · exact absurd hc605 (by decide)
    · exact absurd hc605 (by decide)
    · exact Or.inl rfl
    · exact absurd hc605 (by decide)
    · exact K _ _ _ _ _ _ _ hR.z10 (by first | (rw [gM_one]; exact Nat.le_refl _) | omega)
    · exact Or.inl rfl
    · exact absurd rfl hc598
  · refine (r_cv xc_144_581 xm_144_581 rfl xrc_77 rfl ((p_mono (M_hPrint t1 t2 t4 t7 t6 t3) (fun q hq => hq.2 hn))) (r_is [_, _, _, _, _, _, _, _] xc_144_584 rfl rfl (r_aln xc_144_586 rfl ?_)))
    refine (r_cq xc_144_587 xm_144_587 rfl xrc_133 rfl (p_M.up (p_mono (M_printM (a := u_ a 13 (apF (a 13) 0 (PR ns))) (z := u_ z 6 (nI (0 + (PR ns).length))) t1 t2 t5 (fun k v hk => t8 k v hk) t3) (fun q hq => hq.2 hn)) (by omega)) (fun v h1 hP => ?_) (fun _ _ h => by first | (obtain ⟨_, he, _⟩ := h; cases he; done) | (obtain ⟨_, he⟩ := h; cases he; done) | (obtain ⟨_, _, he, _⟩ := h; cases he; done) | (obtain ⟨_, _, _, he, _⟩ := h; cases he; done) | (simp only [Prod.mk.injEq, reduceCtorEq, false_and, exists_false] at h)))
    obtain ⟨b', he, e1, e2⟩ := hP
    cases he
    refine (r_is [_, _, _, _, _, _, _, _] xc_144_590 rfl rfl (r_aln xc_144_592 rfl ?_))
    refine (r_cv xc_144_593 xm_144_593 rfl xrc_93 rfl (p_M.up M_thrown (by omega)) (r_il xc_144_596 rfl (r_ceq xc_144_598 xj_144_598 (fun hc598 => (r_il xc_144_603 rfl (r_zne xc_144_605 xj_144_605 (fun hc605 => (r_aln xc_144_608 rfl (r_ic xc_144_609 kc_0 (r_la xc_144_610 b_43 ?_ (r_il xc_144_611 rfl (r_i2l xc_144_613 (r_leq xc_144_614 xc_144_615 xj_144_615 (fun hc615 => (r_go xc_144_620 xj_144_620 ?_)) (fun hc615 => (r_ic xc_144_618 kc_0 (r_rz xc_144_619 xrt_144 ?_ ?_)))))))))) (fun hc605 => (r_go xc_144_620 xj_144_620 ?_))))) (fun hc598 => (r_ic xc_144_601 kc_0 (r_rz xc_144_602 xrt_144 ?_ ?_))))))
    · exact kI_in (by omega) (by omega)
    · refine K _ _ _ _ _ _ _ ⟨n, ns, mx, r, A, M, G, pc, PR ns, h1.congr rfl rfl (e1 9 (by omega) (by omega)) (e1 14 (by omega) (by omega)), h2.congr rfl rfl rfl rfl (fun j hj => by rw [e1 j (by omega) (by omega), u_n _ _ (by omega)]), h3.congr (fun j hj => by rw [e1 j (by omega) (by omega), u_n _ _ (by omega)]) (fun j hj => u_n _ _ (by omega)), h4, ⟨?_, rfl, t3, fun i c hic => ⟨?_, ?_⟩⟩⟩ (by omega)
      · show nI (0 + (PR ns).length) = _
        rw [Nat.zero_add]
      · rw [e1 13 (by omega) (by omega)]
        exact apF_at hic
      · rw [e2]
        exact apF_at hic
    · exact Or.inl rfl
    · refine absurd ?_ hc615
      rw [kI_i2l (by omega), show (nI 0).toNatClampNeg = 0 by decide]
      exact ul_s (w 4) 0 _
    · exact absurd rfl hc605
    · exact Or.inl rfl
    · exact absurd rfl hc598
theorem LAW_at (hR : REL z a w y) (hk : 5 * k + 5 ≤ X.1) (hX : X.1 ≤ 2560) (K : LW X k Q g) : p_E X 70 144 623 (Ls k) [] (hp z a w y g) Q := by
  obtain ⟨n, ns, mx, r, A, M, G, pc, P, h1, h2, h3, h4, h5⟩ := id hR
  obtain ⟨p6, p17, p9, pP⟩ := id h5
  refine (r_aln xc_144_623 rfl (r_arn xc_144_624 rfl (r_il xc_144_625 rfl (r_ic xc_144_627 kc_1 (r_iadd xc_144_628 (r_xa xc_144_629 ?_ (r_aln xc_144_630 rfl ?_)))))))
  · exact xin hk hX (by omega)
  · generalize hx : X.2 (nI (5 * k) + nI 1).toNatClampNeg = x
    rcases ixOr x (n := P.length) (by omega) with hb | ⟨i, hi, rfl⟩
    · refine (r_cq xc_144_631 xm_144_631 rfl xrc_88 rfl (p_M.up (M_hAt (o := .inl ()) (M_atC_b p6 hb)) (by omega)) (fun v h1 hP => ?_) (fun _ _ h => by first | (obtain ⟨_, he, _⟩ := h; cases he; done) | (obtain ⟨_, he⟩ := h; cases he; done) | (obtain ⟨_, _, he, _⟩ := h; cases he; done) | (obtain ⟨_, _, _, he, _⟩ := h; cases he; done) | (simp only [Prod.mk.injEq, reduceCtorEq, false_and, exists_false] at h)))
      obtain ⟨a1, w1, he, hE⟩ := hP
      cases he
      refine (r_is [_, _, _, _, _, _, _, _] xc_144_634 rfl rfl (r_aln xc_144_636 rfl (r_arn xc_144_637 rfl (r_il xc_144_638 rfl (r_ic xc_144_640 kc_1 (r_iadd xc_144_641 (r_xa xc_144_642 ?_ ?_)))))))
      · exact xin hk hX (by omega)
      · rw [hx]
        refine (r_cq xc_144_643 xm_144_643 rfl xrc_141 rfl (p_M.up (M_atM_b p17 hb) (by omega)) (fun v h1 hP => ?_) (fun _ _ h => by first | (obtain ⟨_, he, _⟩ := h; cases he; done) | (obtain ⟨_, he⟩ := h; cases he; done) | (obtain ⟨_, _, he, _⟩ := h; cases he; done) | (obtain ⟨_, _, _, he, _⟩ := h; cases he; done) | (simp only [Prod.mk.injEq, reduceCtorEq, false_and, exists_false] at h)))
        obtain ⟨w2, he, hw⟩ := hP
        cases he
        refine (r_is [_, _, _, _, _, _, _, _] xc_144_646 rfl rfl (r_aln xc_144_648 rfl ?_))
        refine (r_cv xc_144_649 xm_144_649 rfl xrc_93 rfl (p_M.up M_thrown (by omega)) (r_il xc_144_652 rfl (r_ceq xc_144_654 xj_144_654 (fun hc654 => (r_il xc_144_659 rfl (r_zne xc_144_661 xj_144_661 (fun hc661 => (r_aln xc_144_664 rfl (r_ic xc_144_665 kc_0 (r_la xc_144_666 b_43 ?_ (r_il xc_144_667 rfl (r_i2l xc_144_669 (r_leq xc_144_670 xc_144_671 xj_144_671 (fun hc671 => (r_go xc_144_676 xj_144_676 ?_)) (fun hc671 => (r_ic xc_144_674 kc_0 (r_rz xc_144_675 xrt_144 ?_ ?_)))))))))) (fun hc661 => (r_go xc_144_676 xj_144_676 ?_))))) (fun hc654 => (r_ic xc_144_657 kc_0 (r_rz xc_144_658 xrt_144 ?_ ?_))))))
        · exact absurd hc661 (by decide)
        · exact absurd hc661 (by decide)
        · exact Or.inl rfl
        · exact absurd hc661 (by decide)
        · exact K _ _ _ _ _ _ _ (hR.ev hE.1 (fun j hj => by rw [hw j (by omega), hE.2 j (by omega)])) (by first | (rw [gM_one]; exact Nat.le_refl _) | omega)
        · exact Or.inl rfl
        · exact absurd rfl hc654
    · obtain ⟨c, hc'⟩ : ∃ c, P[i]? = some c := ⟨_, List.getElem?_eq_getElem hi⟩
      obtain ⟨v13, v31⟩ := pP i c hc'
      have hC := M_atC (X := X) (z := z) (a := a) (w := w) (y := y) (g := g) p6 p9 hi
      rw [v13] at hC
      refine (r_cq xc_144_631 xm_144_631 rfl xrc_88 rfl (p_M.up (M_hAt (o := .inr (nI c)) hC) (by omega)) (fun v h1 hP => ?_) (fun _ _ h => by first | (obtain ⟨_, he, _⟩ := h; cases he; done) | (obtain ⟨_, he⟩ := h; cases he; done) | (obtain ⟨_, _, he, _⟩ := h; cases he; done) | (obtain ⟨_, _, _, he, _⟩ := h; cases he; done) | (simp only [Prod.mk.injEq, reduceCtorEq, false_and, exists_false] at h)))
      obtain ⟨a1, w1, he, hE⟩ := hP
      cases he
      refine (r_is [_, _, _, _, _, _, _, _] xc_144_634 rfl rfl (r_aln xc_144_636 rfl (r_arn xc_144_637 rfl (r_il xc_144_638 rfl (r_ic xc_144_640 kc_1 (r_iadd xc_144_641 (r_xa xc_144_642 ?_ ?_)))))))
      · exact xin hk hX (by omega)
      · rw [hx]
        have hM := M_atM (X := X) (z := z) (a := a1) (w := u_ w1 4 (vp_updL (w1 4) 0 (nI c).toInt64)) (y := y) (g := g) p17 p9 hi
        rw [hE.1 31 (by omega), v31] at hM
        refine (r_cq xc_144_643 xm_144_643 rfl xrc_141 rfl (p_M.up hM (by omega)) (fun v h1 hP => ?_) (fun _ _ h => by first | (obtain ⟨_, he, _⟩ := h; cases he; done) | (obtain ⟨_, he⟩ := h; cases he; done) | (obtain ⟨_, _, he, _⟩ := h; cases he; done) | (obtain ⟨_, _, _, he, _⟩ := h; cases he; done) | (simp only [Prod.mk.injEq, reduceCtorEq, false_and, exists_false] at h)))
        obtain ⟨w2, he, hw⟩ := hP
        cases he
        refine (r_is [_, _, _, _, _, _, _, _] xc_144_646 rfl rfl (r_aln xc_144_648 rfl ?_))
        refine (r_cv xc_144_649 xm_144_649 rfl xrc_93 rfl (p_M.up M_thrown (by omega)) (r_il xc_144_652 rfl (r_ceq xc_144_654 xj_144_654 (fun hc654 => (r_il xc_144_659 rfl (r_zne xc_144_661 xj_144_661 (fun hc661 => (r_aln xc_144_664 rfl (r_ic xc_144_665 kc_0 (r_la xc_144_666 b_43 ?_ (r_il xc_144_667 rfl (r_i2l xc_144_669 (r_leq xc_144_670 xc_144_671 xj_144_671 (fun hc671 => (r_go xc_144_676 xj_144_676 ?_)) (fun hc671 => (r_ic xc_144_674 kc_0 (r_rz xc_144_675 xrt_144 ?_ ?_)))))))))) (fun hc661 => (r_go xc_144_676 xj_144_676 ?_))))) (fun hc654 => (r_ic xc_144_657 kc_0 (r_rz xc_144_658 xrt_144 ?_ ?_))))))
        · exact kI_in (by omega) (by omega)
        · exact K _ _ _ _ _ _ _ (hR.ev hE.1 (fun j hj => by rw [hw j (by omega), u_n _ _ (by omega), hE.2 j (by omega)])) (by omega)
        · exact Or.inl rfl
        · exact absurd (out0 hw) hc671
        · exact absurd rfl hc661
        · exact Or.inl rfl
        · exact absurd rfl hc654
theorem stS_ci {e p : Int64} {ci : Nat} (h : stS e p = .inl ci) : ci = 7 ∨ ci = 11 := by
  unfold stS at h
  split at h
  · injection h with h; omega
  · split at h
    · injection h with h; omega
    · cases h
theorem LAW_step (hR : REL z a w y) (hk : 5 * k + 5 ≤ X.1) (hX : X.1 ≤ 2560) (K : LW X k Q g) : p_E X 70 144 679 (Ls k) [] (hp z a w y g) Q := by
  refine (r_aln xc_144_679 rfl (r_arn xc_144_680 rfl (r_il xc_144_681 rfl (r_ic xc_144_683 kc_1 (r_iadd xc_144_684 (r_xa xc_144_685 ?_ (r_i2l xc_144_686 (r_bi xc_144_687 kb_32 (r_lshl xc_144_689 (r_arn xc_144_690 rfl (r_il xc_144_691 rfl (r_ic xc_144_693 kc_2 (r_iadd xc_144_694 (r_xa xc_144_695 ?_ (r_i2l xc_144_696 (r_ldl xc_144_697 xl_144_58 (r_land xc_144_700 (r_lor xc_144_701 (r_arn xc_144_702 rfl (r_il xc_144_703 rfl (r_ic xc_144_705 kc_3 (r_iadd xc_144_706 (r_xa xc_144_707 ?_ (r_i2l xc_144_708 (r_bi xc_144_709 kb_32 (r_lshl xc_144_711 (r_arn xc_144_712 rfl (r_il xc_144_713 rfl (r_ic xc_144_715 kc_4 (r_iadd xc_144_716 (r_xa xc_144_717 ?_ (r_i2l xc_144_718 (r_ldl xc_144_719 xl_144_58 (r_land xc_144_722 (r_lor xc_144_723 (r_aln xc_144_724 rfl ?_))))))))))))))))))))))))))))))))))))
  · exact xin hk hX (by omega)
  · exact xin hk hX (by omega)
  · exact xin hk hX (by omega)
  · exact xin hk hX (by omega)
  · generalize hx : (X.2 (nI (5 * k) + nI 1).toNatClampNeg).toInt64 <<< ((nI 32).toInt64 &&& 63) ||| (X.2 (nI (5 * k) + nI 2).toNatClampNeg).toInt64 &&& 4294967295 = x
    generalize hx2 : (X.2 (nI (5 * k) + nI 3).toNatClampNeg).toInt64 <<< ((nI 32).toInt64 &&& 63) ||| (X.2 (nI (5 * k) + nI 4).toNatClampNeg).toInt64 &&& 4294967295 = x2
    cases hv : stS x x2 with
    | inl ci =>
      have hci := stS_ci hv
      have hC := M_stepC (X := X) (z := z) (a := a) (w := w) (y := y) (g := g) (e := x) (p := x2)
      rw [hv] at hC
      refine (r_cq xc_144_725 xm_144_725 rfl xrc_90 rfl (p_M.up (M_hStep (o := .inl ci) (fun c hc' => by injection hc' with hc'; subst hc'; exact hci) hC) (by omega)) (fun v h1 hP => ?_) (fun _ _ h => by first | (obtain ⟨_, he, _⟩ := h; cases he; done) | (obtain ⟨_, he⟩ := h; cases he; done) | (obtain ⟨_, _, he, _⟩ := h; cases he; done) | (obtain ⟨_, _, _, he, _⟩ := h; cases he; done) | (simp only [Prod.mk.injEq, reduceCtorEq, false_and, exists_false] at h)))
      obtain ⟨a1, w1, he, hE⟩ := hP
      cases he
      refine (r_is [_, _, _, _, _, _, _, _] xc_144_728 rfl rfl (r_aln xc_144_730 rfl (r_arn xc_144_731 rfl (r_il xc_144_732 rfl (r_ic xc_144_734 kc_1 (r_iadd xc_144_735 (r_xa xc_144_736 ?_ (r_i2l xc_144_737 (r_bi xc_144_738 kb_32 (r_lshl xc_144_740 (r_arn xc_144_741 rfl (r_il xc_144_742 rfl (r_ic xc_144_744 kc_2 (r_iadd xc_144_745 (r_xa xc_144_746 ?_ (r_i2l xc_144_747 (r_ldl xc_144_748 xl_144_58 (r_land xc_144_751 (r_lor xc_144_752 (r_arn xc_144_753 rfl (r_il xc_144_754 rfl (r_ic xc_144_756 kc_3 (r_iadd xc_144_757 (r_xa xc_144_758 ?_ (r_i2l xc_144_759 (r_bi xc_144_760 kb_32 (r_lshl xc_144_762 (r_arn xc_144_763 rfl (r_il xc_144_764 rfl (r_ic xc_144_766 kc_4 (r_iadd xc_144_767 (r_xa xc_144_768 ?_ (r_i2l xc_144_769 (r_ldl xc_144_770 xl_144_58 (r_land xc_144_773 (r_lor xc_144_774 ?_))))))))))))))))))))))))))))))))))))
      · exact xin hk hX (by omega)
      · exact xin hk hX (by omega)
      · exact xin hk hX (by omega)
      · exact xin hk hX (by omega)
      · rw [hx, hx2]
        have hM := M_stepM (X := X) (z := z) (a := a1) (w := w1) (y := y) (g := g ++ [.inr (ci, [])]) (e := x) (p := x2)
        rw [hv] at hM
        refine (r_cq xc_144_775 xm_144_775 rfl xrc_142 rfl (p_M.up hM (by omega)) (fun v h1 hP => ?_) (fun _ _ h => by first | (obtain ⟨_, he, _⟩ := h; cases he; done) | (obtain ⟨_, he⟩ := h; cases he; done) | (obtain ⟨_, _, he, _⟩ := h; cases he; done) | (obtain ⟨_, _, _, he, _⟩ := h; cases he; done) | (simp only [Prod.mk.injEq, reduceCtorEq, false_and, exists_false] at h)))
        obtain ⟨w2, he, hw⟩ := hP
        cases he
        have hne : ¬ nI (if ci = 7 then 1 else 2) = nI 0 := by split <;> decide
        refine (r_ls [_, _, _, _, _, _, _, _] xc_144_778 rfl rfl (r_aln xc_144_780 rfl ?_))
        refine (r_cv xc_144_781 xm_144_781 rfl xrc_93 rfl (p_M.up M_thrown (by omega)) (r_il xc_144_784 rfl (r_ceq xc_144_786 xj_144_786 (fun hc786 => (r_il xc_144_791 rfl (r_zne xc_144_793 xj_144_793 (fun hc793 => (r_aln xc_144_796 rfl (r_ic xc_144_797 kc_0 (r_la xc_144_798 b_43 ?_ (r_ll xc_144_799 rfl (r_leq xc_144_801 xc_144_802 xj_144_802 (fun hc802 => (r_go xc_144_807 xj_144_807 ?_)) (fun hc802 => (r_ic xc_144_805 kc_0 (r_rz xc_144_806 xrt_144 ?_ ?_))))))))) (fun hc793 => (r_go xc_144_807 xj_144_807 ?_))))) (fun hc786 => (r_ic xc_144_789 kc_0 (r_rz xc_144_790 xrt_144 ?_ ?_))))))
        · exact absurd hc793 hne
        · exact absurd hc793 hne
        · exact Or.inl rfl
        · exact absurd hc793 hne
        · exact K _ _ _ _ _ _ _ (hR.ev hE.1 (fun j hj => by rw [hw j (by omega), hE.2 j (by omega)])) (by first | (rw [gM_one]; exact Nat.le_refl _) | omega)
        · exact Or.inl rfl
        · exact absurd rfl hc786
    | inr u =>
      have hC := M_stepC (X := X) (z := z) (a := a) (w := w) (y := y) (g := g) (e := x) (p := x2)
      rw [hv] at hC
      refine (r_cq xc_144_725 xm_144_725 rfl xrc_90 rfl (p_M.up (M_hStep (o := .inr u) (fun c hc' => by cases hc') hC) (by omega)) (fun v h1 hP => ?_) (fun _ _ h => by first | (obtain ⟨_, he, _⟩ := h; cases he; done) | (obtain ⟨_, he⟩ := h; cases he; done) | (obtain ⟨_, _, he, _⟩ := h; cases he; done) | (obtain ⟨_, _, _, he, _⟩ := h; cases he; done) | (simp only [Prod.mk.injEq, reduceCtorEq, false_and, exists_false] at h)))
      obtain ⟨a1, w1, he, hE⟩ := hP
      cases he
      refine (r_is [_, _, _, _, _, _, _, _] xc_144_728 rfl rfl (r_aln xc_144_730 rfl (r_arn xc_144_731 rfl (r_il xc_144_732 rfl (r_ic xc_144_734 kc_1 (r_iadd xc_144_735 (r_xa xc_144_736 ?_ (r_i2l xc_144_737 (r_bi xc_144_738 kb_32 (r_lshl xc_144_740 (r_arn xc_144_741 rfl (r_il xc_144_742 rfl (r_ic xc_144_744 kc_2 (r_iadd xc_144_745 (r_xa xc_144_746 ?_ (r_i2l xc_144_747 (r_ldl xc_144_748 xl_144_58 (r_land xc_144_751 (r_lor xc_144_752 (r_arn xc_144_753 rfl (r_il xc_144_754 rfl (r_ic xc_144_756 kc_3 (r_iadd xc_144_757 (r_xa xc_144_758 ?_ (r_i2l xc_144_759 (r_bi xc_144_760 kb_32 (r_lshl xc_144_762 (r_arn xc_144_763 rfl (r_il xc_144_764 rfl (r_ic xc_144_766 kc_4 (r_iadd xc_144_767 (r_xa xc_144_768 ?_ (r_i2l xc_144_769 (r_ldl xc_144_770 xl_144_58 (r_land xc_144_773 (r_lor xc_144_774 ?_))))))))))))))))))))))))))))))))))))
      · exact xin hk hX (by omega)
      · exact xin hk hX (by omega)
      · exact xin hk hX (by omega)
      · exact xin hk hX (by omega)
      · rw [hx, hx2]
        have hM := M_stepM (X := X) (z := z) (a := a1) (w := u_ w1 4 (vp_updL (w1 4) 0 u)) (y := y) (g := g) (e := x) (p := x2)
        rw [hv] at hM
        refine (r_cq xc_144_775 xm_144_775 rfl xrc_142 rfl (p_M.up hM (by omega)) (fun v h1 hP => ?_) (fun _ _ h => by first | (obtain ⟨_, he, _⟩ := h; cases he; done) | (obtain ⟨_, he⟩ := h; cases he; done) | (obtain ⟨_, _, he, _⟩ := h; cases he; done) | (obtain ⟨_, _, _, he, _⟩ := h; cases he; done) | (simp only [Prod.mk.injEq, reduceCtorEq, false_and, exists_false] at h)))
        obtain ⟨w2, he, hw⟩ := hP
        cases he
        refine (r_ls [_, _, _, _, _, _, _, _] xc_144_778 rfl rfl (r_aln xc_144_780 rfl ?_))
        refine (r_cv xc_144_781 xm_144_781 rfl xrc_93 rfl (p_M.up M_thrown (by omega)) (r_il xc_144_784 rfl (r_ceq xc_144_786 xj_144_786 (fun hc786 => (r_il xc_144_791 rfl (r_zne xc_144_793 xj_144_793 (fun hc793 => (r_aln xc_144_796 rfl (r_ic xc_144_797 kc_0 (r_la xc_144_798 b_43 ?_ (r_ll xc_144_799 rfl (r_leq xc_144_801 xc_144_802 xj_144_802 (fun hc802 => (r_go xc_144_807 xj_144_807 ?_)) (fun hc802 => (r_ic xc_144_805 kc_0 (r_rz xc_144_806 xrt_144 ?_ ?_))))))))) (fun hc793 => (r_go xc_144_807 xj_144_807 ?_))))) (fun hc786 => (r_ic xc_144_789 kc_0 (r_rz xc_144_790 xrt_144 ?_ ?_))))))
        · exact kI_in (by omega) (by omega)
        · exact K _ _ _ _ _ _ _ (hR.ev hE.1 (fun j hj => by rw [hw j (by omega), u_n _ _ (by omega), hE.2 j (by omega)])) (by omega)
        · exact Or.inl rfl
        · exact absurd (out0 hw) hc802
        · exact absurd rfl hc793
        · exact Or.inl rfl
        · exact absurd rfl hc786
def cnV (z : Nat → Int32) (x : Int32) : Int32 := if x = nI 0 then z 3 else if x = nI 1 then z 1 else if x = nI 2 then z 6 else if x = nI 3 then z 2 else -1
theorem cn_x {x : Int32} {j : Nat} (hj : j < 4) (hx : x.toInt = 0 + (j : Int)) : x = nI j := by
  rw [← Int32.toInt_inj, nI_toInt (by omega)]; omega
theorem cn_d {x : Int32} (hx : x.toInt < 0 ∨ 3 < x.toInt) : ∀ j, j < 4 → ¬ x = nI j := by
  intro j hj h
  rw [h, nI_toInt (by omega)] at hx
  omega
theorem M_countC {x : Int32} : p_M X 0 60 [.ref 0, .int x] (hp z a w y g) (fun q => q = (.inl (some (.int (cnV z x))), hp z a w y g)) := by
  refine (r_in xin_60 (r_iln xc_60_0 rfl (r_ts xc_60_1 (by decide) (by decide) (fun j hj hx => ?_) (fun hx => ?_))))
  · have hj : j < 4 := hj
    have hx : x.toInt = 0 + (j : Int) := hx
    have e := cn_x hj hx
    subst e
    match j, hj with
    | 0, _ =>
      change p_E _ _ _ 32 _ _ _ _
      refine (r_aln xc_60_32 rfl (r_get xc_60_33 xf_60_21 g_5_1 (r_get xc_60_36 xf_60_166 g_1_2 (r_ri xc_60_39 xrt_60 ?_))))
      rfl
    | 1, _ =>
      change p_E _ _ _ 40 _ _ _ _
      refine (r_aln xc_60_40 rfl (r_get xc_60_41 xf_60_12 g_5_0 (r_get xc_60_44 xf_60_134 g_2_10 (r_ri xc_60_47 xrt_60 ?_))))
      rfl
    | 2, _ =>
      change p_E _ _ _ 48 _ _ _ _
      refine (r_aln xc_60_48 rfl (r_get xc_60_49 xf_60_42 g_5_4 (r_get xc_60_52 xf_60_147 g_0_1 (r_ri xc_60_55 xrt_60 ?_))))
      rfl
    | 3, _ =>
      change p_E _ _ _ 56 _ _ _ _
      refine (r_aln xc_60_56 rfl (r_get xc_60_57 xf_60_12 g_5_0 (r_get xc_60_60 xf_60_167 g_2_11 (r_ri xc_60_63 xrt_60 ?_))))
      rfl
  · have hx : x.toInt < 0 ∨ 3 < x.toInt := hx
    have e := cn_d hx
    change p_E _ _ _ 64 _ _ _ _
    refine (r_ic xc_60_64 kc_m1 (r_ri xc_60_65 xrt_60 ?_))
    unfold cnV
    rw [if_neg (e 0 (by omega)), if_neg (e 1 (by omega)), if_neg (e 2 (by omega)), if_neg (e 3 (by omega))]
theorem M_countM {x : Int32} {ns : List pN} {mx r n : Nat} {P : List Nat} (h1 : R1 z a n) (h2 : R2 z a ns mx r) (h5 : R5 z a P) : p_M X 0 143 [.ref 22, .int x] (hp z a w y g) (fun q => q = (.inl (some (.int (cnV z x))), hp (u_ z 10 (nI 0)) a w y g)) := by
  obtain ⟨t1, t2, t3, t4, t5, t6, t7, t8, t9, t10, t11⟩ := id h2
  refine (r_in xin_143 (r_aln xc_143_0 rfl (r_ic xc_143_1 kc_0 (r_put xc_143_2 xf_143_73 rfl s_6_4 (r_iln xc_143_5 rfl (r_ts xc_143_6 (by decide) (by decide) (fun j hj hx => ?_) (fun hx => ?_)))))))
  · have hj : j < 4 := hj
    have hx : x.toInt = 0 + (j : Int) := hx
    have e := cn_x hj hx
    subst e
    match j, hj with
    | 0, _ =>
      change p_E _ _ _ 36 _ _ _ _
      refine (r_aln xc_143_36 rfl (r_get xc_143_37 xf_143_77 g_6_1 (r_ri xc_143_40 xrt_143 ?_)))
      show _ = (Sum.inl (some (Value.int (z 3))), _)
      rw [h1.1, ← h1.2.1]; rfl
    | 1, _ =>
      change p_E _ _ _ 41 _ _ _ _
      refine (r_aln xc_143_41 rfl (r_get xc_143_42 xf_143_174 g_6_15 (r_ri xc_143_45 xrt_143 ?_)))
      show _ = (Sum.inl (some (Value.int (z 1))), _)
      rw [t4, ← t5]; rfl
    | 2, _ =>
      change p_E _ _ _ 46 _ _ _ _
      refine (r_aln xc_143_46 rfl (r_get xc_143_47 xf_143_232 g_6_31 (r_ri xc_143_50 xrt_143 ?_)))
      show _ = (Sum.inl (some (Value.int (z 6))), _)
      rw [h5.1, ← h5.2.1]; rfl
    | 3, _ =>
      change p_E _ _ _ 51 _ _ _ _
      refine (r_aln xc_143_51 rfl (r_get xc_143_52 xf_143_174 g_6_15 (r_zne xc_143_55 xj_143_55 (fun hc55 => (r_ic xc_143_58 kc_0 (r_go xc_143_59 xj_143_59 (r_ri xc_143_66 xrt_143 ?_)))) (fun hc55 => (r_aln xc_143_62 rfl (r_get xc_143_63 xf_143_177 g_6_16 (r_ri xc_143_66 xrt_143 ?_)))))))
      · have hc55 : z 13 = nI 0 := hc55
        rw [t5, kI_inj (by omega) (by omega)] at hc55
        show _ = (Sum.inl (some (Value.int (z 2))), _)
        rw [t9, t10 (List.length_eq_zero_iff.mp hc55)]
      · have hc55 : ¬ z 13 = nI 0 := hc55
        rw [t5, kI_inj (by omega) (by omega)] at hc55
        show _ = (Sum.inl (some (Value.int (z 2))), _)
        rw [t9, ← t11 (fun h => hc55 (by rw [h]; rfl))]; rfl
  · have hx : x.toInt < 0 ∨ 3 < x.toInt := hx
    have e := cn_d hx
    change p_E _ _ _ 67 _ _ _ _
    refine (r_ic xc_143_67 kc_m1 (r_ri xc_143_68 xrt_143 ?_))
    unfold cnV
    rw [if_neg (e 0 (by omega)), if_neg (e 1 (by omega)), if_neg (e 2 (by omega)), if_neg (e 3 (by omega))]
theorem LAW_count (hR : REL z a w y) (hk : 5 * k + 5 ≤ X.1) (hX : X.1 ≤ 2560) (K : LW X k Q g) : p_E X 70 144 810 (Ls k) [] (hp z a w y g) Q := by
  obtain ⟨n, ns, mx, r, A, M, G, pc, P, h1, h2, h3, h4, h5⟩ := id hR
  refine (r_aln xc_144_810 rfl (r_arn xc_144_811 rfl (r_il xc_144_812 rfl (r_ic xc_144_814 kc_1 (r_iadd xc_144_815 (r_xa xc_144_816 ?_ ?_))))))
  · exact xin hk hX (by omega)
  · generalize hx : X.2 (nI (5 * k) + nI 1).toNatClampNeg = x
    refine (r_cv xc_144_817 xm_144_817 rfl xrc_60 rfl (p_M.up (M_countC (x := x)) (by omega)) (r_aln xc_144_820 rfl (r_arn xc_144_821 rfl (r_il xc_144_822 rfl (r_ic xc_144_824 kc_1 (r_iadd xc_144_825 (r_xa xc_144_826 ?_ ?_)))))))
    · exact xin hk hX (by omega)
    · rw [hx]
      refine (r_cv xc_144_827 xm_144_827 rfl xrc_143 rfl (p_M.up (M_countM (x := x) h1 h2 h5) (by omega)) (r_ceq xc_144_830 xj_144_830 (fun hc830 => ?_) (fun hc830 => (r_ic xc_144_833 kc_0 (r_rz xc_144_834 xrt_144 ?_ ?_)))))
      · exact K _ _ _ _ _ _ _ hR.z10 (by omega)
      · exact Or.inl rfl
      · exact absurd rfl hc830
/-- the loop -/
theorem LAW_loop (hX : X.1 ≤ 2560) : ∀ m k z a w y g, X.1 - 5 * k ≤ m → 5 * k ≤ X.1 + 4 → gM g ≤ k → REL z a w y → p_E X 70 144 23 (Ls k) [] (hp z a w y g) (fun q => ∃ z' a' w' y' g', q = (.inl (some (.int (nI 1))), hp z' a' w' y' g') ∧ gM g' ≤ 512) := by
  intro m
  induction m with
  | zero =>
    intro k z a w y g hm hk2 hg hR
    have hgt : nI X.1 - nI 5 < nI (5 * k) := by
      by_cases h5 : 5 ≤ X.1
      · rw [kI_sub h5, kI_lt (by omega) (by omega)]; omega
      · have : X.1 = 0 ∨ X.1 = 1 ∨ X.1 = 2 ∨ X.1 = 3 ∨ X.1 = 4 := by omega
        rw [Int32.lt_iff_toInt_lt, nI_toInt (by omega)]
        rcases this with h | h | h | h | h <;> rw [h]
        · have : (nI 0 - nI 5).toInt = -5 := by decide
          omega
        · have : (nI 1 - nI 5).toInt = -4 := by decide
          omega
        · have : (nI 2 - nI 5).toInt = -3 := by decide
          omega
        · have : (nI 3 - nI 5).toInt = -2 := by decide
          omega
        · have : (nI 4 - nI 5).toInt = -1 := by decide
          omega
    refine (r_il xc_144_23 rfl (r_arn xc_144_25 rfl (r_xn xc_144_26 (r_ic xc_144_27 kc_5 (r_isub xc_144_28 (r_cgt xc_144_29 xj_144_29 (fun hc29 => (r_ic xc_144_841 kc_1 (r_rz xc_144_842 xrt_144 ?_ ?_))) (fun hc29 => (r_arn xc_144_32 rfl (r_il xc_144_33 rfl (r_xa xc_144_35 ?_ (r_bi xc_144_36 kb_15 (r_iand xc_144_38 (r_ts xc_144_39 (by decide) (by decide) (fun j hj hx => ?_) (fun hx => ?_))))))))))))))
    · exact Or.inr rfl
    · exact ⟨z, a, w, y, g, rfl, by omega⟩
    all_goals exact absurd hgt hc29
  | succ m ih =>
    intro k z a w y g hm hk2 hg hR
    have K : LW X k (fun q => ∃ z' a' w' y' g', q = (.inl (some (.int (nI 1))), hp z' a' w' y' g') ∧ gM g' ≤ 512) g ∨ ¬ 5 * k + 5 ≤ X.1 := by
      by_cases hk5 : 5 * k + 5 ≤ X.1
      · left
        intro z' a' w' y' g' l5 l6 hR' hg'
        refine (r_inc [_, _, _, _, _, _, _, _] xc_144_835 rfl rfl (ki_5 _) rfl (r_go xc_144_838 xj_144_838 ?_))
        refine R_fg [_, _, _, _, _, none, none, none] (p_lle_eq (p_lle_eq (p_lle_eq (p_lle_eq (p_lle_eq (p_lle_no (p_lle_no (p_lle_eq p_lle_nil)))))))) ?_
        rw [kI_add, show 5 * k + 5 = 5 * (k + 1) by omega]
        exact ih (k + 1) z' a' w' y' g' (by omega) (by omega) (by omega) hR'
      · exact Or.inr hk5
    refine (r_il xc_144_23 rfl (r_arn xc_144_25 rfl (r_xn xc_144_26 (r_ic xc_144_27 kc_5 (r_isub xc_144_28 (r_cgt xc_144_29 xj_144_29 (fun hc29 => (r_ic xc_144_841 kc_1 (r_rz xc_144_842 xrt_144 ?_ ?_))) (fun hc29 => (r_arn xc_144_32 rfl (r_il xc_144_33 rfl (r_xa xc_144_35 ?_ (r_bi xc_144_36 kb_15 (r_iand xc_144_38 (r_ts xc_144_39 (by decide) (by decide) (fun j hj hx => ?_) (fun hx => ?_))))))))))))))
    · exact Or.inr rfl
    · exact ⟨z, a, w, y, g, rfl, by omega⟩
    all_goals
      have hk5 : 5 * k + 5 ≤ X.1 := by
        refine Classical.byContradiction (fun h => hc29 ?_)
        by_cases h5 : 5 ≤ X.1
        · rw [kI_sub h5, kI_lt (by omega) (by omega)]; omega
        · have : X.1 = 0 ∨ X.1 = 1 ∨ X.1 = 2 ∨ X.1 = 3 ∨ X.1 = 4 := by omega
          rw [Int32.lt_iff_toInt_lt, nI_toInt (by omega)]
          rcases this with h | h | h | h | h <;> rw [h]
          · have : (nI 0 - nI 5).toInt = -5 := by decide
            omega
          · have : (nI 1 - nI 5).toInt = -4 := by decide
            omega
          · have : (nI 2 - nI 5).toInt = -3 := by decide
            omega
          · have : (nI 3 - nI 5).toInt = -2 := by decide
            omega
          · have : (nI 4 - nI 5).toInt = -1 := by decide
            omega
      have K := K.elim id (fun h => absurd hk5 h)
    · exact kI_in (by omega) (by omega)
    · have hj : j < 14 := hj
      clear hx
      match j, hj with
      | 0, _ => exact LAW_sign hR hk5 hX K
      | 1, _ => exact LAW_read hR K
      | 2, _ => exact LAW_price hR hk5 hX K
      | 3, _ => exact LAW_amount hR hk5 hX K
      | 4, _ => exact LAW_conv hR hk5 hX K
      | 5, _ => exact LAW_value hR hk5 hX K
      | 6, _ => exact LAW_cents hR hk5 hX K
      | 7, _ => exact LAW_node hR hk5 hX K
      | 8, _ => exact LAW_part hR hk5 hX K
      | 9, _ => exact LAW_miss hR hk5 hX K
      | 10, _ => exact LAW_print hR K
      | 11, _ => exact LAW_at hR hk5 hX K
      | 12, _ => exact LAW_step hR hk5 hX K
      | 13, _ => exact LAW_count hR hk5 hX K
    · change p_E _ _ _ 835 _ _ _ _
      exact K _ _ _ _ _ _ _ hR (by omega)
end LAW2
