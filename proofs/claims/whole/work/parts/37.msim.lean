/-! ===== the model reads what the grammar says ===== -/
def MPOK (X : pX) (T : Nat → Int32) (n : Nat) (w : Nat → Nat → Int64) (y : Nat → Int64) (g : List pE) (P : Nat → Nat → Nat → Nat → Option pS) : Prop :=
  ∀ (Q : pR → Prop) (deep cnt p mx b : Nat) (pre : Option (Nat × List pN)) (z : Nat → Int32) (a : Nat → Nat → Int32) (res : pS), MC T n p cnt mx b deep z a → b + Jp pre ≤ cnt → Jok a deep b pre → P deep cnt p mx = some res →
    (match res with
      | .inl bd => FC w y g Q z a bd
      | .inr (p', ns, mx') => ∀ z' a', MC T n p' (cnt + ns.length) mx' (b + ns.length + Jp pre) deep z' a' → MKZ z z' → KFr a a' deep (Jb pre b) → a' 23 deep = a 23 deep → a' 24 deep = a 24 deep → a' 25 deep = nI (b + ns.length + Jp pre - 1) → a' 26 deep = nI 0 → MT a' (Jb pre b) (Jl pre ns) → MLp X w y g (nI 0) z' a' Q) → MLp X w y g (nI 1) z a Q
def MTOK (X : pX) (T : Nat → Int32) (n : Nat) (w : Nat → Nat → Int64) (y : Nat → Int64) (g : List pE) (K : Nat → Nat → Nat → List pN → Nat → Option pS) : Prop :=
  ∀ (Q : pR → Prop) (deep cnt p : Nat) (ns : List pN) (mx b : Nat) (z : Nat → Int32) (a : Nat → Nat → Int32) (res : pS), MC T n p (cnt + ns.length) mx (b + ns.length) deep z a → a 25 deep = nI (b + ns.length - 1) → a 26 deep = nI 0 → MT a b ns → K deep cnt p ns mx = some res →
    (match res with
      | .inl bd => FC w y g Q z a bd
      | .inr (q, ns', mx') => ∀ p' z' a', skn cB T n p' = q → sKind (sg T n q) = 0 → MC T n p' (cnt + ns'.length) mx' (b + ns'.length) deep z' a' → MKZ z z' → KFr a a' deep b → a' 23 deep = a 23 deep → a' 24 deep = a 24 deep → a' 25 deep = nI (b + ns'.length - 1) → a' 26 deep = nI 0 → MT a' b ns' → MLp X w y g (nI 0) z' a' Q) → MLp X w y g (nI 0) z a Q
def MROK (X : pX) (T : Nat → Int32) (n : Nat) (w : Nat → Nat → Int64) (y : Nat → Int64) (g : List pE) (R : Nat → Nat → Nat → Nat → Option pS) : Prop :=
  ∀ (Q : pR → Prop) (deep cnt p mx b : Nat) (z : Nat → Int32) (a : Nat → Nat → Int32) (res : pS), MC T n p cnt mx b deep z a → a 26 deep = nI 0 → R deep cnt p mx = some res →
    (match res with
      | .inl bd => FC w y g Q z a bd
      | .inr (q, ns', mx') => ∀ p' z' a', skn cB T n p' = q → sKind (sg T n q) = 0 → MC T n p' (cnt + ns'.length) mx' (b + ns'.length) deep z' a' → MKZ z z' → KFr a a' deep b → a' 23 deep = a 23 deep → a' 24 deep = a 24 deep → a' 25 deep = nI (b + ns'.length - 1) → a' 26 deep = nI 0 → MT a' b ns' → MLp X w y g (nI 0) z' a' Q) → MLp X w y g (nI 1) z a Q
section MSIM
variable {X : pX} {n : Nat} {T : Nat → Int32} {w : Nat → Nat → Int64} {y : Nat → Int64} {g : List pE}
theorem p_mono {X : pX} {d mi : Nat} {as : List Value} {h : List pE} {Q Q' : pR → Prop} (k : p_M X d mi as h Q) (hq : ∀ r, Q r → Q' r) : p_M X d mi as h Q' := p_E.mono k hq
theorem KFr.mka {a a' : Nat → Nat → Int32} {dp b : Nat} (h : KFr a a' dp b) : MKA a a' := h.1
theorem MR_of {P : Nat → Nat → Nat → Nat → Option pS} {K : Nat → Nat → Nat → List pN → Nat → Option pS} (hP : MPOK X T n w y g P) (hK : MTOK X T n w y g K) : MROK X T n w y g (fun deep cnt p mx => match P deep cnt p mx with
      | none => none
      | some (.inl b) => some (.inl b)
      | some (.inr (p1, ns, m1)) => K deep cnt p1 ns m1) := by
  intro Q deep cnt p mx b z a res hC h26 hres hQ
  dsimp only at hres
  have hb : b ≤ cnt := hC.2.2.2.2.2.2.2.2.2.2.2.2.2
  cases hPr : P deep cnt p mx with
  | none => rw [hPr] at hres; cases hres
  | some s =>
    rw [hPr] at hres
    refine hP Q deep cnt p mx b none z a s hC hb h26 hPr ?_
    cases s with
    | inl bd =>
      have hres : some (Sum.inl bd : pS) = some res := hres
      cases hres
      exact hQ
    | inr s =>
      obtain ⟨p1, ns, m1⟩ := s
      have hres : K deep cnt p1 ns m1 = some res := hres
      intro z1 a1 hC1 hz1 hk1 e23 e24 e25 e26 hm1
      refine hK Q deep cnt p1 ns m1 b z1 a1 res hC1 e25 e26 hm1 hres ?_
      cases res with
      | inl bd => exact FC.at hQ hz1 hk1.1
      | inr s =>
        obtain ⟨q, ns', mx'⟩ := s
        exact fun p' z' a' h1 h2 h3 h4 h5 h6 h7 h8 h9 h10 => hQ p' z' a' h1 h2 h3 (hz1.tr h4) (hk1.tr h5 (Nat.le_refl _) (Nat.le_refl _)) (h6.trans e23) (h7.trans e24) h8 h9 h10
theorem MT_of {P : Nat → Nat → Nat → Nat → Option pS} {K : Nat → Nat → Nat → List pN → Nat → Option pS} (hP : MPOK X T n w y g P) (hK : MTOK X T n w y g K) : MTOK X T n w y g (sTailB T n P K) := by
  intro Q deep cnt p ns mx b z a res hC h25 h26 hm hres hQ
  obtain ⟨h7, h8, h9, h11, h12, h15, h16, rfl, hn, hq, hc, hmx, hd, hb⟩ := id hC
  have b0 := skn_ge cB (a 14) hq
  have hid := skn_idem cB (a 14) hq
  have hl := TW_ne (MT_tw hm)
  unfold sTailB at hres
  dsimp only at hres
  by_cases h1 : sKind (sg (a 14) n (skn cB (a 14) n p)) = 0
  · rw [p_if_t h1] at hres
    cases hres
    exact hQ p z a rfl h1 hC (MKZ.rf z) ⟨fun _ _ => rfl, fun _ _ => ⟨rfl, rfl, rfl, rfl⟩, fun _ _ => rfl, fun _ _ => ⟨rfl, rfl⟩⟩ rfl rfl h25 h26 hm
  · rw [p_if_f h1] at hres
    obtain ⟨k1, k2⟩ := sKind_ok h1
    have l1 : skn cB (a 14) n p < n := (sg_lt k2 rfl).1
    refine L_behind h9 h7 h8 hn hq (Or.inl k2) ?_
    by_cases hf : cnt + ns.length < 60
    · rw [p_if_f (by omega)] at hres
      refine p_M.up (d' := 6) (p_mono (MB_sign (p := skn cB (a 14) n p) (cnt := cnt + ns.length) h7 rfl hn b0.2 h16 hd h12 hf (by rw [hid]; exact h1)) (fun q hq => ?_)) (by omega)
      rw [hid] at hq
      refine ⟨_, _, _, hq, ?_⟩
      have hz1 : MKZ z (u_ (u_ (u_ z 8 (nI (skn cB (a 14) n p))) 12 (nI (cnt + ns.length + 1))) 8 (nI (skn cB (a 14) n p + 1))) := (((MKZ.rf z).u (by omega)).u (by omega)).u (by omega)
      have hk1 : KFr a (u_ a 26 (upd (a 26) deep (nI (sKind (sg (a 14) n (skn cB (a 14) n p)))))) deep (b + ns.length) := ⟨fun j hj => u_n _ _ (by omega), fun i hi => ⟨rfl, rfl, rfl, up_n _ _ (by omega)⟩, fun _ _ => rfl, fun _ _ => ⟨rfl, rfl⟩⟩
      have hC1 : MC (a 14) n (skn cB (a 14) n p + 1) (cnt + ns.length + 1) mx (b + ns.length) deep (u_ (u_ (u_ z 8 (nI (skn cB (a 14) n p))) 12 (nI (cnt + ns.length + 1))) 8 (nI (skn cB (a 14) n p + 1))) (u_ a 26 (upd (a 26) deep (nI (sKind (sg (a 14) n (skn cB (a 14) n p)))))) := ⟨h7, rfl, h9, h11, rfl, h15, h16, rfl, hn, by omega, by omega, hmx, hd, by omega⟩
      have hJ : Jok (u_ a 26 (upd (a 26) deep (nI (sKind (sg (a 14) n (skn cB (a 14) n p)))))) deep (b + ns.length) (some (sKind (sg (a 14) n (skn cB (a 14) n p)), ns)) := by
        refine ⟨k1, up_s _ _ _, h25, by omega, ?_⟩
        rw [show b + ns.length - ns.length = b by omega]
        exact MT_kept hm (fun _ _ _ => rfl) (fun _ _ _ => ⟨rfl, rfl⟩)
      cases hPr : P deep (cnt + ns.length + 1) (skn cB (a 14) n p + 1) mx with
      | none => rw [hPr] at hres; cases hres
      | some s =>
        rw [hPr] at hres
        refine hP Q deep _ _ mx _ _ _ _ s hC1 (by show b + ns.length + 1 ≤ _; omega) hJ hPr ?_
        cases s with
        | inl bd =>
          have hres : some (Sum.inl bd : pS) = some res := hres
          cases hres
          exact FC.at hQ hz1 hk1.1
        | inr s =>
          obtain ⟨p2, ms, m2⟩ := s
          have hres : K deep cnt p2 ((sKind (sg (a 14) n (skn cB (a 14) n p)), 0, 0, 1 + ns.length, []) :: (ns ++ ms)) m2 = some res := hres
          intro z1 a1 hC2 hz2 hk2 e23 e24 e25 e26 hm2
          have hJb : Jb (some (sKind (sg (a 14) n (skn cB (a 14) n p)), ns)) (b + ns.length) = b := by show b + ns.length - ns.length = b; omega
          rw [hJb] at hk2 hm2
          have hlen : ((sKind (sg (a 14) n (skn cB (a 14) n p)), 0, 0, 1 + ns.length, []) :: (ns ++ ms) : List pN).length = ns.length + ms.length + 1 := by simp
          have hp1 : Jp (some (sKind (sg (a 14) n (skn cB (a 14) n p)), ns)) = 1 := rfl
          rw [hp1] at hC2 e25
          have hm2 : MT a1 b ((sKind (sg (a 14) n (skn cB (a 14) n p)), 0, 0, 1 + ns.length, []) :: (ns ++ ms)) := hm2
          have hk1' : KFr a (u_ a 26 (upd (a 26) deep (nI (sKind (sg (a 14) n (skn cB (a 14) n p)))))) deep b := ⟨hk1.1, hk1.2.1, fun j hj => hk1.2.2.1 j (by omega), fun i hi => hk1.2.2.2 i (by omega)⟩
          refine hK Q deep cnt p2 _ m2 b z1 a1 res ?_ ?_ e26 hm2 hres ?_
          · rw [hlen, show cnt + (ns.length + ms.length + 1) = cnt + ns.length + 1 + ms.length by omega, show b + (ns.length + ms.length + 1) = b + ns.length + ms.length + 1 by omega]
            exact hC2
          · rw [hlen, e25]; congr 1; omega
          · cases res with
            | inl bd => exact FC.at hQ (hz1.tr hz2) (hk1.mka.tr hk2.mka)
            | inr s =>
              obtain ⟨q, ns', mx'⟩ := s
              exact fun p' z' a' h1 h2 h3 h4 h5 h6 h7 h8 h9 h10 => hQ p' z' a' h1 h2 h3 ((hz1.tr hz2).tr h4) (hk1'.tr (hk2.tr h5 (Nat.le_refl _) (Nat.le_refl _)) (Nat.le_refl _) (Nat.le_refl _)) (h6.trans e23) (h7.trans e24) h8 h9 h10
    · have h60 : cnt + ns.length = 60 := by omega
      rw [p_if_t (by omega)] at hres
      cases hres
      rw [h60] at h12
      refine p_M.up (d' := 6) (p_mono (MB_full (p := skn cB (a 14) n p) h9 h7 rfl hn b0.2 h12 (by rw [hid]; exact h1)) (fun q hq => ?_)) (by omega)
      rw [hid] at hq
      exact ⟨_, _, _, hq, L_exit hQ rfl ((((MKZ.rf z).u (by omega)).u (by omega)).u (by omega)) (MKA.rf a)⟩
/-- joining leaves what a part is owed -/
theorem JR.fin {dp b m cnt mx p deep : Nat} {pre : Option (Nat × List pN)} {ns : List pN} {z0 z z' : Nat → Int32} {a0 a a' : Nat → Nat → Int32} (h : JR a z dp b m pre ns z' a') (hz : MKZ z0 z) : MKZ z0 z' := fun k hk => (h.2.1 k (by omega)).trans (hz k hk)
theorem MP_of {R : Nat → Nat → Nat → Nat → Option pS} (ht : TX T n) (hG : GOR n R) (hR : MROK X T n w y g R) : MPOK X T n w y g (sPartB T n R) := by
  intro Q deep cnt p mx b pre z a res hC hbp hJ hres hQ
  obtain ⟨h7, h8, h9, h11, h12, h15, h16, rfl, hn, hq, hc, hmx, hd, hb⟩ := id hC
  rw [sPartB_o] at hres
  have hok := oPart_ok (T := a 14) (n := n) (deep := deep) (cnt := cnt) (p := p) (mx := mx) hd hc hq hmx
  -- the join, once the part's nodes stand
  have fin : ∀ (p' mx' : Nat) (ns : List pN) (z1 : Nat → Int32) (a1 : Nat → Nat → Int32), res = .inr (p', ns, mx') → MC (a 14) n p' (cnt + ns.length) mx' (b + ns.length) deep z1 a1 → MKZ z z1 → KFr a a1 (deep + 1) b → MT a1 b ns → p_M X 1 115 [.ref 22, .int (nI (b + ns.length - 1))] (hp z1 a1 w y g) (fun q => ∃ z' a', q = (.inl none, hp z' a' w y g) ∧ MLp X w y g (nI 0) z' a' Q) := by
    intro p' mx' ns z1 a1 he hC1 hz1 hk1 hm1
    subst he
    obtain ⟨g7, g8, g9, g11, g12, g15, g16, g14, _, gq, gc, gm, _, gb⟩ := hC1
    have hf := hk1.2.1 deep (by omega)
    have hJ1 : Jok a1 deep b pre := hJ.kept hf.2.2.1 hf.2.2.2 (fun j hj => hk1.2.2.1 j hj) (fun i hi => hk1.2.2.2 i hi)
    refine (M_join g16 hd g11 (by omega) hJ1 hm1).mono (fun q hq => ?_)
    obtain ⟨z', a', e, q1, q2, q3, q4, q5, q6, q7, q8, q9, q10, q11, q12⟩ := hq
    refine ⟨z', a', e, hQ z' a' ⟨(q2 7 (by omega)).trans g7, (q2 8 (by omega)).trans g8, (q2 9 (by omega)).trans g9, q1, (q2 12 (by omega)).trans g12, (q2 15 (by omega)).trans g15, (q2 16 (by omega)).trans g16, (q8 14 (by omega)).trans g14, hn, gq, gc, gm, hd, by omega⟩ (fun k hk => (q2 k (by omega)).trans (hz1 k hk)) ?_ ((congrFun q3 deep).trans hf.1) ((congrFun q4 deep).trans hf.2.1) q5 q6 q12⟩
    have hjb := Jb_le pre b
    refine ⟨fun j hj => (q8 j hj).trans (hk1.1 j hj), fun i hi => ?_, fun j hj => (q9 j (by omega)).trans (hk1.2.2.1 j (by omega)), fun i hi => ?_⟩
    · have f2 := hk1.2.1 i (by omega)
      have f3 := q7 i (by omega)
      exact ⟨(congrFun q3 i).trans f2.1, (congrFun q4 i).trans f2.2.1, f3.1.trans f2.2.2.1, f3.2.trans f2.2.2.2⟩
    · rw [q10, q11]; exact hk1.2.2.2 i (by omega)
  refine L_part ht hC (fun x h1 hT => ?_)
  generalize oPart (a 14) n deep cnt p mx = o at hres hT hok
  cases o with
  | inl bd =>
    have hres : some (Sum.inl bd : pS) = some res := hres
    cases hres
    obtain ⟨x', z', a', he, hx, e9, ez, ea⟩ := hT
    injection he with he1 he2
    injection he1 with he1
    injection he1 with he1
    injection he1 with he1
    subst he1
    subst he2
    refine ⟨fun _ => L_exit hQ e9 ez ea, fun hne => ?_⟩
    rcases hx with hx | ⟨hx, b', hb1, hb2⟩
    · exact absurd hx hne
    · refine (M_joins_f (dp := deep) (hx.trans h16) hd hb1 hb2).mono (fun q hq => ?_)
      obtain ⟨z2, a2, e, f9, fz, fa⟩ := hq
      exact ⟨z2, a2, e, L_exit hQ (f9.trans e9) (ez.tr fz) (ea.tr fa)⟩
  | inr o =>
    cases o with
    | inl s =>
      obtain ⟨p', ns⟩ := s
      have hres : some (Sum.inr (p', ns, mx) : pS) = some res := hres
      obtain ⟨hp', hc60, v0, hv0, hlf⟩ := hok
      obtain ⟨z', a', v, he, hns, f8, f11, f12, fz, fa, fv, f18, f19⟩ := hT
      injection he with he1 he2
      injection he1 with he1
      injection he1 with he1
      injection he1 with he1
      subst he1
      subst he2
      subst hns
      injection hv0 with hv0
      subst hv0
      refine ⟨fun h => absurd h (kI_m1 (by omega)), fun _ => ?_⟩
      injection hres with hres
      refine fin p' mx [v] z' a' hres.symm ⟨(fz 7 (by omega) (by omega) (by omega)).trans h7, f8, (fz 9 (by omega) (by omega) (by omega)).trans h9, f11, f12, (fz 15 (by omega) (by omega) (by omega)).trans h15, (fz 16 (by omega) (by omega) (by omega)).trans h16, fa.1 14 (by omega), hn, hp', hc60, hmx, hd, by simp; omega⟩ (fun k hk => fz k (by omega) (by omega) (by omega)) ⟨fun j hj => fa.1 j (by omega), fun i _ => ⟨by rw [fa.1 23 (by omega)], by rw [fa.1 24 (by omega)], by rw [fa.1 25 (by omega)], by rw [fa.1 26 (by omega)]⟩, fun j hj => fa.2.1 j (by omega), fa.2.2⟩ (MT_leaf hlf fv f18 f19)
    | inr s =>
      obtain ⟨k, p2, c2, m2⟩ := s
      obtain ⟨hp2, hdl, hc2, hm2, hkk⟩ := hok
      obtain ⟨z', he, f8, f12, f15, f16, fz⟩ := hT
      injection he with he1 he2
      injection he1 with he1
      injection he1 with he1
      injection he1 with he1
      subst he1
      subst he2
      refine ⟨fun _ => ?_, fun h => absurd rfl h⟩
      have pf1 : KFr a (pf a (deep + 1) (nI k)) (deep + 1) b := by
        refine ⟨fun j hj => ?_, fun i hi => ⟨up_n _ _ (by omega), up_n _ _ (by omega), up_n _ _ (by omega), up_n _ _ (by omega)⟩, fun _ _ => rfl, fun _ _ => ⟨rfl, rfl⟩⟩
        unfold pf
        rw [u_n _ _ (by omega), u_n _ _ (by omega), u_n _ _ (by omega), u_n _ _ (by omega)]
      have p23 : pf a (deep + 1) (nI k) 23 (deep + 1) = nI k := up_s _ _ _
      have p24 : pf a (deep + 1) (nI k) 24 (deep + 1) = -1 := up_s _ _ _
      have p26 : pf a (deep + 1) (nI k) 26 (deep + 1) = nI 0 := up_s _ _ _
      have p14 : pf a (deep + 1) (nI k) 14 = a 14 := pf1.1 14 (by omega)
      have hz' : MKZ z z' := fun k hk => fz k (by omega) (by omega) (by omega) (by omega)
      generalize pf a (deep + 1) (nI k) = a2 at pf1 p23 p24 p26 p14
      have hC1 : MC (a 14) n p2 c2 m2 b (deep + 1) z' a2 := ⟨(fz 7 (by omega) (by omega) (by omega) (by omega)).trans h7, f8, (fz 9 (by omega) (by omega) (by omega) (by omega)).trans h9, (fz 11 (by omega) (by omega) (by omega) (by omega)).trans h11, f12, f15, f16, p14, hn, hp2, hc2, hm2, by omega, by omega⟩
      have gR : ∀ cc pp mm rr, cc ≤ 60 → pp ≤ n → mm ≤ 12 → R (deep + 1) cc pp mm = some rr → GR n cc pp mm rr := fun cc pp mm rr q1 q2 q3 q4 => hG (deep + 1) cc pp mm rr (by omega) q1 q2 q3 q4
      by_cases hk8 : k = 8
      · subst hk8
        have hres : sClose (a 14) n (nI 41) (R (deep + 1) c2 p2 m2) (fun p1 ns m1 => some (.inr (p1, ns, m1))) = some res := hres
        have hcc : c2 = cnt := by omega
        subst hcc
        cases hRr : R (deep + 1) c2 p2 m2 with
        | none => rw [hRr] at hres; cases hres
        | some s =>
          rw [hRr] at hres
          have g1 := gR c2 p2 m2 s hc2 hp2 hm2 hRr
          refine hR Q (deep + 1) c2 p2 m2 b z' a2 s hC1 p26 hRr ?_
          cases s with
          | inl bd =>
            have hres : some (Sum.inl bd : pS) = some res := hres
            cases hres
            exact FC.at hQ hz' pf1.1
          | inr s =>
            obtain ⟨q, ns, m1⟩ := s
            have hres : p_if (sg (a 14) n (skn cB (a 14) n q) = nI 41) (some (.inr (skn cB (a 14) n q + 1, ns, m1))) (some (.inl (skn cB (a 14) n q))) = some res := hres
            obtain ⟨_, gq, gc, _, gm, _, _⟩ := g1
            intro p' z3 a3 hpq hsk hC3 hz3 hk3 e23 e24 e25 e26 hm3
            obtain ⟨i7, i8, i9, i11, i12, i15, i16, i14, _, iq, ic, im, _, ib⟩ := id hC3
            have hidq : skn cB (a 14) n q = q := by rw [← hpq]; exact skn_idem cB (a 14) iq
            rw [hidq] at hres
            have hb3 := skn_ge cB (a 14) iq
            rw [hpq] at hb3
            have hidp : skn cB (a3 14) n (skn cB (a3 14) n p') = q := by rw [i14, skn_idem cB (a 14) iq, hpq]
            have hpq3 : skn cB (a3 14) n p' = q := by rw [i14]; exact hpq
            refine L_behind i9 i7 i8 hn iq (Or.inr (by rw [i16]; exact (kI_lt (by omega) (by omega)).mpr (by omega))) ?_
            rw [hpq3]
            have hq3 : skn cB (a3 14) n q = q := by rw [i14]; exact hidq
            by_cases hcl : sg (a 14) n q = nI 41
            · rw [p_if_t hcl] at hres
              have lq := (sg_lt (by decide) hcl).1
              injection hres with hres
              refine p_mono (p_M.up (d' := 6) (MB_close8 (p := q) (deep := deep + 1) (R := fun z' a' => MLp X w y g (nI 0) z' a' Q) i7 rfl hn hb3.2 i16 (by omega) (e23.trans p23) (by rw [i14, hidq]; exact hcl) ?_) (by omega)) (fun q hq => ?_)
              · rw [hq3, e25]
                refine fin (q + 1) m1 ns _ a3 hres.symm ⟨i7, rfl, i9, i11, i12, i15, rfl, i14, hn, by omega, ic, im, hd, ib⟩ ((((hz'.tr hz3).u (by omega)).u (by omega)).u (by omega)) (pf1.tr hk3 (Nat.le_refl _) (Nat.le_refl _)) hm3
              · obtain ⟨z4, a4, e, hE⟩ := hq
                exact ⟨_, z4, a4, e, hE⟩
            · rw [p_if_f hcl] at hres
              cases hres
              refine p_mono (p_M.up (d' := 6) (MB_fail (p := q) (deep := deep + 1) (k := 8) (by rw [i14]; exact ht) i9 i7 rfl hn hb3.2 i16 (by omega) (e23.trans p23) (by omega) (by rw [i14, hidq]; exact hsk) (Or.inr (by omega)) (fun h => by omega) (fun h => hcl (by have := h.1; rw [i14, hidq] at this; exact this))) (by omega)) (fun q' hq => ?_)
              rw [hq3] at hq
              exact ⟨_, _, _, hq, L_exit hQ rfl ((((hz'.tr hz3).u (by omega)).u (by omega)).u (by omega)) (pf1.mka.tr hk3.mka)⟩
      · have hk56 : k = 5 ∨ k = 6 := by omega
        have hcc : c2 = cnt + 1 := by omega
        subst hcc
        have hres : (if k = 8 then sClose (a 14) n (nI 41) (R (deep + 1) (cnt + 1) p2 m2) (fun p1 ns m1 => some (.inr (p1, ns, m1))) else sClose (a 14) n (nI 44) (R (deep + 1) (cnt + 1) p2 m2) (fun p1 ls m1 => sClose (a 14) n (nI 41) (R (deep + 1) (cnt + 1 + ls.length) p1 m1) (fun p2 rs m2 => some (.inr (p2, (k, 0, 0, 1 + ls.length, []) :: (ls ++ rs), m2))))) = some res := hres
        rw [if_neg hk8] at hres
        cases hRr : R (deep + 1) (cnt + 1) p2 m2 with
        | none => rw [hRr] at hres; cases hres
        | some s =>
          rw [hRr] at hres
          have g1 := gR (cnt + 1) p2 m2 s hc2 hp2 hm2 hRr
          refine hR Q (deep + 1) (cnt + 1) p2 m2 b z' a2 s hC1 p26 hRr ?_
          cases s with
          | inl bd =>
            have hres : some (Sum.inl bd : pS) = some res := hres
            cases hres
            exact FC.at hQ hz' pf1.1
          | inr s =>
            obtain ⟨q, ls, m1⟩ := s
            have hres : p_if (sg (a 14) n (skn cB (a 14) n q) = nI 44) (sClose (a 14) n (nI 41) (R (deep + 1) (cnt + 1 + ls.length) (skn cB (a 14) n q + 1) m1) (fun p2 rs m2 => some (.inr (p2, (k, 0, 0, 1 + ls.length, []) :: (ls ++ rs), m2)))) (some (.inl (skn cB (a 14) n q))) = some res := hres
            obtain ⟨_, gq, gc, _, gm, _, _⟩ := g1
            intro p' z3 a3 hpq hsk hC3 hz3 hk3 e23 e24 e25 e26 hm3
            obtain ⟨i7, i8, i9, i11, i12, i15, i16, i14, _, iq, ic, im, _, ib⟩ := id hC3
            have hll := TW_ne (MT_tw hm3)
            have hidq : skn cB (a 14) n q = q := by rw [← hpq]; exact skn_idem cB (a 14) iq
            rw [hidq] at hres
            have hb3 := skn_ge cB (a 14) iq
            rw [hpq] at hb3
            have hpq3 : skn cB (a3 14) n p' = q := by rw [i14]; exact hpq
            have hq3 : skn cB (a3 14) n q = q := by rw [i14]; exact hidq
            refine L_behind i9 i7 i8 hn iq (Or.inr (by rw [i16]; exact (kI_lt (by omega) (by omega)).mpr (by omega))) ?_
            rw [hpq3]
            by_cases hcl : sg (a 14) n q = nI 44
            · rw [p_if_t hcl] at hres
              have lq := (sg_lt (by decide) hcl).1
              refine p_mono (p_M.up (d' := 6) (MB_comma (p := q) (deep := deep + 1) (k := k) i7 rfl hn hb3.2 i16 (by omega) (e23.trans p23) hk56 (e24.trans p24) (by rw [i14, hidq]; exact hcl)) (by omega)) (fun q' hq => ?_)
              rw [hq3, u_u, e25] at hq
              refine ⟨_, _, _, hq, ?_⟩
              have k4 : KFr a3 (u_ (u_ a3 24 (upd (a3 24) (deep + 1) (nI (b + ls.length - 1)))) 25 (upd (a3 25) (deep + 1) (-1))) (deep + 1) (b + ls.length) := by
                refine ⟨fun j hj => ?_, fun i hi => ⟨rfl, up_n _ _ (by omega), up_n _ _ (by omega), rfl⟩, fun _ _ => rfl, fun _ _ => ⟨rfl, rfl⟩⟩
                rw [u_n _ _ (by omega), u_n _ _ (by omega)]
              have c24 : u_ (u_ a3 24 (upd (a3 24) (deep + 1) (nI (b + ls.length - 1)))) 25 (upd (a3 25) (deep + 1) (-1)) 24 (deep + 1) = nI (b + ls.length - 1) := up_s _ _ _
              have c23 : u_ (u_ a3 24 (upd (a3 24) (deep + 1) (nI (b + ls.length - 1)))) 25 (upd (a3 25) (deep + 1) (-1)) 23 (deep + 1) = nI k := e23.trans p23
              have c26 : u_ (u_ a3 24 (upd (a3 24) (deep + 1) (nI (b + ls.length - 1)))) 25 (upd (a3 25) (deep + 1) (-1)) 26 (deep + 1) = a3 26 (deep + 1) := rfl
              have c14 : u_ (u_ a3 24 (upd (a3 24) (deep + 1) (nI (b + ls.length - 1)))) 25 (upd (a3 25) (deep + 1) (-1)) 14 = a 14 := i14
              generalize u_ (u_ a3 24 (upd (a3 24) (deep + 1) (nI (b + ls.length - 1)))) 25 (upd (a3 25) (deep + 1) (-1)) = a4 at k4 c23 c24 c26 c14
              have hC4 : MC (a 14) n (q + 1) (cnt + 1 + ls.length) m1 (b + ls.length) (deep + 1) (u_ z3 8 (nI (q + 1))) a4 := ⟨i7, rfl, i9, i11, i12, i15, i16, c14, hn, by omega, ic, im, by omega, ib⟩
              have hz4 : MKZ z (u_ z3 8 (nI (q + 1))) := (hz'.tr hz3).u (by omega)
              have hk4 : KFr a a4 (deep + 1) b := (pf1.tr hk3 (Nat.le_refl _) (Nat.le_refl _)).tr k4 (Nat.le_refl _) (by omega)
              have hm4 : MT a4 b ls := k4.mt hm3 (by omega)
              cases hRr2 : R (deep + 1) (cnt + 1 + ls.length) (q + 1) m1 with
              | none => rw [hRr2] at hres; cases hres
              | some s2 =>
                rw [hRr2] at hres
                refine hR Q (deep + 1) (cnt + 1 + ls.length) (q + 1) m1 (b + ls.length) _ a4 s2 hC4 (c26.trans e26) hRr2 ?_
                cases s2 with
                | inl bd =>
                  have hres : some (Sum.inl bd : pS) = some res := hres
                  cases hres
                  exact FC.at hQ hz4 hk4.1
                | inr s2 =>
                  obtain ⟨q2, rt, m3⟩ := s2
                  have hres : p_if (sg (a 14) n (skn cB (a 14) n q2) = nI 41) (some (.inr (skn cB (a 14) n q2 + 1, (k, 0, 0, 1 + ls.length, []) :: (ls ++ rt), m3))) (some (.inl (skn cB (a 14) n q2))) = some res := hres
                  intro p5 z5 a5 hpq5 hsk5 hC5 hz5 hk5 f23 f24 f25 f26 hm5
                  obtain ⟨j7, j8, j9, j11, j12, j15, j16, j14, _, jq, jc, jm, _, jb⟩ := id hC5
                  have hlr := TW_ne (MT_tw hm5)
                  have hidq2 : skn cB (a 14) n q2 = q2 := by rw [← hpq5]; exact skn_idem cB (a 14) jq
                  rw [hidq2] at hres
                  have hb5 := skn_ge cB (a 14) jq
                  rw [hpq5] at hb5
                  have hpq6 : skn cB (a5 14) n p5 = q2 := by rw [j14]; exact hpq5
                  have hq6 : skn cB (a5 14) n q2 = q2 := by rw [j14]; exact hidq2
                  have s24 : ¬ a5 24 (deep + 1) = -1 := by rw [f24, c24]; exact kI_m1 (by omega)
                  refine L_behind j9 j7 j8 hn jq (Or.inr (by rw [j16]; exact (kI_lt (by omega) (by omega)).mpr (by omega))) ?_
                  rw [hpq6]
                  by_cases hcl2 : sg (a 14) n q2 = nI 41
                  · rw [p_if_t hcl2] at hres
                    have lq2 := (sg_lt (by decide) hcl2).1
                    injection hres with hres
                    refine p_mono (p_M.up (d' := 6) (MB_close2 (p := q2) (deep := deep + 1) (k := k) (b := b + ls.length + rt.length) (R := fun z' a' => MLp X w y g (nI 0) z' a' Q) j7 rfl hn hb5.2 j16 (by omega) (f23.trans c23) hk56 s24 j11 (by omega) (by rw [j14, hidq2]; exact hcl2) (fun a6 e1 e2 e3 => ?_)) (by omega)) (fun q hq => ?_)
                    · rw [hq6, u_u]
                      rw [f24, c24, f25] at e3
                      unfold mnv at e3
                      simp only [Prod.mk.injEq] at e3
                      obtain ⟨t0, t1, t2, t3, t4, t5⟩ := e3
                      have k6 : KFr a5 a6 (deep + 1) (b + ls.length + rt.length) := ⟨fun j hj => e1 j (by omega), fun i _ => ⟨by rw [e1 23 (by omega)], by rw [e1 24 (by omega)], by rw [e1 25 (by omega)], by rw [e1 26 (by omega)]⟩, fun j hj => e2 j (by omega), fun i _ => ⟨by rw [e1 21 (by omega)], by rw [e1 22 (by omega)]⟩⟩
                      have hlen : ((k, 0, 0, 1 + ls.length, []) :: (ls ++ rt) : List pN).length = ls.length + rt.length + 1 := by simp
                      have hfin := fin (q2 + 1) m3 ((k, 0, 0, 1 + ls.length, []) :: (ls ++ rt)) (u_ (u_ (u_ z5 8 (nI (q2 + 1))) 16 (nI (deep + 1))) 11 (nI (b + ls.length + rt.length + 1))) a6 hres.symm ⟨j7, rfl, j9, by rw [hlen]; show nI _ = nI _; congr 1; omega, by rw [hlen]; exact j12.trans (by congr 1; omega), j15, rfl, (e1 14 (by omega)).trans j14, hn, by omega, by rw [hlen]; omega, jm, hd, by rw [hlen]; omega⟩ ((((hz4.tr hz5).u (by omega)).u (by omega)).u (by omega)) ((hk4.tr hk5 (Nat.le_refl _) (by omega)).tr k6 (Nat.le_refl _) (by omega)) (MT_node ⟨by dsimp only; omega, rfl, rfl, rfl, rfl⟩ (k6.mt (hk5.mt hm4 (by omega)) (by omega)) (k6.mt hm5 (by omega)) ⟨t0, t1, by rw [t2]; exact m1_eq, t5, fun k q hk => by simp at hk⟩ t3 t4)
                      rw [hlen, show b + (ls.length + rt.length + 1) - 1 = b + ls.length + rt.length by omega] at hfin
                      exact hfin
                    · obtain ⟨z4, a4, e, hE⟩ := hq
                      exact ⟨_, z4, a4, e, hE⟩
                  · rw [p_if_f hcl2] at hres
                    cases hres
                    refine p_mono (p_M.up (d' := 6) (MB_fail (p := q2) (deep := deep + 1) (k := k) (by rw [j14]; exact ht) j9 j7 rfl hn hb5.2 j16 (by omega) (f23.trans c23) (by omega) (by rw [j14, hidq2]; exact hsk5) (Or.inr (by omega)) (fun h => s24 h.2.2) (fun h => hcl2 (by have := h.1; rw [j14, hidq2] at this; exact this))) (by omega)) (fun q' hq => ?_)
                    rw [hq6] at hq
                    exact ⟨_, _, _, hq, L_exit hQ rfl ((((hz4.tr hz5).u (by omega)).u (by omega)).u (by omega)) (hk4.mka.tr hk5.mka)⟩
            · rw [p_if_f hcl] at hres
              cases hres
              refine p_mono (p_M.up (d' := 6) (MB_fail (p := q) (deep := deep + 1) (k := k) (by rw [i14]; exact ht) i9 i7 rfl hn hb3.2 i16 (by omega) (e23.trans p23) (by omega) (by rw [i14, hidq]; exact hsk) (Or.inr (by omega)) (fun h => hcl (by have := h.1; rw [i14, hidq] at this; exact this)) (fun h => by rcases h.2 with h | h; exact hk8 h; exact h.2 (e24.trans p24))) (by omega)) (fun q' hq => ?_)
              rw [hq3] at hq
              exact ⟨_, _, _, hq, L_exit hQ rfl ((((hz'.tr hz3).u (by omega)).u (by omega)).u (by omega)) (pf1.mka.tr hk3.mka)⟩
theorem M_sim (ht : TX T n) (f : Nat) : MPOK X T n w y g (sP T n f) ∧ MTOK X T n w y g (sT T n f) := by
  induction f with
  | zero =>
    refine ⟨?_, ?_⟩
    · intro Q deep cnt p mx b pre z a res _ _ _ h; cases h
    · intro Q deep cnt p ns mx b z a res _ _ _ _ h; cases h
  | succ f ih =>
    rw [sP_succ, sT_succ]
    exact ⟨MP_of ht (GOR_sR T n f) (MR_of ih.1 ih.2), MT_of ih.1 ih.2⟩
theorem M_simR (ht : TX T n) (f : Nat) : MROK X T n w y g (sR T n f) := MR_of (M_sim ht f).1 (M_sim ht f).2
end MSIM
