/-! ===== trees, print, what the spec is owed ===== -/
/-! ===== trees in preorder ===== -/
def lfOk (v : pN) : Prop := v.2.2.2.1 = 0 ∧ v.2.1 < 100000000 ∧ ((v.1 = 0 ∧ v.2.1 = 0 ∧ v.2.2.1 = 0 ∧ v.2.2.2.2 = []) ∨ (v.1 = 1 ∧ v.2.2.1 = 0 ∧ v.2.2.2.2 = []) ∨ (v.1 = 2 ∧ 1 ≤ v.2.2.1 ∧ v.2.2.1 ≤ 8 ∧ v.2.2.2.2 = []) ∨ (v.1 = 7 ∧ v.2.1 < 1000000 ∧ v.2.2.1 = 0 ∧ v.2.2.2.2 ≠ [] ∧ v.2.2.2.2.length ≤ 6 ∧ ∀ q ∈ v.2.2.2.2, q.1 < 1000000 ∧ q.2 < 1000000))
def inOk (v : pN) (m : Nat) : Prop := (v.1 = 3 ∨ v.1 = 4 ∨ v.1 = 5 ∨ v.1 = 6) ∧ v.2.1 = 0 ∧ v.2.2.1 = 0 ∧ v.2.2.2.1 = 1 + m ∧ v.2.2.2.2 = []
def tw : Nat → List pN → Prop
  | 0, _ => False
  | f + 1, ns => (∃ v, ns = [v] ∧ lfOk v) ∨ ∃ v l r, ns = v :: (l ++ r) ∧ inOk v l.length ∧ tw f l ∧ tw f r
def TW (ns : List pN) : Prop := ∃ f, tw f ns
theorem tw_mono : ∀ f g ns, f ≤ g → tw f ns → tw g ns := by
  intro f
  induction f with
  | zero => intro g ns _ h; exact h.elim
  | succ f ih =>
    intro g ns hg h
    obtain ⟨g, rfl⟩ : ∃ g', g = g' + 1 := ⟨g - 1, by omega⟩
    rcases h with h | ⟨v, l, r, h1, h2, h3, h4⟩
    · exact Or.inl h
    · exact Or.inr ⟨v, l, r, h1, h2, ih g l (by omega) h3, ih g r (by omega) h4⟩
theorem TW_leaf {v : pN} (h : lfOk v) : TW [v] := ⟨1, Or.inl ⟨v, rfl, h⟩⟩
theorem TW_node {v : pN} {l r : List pN} (h : inOk v l.length) (hl : TW l) (hr : TW r) : TW (v :: (l ++ r)) := by
  obtain ⟨f, hl⟩ := hl
  obtain ⟨g, hr⟩ := hr
  exact ⟨max f g + 1, Or.inr ⟨v, l, r, rfl, h, tw_mono f _ l (by omega) hl, tw_mono g _ r (by omega) hr⟩⟩
theorem TW_ind {C : List pN → Prop} (h1 : ∀ v, lfOk v → C [v]) (h2 : ∀ v l r, inOk v l.length → TW l → TW r → C l → C r → C (v :: (l ++ r))) {ns : List pN} (h : TW ns) : C ns := by
  obtain ⟨f, h⟩ := h
  induction f generalizing ns with
  | zero => exact h.elim
  | succ f ih =>
    rcases h with ⟨v, rfl, hv⟩ | ⟨v, l, r, rfl, hv, hl, hr⟩
    · exact h1 v hv
    · exact h2 v l r hv ⟨f, hl⟩ ⟨f, hr⟩ (ih hl) (ih hr)
theorem TW_ne {ns : List pN} (h : TW ns) : 1 ≤ ns.length := TW_ind (C := fun ns => 1 ≤ ns.length) (fun _ _ => by simp) (fun _ _ _ _ _ _ _ _ => by simp) h
/-! ===== how a tree is printed ===== -/
def dW (x : Nat) : List Nat := (if 100000 ≤ x then [48 + x / 100000 % 10] else []) ++ ((if 10000 ≤ x then [48 + x / 10000 % 10] else []) ++ ((if 1000 ≤ x then [48 + x / 1000 % 10] else []) ++ ((if 100 ≤ x then [48 + x / 100 % 10] else []) ++ ((if 10 ≤ x then [48 + x / 10 % 10] else []) ++ [48 + x % 10]))))
def dF (r : Nat) : List Nat := if r = 0 then [] else 46 :: (48 + r / 100) :: (if r % 100 = 0 then [] else (48 + r % 100 / 10) :: (if r % 10 = 0 then [] else [48 + r % 10]))
def dN (x : Nat) : List Nat := dW (x / 1000) ++ dF (x % 1000)
def dR : Bool → List (Nat × Nat) → List Nat
  | _, [] => []
  | f, q :: t => (if f then 58 else 44) :: 32 :: (dW q.1 ++ 61 :: (dW q.2 ++ dR false t))
def dL (v : pN) : List Nat :=
  if v.1 = 0 then [102, 114, 101, 101] else if v.1 = 1 then dN v.2.1 ++ [37] else if v.1 = 2 then dN v.2.1 ++ [47, 64 + v.2.2.1] else [115, 116, 101, 112, 40] ++ (dW v.2.1 ++ (dR true v.2.2.2.2 ++ [41]))
def isSum (t : List pN) : Bool := match t with
  | [] => false
  | v :: _ => v.1 == 3 || v.1 == 4
def dI (v : pN) (l r : List Nat) (b : Bool) : List Nat :=
  if v.1 = 3 ∨ v.1 = 4 then l ++ ([32, (if v.1 = 3 then 43 else 45), 32] ++ ((if b then [40] else []) ++ (r ++ (if b then [41] else []))))
  else (if v.1 = 5 then [109, 105, 110, 40] else [109, 97, 120, 40]) ++ (l ++ ([44, 32] ++ (r ++ [41])))
def pr : Nat → List pN → List Nat
  | 0, _ => []
  | _ + 1, [] => []
  | f + 1, v :: t => if v.2.2.2.1 = 0 then dL v else dI v (pr f t) (pr f (t.drop (v.2.2.2.1 - 1))) (isSum (t.drop (v.2.2.2.1 - 1)))
def PR (t : List pN) : List Nat := pr t.length t
theorem isSum_app {t s : List pN} (h : TW t) : isSum (t ++ s) = isSum t := by
  have := TW_ne h
  cases t with
  | nil => simp at this
  | cons v t => rfl
theorem pr_app {t : List pN} (h : TW t) : ∀ f s, t.length ≤ f → pr f (t ++ s) = PR t := by
  refine TW_ind (C := fun t => ∀ f s, t.length ≤ f → pr f (t ++ s) = PR t) ?_ ?_ h
  · intro v hv f s hf
    obtain ⟨f, rfl⟩ : ∃ g, f = g + 1 := ⟨f - 1, by simp at hf; omega⟩
    show (if v.2.2.2.1 = 0 then _ else _) = (if v.2.2.2.1 = 0 then _ else _)
    rw [if_pos hv.1, if_pos hv.1]
  · intro v l r hv hl hr il ir f s hf
    obtain ⟨f, rfl⟩ : ∃ g, f = g + 1 := ⟨f - 1, by simp at hf; omega⟩
    simp only [List.length_cons, List.length_append] at hf
    have hk : v.2.2.2.1 - 1 = l.length := by rw [hv.2.2.2.1]; omega
    have h0 : ¬ v.2.2.2.1 = 0 := by rw [hv.2.2.2.1]; omega
    have key : ∀ f s, l.length + r.length ≤ f → pr (f + 1) (v :: (l ++ r) ++ s) = dI v (PR l) (PR r) (isSum r) := by
      intro f s hf
      show (if v.2.2.2.1 = 0 then dL v else dI v (pr f (l ++ r ++ s)) (pr f ((l ++ r ++ s).drop (v.2.2.2.1 - 1))) (isSum ((l ++ r ++ s).drop (v.2.2.2.1 - 1)))) = _
      rw [if_neg h0, hk, List.append_assoc, List.drop_left, il f _ (by omega), ir f _ (by omega), isSum_app hr]
    rw [key f s (by omega)]
    have := key (l ++ r).length [] (by simp)
    rw [List.append_nil] at this
    exact this.symm
theorem PR_leaf {v : pN} (h : lfOk v) : PR [v] = dL v := by
  show (if v.2.2.2.1 = 0 then _ else _) = _
  rw [if_pos h.1]
theorem PR_node {v : pN} {l r : List pN} (h : inOk v l.length) (hl : TW l) (hr : TW r) : PR (v :: (l ++ r)) = dI v (PR l) (PR r) (isSum r) := by
  have h0 : ¬ v.2.2.2.1 = 0 := by rw [h.2.2.2.1]; omega
  have hk : v.2.2.2.1 - 1 = l.length := by rw [h.2.2.2.1]; omega
  show (if v.2.2.2.1 = 0 then dL v else dI v (pr (l ++ r).length (l ++ r)) (pr (l ++ r).length ((l ++ r).drop (v.2.2.2.1 - 1))) (isSum ((l ++ r).drop (v.2.2.2.1 - 1)))) = _
  have e := pr_app hr (l ++ r).length [] (by simp)
  rw [List.append_nil] at e
  rw [if_neg h0, hk, List.drop_left, pr_app hl _ _ (by simp), e]
/-! ===== how long it is ===== -/
theorem dW_len {x k : Nat} (hx : x < 10 ^ k) (hk : 1 ≤ k) : (dW x).length ≤ k := by
  have h6 : (dW x).length = (if 100000 ≤ x then 1 else 0) + ((if 10000 ≤ x then 1 else 0) + ((if 1000 ≤ x then 1 else 0) + ((if 100 ≤ x then 1 else 0) + ((if 10 ≤ x then 1 else 0) + 1)))) := by
    unfold dW
    simp only [List.length_append, List.length_singleton]
    repeat' split
    all_goals rfl
  rw [h6]
  by_cases h : k < 6
  · have : k = 1 ∨ k = 2 ∨ k = 3 ∨ k = 4 ∨ k = 5 := by omega
    rcases this with rfl | rfl | rfl | rfl | rfl <;> simp at hx <;> (repeat' split) <;> omega
  · repeat' split
    all_goals omega
theorem dF_len (r : Nat) : (dF r).length ≤ 4 ∧ (r % 10 = 0 → (dF r).length ≤ 3) ∧ (r % 100 = 0 → (dF r).length ≤ 2) ∧ (r = 0 → (dF r).length = 0) := by
  unfold dF
  repeat' split
  all_goals simp
  all_goals omega
theorem dW_wV {T : Nat → Int32} {n p : Nat} (h : wG T n p) : (dW (wV T n p)).length ≤ wE T n p - wB T n p := by
  have := vN_lt T (wE T n p - wB T n p) (wB T n p) 0 (skD_all T)
  exact dW_len (by unfold wV; omega) h.1
theorem dN_tV {T : Nat → Int32} {n p : Nat} (hq : p ≤ n) (h : tG T n p) : (dN (tV T n p)).length ≤ tN T n p - p := by
  have h1 := vN_lt T (tE T n p - p) p 0 (skD_all T)
  have hE := tE_le (T := T) hq
  obtain ⟨⟨g1, g2⟩, g3⟩ := h
  unfold dN tV tN
  rw [List.length_append]
  by_cases hP : tP T n p
  · rw [p_if_t hP, p_if_t hP]
    have hF := tF_le hP
    have h3 := vN_lt T (tK T n p) (tE T n p + 1) 0 (skD_all T)
    have hk := g3 hP
    have hkF : tF T n p = tE T n p + 1 + tK T n p := by unfold tK; omega
    generalize hv : vN T (tE T n p - p) p 0 = v at h1
    generalize hw : vN T (tK T n p) (tE T n p + 1) 0 = w at h3
    have hr : w * (if tK T n p = 1 then 100 else if tK T n p = 2 then 10 else 1) < 1000 ∧ (dF (w * (if tK T n p = 1 then 100 else if tK T n p = 2 then 10 else 1))).length ≤ 1 + tK T n p := by
      have h4 : tK T n p = 1 ∨ tK T n p = 2 ∨ tK T n p = 3 := by omega
      rcases h4 with h4 | h4 | h4 <;> rw [h4] at h3 ⊢ <;> simp at h3 ⊢
      · refine ⟨by omega, ?_⟩
        have := (dF_len (w * 100)).2.2.1 (by omega); omega
      · refine ⟨by omega, ?_⟩
        have := (dF_len (w * 10)).2.1 (by omega); omega
      · refine ⟨by omega, ?_⟩
        have := (dF_len w).1; omega
    obtain ⟨hr1, hr2⟩ := hr
    generalize w * (if tK T n p = 1 then 100 else if tK T n p = 2 then 10 else 1) = r at hr1 hr2
    have e1 : (v * 1000 + r) / 1000 = v := by omega
    have e2 : (v * 1000 + r) % 1000 = r := by omega
    rw [e1, e2]
    have := dW_len (x := v) (k := tE T n p - p) (by omega) g1
    omega
  · rw [p_if_f hP, p_if_f hP]
    generalize hv : vN T (tE T n p - p) p 0 = v at h1
    have e1 : (v * 1000 + 0) / 1000 = v := by omega
    have e2 : (v * 1000 + 0) % 1000 = 0 := by omega
    rw [e1, e2]
    have := dW_len (x := v) (k := tE T n p - p) (by omega) g1
    have := (dF_len 0).2.2.2 rfl
    omega
theorem dR_len (f : Bool) (rs : List (Nat × Nat)) : (dR f rs).length = (dR false rs).length := by
  cases rs with
  | nil => rfl
  | cons q t => cases f <;> rfl
theorem dR_app : ∀ (rs : List (Nat × Nat)) (f : Bool) (q : Nat × Nat), (dR f (rs ++ [q])).length = (dR f rs).length + (3 + (dW q.1).length + (dW q.2).length) := by
  intro rs
  induction rs with
  | nil => intro f q; simp [dR]; omega
  | cons r t ih => intro f q; simp only [List.cons_append, dR, List.length_cons, List.length_append]; rw [ih]; omega
/-- what rows leave -/
theorem sRows_ok (T : Nat → Int32) (n : Nat) : ∀ f p rs p' rs', p ≤ n → sRows T n f p rs = .inr (p', rs') → rs.length ≤ 6 → (∀ q ∈ rs, q.1 < 1000000 ∧ q.2 < 1000000) →
    p < p' ∧ p' ≤ n ∧ rs' ≠ [] ∧ rs'.length ≤ 6 ∧ (∀ q ∈ rs', q.1 < 1000000 ∧ q.2 < 1000000) ∧ (dR true rs').length + 1 ≤ (dR true rs).length + 3 * (p' - p) := by
  intro f
  induction f with
  | zero => intro p rs p' rs' _ h; cases h
  | succ f ih =>
    intro p rs p' rs' hp h hl hB
    unfold sRows at h
    by_cases hG : wG T n p
    · rw [p_if_f (fun h => h hG)] at h
      by_cases hE : sg T n (rQ T n p) = nI 61
      · rw [p_if_f (fun h => h hE)] at h
        by_cases hG2 : wG T n (rQ T n p + 1)
        · rw [p_if_f (fun h => h hG2)] at h
          by_cases hb : rBad T n p rs
          · rw [p_if_t hb] at h; cases h
          · rw [p_if_f hb] at h
            have hlt := (sg_lt (by decide) hE).1
            have b1 := wB_le (T := T) hp
            have b2 := rQ_le (T := T) hp
            have b3 := wB_le (T := T) (n := n) (p := rQ T n p + 1) (by omega)
            have b4 : wE T n (rQ T n p + 1) ≤ rZ T n p ∧ rZ T n p ≤ n := skn_ge cB T b3.2.2
            have d1 := dW_wV hG
            have d2 := dW_wV hG2
            have hl6 : rs.length ≠ 6 := fun h => hb (Or.inl h)
            have hd : (dR true (rs ++ [rRow T n p])).length = (dR true rs).length + (3 + (dW (wV T n p)).length + (dW (wV T n (rQ T n p + 1))).length) := dR_app rs true (rRow T n p)
            have hB2 : ∀ q ∈ rs ++ [rRow T n p], q.1 < 1000000 ∧ q.2 < 1000000 := by
              intro q hq
              rcases List.mem_append.mp hq with h | h
              · exact hB q h
              · rw [List.mem_singleton.mp h]; exact ⟨wV_lt hG, wV_lt hG2⟩
            have g1 := hG.1
            have g2 := hG2.1
            by_cases hc : sg T n (rZ T n p) = nI 44
            · rw [p_if_t hc] at h
              have hlt2 := (sg_lt (by decide) hc).1
              have := ih (rZ T n p + 1) (rs ++ [rRow T n p]) p' rs' (by omega) h (by simp; omega) hB2
              refine ⟨by omega, this.2.1, this.2.2.1, this.2.2.2.1, this.2.2.2.2.1, ?_⟩
              have := this.2.2.2.2.2
              omega
            · rw [p_if_f hc] at h
              cases h
              refine ⟨by omega, b4.2, by simp, by simp; omega, hB2, ?_⟩
              omega
        · rw [p_if_t hG2] at h; cases h
      · rw [p_if_t hE] at h; cases h
    · rw [p_if_t hG] at h; cases h
theorem sRows_bad (T : Nat → Int32) (n : Nat) : ∀ f p rs b, p ≤ n → sRows T n f p rs = .inl b → b ≤ n := by
  intro f
  induction f with
  | zero => intro p rs b hp h; cases h; exact hp
  | succ f ih =>
    intro p rs b hp h
    unfold sRows at h
    have b1 := wB_le (T := T) hp
    have b2 := rQ_le (T := T) hp
    by_cases hG : wG T n p
    · rw [p_if_f (fun h => h hG)] at h
      by_cases hE : sg T n (rQ T n p) = nI 61
      · rw [p_if_f (fun h => h hE)] at h
        have hlt := (sg_lt (by decide) hE).1
        have b3 := wB_le (T := T) (n := n) (p := rQ T n p + 1) (by omega)
        by_cases hG2 : wG T n (rQ T n p + 1)
        · rw [p_if_f (fun h => h hG2)] at h
          by_cases hb : rBad T n p rs
          · rw [p_if_t hb] at h; cases h; omega
          · rw [p_if_f hb] at h
            by_cases hc : sg T n (rZ T n p) = nI 44
            · rw [p_if_t hc] at h
              have hlt2 := (sg_lt (by decide) hc).1
              exact ih _ _ b (by omega) h
            · rw [p_if_f hc] at h; cases h
        · rw [p_if_t hG2] at h; cases h; omega
      · rw [p_if_t hE] at h; cases h; omega
    · rw [p_if_t hG] at h; cases h; omega
/-- a step part: the word's four signs stand ahead -/
theorem sStep_ok {T : Nat → Int32} {n p p' en : Nat} {rs : List (Nat × Nat)} (hp : p ≤ n) (h : sStep T n p = .inr (p', en, rs)) : p < p' ∧ p' ≤ n ∧ lfOk (7, en, 0, 0, rs) ∧ (dL (7, en, 0, 0, rs)).length ≤ 5 + 3 * (p' - p) := by
  unfold sStep at h
  have b0 := skn_ge cB T hp
  by_cases h1 : sg T n (skn cB T n p) = nI 40
  · rw [p_if_f (fun h => h h1)] at h
    have l1 := (sg_lt (by decide) h1).1
    by_cases hG : wG T n (skn cB T n p + 1)
    · rw [p_if_f (fun h => h hG)] at h
      have b1 := wB_le (T := T) (n := n) (p := skn cB T n p + 1) (by omega)
      have b2 := rQ_le (T := T) (n := n) (p := skn cB T n p + 1) (by omega)
      by_cases h2 : sg T n (rQ T n (skn cB T n p + 1)) = nI 58
      · rw [p_if_f (fun h => h h2)] at h
        have l2 := (sg_lt (by decide) h2).1
        cases hr : sRows T n 7 (rQ T n (skn cB T n p + 1) + 1) [] with
        | inl b => rw [hr] at h; cases h
        | inr q =>
          obtain ⟨p3, rs3⟩ := q
          rw [hr] at h
          have h : p_if (sg T n (skn cB T n p3) = nI 41) (.inr (skn cB T n p3 + 1, wV T n (skn cB T n p + 1), rs3)) (.inl (skn cB T n p3)) = (Sum.inr (p', en, rs) : Nat ⊕ (Nat × Nat × List (Nat × Nat))) := h
          have hk := sRows_ok T n 7 _ [] p3 rs3 (by omega) hr (by simp) (by simp)
          by_cases h3 : sg T n (skn cB T n p3) = nI 41
          · rw [p_if_t h3] at h
            cases h
            have l3 := (sg_lt (by decide) h3).1
            have b3 := skn_ge cB T hk.2.1
            have hV := wV_lt hG
            have d := dW_wV hG
            have g1 := hG.1
            refine ⟨by omega, by omega, ⟨rfl, by dsimp only; omega, Or.inr (Or.inr (Or.inr ⟨rfl, hV, rfl, hk.2.2.1, hk.2.2.2.1, hk.2.2.2.2.1⟩))⟩, ?_⟩
            have := hk.2.2.2.2.2
            unfold dL
            rw [if_neg (by show ¬ (7 : Nat) = 0; decide), if_neg (by show ¬ (7 : Nat) = 1; decide), if_neg (by show ¬ (7 : Nat) = 2; decide)]
            simp only [List.length_append, List.length_cons, List.length_nil]
            simp only [dR, List.length_nil] at this
            omega
          · rw [p_if_f h3] at h; cases h
      · rw [p_if_t h2] at h; cases h
    · rw [p_if_t hG] at h; cases h
  · rw [p_if_t h1] at h; cases h
theorem sStep_bad {T : Nat → Int32} {n p b : Nat} (hp : p ≤ n) (h : sStep T n p = .inl b) : b ≤ n := by
  unfold sStep at h
  have b0 := skn_ge cB T hp
  by_cases h1 : sg T n (skn cB T n p) = nI 40
  · rw [p_if_f (fun h => h h1)] at h
    have l1 := (sg_lt (by decide) h1).1
    have b1 := wB_le (T := T) (n := n) (p := skn cB T n p + 1) (by omega)
    have b2 := rQ_le (T := T) (n := n) (p := skn cB T n p + 1) (by omega)
    by_cases hG : wG T n (skn cB T n p + 1)
    · rw [p_if_f (fun h => h hG)] at h
      by_cases h2 : sg T n (rQ T n (skn cB T n p + 1)) = nI 58
      · rw [p_if_f (fun h => h h2)] at h
        have l2 := (sg_lt (by decide) h2).1
        cases hr : sRows T n 7 (rQ T n (skn cB T n p + 1) + 1) [] with
        | inl b' =>
          rw [hr] at h
          cases h
          exact sRows_bad T n 7 _ _ b (by omega) hr
        | inr q =>
          obtain ⟨p3, rs3⟩ := q
          rw [hr] at h
          have h : p_if (sg T n (skn cB T n p3) = nI 41) (.inr (skn cB T n p3 + 1, wV T n (skn cB T n p + 1), rs3)) (.inl (skn cB T n p3)) = (Sum.inl b : Nat ⊕ (Nat × Nat × List (Nat × Nat))) := h
          have hk := sRows_ok T n 7 _ [] p3 rs3 (by omega) hr (by simp) (by simp)
          have b3 := skn_ge cB T hk.2.1
          by_cases h3 : sg T n (skn cB T n p3) = nI 41
          · rw [p_if_t h3] at h; cases h
          · rw [p_if_f h3] at h; cases h; exact b3.2
      · rw [p_if_t h2] at h; cases h; omega
    · rw [p_if_t hG] at h; cases h; omega
  · rw [p_if_t h1] at h; cases h; omega
/-- what a part is owed -/
def GP (n cnt p mx : Nat) (res : pS) : Prop := match res with
  | .inl b => b ≤ n
  | .inr (p', ns, mx') => p < p' ∧ p' ≤ n ∧ cnt + ns.length ≤ 60 ∧ mx ≤ mx' ∧ mx' ≤ 12 ∧ TW ns ∧ (PR ns).length + (if isSum ns then 2 else 0) ≤ 3 * (p' - p)
/-- what a rate is owed -/
def GR (n cnt p mx : Nat) (res : pS) : Prop := match res with
  | .inl b => b ≤ n
  | .inr (p', ns, mx') => p < p' ∧ p' ≤ n ∧ cnt + ns.length ≤ 60 ∧ mx ≤ mx' ∧ mx' ≤ 12 ∧ TW ns ∧ (PR ns).length ≤ 3 * (p' - p)
def GOP (n : Nat) (P : Nat → Nat → Nat → Nat → Option pS) : Prop := ∀ deep cnt p mx res, deep ≤ 12 → cnt ≤ 60 → p ≤ n → mx ≤ 12 → P deep cnt p mx = some res → GP n cnt p mx res
def GOR (n : Nat) (R : Nat → Nat → Nat → Nat → Option pS) : Prop := ∀ deep cnt p mx res, deep ≤ 12 → cnt ≤ 60 → p ≤ n → mx ≤ 12 → R deep cnt p mx = some res → GR n cnt p mx res
def GOT (n : Nat) (K : Nat → Nat → Nat → List pN → Nat → Option pS) : Prop := ∀ deep cnt p ns mx res, deep ≤ 12 → cnt + ns.length ≤ 60 → p ≤ n → mx ≤ 12 → TW ns → K deep cnt p ns mx = some res → match res with
  | .inl b => b ≤ n
  | .inr (p', ns', mx') => p ≤ p' ∧ p' ≤ n ∧ cnt + ns'.length ≤ 60 ∧ mx ≤ mx' ∧ mx' ≤ 12 ∧ TW ns' ∧ (PR ns').length ≤ (PR ns).length + 3 * (p' - p)
theorem sNum_ok {T : Nat → Int32} {n cnt p mx : Nat} (hm : mx ≤ 12) (hp : p ≤ n) : GP n cnt p mx (sNum T n cnt p mx) := by
  unfold sNum
  by_cases h0 : ¬ tG T n p ∨ 60 ≤ cnt
  · rw [p_if_t h0]; exact hp
  · rw [p_if_f h0]
    have hG : tG T n p := Classical.byContradiction (fun h => h0 (Or.inl h))
    have hc : cnt < 60 := Nat.lt_of_not_le (fun h => h0 (Or.inr h))
    have b1 := tN_le (T := T) hp
    have b0 := tE_le (T := T) hp
    have b2 := skn_ge cB T b1.2
    have d := dN_tV hp hG
    have hV := tV_lt hG
    have g1 := hG.1.1
    by_cases h1 : sg T n (skn cB T n (tN T n p)) = nI 37
    · rw [p_if_t h1]
      have l1 := (sg_lt (by decide) h1).1
      have hL : lfOk (1, tV T n p, 0, 0, []) := ⟨rfl, hV, Or.inr (Or.inl ⟨rfl, rfl, rfl⟩)⟩
      refine ⟨by omega, by omega, by simp; omega, Nat.le_refl _, hm, TW_leaf hL, ?_⟩
      rw [PR_leaf hL]
      show (dN (tV T n p) ++ [37]).length + 0 ≤ _
      simp only [List.length_append, List.length_singleton]
      omega
    · rw [p_if_f h1]
      by_cases h2 : sg T n (skn cB T n (tN T n p)) = nI 47
      · rw [p_if_f (fun h => h h2)]
        have l2 := (sg_lt (by decide) h2).1
        have b3 := skn_ge cB T (n := n) (p := skn cB T n (tN T n p) + 1) (by omega)
        by_cases hu : uOk (sg T n (skn cB T n (skn cB T n (tN T n p) + 1)))
        · rw [p_if_t hu]
          have l3 : skn cB T n (skn cB T n (tN T n p) + 1) < n := by
            refine Nat.lt_of_not_le (fun h => ?_)
            unfold uOk sg at hu
            rw [if_neg (by omega)] at hu
            exact absurd hu (by decide)
          have hu2 := uN_ok hu
          have hL : lfOk (2, tV T n p, uN (sg T n (skn cB T n (skn cB T n (tN T n p) + 1))), 0, []) := ⟨rfl, hV, Or.inr (Or.inr (Or.inl ⟨rfl, hu2.2.1, hu2.2.2, rfl⟩))⟩
          refine ⟨by omega, by omega, by simp; omega, Nat.le_refl _, hm, TW_leaf hL, ?_⟩
          rw [PR_leaf hL]
          show (dN (tV T n p) ++ [47, _]).length + 0 ≤ _
          simp only [List.length_append, List.length_cons, List.length_nil]
          omega
        · rw [p_if_f hu]; exact b3.2
      · rw [p_if_t h2]; exact b2.2
theorem sClose_ok {T : Nat → Int32} {n : Nat} {c : Int32} {r : Option pS} {k : Nat → List pN → Nat → Option pS} {res : pS} (hc : ¬ c = -1) (h : sClose T n c r k = some res) (hb : ∀ p ns mx, r = some (.inr (p, ns, mx)) → p ≤ n) : (∃ b, res = .inl b ∧ (r = some (.inl b) ∨ b ≤ n)) ∨ ∃ p ns mx, r = some (.inr (p, ns, mx)) ∧ p ≤ skn cB T n p ∧ skn cB T n p < n ∧ k (skn cB T n p + 1) ns mx = some res := by
  unfold sClose at h
  split at h
  · cases h
  · next b => cases h; exact Or.inl ⟨b, rfl, Or.inl rfl⟩
  · next p ns mx =>
    have hp := hb p ns mx rfl
    have b1 := skn_ge cB T hp
    by_cases h1 : sg T n (skn cB T n p) = c
    · rw [p_if_t h1] at h
      exact Or.inr ⟨p, ns, mx, rfl, b1.1, (sg_lt hc h1).1, h⟩
    · rw [p_if_f h1] at h
      cases h
      exact Or.inl ⟨_, rfl, Or.inr b1.2⟩
theorem sTwo_ok {T : Nat → Int32} {n kd deep cnt p mx : Nat} {R : Nat → Nat → Nat → Nat → Option pS} {res : pS} (hR : GOR n R) (hk : kd = 5 ∨ kd = 6) (hd : deep < 12) (hc : cnt < 60) (hp : p ≤ n) (hm : mx ≤ 12) (h : sTwo T n R kd deep cnt p mx = some res) : match res with
    | .inl b => b ≤ n
    | .inr (p', ns, mx') => p < p' ∧ p' ≤ n ∧ cnt + ns.length ≤ 60 ∧ mx ≤ mx' ∧ mx' ≤ 12 ∧ TW ns ∧ (PR ns).length ≤ 3 * (p' - p) ∧ isSum ns = false := by
  unfold sTwo at h
  have b0 := skn_ge cB T hp
  by_cases h1 : sg T n (skn cB T n p) = nI 40
  · rw [p_if_f (fun h => h h1)] at h
    have l1 := (sg_lt (by decide) h1).1
    have r1 := fun res => hR (deep + 1) (cnt + 1) (skn cB T n p + 1) mx res (by omega) (by omega) (by omega) hm
    rcases sClose_ok (by decide) h (fun p ns mx e => (r1 _ e).2.1) with ⟨b, rfl, hb | hb⟩ | ⟨p1, l, m1, e1, c1, c2, h⟩
    · exact r1 _ hb
    · exact hb
    · obtain ⟨q1, q2, q3, q4, q5, q6, q7⟩ := r1 _ e1
      have r2 := fun res => hR (deep + 1) (cnt + 1 + l.length) (skn cB T n p1 + 1) m1 res (by omega) (by omega) (by omega) q5
      rcases sClose_ok (by decide) h (fun p ns mx e => (r2 _ e).2.1) with ⟨b, rfl, hb | hb⟩ | ⟨p2, r, m2, e2, c3, c4, h⟩
      · exact r2 _ hb
      · exact hb
      · obtain ⟨s1, s2, s3, s4, s5, s6, s7⟩ := r2 _ e2
        cases h
        have hI : inOk (kd, 0, 0, 1 + l.length, []) l.length := ⟨by rcases hk with h | h <;> simp [h], rfl, rfl, rfl, rfl⟩
        refine ⟨by omega, by omega, by simp; omega, by omega, s5, TW_node hI q6 s6, ?_, by rcases hk with h | h <;> (subst h; rfl)⟩
        rw [PR_node hI q6 s6]
        unfold dI
        rw [if_neg (by rcases hk with h | h <;> simp [h])]
        simp only [List.length_append, List.length_cons, List.length_nil]
        have : ((if kd = 5 then [109, 105, 110, 40] else [109, 97, 120, 40]) : List Nat).length = 4 := by split <;> rfl
        simp only [this]
        omega
  · rw [p_if_t h1] at h; cases h; exact b0.2
theorem isW_len {T : Nat → Int32} {f e j : Nat} (h : isW T f e j) : e - f = p_slen j := h.1
theorem sWord_ok {T : Nat → Int32} {n deep cnt q mx : Nat} {R : Nat → Nat → Nat → Nat → Option pS} {res : pS} (hR : GOR n R) (hd : deep ≤ 12) (hc : cnt ≤ 60) (hp : q ≤ n) (hm : mx ≤ 12) (h : sWord T n R deep cnt q mx = some res) : GP n cnt q mx res := by
  have b0 := skn_ge cS T hp
  have s0 : p_slen 0 = 4 := rfl
  have s1 : p_slen 1 = 3 := rfl
  have s2 : p_slen 2 = 3 := rfl
  have s3 : p_slen 3 = 4 := rfl
  unfold sWord at h
  dsimp only at h
  have two : ∀ kd, (kd = 5 ∨ kd = 6) → q < skn cS T n q → ¬ (60 ≤ cnt ∨ 12 ≤ deep) → sTwo T n R kd deep cnt (skn cS T n q) (max mx (deep + 1)) = some res → GP n cnt q mx res := by
    intro kd hk hq hnf h
    have := sTwo_ok hR hk (by omega) (by omega) b0.2 (by omega) h
    cases res with
    | inl b => exact this
    | inr s =>
      obtain ⟨p', ns, mx'⟩ := s
      obtain ⟨e1, e2, e3, e4, e5, e6, e7, e8⟩ := this
      refine ⟨by omega, e2, e3, by omega, e5, e6, ?_⟩
      rw [e8]
      show _ + 0 ≤ _
      omega
  by_cases h0 : isW T q (skn cS T n q) 0
  · rw [p_if_t h0] at h
    by_cases hf : 60 ≤ cnt
    · rw [p_if_t hf] at h; cases h; exact hp
    · rw [p_if_f hf] at h
      cases h
      have hl := isW_len h0
      have hL : lfOk (0, 0, 0, 0, []) := ⟨rfl, by decide, Or.inl ⟨rfl, rfl, rfl, rfl⟩⟩
      refine ⟨by omega, b0.2, by simp; omega, Nat.le_refl _, hm, TW_leaf hL, ?_⟩
      rw [PR_leaf hL]
      show 4 + 0 ≤ _
      omega
  · rw [p_if_f h0] at h
    by_cases h1 : isW T q (skn cS T n q) 1
    · rw [p_if_t h1] at h
      by_cases hf : 60 ≤ cnt ∨ 12 ≤ deep
      · rw [p_if_t hf] at h; cases h; exact hp
      · rw [p_if_f hf] at h
        have hl := isW_len h1
        exact two 5 (Or.inl rfl) (by omega) hf h
    · rw [p_if_f h1] at h
      by_cases h2 : isW T q (skn cS T n q) 2
      · rw [p_if_t h2] at h
        by_cases hf : 60 ≤ cnt ∨ 12 ≤ deep
        · rw [p_if_t hf] at h; cases h; exact hp
        · rw [p_if_f hf] at h
          have hl := isW_len h2
          exact two 6 (Or.inr rfl) (by omega) hf h
      · rw [p_if_f h2] at h
        by_cases h3 : isW T q (skn cS T n q) 3
        · rw [p_if_t h3] at h
          have hl := isW_len h3
          by_cases hf : 60 ≤ cnt
          · rw [p_if_t hf] at h; cases h; exact hp
          · rw [p_if_f hf] at h
            cases hs : sStep T n (skn cS T n q) with
            | inl b => rw [hs] at h; cases h; exact sStep_bad b0.2 hs
            | inr s =>
              obtain ⟨p', en, rs⟩ := s
              rw [hs] at h
              cases h
              obtain ⟨e1, e2, e3, e4⟩ := sStep_ok b0.2 hs
              refine ⟨by omega, e2, by simp; omega, Nat.le_refl _, hm, TW_leaf e3, ?_⟩
              rw [PR_leaf e3]
              show _ + 0 ≤ _
              omega
        · rw [p_if_f h3] at h; cases h; exact hp
theorem sPartB_ok {T : Nat → Int32} {n : Nat} {R : Nat → Nat → Nat → Nat → Option pS} (hR : GOR n R) : GOP n (sPartB T n R) := by
  intro deep cnt p mx res hd hc hp hm h
  have b0 := skn_ge cB T hp
  have mono : ∀ res, GP n cnt (skn cB T n p) mx res → GP n cnt p mx res := by
    intro res h
    cases res with
    | inl b => exact h
    | inr s =>
      obtain ⟨p', ns, mx'⟩ := s
      obtain ⟨e1, e2, e3, e4, e5, e6, e7⟩ := h
      exact ⟨by omega, e2, e3, e4, e5, e6, by omega⟩
  unfold sPartB at h
  dsimp only at h
  by_cases h1 : sg T n (skn cB T n p) = nI 40
  · rw [p_if_t h1] at h
    have l1 := (sg_lt (by decide) h1).1
    by_cases hf : 12 ≤ deep
    · rw [p_if_t hf] at h; cases h; exact b0.2
    · rw [p_if_f hf] at h
      have r1 := fun res => hR (deep + 1) cnt (skn cB T n p + 1) (max mx (deep + 1)) res (by omega) hc (by omega) (by omega)
      rcases sClose_ok (by decide) h (fun p ns mx e => (r1 _ e).2.1) with ⟨b, rfl, hb | hb⟩ | ⟨p1, l, m1, e1, c1, c2, h⟩
      · exact r1 _ hb
      · exact hb
      · obtain ⟨q1, q2, q3, q4, q5, q6, q7⟩ := r1 _ e1
        cases h
        refine ⟨by omega, by omega, q3, by omega, q5, q6, ?_⟩
        split <;> omega
  · rw [p_if_f h1] at h
    by_cases h2 : cD (sg T n (skn cB T n p)) = true
    · rw [p_if_t h2] at h
      cases h
      exact mono _ (sNum_ok hm b0.2)
    · rw [p_if_f h2] at h
      exact mono _ (sWord_ok hR hd hc b0.2 hm h)
theorem sKind_ok {c : Int32} (h : ¬ sKind c = 0) : (sKind c = 3 ∨ sKind c = 4) ∧ ¬ c = -1 := by
  unfold sKind at h ⊢
  by_cases h1 : c = nI 43
  · subst h1; exact ⟨Or.inl rfl, by decide⟩
  · rw [if_neg h1] at h ⊢
    by_cases h2 : c = nI 45
    · subst h2; exact ⟨Or.inr rfl, by decide⟩
    · rw [if_neg h2] at h; exact absurd rfl h
theorem sTailB_ok {T : Nat → Int32} {n : Nat} {P : Nat → Nat → Nat → Nat → Option pS} {K : Nat → Nat → Nat → List pN → Nat → Option pS} (hP : GOP n P) (hK : GOT n K) : GOT n (sTailB T n P K) := by
  intro deep cnt p ns mx res hd hc hp hm ht h
  have b0 := skn_ge cB T hp
  unfold sTailB at h
  dsimp only at h
  by_cases h1 : sKind (sg T n (skn cB T n p)) = 0
  · rw [p_if_t h1] at h
    cases h
    exact ⟨b0.1, b0.2, hc, Nat.le_refl _, hm, ht, by omega⟩
  · rw [p_if_f h1] at h
    obtain ⟨k1, k2⟩ := sKind_ok h1
    have l1 : skn cB T n p < n := (sg_lt k2 rfl).1
    by_cases hf : 60 ≤ cnt + ns.length
    · rw [p_if_t hf] at h; cases h; exact b0.2
    · rw [p_if_f hf] at h
      have r1 := fun res => hP deep (cnt + ns.length + 1) (skn cB T n p + 1) mx res hd (by omega) (by omega) hm
      cases hq : P deep (cnt + ns.length + 1) (skn cB T n p + 1) mx with
      | none => rw [hq] at h; cases h
      | some s =>
        rw [hq] at h
        have r2 := r1 _ hq
        cases s with
        | inl b => cases h; exact r2
        | inr s =>
          obtain ⟨p2, ms, m2⟩ := s
          obtain ⟨q1, q2, q3, q4, q5, q6, q7⟩ := r2
          have hI : inOk (sKind (sg T n (skn cB T n p)), 0, 0, 1 + ns.length, []) ns.length := ⟨by rcases k1 with h | h <;> simp [h], rfl, rfl, rfl, rfl⟩
          have r3 := hK deep cnt p2 ((sKind (sg T n (skn cB T n p)), 0, 0, 1 + ns.length, []) :: (ns ++ ms)) m2 res hd (by simp; omega) q2 q5 (TW_node hI ht q6) h
          cases res with
          | inl b => exact r3
          | inr s =>
            obtain ⟨p3, ns3, m3⟩ := s
            obtain ⟨e1, e2, e3, e4, e5, e6, e7⟩ := r3
            refine ⟨by omega, e2, e3, by omega, e5, e6, ?_⟩
            rw [PR_node hI ht q6] at e7
            unfold dI at e7
            rw [if_pos (by rcases k1 with h | h <;> simp [h])] at e7
            have z1 : ((if isSum ms then [40] else []) : List Nat).length + ((if isSum ms then [41] else []) : List Nat).length = if isSum ms then 2 else 0 := by cases isSum ms <;> rfl
            simp only [List.length_append, List.length_cons, List.length_nil] at e7
            omega
theorem spec_ok (T : Nat → Int32) (n : Nat) : ∀ f, GOP n (sP T n f) ∧ GOT n (sT T n f) := by
  intro f
  induction f with
  | zero =>
    refine ⟨?_, ?_⟩
    · intro deep cnt p mx res _ _ _ _ h; cases h
    · intro deep cnt p ns mx res _ _ _ _ _ h; cases h
  | succ f ih =>
    rw [sP_succ, sT_succ]
    refine ⟨sPartB_ok ?_, sTailB_ok ih.1 ih.2⟩
    intro deep cnt p mx res hd hc hp hm h
    unfold sR at h
    cases hq : sP T n f deep cnt p mx with
    | none => rw [hq] at h; cases h
    | some s =>
      rw [hq] at h
      have r1 := ih.1 deep cnt p mx s hd hc hp hm hq
      cases s with
      | inl b => cases h; exact r1
      | inr s =>
        obtain ⟨p1, ns, m1⟩ := s
        obtain ⟨q1, q2, q3, q4, q5, q6, q7⟩ := r1
        have r2 := ih.2 deep cnt p1 ns m1 res hd q3 q2 q5 q6 h
        cases res with
        | inl b => exact r2
        | inr s =>
          obtain ⟨p3, ns3, m3⟩ := s
          obtain ⟨e1, e2, e3, e4, e5, e6, e7⟩ := r2
          exact ⟨by omega, e2, e3, by omega, e5, e6, by omega⟩
theorem GOR_sR (T : Nat → Int32) (n f : Nat) : GOR n (sR T n f) := by
  intro deep cnt p mx res hd hc hp hm h
  have ih := spec_ok T n f
  unfold sR at h
  cases hq : sP T n f deep cnt p mx with
  | none => rw [hq] at h; cases h
  | some s =>
    rw [hq] at h
    have r1 := ih.1 deep cnt p mx s hd hc hp hm hq
    cases s with
    | inl b => cases h; exact r1
    | inr s =>
      obtain ⟨p1, ns, m1⟩ := s
      obtain ⟨q1, q2, q3, q4, q5, q6, q7⟩ := r1
      have r2 := ih.2 deep cnt p1 ns m1 res hd q3 q2 q5 q6 h
      cases res with
      | inl b => exact r2
      | inr s =>
        obtain ⟨p3, ns3, m3⟩ := s
        obtain ⟨e1, e2, e3, e4, e5, e6, e7⟩ := r2
        exact ⟨by omega, e2, e3, by omega, e5, e6, by omega⟩
/-! ===== enough fuel ===== -/
def TOP (n f : Nat) (P : Nat → Nat → Nat → Nat → Option pS) : Prop := ∀ deep cnt p mx, deep ≤ 12 → cnt ≤ 60 → p ≤ n → mx ≤ 12 → n - p < f → ∃ res, P deep cnt p mx = some res
theorem sTwo_tot {T : Nat → Int32} {n f kd deep cnt p mx : Nat} {R : Nat → Nat → Nat → Nat → Option pS} (hR : GOR n R) (hT : TOP n f R) (hd : deep < 12) (hc : cnt < 60) (hp : p ≤ n) (hm : mx ≤ 12) (hf : n - p ≤ f) : ∃ res, sTwo T n R kd deep cnt p mx = some res := by
  unfold sTwo
  have b0 := skn_ge cB T hp
  by_cases h1 : sg T n (skn cB T n p) = nI 40
  · rw [p_if_f (fun h => h h1)]
    have l1 := (sg_lt (by decide) h1).1
    obtain ⟨s, hs⟩ := hT (deep + 1) (cnt + 1) (skn cB T n p + 1) mx (by omega) (by omega) (by omega) hm (by omega)
    have g1 := hR (deep + 1) (cnt + 1) (skn cB T n p + 1) mx s (by omega) (by omega) (by omega) hm hs
    rw [hs]
    cases s with
    | inl b => exact ⟨_, rfl⟩
    | inr s =>
      obtain ⟨p1, l, m1⟩ := s
      obtain ⟨q1, q2, q3, q4, q5, q6, q7⟩ := g1
      have b1 := skn_ge cB T q2
      show ∃ res, p_if (sg T n (skn cB T n p1) = nI 44) _ _ = some res
      by_cases h2 : sg T n (skn cB T n p1) = nI 44
      · rw [p_if_t h2]
        have l2 := (sg_lt (by decide) h2).1
        obtain ⟨s, hs⟩ := hT (deep + 1) (cnt + 1 + l.length) (skn cB T n p1 + 1) m1 (by omega) (by omega) (by omega) q5 (by omega)
        dsimp only
        rw [hs]
        cases s with
        | inl b => exact ⟨_, rfl⟩
        | inr s =>
          obtain ⟨p2, r, m2⟩ := s
          show ∃ res, p_if (sg T n (skn cB T n p2) = nI 41) _ _ = some res
          by_cases h3 : sg T n (skn cB T n p2) = nI 41
          · rw [p_if_t h3]; exact ⟨_, rfl⟩
          · rw [p_if_f h3]; exact ⟨_, rfl⟩
      · rw [p_if_f h2]; exact ⟨_, rfl⟩
  · rw [p_if_t h1]; exact ⟨_, rfl⟩
theorem sWord_tot {T : Nat → Int32} {n f deep cnt q mx : Nat} {R : Nat → Nat → Nat → Nat → Option pS} (hR : GOR n R) (hT : TOP n f R) (hd : deep ≤ 12) (hp : q ≤ n) (hm : mx ≤ 12) (hf : n - q ≤ f) : ∃ res, sWord T n R deep cnt q mx = some res := by
  have b0 := skn_ge cS T hp
  unfold sWord
  dsimp only
  by_cases h0 : isW T q (skn cS T n q) 0
  · rw [p_if_t h0]
    by_cases hf : 60 ≤ cnt
    · rw [p_if_t hf]; exact ⟨_, rfl⟩
    · rw [p_if_f hf]; exact ⟨_, rfl⟩
  · rw [p_if_f h0]
    by_cases h1 : isW T q (skn cS T n q) 1
    · rw [p_if_t h1]
      by_cases hg : 60 ≤ cnt ∨ 12 ≤ deep
      · rw [p_if_t hg]; exact ⟨_, rfl⟩
      · rw [p_if_f hg]; exact sTwo_tot hR hT (by omega) (by omega) b0.2 (by omega) (by omega)
    · rw [p_if_f h1]
      by_cases h2 : isW T q (skn cS T n q) 2
      · rw [p_if_t h2]
        by_cases hg : 60 ≤ cnt ∨ 12 ≤ deep
        · rw [p_if_t hg]; exact ⟨_, rfl⟩
        · rw [p_if_f hg]; exact sTwo_tot hR hT (by omega) (by omega) b0.2 (by omega) (by omega)
      · rw [p_if_f h2]
        by_cases h3 : isW T q (skn cS T n q) 3
        · rw [p_if_t h3]
          by_cases hg : 60 ≤ cnt
          · rw [p_if_t hg]; exact ⟨_, rfl⟩
          · rw [p_if_f hg]
            cases sStep T n (skn cS T n q) with
            | inl b => exact ⟨_, rfl⟩
            | inr s => exact ⟨_, rfl⟩
        · rw [p_if_f h3]; exact ⟨_, rfl⟩
theorem sPartB_tot {T : Nat → Int32} {n f : Nat} {R : Nat → Nat → Nat → Nat → Option pS} (hR : GOR n R) (hT : TOP n f R) : TOP n (f + 1) (sPartB T n R) := by
  intro deep cnt p mx hd hc hp hm hf
  have b0 := skn_ge cB T hp
  unfold sPartB
  dsimp only
  by_cases h1 : sg T n (skn cB T n p) = nI 40
  · rw [p_if_t h1]
    have l1 := (sg_lt (by decide) h1).1
    by_cases hg : 12 ≤ deep
    · rw [p_if_t hg]; exact ⟨_, rfl⟩
    · rw [p_if_f hg]
      obtain ⟨s, hs⟩ := hT (deep + 1) cnt (skn cB T n p + 1) (max mx (deep + 1)) (by omega) (by omega) (by omega) (by omega) (by omega)
      rw [hs]
      cases s with
      | inl b => exact ⟨_, rfl⟩
      | inr s =>
        obtain ⟨p2, r, m2⟩ := s
        show ∃ res, p_if (sg T n (skn cB T n p2) = nI 41) _ _ = some res
        by_cases h3 : sg T n (skn cB T n p2) = nI 41
        · rw [p_if_t h3]; exact ⟨_, rfl⟩
        · rw [p_if_f h3]; exact ⟨_, rfl⟩
  · rw [p_if_f h1]
    by_cases h2 : cD (sg T n (skn cB T n p)) = true
    · rw [p_if_t h2]; exact ⟨_, rfl⟩
    · rw [p_if_f h2]; exact sWord_tot hR hT hd b0.2 hm (by omega)
theorem spec_tot (T : Nat → Int32) (n : Nat) : ∀ f, TOP n f (sP T n f) ∧ ∀ deep cnt p ns mx, deep ≤ 12 → cnt + ns.length ≤ 60 → p ≤ n → mx ≤ 12 → TW ns → n - p < f → ∃ res, sT T n f deep cnt p ns mx = some res := by
  intro f
  induction f with
  | zero => exact ⟨fun _ _ _ _ _ _ _ _ h => by omega, fun _ _ _ _ _ _ _ _ _ _ h => by omega⟩
  | succ f ih =>
    have hR : TOP n f (sR T n f) := by
      intro deep cnt p mx hd hc hp hm hf
      obtain ⟨s, hs⟩ := ih.1 deep cnt p mx hd hc hp hm hf
      have g := (spec_ok T n f).1 deep cnt p mx s hd hc hp hm hs
      unfold sR
      rw [hs]
      cases s with
      | inl b => exact ⟨_, rfl⟩
      | inr s =>
        obtain ⟨p1, ns, m1⟩ := s
        obtain ⟨q1, q2, q3, q4, q5, q6, q7⟩ := g
        exact ih.2 deep cnt p1 ns m1 hd q3 q2 q5 q6 (by omega)
    rw [sP_succ, sT_succ]
    refine ⟨sPartB_tot (GOR_sR T n f) hR, ?_⟩
    intro deep cnt p ns mx hd hc hp hm ht hf
    have b0 := skn_ge cB T hp
    unfold sTailB
    dsimp only
    by_cases h1 : sKind (sg T n (skn cB T n p)) = 0
    · rw [p_if_t h1]; exact ⟨_, rfl⟩
    · rw [p_if_f h1]
      obtain ⟨k1, k2⟩ := sKind_ok h1
      have l1 : skn cB T n p < n := (sg_lt k2 rfl).1
      by_cases hg : 60 ≤ cnt + ns.length
      · rw [p_if_t hg]; exact ⟨_, rfl⟩
      · rw [p_if_f hg]
        obtain ⟨s, hs⟩ := ih.1 deep (cnt + ns.length + 1) (skn cB T n p + 1) mx hd (by omega) (by omega) hm (by omega)
        have g := (spec_ok T n f).1 deep (cnt + ns.length + 1) (skn cB T n p + 1) mx s hd (by omega) (by omega) hm hs
        rw [hs]
        cases s with
        | inl b => exact ⟨_, rfl⟩
        | inr s =>
          obtain ⟨p2, ms, m2⟩ := s
          obtain ⟨q1, q2, q3, q4, q5, q6, q7⟩ := g
          have hI : inOk (sKind (sg T n (skn cB T n p)), 0, 0, 1 + ns.length, []) ns.length := ⟨by rcases k1 with h | h <;> simp [h], rfl, rfl, rfl, rfl⟩
          exact ih.2 deep cnt p2 _ m2 hd (by simp; omega) q2 q5 (TW_node hI ht q6) (by omega)
theorem sR_tot (T : Nat → Int32) (n : Nat) : ∃ res, sR T n (n + 1) 0 0 0 0 = some res := by
  obtain ⟨s, hs⟩ := (spec_tot T n (n + 1)).1 0 0 0 0 (by omega) (by omega) (by omega) (by omega) (by omega)
  have g := (spec_ok T n (n + 1)).1 0 0 0 0 s (by omega) (by omega) (by omega) (by omega) hs
  unfold sR
  rw [hs]
  cases s with
  | inl b => exact ⟨_, rfl⟩
  | inr s =>
    obtain ⟨p1, ns, m1⟩ := s
    obtain ⟨q1, q2, q3, q4, q5, q6, q7⟩ := g
    exact (spec_tot T n (n + 1)).2 0 0 p1 ns m1 (by omega) q3 q2 q5 q6 (by omega)
