/-! ===== the law's start: the world of the pure machine ===== -/
def st_ex (b f0 f1 : Nat) (adK adV : Nat → Nat) (n : Nat) : Nat := if n = 0 then b else if n = 100000 then f0 else if n = 100001 then f1 else if n ≤ 20 then adK (n - 1) else adV (n - 21)
theorem st_ex0 {b f0 f1 : Nat} {adK adV : Nat → Nat} : st_ex b f0 f1 adK adV 0 = b := rfl
theorem st_exF {b f0 f1 : Nat} {adK adV : Nat → Nat} : st_ex b f0 f1 adK adV 100000 = f0 := rfl
theorem st_exG {b f0 f1 : Nat} {adK adV : Nat → Nat} : st_ex b f0 f1 adK adV 100001 = f1 := rfl
theorem st_exK {b f0 f1 : Nat} {adK adV : Nat → Nat} {j : Nat} (h : j < 20) : st_ex b f0 f1 adK adV (j + 1) = adK j := by
  unfold st_ex
  rw [if_neg (by omega), if_neg (by omega), if_neg (by omega), if_pos (by omega), Nat.add_sub_cancel]
theorem st_exV {b f0 f1 : Nat} {adK adV : Nat → Nat} {j : Nat} (h : j < 20) : st_ex b f0 f1 adK adV (p_lits + 1 + j) = adV j := by
  have e : p_lits + 1 + j = 21 + j := rfl
  unfold st_ex
  rw [e, if_neg (by omega), if_neg (by omega), if_neg (by omega), if_neg (by omega), Nat.add_sub_cancel_left]
section ST
variable {s : State} {b L : Nat} {xs : Nat → Int32}
theorem st_str (hs : ∀ c ∈ lw_fl, c.before #[Value.ref b] s = true) : ∃ adK adV : Nat → Nat, vk_S p_lits p_lenL p_litL adK adV (p_A s.heap.size) s s.heap ∧ ∀ i : Nat, i < p_lits → (st_tm i).eval #[Value.ref b] s none [] s = some (.ref (adK i)) := by
  refine vk_Sof st_7 (fun i hi => hs _ (List.mem_of_getElem? (st_1 i hi))) (fun i hi => hs _ (List.mem_of_getElem? (st_2 i hi))) (fun i hi => hs _ (List.mem_of_getElem? (st_3 i hi))) (fun i hi => hs _ (List.mem_of_getElem? (st_4 i hi))) (fun i hi j hj => hs _ (List.mem_of_getElem? (st_5 i hi j hj))) (fun i j hi hj hn => ?_) (fun a ha => Nat.not_le.mpr ha)
  by_cases h : i < j
  · exact Or.inl (hs _ (List.mem_of_getElem? (st_6 j hj i h)))
  · exact Or.inr (hs _ (List.mem_of_getElem? (st_6 i hi j (by omega))))
theorem st_eqr {args : Array Value} {t1 t2 : Term} {a : Nat} (h : (Cond.eq t1 t2).before args s = true) (h1 : t1.eval args s none [] s = some (.ref a)) : t2.eval args s none [] s = some (.ref a) := by
  simp only [Cond.before, Cond.holds, Cond.value, h1] at h
  cases h2 : t2.eval args s none [] s with
  | none => rw [h2] at h; simp at h
  | some v => rw [h2] at h; cases v <;> simp_all
theorem st_PX (hts : ∀ w ∈ lw_tbl, w.before #[Value.ref b] s = true) (hs : ∀ c ∈ lw_fl, c.before #[Value.ref b] s = true) (hX : va_X b L xs s s.heap) (hb : b < s.heap.size) : ∃ ex : Nat → Nat, ex 0 = b ∧ P_X (L, xs) s.heap.size ex s s.heap := by
  obtain ⟨adK, adV, hS, hE⟩ := st_str hs
  have hA : ∀ a : Nat, a < s.heap.size → ¬ p_A s.heap.size a := fun a ha => Nat.not_le.mpr ha
  have hF : ∃ f0 f1 : Nat, va_Z "jdk/internal/util/Preconditions" "SIOOBE_FORMATTER" "Ljava/util/function/BiFunction;" (if f0 = 0 then .null else .ref f1) (p_A s.heap.size) s s.heap := by
    rcases va_Zqof (hts _ sj_lf) (hts _ sj_if) (hs _ sj_vf) hA with h | ⟨t, h⟩
    · exact ⟨0, 0, h⟩
    · exact ⟨1, t, h⟩
  obtain ⟨f0, f1, hF⟩ := hF
  refine ⟨st_ex b f0 f1 adK adV, rfl, hX, hb, ⟨fun i hi => ?_, fun i j hi hj e => ?_⟩, fun o i j hj => ?_, va_Zqof (hts _ sj_lu) (hts _ sj_iu) (hs _ sj_vu) hA, va_Zqof (hts _ sj_ls) (hts _ sj_is) (hs _ sj_vs) hA, va_Zof (hts _ sj_lc) (hts _ sj_ic) (va_eqt (hs _ sj_vc)) hA, hF, fun w hw => ?_, fun ci cj h1 h2 h3 => ?_, P_LS.of (hts _ sj_lu) hA, P_LS.of (hts _ sj_ls) hA, fun w hw => ?_⟩
  · have h := hS.1 i hi
    have e1 : st_ex b f0 f1 adK adV (i + 1) = adK i := st_exK hi
    have e2 : st_ex b f0 f1 adK adV (p_lits + 1 + i) = adV i := st_exV hi
    dsimp only
    rw [e1, e2]
    exact h
  · dsimp only at e
    rw [st_exK hi, st_exK hj] at e
    exact hS.2 i j hi hj e
  · obtain ⟨h0, ⟨tx, h1⟩, h2⟩ := p_all2_ok st_A hj
    refine ⟨tx, vk_R.of (A := #[Value.ref b]) (hts _ h1) ?_⟩
    rw [st_exK h0]
    rcases h2 with h2 | h2
    · rw [h2]; exact hE j h0
    · exact st_eqr (hs _ h2) (hE j h0)
  · exact va_Nw.of (st_O w (List.mem_append_left _ hw)) (hts _ (st_W w (List.mem_append_left _ hw)))
  · have g : ∀ k, p_exk k = true → k ∈ [7, 8, 9, 10, 11] := fun k hk => by
      unfold p_exk at hk
      rw [Bool.and_eq_true] at hk
      have g1 := Nat.le_of_ble_eq_true hk.1
      have g2 := Nat.le_of_ble_eq_true hk.2
      have : k = 7 ∨ k = 8 ∨ k = 9 ∨ k = 10 ∨ k = 11 := by omega
      simpa using this
    exact va_Nc.of (hs _ ((st_N ci (g ci h1) cj (g cj h2)).resolve_left h3))
  · exact va_Nw.of (st_O w (List.mem_append_right _ hw)) (hts _ (st_W w (List.mem_append_right _ hw)))
theorem st_arr {ty : FieldType} {args : Array Value} (h : (Cond.arrayClass ty).before args s = true) : ∃ c : ClassId, ArrOfT s c ty ∧ s.vm.findClass ("[" ++ ty.toString) = some c := by
  obtain ⟨c, k, comp, h1, h2, h3⟩ := Cond.arrayClass_spec h
  exact ⟨c, fun n z => ⟨(fun k h => by cases h), k, h2, comp, h3⟩, h1⟩
theorem st_K (hts : ∀ w ∈ lw_tbl, w.before #[Value.ref b] s = true) : ∃ (D : va_G) (cA : FieldType → ClassId), va_K D vwCl (c_T cA) s := by
  have h0 : ∀ ci : Nat, ∃ r : ClassId × (Nat → Nat), ∀ q, vwCl[ci]? = some q → u_Kn s q.1 q.2.1 q.2.2 r.1 r.2 := by
    intro ci
    cases hq : vwCl[ci]? with
    | none => exact ⟨(0, fun _ => 0), fun q h => by cases h⟩
    | some q =>
      obtain ⟨cC, iS, h⟩ := u_known (C := q.1) (T := q.2.1) (N := q.2.2) (n := p_csl ci) (fun w hw => hts w (List.mem_filter.mp hw).1) (p_cl_ok ci q hq).1 (hts _ (st_I ci q hq))
      exact ⟨(cC, iS), fun q' h' => by cases h'; exact h⟩
  obtain ⟨f, hf⟩ := Classical.axiomOfChoice h0
  obtain ⟨c1, a1, b1⟩ := st_arr (hts _ st_aI)
  obtain ⟨c2, a2, b2⟩ := st_arr (hts _ st_aL)
  obtain ⟨c3, a3, b3⟩ := st_arr (hts _ st_aZ)
  refine ⟨(fun c => (f c).1, fun c => (f c).2), fun ty => match ty with
    | .int => c1
    | .long => c2
    | _ => c3, fun c q hq => hf c q hq, fun k q hk => ?_⟩
  match k, hk with
  | 0, hk => cases hk; exact ⟨a1, b1⟩
  | 1, hk => cases hk; exact ⟨a2, b2⟩
  | 2, hk => cases hk; exact ⟨a3, b3⟩
  | k + 3, hk => simp [c_T] at hk
end ST
theorem gM_len : ∀ g : List pE, g.length ≤ gM g := by
  intro g
  induction g with
  | nil => exact Nat.le_refl _
  | cons e t ih =>
    cases e with
    | inl r => show t.length + 1 ≤ r.2.1 + 1 + gM t; omega
    | inr r => show t.length + 1 ≤ 1 + gM t; omega
theorem p_csl_le : ∀ ci, p_csl ci ≤ 32 := by
  intro ci
  match ci with
  | 0 => decide
  | 1 => decide
  | 2 => decide
  | 3 => decide
  | 4 => decide
  | 5 => decide
  | 6 => decide
  | 7 => decide
  | 8 => decide
  | 9 => decide
  | 10 => decide
  | 11 => decide
  | k + 12 => exact Nat.zero_le _
theorem gM_S : ∀ g : List pE, p_S g ≤ 32 * gM g := by
  intro g
  induction g with
  | nil => exact Nat.le_refl _
  | cons e t ih =>
    cases e with
    | inl r => show r.2.1 + p_S t ≤ 32 * (r.2.1 + 1 + gM t); omega
    | inr r => show p_csl r.1 + p_S t ≤ 32 * (1 + gM t); have := p_csl_le r.1; omega
theorem hp_len44 (z : Nat → Int32) (a : Nat → Nat → Int32) (w : Nat → Nat → Int64) (y : Nat → Int64) (g : List pE) : (hp z a w y g).length = 44 + g.length := by
  show _ = _
  unfold hp
  simp only [List.length_cons]
  omega
theorem hp_S (z : Nat → Int32) (a : Nat → Nat → Int32) (w : Nat → Nat → Int64) (y : Nat → Int64) (g : List pE) : p_S (hp z a w y g) ≤ 100000 + p_S g := by
  have e : hp z a w y g = hp z a w y [] ++ g := rfl
  rw [e, p_S_app]
  have h : p_S (hp z a w y []) ≤ 100000 := by
    unfold hp
    simp only [p_S, p_sz]
    decide
  omega
