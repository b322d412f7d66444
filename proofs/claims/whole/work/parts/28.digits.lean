/-! ===== digits ===== -/
def cp : Nat → Nat → List Nat
  | 0, x => [48 + x % 10]
  | j + 1, x => (if 10 ^ (j + 1) ≤ x then [48 + x / 10 ^ (j + 1) % 10] else []) ++ cp j x
def pd : Nat → Nat → List Nat
  | 0, x => [48 + x % 10]
  | j + 1, x => (48 + x / 10 ^ (j + 1) % 10) :: pd j x
theorem cp_dW (x : Nat) : cp 5 x = dW x := rfl
theorem cp_pd {x : Nat} : ∀ j, 10 ^ j ≤ x → cp j x = pd j x := by
  intro j
  induction j with
  | zero => intro _; rfl
  | succ j ih =>
    intro h
    show (if 10 ^ (j + 1) ≤ x then _ else _) ++ cp j x = _ :: pd j x
    rw [if_pos h, ih (Nat.le_trans (Nat.pow_le_pow_right (by omega) (by omega)) h)]
    rfl
theorem cp_skip {x : Nat} : ∀ i j, x < 10 ^ (j + 1) → cp (j + i) x = cp j x := by
  intro i
  induction i with
  | zero => intro j _; rfl
  | succ i ih =>
    intro j h
    show (if 10 ^ (j + i + 1) ≤ x then _ else _) ++ cp (j + i) x = _
    have : 10 ^ (j + 1) ≤ 10 ^ (j + i + 1) := Nat.pow_le_pow_right (by omega) (by omega)
    rw [if_neg (by omega), ih j h]
    rfl
theorem pd_dW {x j : Nat} (hj : j ≤ 5) (h1 : j = 0 ∨ 10 ^ j ≤ x) (h2 : x < 10 ^ (j + 1)) : pd j x = dW x := by
  rw [← cp_dW, show 5 = j + (5 - j) by omega, cp_skip (5 - j) j h2]
  rcases h1 with h | h
  · subst h; rfl
  · exact (cp_pd j h).symm
/-- the digits behind the point, as the class turns them -/
def cf : Nat → Nat → List Nat
  | 0, _ => []
  | j + 1, r => if r = 0 then [] else (48 + r / 100) :: cf j (r % 100 * 10)
/-- and as the model does -/
def mf : Nat → Nat → List Nat
  | 0, _ => []
  | j + 1, r => if r = 0 then [] else (48 + r / 10 ^ j) :: mf j (r % 10 ^ j)
theorem cf_dF {r : Nat} : dF r = if r = 0 then [] else 46 :: cf 3 r := by
  unfold dF
  by_cases h0 : r = 0
  · rw [if_pos h0, if_pos h0]
  · rw [if_neg h0, if_neg h0]
    show _ = 46 :: (if r = 0 then [] else (48 + r / 100) :: (if r % 100 * 10 = 0 then [] else (48 + r % 100 * 10 / 100) :: (if r % 100 * 10 % 100 * 10 = 0 then [] else [48 + r % 100 * 10 % 100 * 10 / 100])))
    rw [if_neg h0]
    by_cases h1 : r % 100 = 0
    · rw [if_pos h1, if_pos (show r % 100 * 10 = 0 by omega)]
    · rw [if_neg h1, if_neg (show ¬ r % 100 * 10 = 0 by omega), show r % 100 * 10 / 100 = r % 100 / 10 by omega]
      by_cases h2 : r % 10 = 0
      · rw [if_pos h2, if_pos (show r % 100 * 10 % 100 * 10 = 0 by omega)]
      · rw [if_neg h2, if_neg (show ¬ r % 100 * 10 % 100 * 10 = 0 by omega), show r % 100 * 10 % 100 * 10 / 100 = r % 10 by omega]
theorem mf_dF {r : Nat} : dF r = if r = 0 then [] else 46 :: mf 3 r := by
  unfold dF
  by_cases h0 : r = 0
  · rw [if_pos h0, if_pos h0]
  · rw [if_neg h0, if_neg h0]
    show _ = 46 :: (if r = 0 then [] else (48 + r / 100) :: (if r % 100 = 0 then [] else (48 + r % 100 / 10) :: (if r % 100 % 10 = 0 then [] else [48 + r % 100 % 10 / 1])))
    rw [if_neg h0]
    by_cases h1 : r % 100 = 0
    · rw [if_pos h1, if_pos h1]
    · rw [if_neg h1, if_neg h1]
      by_cases h2 : r % 10 = 0
      · rw [if_pos h2, if_pos (show r % 100 % 10 = 0 by omega)]
      · rw [if_neg h2, if_neg (show ¬ r % 100 % 10 = 0 by omega), show r % 100 % 10 / 1 = r % 10 by omega]
