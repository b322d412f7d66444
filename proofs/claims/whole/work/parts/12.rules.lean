/-! ===== the state of class and reference as functions, and the rules over it (tools/rules.py) ===== -/
def u_ {α : Type} (f : Nat → α) (k : Nat) (v : α) : Nat → α := fun i => bif Nat.beq i k then v else f i
theorem u_s {α : Type} (f : Nat → α) (k : Nat) (v : α) : u_ f k v k = v := by unfold u_; rw [Nat.beq_refl]; rfl
theorem u_n {α : Type} (f : Nat → α) {k j : Nat} (v : α) (h : j ≠ k) : u_ f k v j = f j := by
  unfold u_
  cases hb : Nat.beq j k with
  | false => rfl
  | true => exact absurd (Nat.eq_of_beq_eq_true hb) h
/-- the cells. z: 0 rowsInAll, 1 size, 2 deepest, 3 rlen, 4 place, 5 badPlace, 6 plen, 7 mlength, 8 mat, 9 mbad, 10 mthrown, 11 mread, 12 mcounted, 13 mnodes, 14 mdeepest, 15 mnested, 16 mdeep, 17 mprintedLong; a: 0 kinds, 1 numbers, 2 unitsOf, 3 lefts, 4 rights, 5 firstRows, 6 rowCounts, 7 rowBounds, 8 rowCents, 9 text, 10 targets, 11 times, 12 known, 13 signs, 14 mtext, 15 mkind, 16 mnumber, 17 munit, 18 mleft, 19 mright, 20 mrows, 21 mrowFrom, 22 mrowCents, 23 mopen, 24 mside, 25 mahead, 26 msign, 27 mpile, 28 mrenamed, 29 mto, 30 mtimes, 31 mprinted; w: 0 amounts, 1 micros, 2 mamount, 3 mmicros, 4 out; y: 0 price, 1 mprice; g: what was thrown -/
def hp (z : Nat → Int32) (a : Nat → Nat → Int32) (w : Nat → Nat → Int64) (y : Nat → Int64) (g : List pE) : List pE :=
  .inr (5, [.ref 1, .ref 11, .ref 13, .ref 17, .ref 20, .long (y 0)]) ::
  .inr (2, [.ref 2, .ref 3, .ref 4, .ref 5, .ref 6, .ref 7, .ref 8, .ref 9, .ref 10, .int (z 0), .int (z 1), .int (z 2)]) ::
  .inl (.int, 60, .inl (a 0)) ::
  .inl (.int, 60, .inl (a 1)) ::
  .inl (.int, 60, .inl (a 2)) ::
  .inl (.int, 60, .inl (a 3)) ::
  .inl (.int, 60, .inl (a 4)) ::
  .inl (.int, 60, .inl (a 5)) ::
  .inl (.int, 60, .inl (a 6)) ::
  .inl (.int, 300, .inl (a 7)) ::
  .inl (.int, 300, .inl (a 8)) ::
  .inr (1, [.ref 1, .ref 12, .int (z 3), .int (z 4), .int (z 5)]) ::
  .inl (.int, 300, .inl (a 9)) ::
  .inr (3, [.ref 14, .ref 15, .ref 16]) ::
  .inl (.long, 8, .inr (.inl (w 0))) ::
  .inl (.int, 8, .inl (a 10)) ::
  .inl (.int, 8, .inl (a 11)) ::
  .inr (4, [.ref 18, .ref 19]) ::
  .inl (.long, 60, .inr (.inl (w 1))) ::
  .inl (.boolean, 60, .inl (a 12)) ::
  .inr (0, [.ref 21, .int (z 6)]) ::
  .inl (.int, 900, .inl (a 13)) ::
  .inr (6, [.ref 23, .int (z 7), .int (z 8), .int (z 9), .int (z 10), .ref 24, .ref 25, .ref 26, .ref 27, .ref 28, .ref 29, .ref 30, .ref 31, .int (z 11), .int (z 12), .int (z 13), .int (z 14), .int (z 15), .ref 32, .ref 33, .ref 34, .ref 35, .int (z 16), .ref 36, .ref 37, .long (y 1), .ref 38, .ref 39, .ref 40, .ref 41, .ref 42, .int (z 17)]) ::
  .inl (.int, 300, .inl (a 14)) ::
  .inl (.int, 120, .inl (a 15)) ::
  .inl (.int, 120, .inl (a 16)) ::
  .inl (.int, 120, .inl (a 17)) ::
  .inl (.int, 120, .inl (a 18)) ::
  .inl (.int, 120, .inl (a 19)) ::
  .inl (.int, 120, .inl (a 20)) ::
  .inl (.int, 720, .inl (a 21)) ::
  .inl (.int, 720, .inl (a 22)) ::
  .inl (.int, 14, .inl (a 23)) ::
  .inl (.int, 14, .inl (a 24)) ::
  .inl (.int, 14, .inl (a 25)) ::
  .inl (.int, 14, .inl (a 26)) ::
  .inl (.int, 300, .inl (a 27)) ::
  .inl (.int, 60, .inl (a 28)) ::
  .inl (.long, 8, .inr (.inl (w 2))) ::
  .inl (.int, 8, .inl (a 29)) ::
  .inl (.int, 8, .inl (a 30)) ::
  .inl (.long, 60, .inr (.inl (w 3))) ::
  .inl (.int, 3000, .inl (a 31)) ::
  .inl (.long, 1, .inr (.inl (w 4))) ::
  g
section HPL
variable {z : Nat → Int32} {a : Nat → Nat → Int32} {w : Nat → Nat → Int64} {y : Nat → Int64} {g : List pE}
theorem g_0_0 : p_fget (hp z a w y g) 20 0 0 = some (.ref 21) := rfl
theorem g_0_1 : p_fget (hp z a w y g) 20 0 1 = some (.int (z 6)) := rfl
theorem s_0_1 {v : Int32} : p_fput (hp z a w y g) 20 0 1 (.int v) = some (hp (u_ z 6 v) a w y g) := rfl
theorem g_1_0 : p_fget (hp z a w y g) 11 1 0 = some (.ref 1) := rfl
theorem g_1_1 : p_fget (hp z a w y g) 11 1 1 = some (.ref 12) := rfl
theorem g_1_2 : p_fget (hp z a w y g) 11 1 2 = some (.int (z 3)) := rfl
theorem s_1_2 {v : Int32} : p_fput (hp z a w y g) 11 1 2 (.int v) = some (hp (u_ z 3 v) a w y g) := rfl
theorem g_1_3 : p_fget (hp z a w y g) 11 1 3 = some (.int (z 4)) := rfl
theorem s_1_3 {v : Int32} : p_fput (hp z a w y g) 11 1 3 (.int v) = some (hp (u_ z 4 v) a w y g) := rfl
theorem g_1_4 : p_fget (hp z a w y g) 11 1 4 = some (.int (z 5)) := rfl
theorem s_1_4 {v : Int32} : p_fput (hp z a w y g) 11 1 4 (.int v) = some (hp (u_ z 5 v) a w y g) := rfl
theorem g_2_0 : p_fget (hp z a w y g) 1 2 0 = some (.ref 2) := rfl
theorem g_2_1 : p_fget (hp z a w y g) 1 2 1 = some (.ref 3) := rfl
theorem g_2_2 : p_fget (hp z a w y g) 1 2 2 = some (.ref 4) := rfl
theorem g_2_3 : p_fget (hp z a w y g) 1 2 3 = some (.ref 5) := rfl
theorem g_2_4 : p_fget (hp z a w y g) 1 2 4 = some (.ref 6) := rfl
theorem g_2_5 : p_fget (hp z a w y g) 1 2 5 = some (.ref 7) := rfl
theorem g_2_6 : p_fget (hp z a w y g) 1 2 6 = some (.ref 8) := rfl
theorem g_2_7 : p_fget (hp z a w y g) 1 2 7 = some (.ref 9) := rfl
theorem g_2_8 : p_fget (hp z a w y g) 1 2 8 = some (.ref 10) := rfl
theorem g_2_9 : p_fget (hp z a w y g) 1 2 9 = some (.int (z 0)) := rfl
theorem s_2_9 {v : Int32} : p_fput (hp z a w y g) 1 2 9 (.int v) = some (hp (u_ z 0 v) a w y g) := rfl
theorem g_2_10 : p_fget (hp z a w y g) 1 2 10 = some (.int (z 1)) := rfl
theorem s_2_10 {v : Int32} : p_fput (hp z a w y g) 1 2 10 (.int v) = some (hp (u_ z 1 v) a w y g) := rfl
theorem g_2_11 : p_fget (hp z a w y g) 1 2 11 = some (.int (z 2)) := rfl
theorem s_2_11 {v : Int32} : p_fput (hp z a w y g) 1 2 11 (.int v) = some (hp (u_ z 2 v) a w y g) := rfl
theorem g_3_0 : p_fget (hp z a w y g) 13 3 0 = some (.ref 14) := rfl
theorem g_3_1 : p_fget (hp z a w y g) 13 3 1 = some (.ref 15) := rfl
theorem g_3_2 : p_fget (hp z a w y g) 13 3 2 = some (.ref 16) := rfl
theorem g_4_0 : p_fget (hp z a w y g) 17 4 0 = some (.ref 18) := rfl
theorem g_4_1 : p_fget (hp z a w y g) 17 4 1 = some (.ref 19) := rfl
theorem g_5_0 : p_fget (hp z a w y g) 0 5 0 = some (.ref 1) := rfl
theorem g_5_1 : p_fget (hp z a w y g) 0 5 1 = some (.ref 11) := rfl
theorem g_5_2 : p_fget (hp z a w y g) 0 5 2 = some (.ref 13) := rfl
theorem g_5_3 : p_fget (hp z a w y g) 0 5 3 = some (.ref 17) := rfl
theorem g_5_4 : p_fget (hp z a w y g) 0 5 4 = some (.ref 20) := rfl
theorem g_5_5 : p_fget (hp z a w y g) 0 5 5 = some (.long (y 0)) := rfl
theorem s_5_5 {v : Int64} : p_fput (hp z a w y g) 0 5 5 (.long v) = some (hp z a w (u_ y 0 v) g) := rfl
theorem g_6_0 : p_fget (hp z a w y g) 22 6 0 = some (.ref 23) := rfl
theorem g_6_1 : p_fget (hp z a w y g) 22 6 1 = some (.int (z 7)) := rfl
theorem s_6_1 {v : Int32} : p_fput (hp z a w y g) 22 6 1 (.int v) = some (hp (u_ z 7 v) a w y g) := rfl
theorem g_6_2 : p_fget (hp z a w y g) 22 6 2 = some (.int (z 8)) := rfl
theorem s_6_2 {v : Int32} : p_fput (hp z a w y g) 22 6 2 (.int v) = some (hp (u_ z 8 v) a w y g) := rfl
theorem g_6_3 : p_fget (hp z a w y g) 22 6 3 = some (.int (z 9)) := rfl
theorem s_6_3 {v : Int32} : p_fput (hp z a w y g) 22 6 3 (.int v) = some (hp (u_ z 9 v) a w y g) := rfl
theorem g_6_4 : p_fget (hp z a w y g) 22 6 4 = some (.int (z 10)) := rfl
theorem s_6_4 {v : Int32} : p_fput (hp z a w y g) 22 6 4 (.int v) = some (hp (u_ z 10 v) a w y g) := rfl
theorem g_6_5 : p_fget (hp z a w y g) 22 6 5 = some (.ref 24) := rfl
theorem g_6_6 : p_fget (hp z a w y g) 22 6 6 = some (.ref 25) := rfl
theorem g_6_7 : p_fget (hp z a w y g) 22 6 7 = some (.ref 26) := rfl
theorem g_6_8 : p_fget (hp z a w y g) 22 6 8 = some (.ref 27) := rfl
theorem g_6_9 : p_fget (hp z a w y g) 22 6 9 = some (.ref 28) := rfl
theorem g_6_10 : p_fget (hp z a w y g) 22 6 10 = some (.ref 29) := rfl
theorem g_6_11 : p_fget (hp z a w y g) 22 6 11 = some (.ref 30) := rfl
theorem g_6_12 : p_fget (hp z a w y g) 22 6 12 = some (.ref 31) := rfl
theorem g_6_13 : p_fget (hp z a w y g) 22 6 13 = some (.int (z 11)) := rfl
theorem s_6_13 {v : Int32} : p_fput (hp z a w y g) 22 6 13 (.int v) = some (hp (u_ z 11 v) a w y g) := rfl
theorem g_6_14 : p_fget (hp z a w y g) 22 6 14 = some (.int (z 12)) := rfl
theorem s_6_14 {v : Int32} : p_fput (hp z a w y g) 22 6 14 (.int v) = some (hp (u_ z 12 v) a w y g) := rfl
theorem g_6_15 : p_fget (hp z a w y g) 22 6 15 = some (.int (z 13)) := rfl
theorem s_6_15 {v : Int32} : p_fput (hp z a w y g) 22 6 15 (.int v) = some (hp (u_ z 13 v) a w y g) := rfl
theorem g_6_16 : p_fget (hp z a w y g) 22 6 16 = some (.int (z 14)) := rfl
theorem s_6_16 {v : Int32} : p_fput (hp z a w y g) 22 6 16 (.int v) = some (hp (u_ z 14 v) a w y g) := rfl
theorem g_6_17 : p_fget (hp z a w y g) 22 6 17 = some (.int (z 15)) := rfl
theorem s_6_17 {v : Int32} : p_fput (hp z a w y g) 22 6 17 (.int v) = some (hp (u_ z 15 v) a w y g) := rfl
theorem g_6_18 : p_fget (hp z a w y g) 22 6 18 = some (.ref 32) := rfl
theorem g_6_19 : p_fget (hp z a w y g) 22 6 19 = some (.ref 33) := rfl
theorem g_6_20 : p_fget (hp z a w y g) 22 6 20 = some (.ref 34) := rfl
theorem g_6_21 : p_fget (hp z a w y g) 22 6 21 = some (.ref 35) := rfl
theorem g_6_22 : p_fget (hp z a w y g) 22 6 22 = some (.int (z 16)) := rfl
theorem s_6_22 {v : Int32} : p_fput (hp z a w y g) 22 6 22 (.int v) = some (hp (u_ z 16 v) a w y g) := rfl
theorem g_6_23 : p_fget (hp z a w y g) 22 6 23 = some (.ref 36) := rfl
theorem g_6_24 : p_fget (hp z a w y g) 22 6 24 = some (.ref 37) := rfl
theorem g_6_25 : p_fget (hp z a w y g) 22 6 25 = some (.long (y 1)) := rfl
theorem s_6_25 {v : Int64} : p_fput (hp z a w y g) 22 6 25 (.long v) = some (hp z a w (u_ y 1 v) g) := rfl
theorem g_6_26 : p_fget (hp z a w y g) 22 6 26 = some (.ref 38) := rfl
theorem g_6_27 : p_fget (hp z a w y g) 22 6 27 = some (.ref 39) := rfl
theorem g_6_28 : p_fget (hp z a w y g) 22 6 28 = some (.ref 40) := rfl
theorem g_6_29 : p_fget (hp z a w y g) 22 6 29 = some (.ref 41) := rfl
theorem g_6_30 : p_fget (hp z a w y g) 22 6 30 = some (.ref 42) := rfl
theorem g_6_31 : p_fget (hp z a w y g) 22 6 31 = some (.int (z 17)) := rfl
theorem s_6_31 {v : Int32} : p_fput (hp z a w y g) 22 6 31 (.int v) = some (hp (u_ z 17 v) a w y g) := rfl
theorem b_2 : (hp z a w y g)[(2 : Nat)]? = some (.inl (.int, 60, .inl (a 0))) := rfl
theorem t_2 {v : Nat → Int32} : (hp z a w y g).set 2 (.inl (.int, 60, .inl v)) = hp z (u_ a 0 v) w y g := rfl
theorem b_3 : (hp z a w y g)[(3 : Nat)]? = some (.inl (.int, 60, .inl (a 1))) := rfl
theorem t_3 {v : Nat → Int32} : (hp z a w y g).set 3 (.inl (.int, 60, .inl v)) = hp z (u_ a 1 v) w y g := rfl
theorem b_4 : (hp z a w y g)[(4 : Nat)]? = some (.inl (.int, 60, .inl (a 2))) := rfl
theorem t_4 {v : Nat → Int32} : (hp z a w y g).set 4 (.inl (.int, 60, .inl v)) = hp z (u_ a 2 v) w y g := rfl
theorem b_5 : (hp z a w y g)[(5 : Nat)]? = some (.inl (.int, 60, .inl (a 3))) := rfl
theorem t_5 {v : Nat → Int32} : (hp z a w y g).set 5 (.inl (.int, 60, .inl v)) = hp z (u_ a 3 v) w y g := rfl
theorem b_6 : (hp z a w y g)[(6 : Nat)]? = some (.inl (.int, 60, .inl (a 4))) := rfl
theorem t_6 {v : Nat → Int32} : (hp z a w y g).set 6 (.inl (.int, 60, .inl v)) = hp z (u_ a 4 v) w y g := rfl
theorem b_7 : (hp z a w y g)[(7 : Nat)]? = some (.inl (.int, 60, .inl (a 5))) := rfl
theorem t_7 {v : Nat → Int32} : (hp z a w y g).set 7 (.inl (.int, 60, .inl v)) = hp z (u_ a 5 v) w y g := rfl
theorem b_8 : (hp z a w y g)[(8 : Nat)]? = some (.inl (.int, 60, .inl (a 6))) := rfl
theorem t_8 {v : Nat → Int32} : (hp z a w y g).set 8 (.inl (.int, 60, .inl v)) = hp z (u_ a 6 v) w y g := rfl
theorem b_9 : (hp z a w y g)[(9 : Nat)]? = some (.inl (.int, 300, .inl (a 7))) := rfl
theorem t_9 {v : Nat → Int32} : (hp z a w y g).set 9 (.inl (.int, 300, .inl v)) = hp z (u_ a 7 v) w y g := rfl
theorem b_10 : (hp z a w y g)[(10 : Nat)]? = some (.inl (.int, 300, .inl (a 8))) := rfl
theorem t_10 {v : Nat → Int32} : (hp z a w y g).set 10 (.inl (.int, 300, .inl v)) = hp z (u_ a 8 v) w y g := rfl
theorem b_12 : (hp z a w y g)[(12 : Nat)]? = some (.inl (.int, 300, .inl (a 9))) := rfl
theorem t_12 {v : Nat → Int32} : (hp z a w y g).set 12 (.inl (.int, 300, .inl v)) = hp z (u_ a 9 v) w y g := rfl
theorem b_14 : (hp z a w y g)[(14 : Nat)]? = some (.inl (.long, 8, .inr (.inl (w 0)))) := rfl
theorem t_14 {v : Nat → Int64} : (hp z a w y g).set 14 (.inl (.long, 8, .inr (.inl v))) = hp z a (u_ w 0 v) y g := rfl
theorem b_15 : (hp z a w y g)[(15 : Nat)]? = some (.inl (.int, 8, .inl (a 10))) := rfl
theorem t_15 {v : Nat → Int32} : (hp z a w y g).set 15 (.inl (.int, 8, .inl v)) = hp z (u_ a 10 v) w y g := rfl
theorem b_16 : (hp z a w y g)[(16 : Nat)]? = some (.inl (.int, 8, .inl (a 11))) := rfl
theorem t_16 {v : Nat → Int32} : (hp z a w y g).set 16 (.inl (.int, 8, .inl v)) = hp z (u_ a 11 v) w y g := rfl
theorem b_18 : (hp z a w y g)[(18 : Nat)]? = some (.inl (.long, 60, .inr (.inl (w 1)))) := rfl
theorem t_18 {v : Nat → Int64} : (hp z a w y g).set 18 (.inl (.long, 60, .inr (.inl v))) = hp z a (u_ w 1 v) y g := rfl
theorem b_19 : (hp z a w y g)[(19 : Nat)]? = some (.inl (.boolean, 60, .inl (a 12))) := rfl
theorem t_19 {v : Nat → Int32} : (hp z a w y g).set 19 (.inl (.boolean, 60, .inl v)) = hp z (u_ a 12 v) w y g := rfl
theorem b_21 : (hp z a w y g)[(21 : Nat)]? = some (.inl (.int, 900, .inl (a 13))) := rfl
theorem t_21 {v : Nat → Int32} : (hp z a w y g).set 21 (.inl (.int, 900, .inl v)) = hp z (u_ a 13 v) w y g := rfl
theorem b_23 : (hp z a w y g)[(23 : Nat)]? = some (.inl (.int, 300, .inl (a 14))) := rfl
theorem t_23 {v : Nat → Int32} : (hp z a w y g).set 23 (.inl (.int, 300, .inl v)) = hp z (u_ a 14 v) w y g := rfl
theorem b_24 : (hp z a w y g)[(24 : Nat)]? = some (.inl (.int, 120, .inl (a 15))) := rfl
theorem t_24 {v : Nat → Int32} : (hp z a w y g).set 24 (.inl (.int, 120, .inl v)) = hp z (u_ a 15 v) w y g := rfl
theorem b_25 : (hp z a w y g)[(25 : Nat)]? = some (.inl (.int, 120, .inl (a 16))) := rfl
theorem t_25 {v : Nat → Int32} : (hp z a w y g).set 25 (.inl (.int, 120, .inl v)) = hp z (u_ a 16 v) w y g := rfl
theorem b_26 : (hp z a w y g)[(26 : Nat)]? = some (.inl (.int, 120, .inl (a 17))) := rfl
theorem t_26 {v : Nat → Int32} : (hp z a w y g).set 26 (.inl (.int, 120, .inl v)) = hp z (u_ a 17 v) w y g := rfl
theorem b_27 : (hp z a w y g)[(27 : Nat)]? = some (.inl (.int, 120, .inl (a 18))) := rfl
theorem t_27 {v : Nat → Int32} : (hp z a w y g).set 27 (.inl (.int, 120, .inl v)) = hp z (u_ a 18 v) w y g := rfl
theorem b_28 : (hp z a w y g)[(28 : Nat)]? = some (.inl (.int, 120, .inl (a 19))) := rfl
theorem t_28 {v : Nat → Int32} : (hp z a w y g).set 28 (.inl (.int, 120, .inl v)) = hp z (u_ a 19 v) w y g := rfl
theorem b_29 : (hp z a w y g)[(29 : Nat)]? = some (.inl (.int, 120, .inl (a 20))) := rfl
theorem t_29 {v : Nat → Int32} : (hp z a w y g).set 29 (.inl (.int, 120, .inl v)) = hp z (u_ a 20 v) w y g := rfl
theorem b_30 : (hp z a w y g)[(30 : Nat)]? = some (.inl (.int, 720, .inl (a 21))) := rfl
theorem t_30 {v : Nat → Int32} : (hp z a w y g).set 30 (.inl (.int, 720, .inl v)) = hp z (u_ a 21 v) w y g := rfl
theorem b_31 : (hp z a w y g)[(31 : Nat)]? = some (.inl (.int, 720, .inl (a 22))) := rfl
theorem t_31 {v : Nat → Int32} : (hp z a w y g).set 31 (.inl (.int, 720, .inl v)) = hp z (u_ a 22 v) w y g := rfl
theorem b_32 : (hp z a w y g)[(32 : Nat)]? = some (.inl (.int, 14, .inl (a 23))) := rfl
theorem t_32 {v : Nat → Int32} : (hp z a w y g).set 32 (.inl (.int, 14, .inl v)) = hp z (u_ a 23 v) w y g := rfl
theorem b_33 : (hp z a w y g)[(33 : Nat)]? = some (.inl (.int, 14, .inl (a 24))) := rfl
theorem t_33 {v : Nat → Int32} : (hp z a w y g).set 33 (.inl (.int, 14, .inl v)) = hp z (u_ a 24 v) w y g := rfl
theorem b_34 : (hp z a w y g)[(34 : Nat)]? = some (.inl (.int, 14, .inl (a 25))) := rfl
theorem t_34 {v : Nat → Int32} : (hp z a w y g).set 34 (.inl (.int, 14, .inl v)) = hp z (u_ a 25 v) w y g := rfl
theorem b_35 : (hp z a w y g)[(35 : Nat)]? = some (.inl (.int, 14, .inl (a 26))) := rfl
theorem t_35 {v : Nat → Int32} : (hp z a w y g).set 35 (.inl (.int, 14, .inl v)) = hp z (u_ a 26 v) w y g := rfl
theorem b_36 : (hp z a w y g)[(36 : Nat)]? = some (.inl (.int, 300, .inl (a 27))) := rfl
theorem t_36 {v : Nat → Int32} : (hp z a w y g).set 36 (.inl (.int, 300, .inl v)) = hp z (u_ a 27 v) w y g := rfl
theorem b_37 : (hp z a w y g)[(37 : Nat)]? = some (.inl (.int, 60, .inl (a 28))) := rfl
theorem t_37 {v : Nat → Int32} : (hp z a w y g).set 37 (.inl (.int, 60, .inl v)) = hp z (u_ a 28 v) w y g := rfl
theorem b_38 : (hp z a w y g)[(38 : Nat)]? = some (.inl (.long, 8, .inr (.inl (w 2)))) := rfl
theorem t_38 {v : Nat → Int64} : (hp z a w y g).set 38 (.inl (.long, 8, .inr (.inl v))) = hp z a (u_ w 2 v) y g := rfl
theorem b_39 : (hp z a w y g)[(39 : Nat)]? = some (.inl (.int, 8, .inl (a 29))) := rfl
theorem t_39 {v : Nat → Int32} : (hp z a w y g).set 39 (.inl (.int, 8, .inl v)) = hp z (u_ a 29 v) w y g := rfl
theorem b_40 : (hp z a w y g)[(40 : Nat)]? = some (.inl (.int, 8, .inl (a 30))) := rfl
theorem t_40 {v : Nat → Int32} : (hp z a w y g).set 40 (.inl (.int, 8, .inl v)) = hp z (u_ a 30 v) w y g := rfl
theorem b_41 : (hp z a w y g)[(41 : Nat)]? = some (.inl (.long, 60, .inr (.inl (w 3)))) := rfl
theorem t_41 {v : Nat → Int64} : (hp z a w y g).set 41 (.inl (.long, 60, .inr (.inl v))) = hp z a (u_ w 3 v) y g := rfl
theorem b_42 : (hp z a w y g)[(42 : Nat)]? = some (.inl (.int, 3000, .inl (a 31))) := rfl
theorem t_42 {v : Nat → Int32} : (hp z a w y g).set 42 (.inl (.int, 3000, .inl v)) = hp z (u_ a 31 v) w y g := rfl
theorem b_43 : (hp z a w y g)[(43 : Nat)]? = some (.inl (.long, 1, .inr (.inl (w 4)))) := rfl
theorem t_43 {v : Nat → Int64} : (hp z a w y g).set 43 (.inl (.long, 1, .inr (.inl v))) = hp z a (u_ w 4 v) y g := rfl
theorem hp_len : (hp z a w y g).length = 44 + g.length := by simp [hp]; omega
theorem hp_app {e : pE} : hp z a w y g ++ [e] = hp z a w y (g ++ [e]) := rfl
end HPL
section RUL
variable {X : pX} {d mi pc len : Nat} {ls ls' : pL} {st : List Value} {h h' : List pE} {Q : pR → Prop}
theorem R_st {pc' : Nat} {st' : List Value} {ins : Instr} {C : Prop} (hc : p_code mi pc = some (ins, len)) (hp : p_plain mi ins = true) (hs : p_step X d mi pc ls st h ins len = some ((pc', ls', st', h'), C)) (hC : C) (k : p_E X d mi pc' ls' st' h' Q) : p_E X d mi pc ls st h Q :=
  R_one (by unfold p_one; rw [hc]; dsimp only; rw [hp]; exact hs) hC k
theorem r_in {as : List Value} (hi : p_in0 mi as = ls) (k : p_E X d mi 0 ls [] h Q) : p_M X d mi as h Q := by
  unfold p_M; rw [hi]; exact k
theorem r_ic {n : Int} {v : Int32} (hc : p_code mi pc = some (.iconst n, 1)) (hv : Int32.ofInt n = v) (k : p_E X d mi (pc + 1) ls (.int v :: st) h Q) : p_E X d mi pc ls st h Q := by
  subst hv; exact R_st hc rfl rfl trivial k
theorem r_bi {n : Int} {v : Int32} (hc : p_code mi pc = some (.bipush n, 2)) (hv : (Int8.ofInt n).toInt32 = v) (k : p_E X d mi (pc + 2) ls (.int v :: st) h Q) : p_E X d mi pc ls st h Q := by
  subst hv; exact R_st hc rfl rfl trivial k
theorem r_si {n : Int} {v : Int32} (hc : p_code mi pc = some (.sipush n, 3)) (hv : (Int16.ofInt n).toInt32 = v) (k : p_E X d mi (pc + 3) ls (.int v :: st) h Q) : p_E X d mi pc ls st h Q := by
  subst hv; exact R_st hc rfl rfl trivial k
theorem r_lc {n : Fin 2} {v : Int64} (hc : p_code mi pc = some (.lconst n, 1)) (hv : Int64.ofNat (n : Nat) = v) (k : p_E X d mi (pc + 1) ls (.long v :: st) h Q) : p_E X d mi pc ls st h Q := by
  subst hv; exact R_st hc rfl rfl trivial k
theorem r_ldi {i : Nat} {v : Int32} (hc : p_code mi pc = some (.ldc i, 2)) (hv : p_int (p_own mi) i = some v) (k : p_E X d mi (pc + 2) ls (.int v :: st) h Q) : p_E X d mi pc ls st h Q :=
  R_st hc rfl (by dsimp only [p_step]; rw [hv]) trivial k
theorem r_lds {i j : Nat} (hc : p_code mi pc = some (.ldc i, 2)) (hn : p_int (p_own mi) i = none) (hv : p_str (p_own mi) i = some j) (k : p_E X d mi (pc + 2) ls (.retAddr (j + 1) :: st) h Q) : p_E X d mi pc ls st h Q :=
  R_st hc rfl (by dsimp only [p_step]; rw [hn, hv]) trivial k
theorem r_ldl {i : Nat} {v : Int64} (hc : p_code mi pc = some (.ldc2_w i, 3)) (hv : p_lng (p_own mi) i = some v) (k : p_E X d mi (pc + 3) ls (.long v :: st) h Q) : p_E X d mi pc ls st h Q :=
  R_st hc rfl (by dsimp only [p_step]; rw [hv]) trivial k
theorem r_il {i : Nat} {x : Int32} (hc : p_code mi pc = some (.iload i, 2)) (hg : p_get ls i = some (.int x)) (k : p_E X d mi (pc + 2) ls (.int x :: st) h Q) : p_E X d mi pc ls st h Q :=
  R_st hc rfl (by dsimp only [p_step]; rw [hg]) trivial k
theorem r_iln {i : Fin 4} {x : Int32} (hc : p_code mi pc = some (.iload_n i, 1)) (hg : p_get ls (i : Nat) = some (.int x)) (k : p_E X d mi (pc + 1) ls (.int x :: st) h Q) : p_E X d mi pc ls st h Q :=
  R_st hc rfl (by dsimp only [p_step]; rw [hg]) trivial k
theorem r_ll {i : Nat} {x : Int64} (hc : p_code mi pc = some (.lload i, 2)) (hg : p_get ls i = some (.long x)) (k : p_E X d mi (pc + 2) ls (.long x :: st) h Q) : p_E X d mi pc ls st h Q :=
  R_st hc rfl (by dsimp only [p_step]; rw [hg]) trivial k
theorem r_lln {i : Fin 4} {x : Int64} (hc : p_code mi pc = some (.lload_n i, 1)) (hg : p_get ls (i : Nat) = some (.long x)) (k : p_E X d mi (pc + 1) ls (.long x :: st) h Q) : p_E X d mi pc ls st h Q :=
  R_st hc rfl (by dsimp only [p_step]; rw [hg]) trivial k
theorem r_al {i : Nat} {x : Nat} (hc : p_code mi pc = some (.aload i, 2)) (hg : p_get ls i = some (.ref x)) (k : p_E X d mi (pc + 2) ls (.ref x :: st) h Q) : p_E X d mi pc ls st h Q :=
  R_st hc rfl (by dsimp only [p_step]; rw [hg]) trivial k
theorem r_aln {i : Fin 4} {x : Nat} (hc : p_code mi pc = some (.aload_n i, 1)) (hg : p_get ls (i : Nat) = some (.ref x)) (k : p_E X d mi (pc + 1) ls (.ref x :: st) h Q) : p_E X d mi pc ls st h Q :=
  R_st hc rfl (by dsimp only [p_step]; rw [hg]) trivial k
theorem r_ar {i : Nat} {x : Nat} (hc : p_code mi pc = some (.aload i, 2)) (hg : p_get ls i = some (.retAddr x)) (k : p_E X d mi (pc + 2) ls (.retAddr x :: st) h Q) : p_E X d mi pc ls st h Q :=
  R_st hc rfl (by dsimp only [p_step]; rw [hg]) trivial k
theorem r_arn {i : Fin 4} {x : Nat} (hc : p_code mi pc = some (.aload_n i, 1)) (hg : p_get ls (i : Nat) = some (.retAddr x)) (k : p_E X d mi (pc + 1) ls (.retAddr x :: st) h Q) : p_E X d mi pc ls st h Q :=
  R_st hc rfl (by dsimp only [p_step]; rw [hg]) trivial k
theorem r_is (ls' : pL) {i : Nat} {x : Int32} (hc : p_code mi pc = some (.istore i, 2)) (hlt : Nat.blt (i) ls.length = true) (hl : p_st1 ls i (.int x) = ls') (k : p_E X d mi (pc + 2) ls' st h Q) : p_E X d mi pc ls (.int x :: st) h Q :=
  R_st hc rfl (by dsimp only [p_step]; rw [hlt, hl]; rfl) trivial k
theorem r_isn (ls' : pL) {i : Fin 4} {x : Int32} (hc : p_code mi pc = some (.istore_n i, 1)) (hlt : Nat.blt ((i : Nat)) ls.length = true) (hl : p_st1 ls (i : Nat) (.int x) = ls') (k : p_E X d mi (pc + 1) ls' st h Q) : p_E X d mi pc ls (.int x :: st) h Q :=
  R_st hc rfl (by dsimp only [p_step]; rw [hlt, hl]; rfl) trivial k
theorem r_ls (ls' : pL) {i : Nat} {x : Int64} (hc : p_code mi pc = some (.lstore i, 2)) (hlt : Nat.blt (i + 1) ls.length = true) (hl : p_st2 ls i (.long x) = ls') (k : p_E X d mi (pc + 2) ls' st h Q) : p_E X d mi pc ls (.long x :: st) h Q :=
  R_st hc rfl (by dsimp only [p_step]; rw [hlt, hl]; rfl) trivial k
theorem r_lsn (ls' : pL) {i : Fin 4} {x : Int64} (hc : p_code mi pc = some (.lstore_n i, 1)) (hlt : Nat.blt ((i : Nat) + 1) ls.length = true) (hl : p_st2 ls (i : Nat) (.long x) = ls') (k : p_E X d mi (pc + 1) ls' st h Q) : p_E X d mi pc ls (.long x :: st) h Q :=
  R_st hc rfl (by dsimp only [p_step]; rw [hlt, hl]; rfl) trivial k
theorem r_as (ls' : pL) {i : Nat} {x : Nat} (hc : p_code mi pc = some (.astore i, 2)) (hlt : Nat.blt (i) ls.length = true) (hl : p_st1 ls i (.ref x) = ls') (k : p_E X d mi (pc + 2) ls' st h Q) : p_E X d mi pc ls (.ref x :: st) h Q :=
  R_st hc rfl (by dsimp only [p_step]; rw [hlt, hl]; rfl) trivial k
theorem r_asn (ls' : pL) {i : Fin 4} {x : Nat} (hc : p_code mi pc = some (.astore_n i, 1)) (hlt : Nat.blt ((i : Nat)) ls.length = true) (hl : p_st1 ls (i : Nat) (.ref x) = ls') (k : p_E X d mi (pc + 1) ls' st h Q) : p_E X d mi pc ls (.ref x :: st) h Q :=
  R_st hc rfl (by dsimp only [p_step]; rw [hlt, hl]; rfl) trivial k
theorem r_inc (ls' : pL) {i : Nat} {n : Int} {x v : Int32} (hc : p_code mi pc = some (.iinc i n, 3)) (hlt : Nat.blt i ls.length = true) (hg : p_get ls i = some (.int x)) (hv : x + Int32.ofInt n = v) (hl : p_st1 ls i (.int v) = ls') (k : p_E X d mi (pc + 3) ls' st h Q) : p_E X d mi pc ls st h Q :=
  R_st hc rfl (by dsimp only [p_step]; rw [hg]; dsimp only; rw [hlt, hv, hl]; rfl) trivial k
theorem r_go {off : Int} {t : Nat} (hc : p_code mi pc = some (.goto off, 3)) (hj : p_tgt pc off = t ∧ 0 ≤ (pc : Int) + off) (k : p_E X d mi t ls st h Q) : p_E X d mi pc ls st h Q := by
  obtain ⟨rfl, h0⟩ := hj; exact R_st hc rfl rfl h0 k
theorem r_get {i ci f q : Nat} {v : Value} (hc : p_code mi pc = some (.getfield i, 3)) (hf : p_fld (p_own mi) i = some (ci, f)) (hg : p_fget h q ci f = some v) (k : p_E X d mi (pc + 3) ls (v :: st) h Q) : p_E X d mi pc ls (.ref q :: st) h Q :=
  R_st hc rfl (by dsimp only [p_step]; rw [hf]; dsimp only; rw [hg]) trivial k
theorem r_put {i ci f q : Nat} {v : Value} (hc : p_code mi pc = some (.putfield i, 3)) (hf : p_fld (p_own mi) i = some (ci, f)) (ht : (p_fits (p_fty ci f) v && (!(p_fin ci f) || (p_ctor mi && Nat.beq ci (p_own mi)))) = true) (hg : p_fput h q ci f v = some h') (k : p_E X d mi (pc + 3) ls st h' Q) : p_E X d mi pc ls (v :: .ref q :: st) h Q :=
  R_st hc rfl (by dsimp only [p_step]; rw [hf]; dsimp only; rw [ht, hg]; rfl) trivial k
theorem r_ia {i : Int32} {q n : Nat} {f : Nat → Int32} (hc : p_code mi pc = some (.iaload, 1)) (hh : h[q]? = some (.inl (.int, n, .inl f))) (hin : p_inI i n) (k : p_E X d mi (pc + 1) ls (.int (f i.toNatClampNeg) :: st) h Q) : p_E X d mi pc ls (.int i :: .ref q :: st) h Q :=
  R_st hc rfl (by dsimp only [p_step]; rw [hh]) hin k
theorem r_la {i : Int32} {q n : Nat} {f : Nat → Int64} (hc : p_code mi pc = some (.laload, 1)) (hh : h[q]? = some (.inl (.long, n, .inr (.inl f)))) (hin : p_inI i n) (k : p_E X d mi (pc + 1) ls (.long (f i.toNatClampNeg) :: st) h Q) : p_E X d mi pc ls (.int i :: .ref q :: st) h Q :=
  R_st hc rfl (by dsimp only [p_step]; rw [hh]) hin k
theorem r_ba {i : Int32} {q n : Nat} {f : Nat → Int32} (hc : p_code mi pc = some (.baload, 1)) (hh : h[q]? = some (.inl (.boolean, n, .inl f))) (hin : p_inI i n) (k : p_E X d mi (pc + 1) ls (.int (f i.toNatClampNeg) :: st) h Q) : p_E X d mi pc ls (.int i :: .ref q :: st) h Q :=
  R_st hc rfl (by dsimp only [p_step]; rw [hh]) hin k
theorem r_xa {i : Int32} (hc : p_code mi pc = some (.iaload, 1)) (hin : p_inI i X.1) (k : p_E X d mi (pc + 1) ls (.int (X.2 i.toNatClampNeg) :: st) h Q) : p_E X d mi pc ls (.int i :: .retAddr 0 :: st) h Q :=
  R_st hc rfl rfl hin k
theorem r_xn (hc : p_code mi pc = some (.arraylength, 1)) (k : p_E X d mi (pc + 1) ls (.int (nI X.1) :: st) h Q) : p_E X d mi pc ls (.retAddr 0 :: st) h Q :=
  R_st hc rfl rfl trivial k
theorem r_ias {i x : Int32} {q n : Nat} {f : Nat → Int32} (hc : p_code mi pc = some (.iastore, 1)) (hh : h[q]? = some (.inl (.int, n, .inl f))) (hs : h.set q (.inl (.int, n, .inl (upd f i.toNatClampNeg x))) = h') (hin : p_inI i n) (k : p_E X d mi (pc + 1) ls st h' Q) : p_E X d mi pc ls (.int x :: .int i :: .ref q :: st) h Q :=
  R_st hc rfl (by dsimp only [p_step]; rw [hh]; dsimp only; rw [hs]) hin k
theorem r_las {i : Int32} {x : Int64} {q n : Nat} {f : Nat → Int64} (hc : p_code mi pc = some (.lastore, 1)) (hh : h[q]? = some (.inl (.long, n, .inr (.inl f)))) (hs : h.set q (.inl (.long, n, .inr (.inl (vp_updL f i.toNatClampNeg x)))) = h') (hin : p_inI i n) (k : p_E X d mi (pc + 1) ls st h' Q) : p_E X d mi pc ls (.long x :: .int i :: .ref q :: st) h Q :=
  R_st hc rfl (by dsimp only [p_step]; rw [hh]; dsimp only; rw [hs]) hin k
theorem r_bas {i x : Int32} {q n : Nat} {f : Nat → Int32} (hc : p_code mi pc = some (.bastore, 1)) (hh : h[q]? = some (.inl (.boolean, n, .inl f))) (hs : h.set q (.inl (.boolean, n, .inl (upd f i.toNatClampNeg (vp_nar .boolean x)))) = h') (hin : p_inI i n) (k : p_E X d mi (pc + 1) ls st h' Q) : p_E X d mi pc ls (.int x :: .int i :: .ref q :: st) h Q :=
  R_st hc rfl (by dsimp only [p_step]; rw [hh]; dsimp only; rw [hs]) hin k
theorem r_iadd {x y : Int32} (hc : p_code mi pc = some (.iadd, 1)) (k : p_E X d mi (pc + 1) ls (.int (x + y) :: st) h Q) : p_E X d mi pc ls (.int y :: .int x :: st) h Q := R_st hc rfl rfl trivial k
theorem r_isub {x y : Int32} (hc : p_code mi pc = some (.isub, 1)) (k : p_E X d mi (pc + 1) ls (.int (x - y) :: st) h Q) : p_E X d mi pc ls (.int y :: .int x :: st) h Q := R_st hc rfl rfl trivial k
theorem r_imul {x y : Int32} (hc : p_code mi pc = some (.imul, 1)) (k : p_E X d mi (pc + 1) ls (.int (x * y) :: st) h Q) : p_E X d mi pc ls (.int y :: .int x :: st) h Q := R_st hc rfl rfl trivial k
theorem r_idiv {x y : Int32} (hc : p_code mi pc = some (.idiv, 1)) (hy : ¬ y = 0) (k : p_E X d mi (pc + 1) ls (.int (x / y) :: st) h Q) : p_E X d mi pc ls (.int y :: .int x :: st) h Q := R_st hc rfl rfl hy k
theorem r_irem {x y : Int32} (hc : p_code mi pc = some (.irem, 1)) (hy : ¬ y = 0) (k : p_E X d mi (pc + 1) ls (.int (x - x / y * y) :: st) h Q) : p_E X d mi pc ls (.int y :: .int x :: st) h Q := R_st hc rfl rfl hy k
theorem r_iand {x y : Int32} (hc : p_code mi pc = some (.iand, 1)) (k : p_E X d mi (pc + 1) ls (.int (x &&& y) :: st) h Q) : p_E X d mi pc ls (.int y :: .int x :: st) h Q := R_st hc rfl rfl trivial k
theorem r_ladd {x y : Int64} (hc : p_code mi pc = some (.ladd, 1)) (k : p_E X d mi (pc + 1) ls (.long (x + y) :: st) h Q) : p_E X d mi pc ls (.long y :: .long x :: st) h Q := R_st hc rfl rfl trivial k
theorem r_lsub {x y : Int64} (hc : p_code mi pc = some (.lsub, 1)) (k : p_E X d mi (pc + 1) ls (.long (x - y) :: st) h Q) : p_E X d mi pc ls (.long y :: .long x :: st) h Q := R_st hc rfl rfl trivial k
theorem r_lmul {x y : Int64} (hc : p_code mi pc = some (.lmul, 1)) (k : p_E X d mi (pc + 1) ls (.long (x * y) :: st) h Q) : p_E X d mi pc ls (.long y :: .long x :: st) h Q := R_st hc rfl rfl trivial k
theorem r_ldiv {x y : Int64} (hc : p_code mi pc = some (.ldiv, 1)) (hy : ¬ y = 0) (k : p_E X d mi (pc + 1) ls (.long (x / y) :: st) h Q) : p_E X d mi pc ls (.long y :: .long x :: st) h Q := R_st hc rfl rfl hy k
theorem r_lrem {x y : Int64} (hc : p_code mi pc = some (.lrem, 1)) (hy : ¬ y = 0) (k : p_E X d mi (pc + 1) ls (.long (x - x / y * y) :: st) h Q) : p_E X d mi pc ls (.long y :: .long x :: st) h Q := R_st hc rfl rfl hy k
theorem r_land {x y : Int64} (hc : p_code mi pc = some (.land, 1)) (k : p_E X d mi (pc + 1) ls (.long (x &&& y) :: st) h Q) : p_E X d mi pc ls (.long y :: .long x :: st) h Q := R_st hc rfl rfl trivial k
theorem r_lor {x y : Int64} (hc : p_code mi pc = some (.lor, 1)) (k : p_E X d mi (pc + 1) ls (.long (x ||| y) :: st) h Q) : p_E X d mi pc ls (.long y :: .long x :: st) h Q := R_st hc rfl rfl trivial k
theorem r_lshl {x : Int64} {y : Int32} (hc : p_code mi pc = some (.lshl, 1)) (k : p_E X d mi (pc + 1) ls (.long (x <<< (y.toInt64 &&& 63)) :: st) h Q) : p_E X d mi pc ls (.int y :: .long x :: st) h Q := R_st hc rfl rfl trivial k
theorem r_lushr {x : Int64} {y : Int32} (hc : p_code mi pc = some (.lushr, 1)) (k : p_E X d mi (pc + 1) ls (.long (x.toUInt64 >>> (y.toInt64.toUInt64 &&& Int64.toUInt64 63)).toInt64 :: st) h Q) : p_E X d mi pc ls (.int y :: .long x :: st) h Q := R_st hc rfl rfl trivial k
theorem r_i2l {x : Int32} (hc : p_code mi pc = some (.i2l, 1)) (k : p_E X d mi (pc + 1) ls (.long x.toInt64 :: st) h Q) : p_E X d mi pc ls (.int x :: st) h Q := R_st hc rfl rfl trivial k
theorem r_l2i {x : Int64} (hc : p_code mi pc = some (.l2i, 1)) (k : p_E X d mi (pc + 1) ls (.int x.toInt32 :: st) h Q) : p_E X d mi pc ls (.long x :: st) h Q := R_st hc rfl rfl trivial k
theorem r_dup {v : Value} (hc : p_code mi pc = some (.dup, 1)) (hv : v.category = 1) (k : p_E X d mi (pc + 1) ls (v :: v :: st) h Q) : p_E X d mi pc ls (v :: st) h Q := R_st hc rfl rfl hv k
theorem r_pop {v : Value} (hc : p_code mi pc = some (.pop, 1)) (hv : v.category = 1) (k : p_E X d mi (pc + 1) ls st h Q) : p_E X d mi pc ls (v :: st) h Q := R_st hc rfl rfl hv k
theorem r_dup2 {v u : Value} (hc : p_code mi pc = some (.dup2, 1)) (hs : p_alu .dup2 (v :: u :: st) = some (v :: u :: v :: u :: st, v.category = 1 ∧ u.category = 1)) (hv : v.category = 1 ∧ u.category = 1) (k : p_E X d mi (pc + 1) ls (v :: u :: v :: u :: st) h Q) : p_E X d mi pc ls (v :: u :: st) h Q := R_st hc rfl (by dsimp only [p_step]; rw [hs]) hv k
theorem r_clt {off : Int} {t : Nat} {x y : Int32} (hc : p_code mi pc = some (.if_icmp .lt off, 3)) (hj : p_tgt pc off = t ∧ 0 ≤ (pc : Int) + off) (kt : x < y → p_E X d mi t ls st h Q) (kf : ¬ x < y → p_E X d mi (pc + 3) ls st h Q) : p_E X d mi pc ls (.int y :: .int x :: st) h Q := by
  obtain ⟨rfl, h0⟩ := hj
  exact R_jmp hc rfl h0 kt kf
theorem r_zlt {off : Int} {t : Nat} {x : Int32} (hc : p_code mi pc = some (.ifCond .lt off, 3)) (hj : p_tgt pc off = t ∧ 0 ≤ (pc : Int) + off) (kt : x < nI 0 → p_E X d mi t ls st h Q) (kf : ¬ x < nI 0 → p_E X d mi (pc + 3) ls st h Q) : p_E X d mi pc ls (.int x :: st) h Q := by
  obtain ⟨rfl, h0⟩ := hj
  exact R_jmp hc rfl h0 kt kf
theorem r_cge {off : Int} {t : Nat} {x y : Int32} (hc : p_code mi pc = some (.if_icmp .ge off, 3)) (hj : p_tgt pc off = t ∧ 0 ≤ (pc : Int) + off) (kf : x < y → p_E X d mi (pc + 3) ls st h Q) (kt : ¬ x < y → p_E X d mi t ls st h Q) : p_E X d mi pc ls (.int y :: .int x :: st) h Q := by
  obtain ⟨rfl, h0⟩ := hj
  exact R_jmp hc rfl h0 (fun hn => kt (Int32.not_lt.mpr hn)) (fun hn => kf (Classical.byContradiction (fun z => hn (Int32.not_lt.mp z))))
theorem r_zge {off : Int} {t : Nat} {x : Int32} (hc : p_code mi pc = some (.ifCond .ge off, 3)) (hj : p_tgt pc off = t ∧ 0 ≤ (pc : Int) + off) (kf : x < nI 0 → p_E X d mi (pc + 3) ls st h Q) (kt : ¬ x < nI 0 → p_E X d mi t ls st h Q) : p_E X d mi pc ls (.int x :: st) h Q := by
  obtain ⟨rfl, h0⟩ := hj
  exact R_jmp hc rfl h0 (fun hn => kt (Int32.not_lt.mpr hn)) (fun hn => kf (Classical.byContradiction (fun z => hn (Int32.not_lt.mp z))))
theorem r_cgt {off : Int} {t : Nat} {x y : Int32} (hc : p_code mi pc = some (.if_icmp .gt off, 3)) (hj : p_tgt pc off = t ∧ 0 ≤ (pc : Int) + off) (kt : y < x → p_E X d mi t ls st h Q) (kf : ¬ y < x → p_E X d mi (pc + 3) ls st h Q) : p_E X d mi pc ls (.int y :: .int x :: st) h Q := by
  obtain ⟨rfl, h0⟩ := hj
  exact R_jmp hc rfl h0 kt kf
theorem r_zgt {off : Int} {t : Nat} {x : Int32} (hc : p_code mi pc = some (.ifCond .gt off, 3)) (hj : p_tgt pc off = t ∧ 0 ≤ (pc : Int) + off) (kt : nI 0 < x → p_E X d mi t ls st h Q) (kf : ¬ nI 0 < x → p_E X d mi (pc + 3) ls st h Q) : p_E X d mi pc ls (.int x :: st) h Q := by
  obtain ⟨rfl, h0⟩ := hj
  exact R_jmp hc rfl h0 kt kf
theorem r_cle {off : Int} {t : Nat} {x y : Int32} (hc : p_code mi pc = some (.if_icmp .le off, 3)) (hj : p_tgt pc off = t ∧ 0 ≤ (pc : Int) + off) (kf : y < x → p_E X d mi (pc + 3) ls st h Q) (kt : ¬ y < x → p_E X d mi t ls st h Q) : p_E X d mi pc ls (.int y :: .int x :: st) h Q := by
  obtain ⟨rfl, h0⟩ := hj
  exact R_jmp hc rfl h0 (fun hn => kt (Int32.not_lt.mpr hn)) (fun hn => kf (Classical.byContradiction (fun z => hn (Int32.not_lt.mp z))))
theorem r_zle {off : Int} {t : Nat} {x : Int32} (hc : p_code mi pc = some (.ifCond .le off, 3)) (hj : p_tgt pc off = t ∧ 0 ≤ (pc : Int) + off) (kf : nI 0 < x → p_E X d mi (pc + 3) ls st h Q) (kt : ¬ nI 0 < x → p_E X d mi t ls st h Q) : p_E X d mi pc ls (.int x :: st) h Q := by
  obtain ⟨rfl, h0⟩ := hj
  exact R_jmp hc rfl h0 (fun hn => kt (Int32.not_lt.mpr hn)) (fun hn => kf (Classical.byContradiction (fun z => hn (Int32.not_lt.mp z))))
theorem r_ceq {off : Int} {t : Nat} {x y : Int32} (hc : p_code mi pc = some (.if_icmp .eq off, 3)) (hj : p_tgt pc off = t ∧ 0 ≤ (pc : Int) + off) (kt : x = y → p_E X d mi t ls st h Q) (kf : ¬ x = y → p_E X d mi (pc + 3) ls st h Q) : p_E X d mi pc ls (.int y :: .int x :: st) h Q := by
  obtain ⟨rfl, h0⟩ := hj
  exact R_jmp hc rfl h0 kt kf
theorem r_zeq {off : Int} {t : Nat} {x : Int32} (hc : p_code mi pc = some (.ifCond .eq off, 3)) (hj : p_tgt pc off = t ∧ 0 ≤ (pc : Int) + off) (kt : x = nI 0 → p_E X d mi t ls st h Q) (kf : ¬ x = nI 0 → p_E X d mi (pc + 3) ls st h Q) : p_E X d mi pc ls (.int x :: st) h Q := by
  obtain ⟨rfl, h0⟩ := hj
  exact R_jmp hc rfl h0 kt kf
theorem r_cne {off : Int} {t : Nat} {x y : Int32} (hc : p_code mi pc = some (.if_icmp .ne off, 3)) (hj : p_tgt pc off = t ∧ 0 ≤ (pc : Int) + off) (kf : x = y → p_E X d mi (pc + 3) ls st h Q) (kt : ¬ x = y → p_E X d mi t ls st h Q) : p_E X d mi pc ls (.int y :: .int x :: st) h Q := by
  obtain ⟨rfl, h0⟩ := hj
  exact R_jmp hc rfl h0 kt (fun hn => kf (Classical.byContradiction hn))
theorem r_zne {off : Int} {t : Nat} {x : Int32} (hc : p_code mi pc = some (.ifCond .ne off, 3)) (hj : p_tgt pc off = t ∧ 0 ≤ (pc : Int) + off) (kf : x = nI 0 → p_E X d mi (pc + 3) ls st h Q) (kt : ¬ x = nI 0 → p_E X d mi t ls st h Q) : p_E X d mi pc ls (.int x :: st) h Q := by
  obtain ⟨rfl, h0⟩ := hj
  exact R_jmp hc rfl h0 kt (fun hn => kf (Classical.byContradiction hn))
theorem r_llt {off : Int} {t : Nat} {x y : Int64} (hc0 : p_code mi pc = some (.lcmp, 1)) (hc : p_code mi (pc + 1) = some (.ifCond .lt off, 3)) (hj : p_tgt (pc + 1) off = t ∧ 0 ≤ ((pc + 1 : Nat) : Int) + off) (kt : x < y → p_E X d mi t ls st h Q) (kf : ¬ x < y → p_E X d mi (pc + 1 + 3) ls st h Q) : p_E X d mi pc ls (.long y :: .long x :: st) h Q := by
  refine R_st hc0 rfl rfl trivial ?_
  exact r_zlt hc hj (fun z => kt ((lg_cmp_lt _ _).mp z)) (fun z => kf (fun y => z ((lg_cmp_lt _ _).mpr y)))
theorem r_lge {off : Int} {t : Nat} {x y : Int64} (hc0 : p_code mi pc = some (.lcmp, 1)) (hc : p_code mi (pc + 1) = some (.ifCond .ge off, 3)) (hj : p_tgt (pc + 1) off = t ∧ 0 ≤ ((pc + 1 : Nat) : Int) + off) (kf : x < y → p_E X d mi (pc + 1 + 3) ls st h Q) (kt : ¬ x < y → p_E X d mi t ls st h Q) : p_E X d mi pc ls (.long y :: .long x :: st) h Q := by
  refine R_st hc0 rfl rfl trivial ?_
  exact r_zge hc hj (fun z => kf ((lg_cmp_lt _ _).mp z)) (fun z => kt (fun y => z ((lg_cmp_lt _ _).mpr y)))
theorem r_lgt {off : Int} {t : Nat} {x y : Int64} (hc0 : p_code mi pc = some (.lcmp, 1)) (hc : p_code mi (pc + 1) = some (.ifCond .gt off, 3)) (hj : p_tgt (pc + 1) off = t ∧ 0 ≤ ((pc + 1 : Nat) : Int) + off) (kt : y < x → p_E X d mi t ls st h Q) (kf : ¬ y < x → p_E X d mi (pc + 1 + 3) ls st h Q) : p_E X d mi pc ls (.long y :: .long x :: st) h Q := by
  refine R_st hc0 rfl rfl trivial ?_
  exact r_zgt hc hj (fun z => kt ((lg_cmp_gt _ _).mp z)) (fun z => kf (fun y => z ((lg_cmp_gt _ _).mpr y)))
theorem r_lle {off : Int} {t : Nat} {x y : Int64} (hc0 : p_code mi pc = some (.lcmp, 1)) (hc : p_code mi (pc + 1) = some (.ifCond .le off, 3)) (hj : p_tgt (pc + 1) off = t ∧ 0 ≤ ((pc + 1 : Nat) : Int) + off) (kf : y < x → p_E X d mi (pc + 1 + 3) ls st h Q) (kt : ¬ y < x → p_E X d mi t ls st h Q) : p_E X d mi pc ls (.long y :: .long x :: st) h Q := by
  refine R_st hc0 rfl rfl trivial ?_
  exact r_zle hc hj (fun z => kf ((lg_cmp_gt _ _).mp z)) (fun z => kt (fun y => z ((lg_cmp_gt _ _).mpr y)))
theorem r_leq {off : Int} {t : Nat} {x y : Int64} (hc0 : p_code mi pc = some (.lcmp, 1)) (hc : p_code mi (pc + 1) = some (.ifCond .eq off, 3)) (hj : p_tgt (pc + 1) off = t ∧ 0 ≤ ((pc + 1 : Nat) : Int) + off) (kt : x = y → p_E X d mi t ls st h Q) (kf : ¬ x = y → p_E X d mi (pc + 1 + 3) ls st h Q) : p_E X d mi pc ls (.long y :: .long x :: st) h Q := by
  refine R_st hc0 rfl rfl trivial ?_
  exact r_zeq hc hj (fun z => kt ((lg_cmp_eq _ _).mp z)) (fun z => kf (fun y => z ((lg_cmp_eq _ _).mpr y)))
theorem r_lne {off : Int} {t : Nat} {x y : Int64} (hc0 : p_code mi pc = some (.lcmp, 1)) (hc : p_code mi (pc + 1) = some (.ifCond .ne off, 3)) (hj : p_tgt (pc + 1) off = t ∧ 0 ≤ ((pc + 1 : Nat) : Int) + off) (kf : x = y → p_E X d mi (pc + 1 + 3) ls st h Q) (kt : ¬ x = y → p_E X d mi t ls st h Q) : p_E X d mi pc ls (.long y :: .long x :: st) h Q := by
  refine R_st hc0 rfl rfl trivial ?_
  exact r_zne hc hj (fun z => kf ((lg_cmp_eq _ _).mp z)) (fun z => kt (fun y => z ((lg_cmp_eq _ _).mpr y)))
theorem r_cv {cm na : Nat} {ins : Instr} {st1 as : List Value} {h1 : List pE} {v : Value} (hc : p_code mi pc = some (ins, 3)) (hm : p_calls mi ins = some (cm, na)) (hp : p_pop na [] st1 = some (as, st)) (hr : p_recv cm as h = true) (hw : Nat.ble (p_words st) 8 = true) (hM : p_M X d cm as h (fun q => q = (.inl (some v), h1))) (k : p_E X (d + 1) mi (pc + 3) ls (v :: st) h1 Q) : p_E X (d + 1) mi pc ls st1 h Q :=
  R_callr hc hm hp (by rw [hr, hw]; rfl) hM k
theorem r_c0 {cm na : Nat} {ins : Instr} {st1 as : List Value} {h1 : List pE} (hc : p_code mi pc = some (ins, 3)) (hm : p_calls mi ins = some (cm, na)) (hp : p_pop na [] st1 = some (as, st)) (hr : p_recv cm as h = true) (hw : Nat.ble (p_words st) 8 = true) (hM : p_M X d cm as h (fun q => q = (.inl none, h1))) (k : p_E X (d + 1) mi (pc + 3) ls st h1 Q) : p_E X (d + 1) mi pc ls st1 h Q :=
  R_callr hc hm hp (by rw [hr, hw]; rfl) hM k
/-- a call that returns a value, with what is known of it -/
theorem r_ce {cm na : Nat} {ins : Instr} {st1 as : List Value} {P : Value → List pE → Prop} (hc : p_code mi pc = some (ins, 3)) (hm : p_calls mi ins = some (cm, na)) (hp : p_pop na [] st1 = some (as, st)) (hr : p_recv cm as h = true) (hw : Nat.ble (p_words st) 8 = true) (hM : p_M X d cm as h (fun q => ∃ v h1, q = (.inl (some v), h1) ∧ P v h1)) (k : ∀ v h1, P v h1 → p_E X (d + 1) mi (pc + 3) ls (v :: st) h1 Q) : p_E X (d + 1) mi pc ls st1 h Q :=
  R_call hc hm hp (by rw [hr, hw]; rfl) (hM.mono (fun q e => by obtain ⟨v, h1, rfl, hP⟩ := e; exact k v h1 hP))
theorem r_ce0 {cm na : Nat} {ins : Instr} {st1 as : List Value} {P : List pE → Prop} (hc : p_code mi pc = some (ins, 3)) (hm : p_calls mi ins = some (cm, na)) (hp : p_pop na [] st1 = some (as, st)) (hr : p_recv cm as h = true) (hw : Nat.ble (p_words st) 8 = true) (hM : p_M X d cm as h (fun q => ∃ h1, q = (.inl none, h1) ∧ P h1)) (k : ∀ h1, P h1 → p_E X (d + 1) mi (pc + 3) ls st h1 Q) : p_E X (d + 1) mi pc ls st1 h Q :=
  R_call hc hm hp (by rw [hr, hw]; rfl) (hM.mono (fun q e => by obtain ⟨h1, rfl, hP⟩ := e; exact k h1 hP))
theorem r_cq {cm na : Nat} {ins : Instr} {st1 as : List Value} {P : pR → Prop} (hc : p_code mi pc = some (ins, 3)) (hm : p_calls mi ins = some (cm, na)) (hp : p_pop na [] st1 = some (as, st)) (hr : p_recv cm as h = true) (hw : Nat.ble (p_words st) 8 = true) (hM : p_M X d cm as h P) (k : ∀ v h1, P (.inl v, h1) → p_E X (d + 1) mi (pc + 3) ls (v.toList ++ st) h1 Q) (kt : ∀ x h1, ¬ P (.inr x, h1)) : p_E X (d + 1) mi pc ls st1 h Q :=
  R_call hc hm hp (by rw [hr, hw]; rfl) (hM.mono (fun q e => by obtain ⟨q1, h1⟩ := q; cases q1 with | inl v => exact k v h1 e | inr x => exact absurd e (kt x h1)))
theorem r_ri {x : Int32} (hc : p_code mi pc = some (.ireturn, 1)) (hr : p_rty mi = some .int) (k : Q (.inl (some (.int x)), h)) : p_E X d mi pc ls [.int x] h Q := R_ret hc rfl (Or.inl hr) k
theorem r_rz {x : Int32} (hc : p_code mi pc = some (.ireturn, 1)) (hr : p_rty mi = some .boolean) (h01 : x = nI 0 ∨ x = nI 1) (k : Q (.inl (some (.int x)), h)) : p_E X d mi pc ls [.int x] h Q := R_ret hc rfl (Or.inr ⟨_, hr, p_nar_01 h01⟩) k
theorem r_rl {x : Int64} (hc : p_code mi pc = some (.lreturn, 1)) (hr : p_rty mi = some .long) (k : Q (.inl (some (.long x)), h)) : p_E X d mi pc ls [.long x] h Q := R_ret hc rfl hr k
theorem r_r0 (hc : p_code mi pc = some (.return_, 1)) (hr : p_rty mi = none) (k : Q (.inl none, h)) : p_E X d mi pc ls [] h Q := R_ret hc rfl hr k
theorem r_th {ci : Nat} {ins : Instr} {z : Nat → Int32} {a : Nat → Nat → Int32} {w : Nat → Nat → Int64} {y : Nat → Int64} {g : List pE} (hc : p_code mi pc = some (ins, len)) (ht : p_thr mi pc ins = some ci) (hh : p_hh mi = []) (hd : 8 ≤ d) (hw : p_words st ≤ 4) (k : Q (.inr (44 + g.length), hp z a w y (g ++ [.inr (ci, [])]))) : p_E X d mi pc ls st (hp z a w y g) Q := by
  refine R_thr hc ht ⟨hd, hw, hh⟩ ?_
  rw [hp_len, hp_app]
  exact k
theorem r_ts {dflt lo hi : Int} {offs : Array Int} {x : Int32} (hc : p_code mi pc = some (.tableswitch dflt lo hi offs, len)) (hn : (offs.size : Int) = hi - lo + 1) (h0 : 0 ≤ (pc : Int) + dflt ∧ ∀ j, j < offs.size → 0 ≤ (pc : Int) + (offs[j]?).getD dflt) (k : ∀ j, j < offs.size → x.toInt = lo + j → p_E X d mi (p_tgt pc ((offs[j]?).getD dflt)) ls st h Q) (kd : (x.toInt < lo ∨ hi < x.toInt) → p_E X d mi (p_tgt pc dflt) ls st h Q) : p_E X d mi pc ls (.int x :: st) h Q := by
  by_cases hx : x.toInt < lo ∨ hi < x.toInt
  · have e : p_tsw dflt lo hi offs x = dflt := if_pos hx
    refine R_swi hc rfl ⟨by rw [e]; exact h0.1, ?_⟩ (by rw [e]; exact kd hx)
    rcases hx with hx | hx
    · exact Or.inl hx
    · exact Or.inr (Or.inl hx)
  · have e : p_tsw dflt lo hi offs x = (offs[(x.toInt - lo).toNat]?).getD dflt := if_neg hx
    have hlt : (x.toInt - lo).toNat < offs.size := by omega
    refine R_swi hc rfl ⟨by rw [e]; exact h0.2 _ hlt, Or.inr (Or.inr hlt)⟩ (by rw [e]; exact k _ hlt (by omega))
end RUL
section NIL
theorem kI_add (a b : Nat) : nI a + nI b = nI (a + b) := by unfold nI; exact (Int32.ofNat_add a b).symm
theorem kI_toInt {a : Nat} (h : a < 2147483648) : (nI a).toInt = a := by unfold nI; exact Int32.toInt_ofNat_of_lt (by omega)
theorem kI_lt {a b : Nat} (ha : a < 2147483648) (hb : b < 2147483648) : nI a < nI b ↔ a < b := by
  rw [Int32.lt_iff_toInt_lt, kI_toInt ha, kI_toInt hb]; omega
theorem kI_inj {a b : Nat} (ha : a < 2147483648) (hb : b < 2147483648) : nI a = nI b ↔ a = b := by
  constructor
  · intro h
    have := congrArg Int32.toInt h
    rw [kI_toInt ha, kI_toInt hb] at this
    omega
  · intro h; rw [h]
theorem kI_cl {a : Nat} (h : a < 2147483648) : (nI a).toNatClampNeg = a := by
  show (nI a).toInt.toNat = a
  rw [kI_toInt h]; rfl
theorem kI_in {a n : Nat} (h : a < n) (hn : n ≤ 1000000) : p_inI (nI a) n := by
  intro hx
  rcases hx with hx | hx
  · exact nI_pos (by omega) hx
  · rw [kI_cl (by omega)] at hx; omega
theorem kI_neg {a : Nat} (h : a < 2147483648) : ¬ nI a < nI 0 := by
  intro z; have := (kI_lt h (by omega)).mp z; omega
theorem kI_m1 {a : Nat} (h : a < 2147483648) : ¬ nI a = -1 := by
  intro e
  have := congrArg Int32.toInt e
  rw [kI_toInt h] at this
  have h2 : (-1 : Int32).toInt = -1 := by decide
  omega
theorem kI_sub {a b : Nat} (h : b ≤ a) : nI a - nI b = nI (a - b) := by
  have : nI a = nI (a - b) + nI b := by rw [kI_add]; congr 1; omega
  rw [this]
  exact Int32.add_sub_cancel _ _
theorem kI_mul (a b : Nat) : nI a * nI b = nI (a * b) := by unfold nI; exact (Int32.ofNat_mul a b).symm
end NIL
