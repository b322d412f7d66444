section PS1
variable {p : Program} {l : Launch} {e : Env} {R : Room} {s : State} {m : MethodId} {args : Array Value} {below : List Frame} {meth : Method} {c : Code} {H : Heap} {locs : List Loc} {cells slots : Nat} {Q : State → Prop}
variable {base : Nat} {ex : Nat → Nat} {lsA : Array Slot}
set_option maxHeartbeats 4000000 in
theorem p_alu_ok (hx : p.tables.exec = Jvm.exec) {cc : ByteArray} (hb : c.code = cc) {pc : Nat} {ins : Instr} (hd : decode cc pc = .ok (ins, 1)) {st st' : List Value} {Co : Prop} (hs : p_alu ins st = some (st', Co)) (hC : Co) (kk : W p l e R s m args below meth c H locs cells slots Q (F0 m (pc + 1) lsA (st'.map (c_V base ex)))) : W p l e R s m args below meth c H locs cells slots Q (F0 m pc lsA (st.map (c_V base ex))) := by
  cases ins with
  | iadd =>
    dsimp only [p_alu] at hs
    split at hs
    · cases hs; exact lv_iadd hx hb hd kk
    · cases hs
  | isub =>
    dsimp only [p_alu] at hs
    split at hs
    · cases hs; exact lv_isub hx hb hd kk
    · cases hs
  | imul =>
    dsimp only [p_alu] at hs
    split at hs
    · cases hs; exact lv_imul hx hb hd kk
    · cases hs
  | idiv =>
    dsimp only [p_alu] at hs
    split at hs
    · cases hs; exact lv_idiv hx hb hd hC kk
    · cases hs
  | irem =>
    dsimp only [p_alu] at hs
    split at hs
    · cases hs; exact lv_irem hx hb hd hC kk
    · cases hs
  | ineg =>
    dsimp only [p_alu] at hs
    split at hs
    · cases hs; exact lv_ineg hx hb hd kk
    · cases hs
  | iand =>
    dsimp only [p_alu] at hs
    split at hs
    · cases hs; exact lv_iand hx hb hd kk
    · cases hs
  | ior =>
    dsimp only [p_alu] at hs
    split at hs
    · cases hs; exact lv_ior hx hb hd kk
    · cases hs
  | ixor =>
    dsimp only [p_alu] at hs
    split at hs
    · cases hs; exact lv_ixor hx hb hd kk
    · cases hs
  | ishl =>
    dsimp only [p_alu] at hs
    split at hs
    · cases hs; exact lv_ishl hx hb hd kk
    · cases hs
  | ishr =>
    dsimp only [p_alu] at hs
    split at hs
    · cases hs; exact lv_ishr hx hb hd kk
    · cases hs
  | ladd =>
    dsimp only [p_alu] at hs
    split at hs
    · cases hs; exact lv_ladd hx hb hd kk
    · cases hs
  | lsub =>
    dsimp only [p_alu] at hs
    split at hs
    · cases hs; exact lv_lsub hx hb hd kk
    · cases hs
  | lmul =>
    dsimp only [p_alu] at hs
    split at hs
    · cases hs; exact lv_lmul hx hb hd kk
    · cases hs
  | ldiv =>
    dsimp only [p_alu] at hs
    split at hs
    · cases hs; exact lv_ldiv hx hb hd hC kk
    · cases hs
  | lrem =>
    dsimp only [p_alu] at hs
    split at hs
    · cases hs; exact lv_lrem hx hb hd hC kk
    · cases hs
  | lneg =>
    dsimp only [p_alu] at hs
    split at hs
    · cases hs; exact lv_lneg hx hb hd kk
    · cases hs
  | land =>
    dsimp only [p_alu] at hs
    split at hs
    · cases hs; exact lv_land hx hb hd kk
    · cases hs
  | lor =>
    dsimp only [p_alu] at hs
    split at hs
    · cases hs; exact lv_lor hx hb hd kk
    · cases hs
  | lxor =>
    dsimp only [p_alu] at hs
    split at hs
    · cases hs; exact lv_lxor hx hb hd kk
    · cases hs
  | lshl =>
    dsimp only [p_alu] at hs
    split at hs
    · cases hs; exact lv_lshl hx hb hd rfl kk
    · cases hs
  | lshr =>
    dsimp only [p_alu] at hs
    split at hs
    · cases hs; exact lv_lshr hx hb hd rfl kk
    · cases hs
  | lushr =>
    dsimp only [p_alu] at hs
    split at hs
    · cases hs; exact lv_lushr hx hb hd rfl kk
    · cases hs
  | i2l =>
    dsimp only [p_alu] at hs
    split at hs
    · cases hs; exact lv_i2l hx hb hd rfl kk
    · cases hs
  | l2i =>
    dsimp only [p_alu] at hs
    split at hs
    · cases hs; exact lv_l2i hx hb hd rfl kk
    · cases hs
  | i2c =>
    dsimp only [p_alu] at hs
    split at hs
    · cases hs; exact lv_i2c hx hb hd rfl kk
    · cases hs
  | lcmp =>
    dsimp only [p_alu] at hs
    split at hs
    · cases hs; exact W.lcmp hx hb hd kk
    · cases hs
  | dup =>
    dsimp only [p_alu] at hs
    split at hs
    · cases hs; exact lv_dup hx hb hd ((c_V_cat base ex _).trans hC) kk
    · cases hs
  | pop =>
    dsimp only [p_alu] at hs
    split at hs
    · cases hs; exact lv_pop hx hb hd ((c_V_cat base ex _).trans hC) kk
    · cases hs
  | dup_x1 =>
    dsimp only [p_alu] at hs
    split at hs
    · cases hs; exact lv_dup_x1 hx hb hd ((c_V_cat base ex _).trans hC.1) ((c_V_cat base ex _).trans hC.2) kk
    · cases hs
  | dup_x2 =>
    dsimp only [p_alu] at hs
    split at hs
    · cases hs; exact lv_dup_x2 hx hb hd ((c_V_cat base ex _).trans hC.1) ((c_V_cat base ex _).trans hC.2.1) ((c_V_cat base ex _).trans hC.2.2) kk
    · cases hs
  | dup2 =>
    dsimp only [p_alu] at hs
    split at hs
    · cases hs; exact lv_dup2_2 (va := .long _) hx hb hd rfl kk
    · cases hs; exact lv_dup2_11 hx hb hd ((c_V_cat base ex _).trans hC.1) ((c_V_cat base ex _).trans hC.2) kk
    · cases hs
  | pop2 =>
    dsimp only [p_alu] at hs
    split at hs
    · cases hs; exact lv_pop2_2 (va := .long _) hx hb hd rfl kk
    · cases hs
  | _ => cases hs
end PS1
