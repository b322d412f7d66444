/-! branches and switches, walked -/
section PJM
variable {p : Program} {l : Launch} {e : Env} {R : Room} {s : State} {m : MethodId} {args : Array Value} {below : List Frame} {meth : Method} {c : Code} {H : Heap} {locs : List Loc} {cells slots : Nat} {Q : State → Prop}
variable {base : Nat} {ex : Nat → Nat} {lsA : Array Slot} {cc : ByteArray} {pc t t2 len : Nat} {ins : Instr} {st r : List Value} {q C : Prop}
theorem s_jmp (hx : p.tables.exec = Jvm.exec) (hb : c.code = cc) (hd : decode cc pc = .ok (ins, len)) (hlen : p_sw ins = false → len = p_len ins) (hj : p_jmp pc ins st = some (q, t, t2, r, C)) (hC : C) (kt : q → W p l e R s m args below meth c H locs cells slots Q (F0 m t lsA (r.map (c_V base ex)))) (kf : ¬ q → W p l e R s m args below meth c H locs cells slots Q (F0 m t2 lsA (r.map (c_V base ex)))) : W p l e R s m args below meth c H locs cells slots Q (F0 m pc lsA (st.map (c_V base ex))) := by
  have hsw : p_sw ins = false := by cases ins <;> first | rfl | cases hj
  have hlen := hlen hsw
  subst hlen
  clear hsw
  cases ins with
  | ifCond co off =>
    dsimp only [p_jmp] at hj
    split at hj
    · cases hj
      cases co with
      | eq => exact lv_if_eq hx hb hd (Int.toNat_of_nonneg hC).symm kt kf
      | ne => exact lv_if_ne hx hb hd (Int.toNat_of_nonneg hC).symm kt (fun z => kf (fun y => y z))
      | lt => exact lv_if_lt hx hb hd (Int.toNat_of_nonneg hC).symm kt kf
      | ge => exact lv_if_ge hx hb hd (Int.toNat_of_nonneg hC).symm kt kf
      | gt => exact lv_if_gt hx hb hd (Int.toNat_of_nonneg hC).symm kt kf
      | le => exact lv_if_le hx hb hd (Int.toNat_of_nonneg hC).symm kt kf
    · cases hj
  | if_icmp co off =>
    dsimp only [p_jmp] at hj
    split at hj
    · cases hj
      cases co with
      | eq => exact lv_icmp_eq hx hb hd (Int.toNat_of_nonneg hC).symm kt kf
      | ne => exact lv_icmp_ne hx hb hd (Int.toNat_of_nonneg hC).symm kt (fun z => kf (fun y => y z))
      | lt => exact lv_icmp_lt hx hb hd (Int.toNat_of_nonneg hC).symm kt kf
      | ge => exact lv_icmp_ge hx hb hd (Int.toNat_of_nonneg hC).symm kt kf
      | gt => exact lv_icmp_gt hx hb hd (Int.toNat_of_nonneg hC).symm kt kf
      | le => exact lv_icmp_le hx hb hd (Int.toNat_of_nonneg hC).symm kt kf
    · cases hj
  | _ => cases hj
theorem s_swi (hx : p.tables.exec = Jvm.exec) (hb : c.code = cc) (hd : decode cc pc = .ok (ins, len)) (hj : p_swi pc ins st = some (t, r, C)) (hC : C) (k : W p l e R s m args below meth c H locs cells slots Q (F0 m t lsA (r.map (c_V base ex)))) : W p l e R s m args below meth c H locs cells slots Q (F0 m pc lsA (st.map (c_V base ex))) := by
  cases ins with
  | tableswitch dflt lo hi offs =>
    dsimp only [p_swi] at hj
    split at hj
    · next x r0 =>
      cases hj
      obtain ⟨h1, h2⟩ := hC
      by_cases hout : x.toInt < lo ∨ hi < x.toInt
      · refine lv_tableOut hx hb hd hout ?_ k
        unfold p_tgt
        rw [Int.toNat_of_nonneg h1]
        unfold p_tsw
        rw [if_pos hout]
      · have h3 : (x.toInt - lo).toNat < offs.size := by
          rcases h2 with z | z | z
          · exact absurd (Or.inl z) hout
          · exact absurd (Or.inr z) hout
          · exact z
        refine lv_tableIn (off := offs[(x.toInt - lo).toNat]) hx hb hd (fun z => hout (Or.inl z)) (fun z => hout (Or.inr z)) (Array.getElem?_eq_getElem h3) ?_ k
        unfold p_tgt
        rw [Int.toNat_of_nonneg h1]
        unfold p_tsw
        rw [if_neg hout, Array.getElem?_eq_getElem h3]
        rfl
    · cases hj
  | lookupswitch dflt ps =>
    dsimp only [p_swi] at hj
    split at hj
    · next x r0 =>
      cases hj
      obtain ⟨h1, h2⟩ := hC
      exact lv_lookup hx hb hd h2 rfl (by unfold p_tgt; rw [Int.toNat_of_nonneg h1]) k
    · cases hj
  | _ => cases hj
end PJM
