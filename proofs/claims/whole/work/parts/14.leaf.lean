/-! ===== the class's small methods ===== -/
section LEAF
variable {X : pX} {d : Nat} {z : Nat → Int32} {a : Nat → Nat → Int32} {w : Nat → Nat → Int64} {y : Nat → Int64} {g : List pE}
theorem M_clear : p_M X 0 11 [.ref 1] (hp z a w y g) (fun q => q = (.inl none, hp (u_ (u_ (u_ z 0 (nI 0)) 1 (nI 0)) 2 (nI 0)) a w y g)) := by
  refine (r_in xin_11 (r_aln xc_11_0 rfl (r_ic xc_11_1 kc_0 (r_put xc_11_2 xf_11_39 rfl s_2_9 (r_aln xc_11_5 rfl (r_ic xc_11_6 kc_0 (r_put xc_11_7 xf_11_43 rfl s_2_10 (r_aln xc_11_10 rfl (r_ic xc_11_11 kc_0 (r_put xc_11_12 xf_11_46 rfl s_2_11 (r_r0 xc_11_15 xrt_11 ?_)))))))))))
  rfl
theorem M_refuse {x : Int32} : p_M X 0 17 [.ref 11, .int x] (hp z a w y g) (fun q => q = (.inl (some (.int (nI 0))), hp (u_ z 5 x) a w y g)) := by
  refine (r_in xin_17 (r_aln xc_17_0 rfl (r_iln xc_17_1 rfl (r_put xc_17_2 xf_17_31 rfl s_1_4 (r_ic xc_17_5 kc_0 (r_rz xc_17_6 xrt_17 ?_ ?_))))))
  · exact Or.inl rfl
  · rfl
theorem M_isFull : p_M X 0 25 [.ref 1] (hp z a w y g) (fun q => q = (.inl (some (.int (if z 1 < nI 60 then nI 0 else nI 1))), hp z a w y g)) := by
  refine (r_in xin_25 (r_aln xc_25_0 rfl (r_get xc_25_1 xf_25_43 g_2_10 (r_bi xc_25_4 kb_60 (r_clt xc_25_6 xj_25_6 (fun h6 => (r_ic xc_25_13 kc_0 (r_rz xc_25_14 xrt_25 ?_ ?_))) (fun h6 => (r_ic xc_25_9 kc_1 (r_go xc_25_10 xj_25_10 (r_rz xc_25_14 xrt_25 ?_ ?_)))))))))
  · exact Or.inl rfl
  · rw [if_pos h6]
  · exact Or.inr rfl
  · rw [if_neg h6]
theorem M_signHere (hb : z 4 < z 3 → p_inI (z 4) 300) : p_M X 0 15 [.ref 11] (hp z a w y g) (fun q => q = (.inl (some (.int (if z 4 < z 3 then a 9 (z 4).toNatClampNeg else -1))), hp z a w y g)) := by
  refine (r_in xin_15 (r_aln xc_15_0 rfl (r_get xc_15_1 xf_15_28 g_1_3 (r_aln xc_15_4 rfl (r_get xc_15_5 xf_15_19 g_1_2 (r_cge xc_15_8 xj_15_8 (fun h8 => (r_aln xc_15_11 rfl (r_get xc_15_12 xf_15_9 g_1_1 (r_aln xc_15_15 rfl (r_get xc_15_16 xf_15_28 g_1_3 (r_ia xc_15_19 b_12 ?_ (r_go xc_15_20 xj_15_20 (r_ri xc_15_24 xrt_15 ?_)))))))) (fun h8 => (r_ic xc_15_23 kc_m1 (r_ri xc_15_24 xrt_15 ?_)))))))))
  · exact hb h8
  · rw [if_pos h8]
  · rw [if_neg h8]
end LEAF
