theorem xa_7 : p_exA 5 72 7 := ⟨_, rfl, by decide +kernel, by decide +kernel, p_t 449 (by decide +kernel), p_t 17 (by decide +kernel)⟩
theorem xa_8 : p_exA 5 142 8 := ⟨_, rfl, by decide +kernel, by decide +kernel, p_t 522 (by decide +kernel), p_t 18 (by decide +kernel)⟩
theorem xa_9 : p_exA 5 187 9 := ⟨_, rfl, by decide +kernel, by decide +kernel, p_t 566 (by decide +kernel), p_t 19 (by decide +kernel)⟩
theorem xa_10 : p_exA 5 100 10 := ⟨_, rfl, by decide +kernel, by decide +kernel, p_t 607 (by decide +kernel), p_t 20 (by decide +kernel)⟩
theorem xa_11 : p_exA 5 163 11 := ⟨_, rfl, by decide +kernel, by decide +kernel, p_t 704 (by decide +kernel), p_t 21 (by decide +kernel)⟩
theorem p_exi_ok : ∀ z ∈ p_exiL, p_exA z.1 z.2.1 z.2.2 := List.forall_mem_cons.mpr ⟨xa_7, List.forall_mem_cons.mpr ⟨xa_8, List.forall_mem_cons.mpr ⟨xa_9, List.forall_mem_cons.mpr ⟨xa_10, List.forall_mem_cons.mpr ⟨xa_11, fun _ h => absurd h List.not_mem_nil⟩⟩⟩⟩⟩
theorem xn_12_13 : p_exnP 12 13 7 := ⟨_, rfl, p_t 441 (by decide +kernel)⟩
theorem xn_12_15 : p_exnP 12 15 8 := ⟨_, rfl, p_t 442 (by decide +kernel)⟩
theorem xn_12_17 : p_exnP 12 17 9 := ⟨_, rfl, p_t 443 (by decide +kernel)⟩
theorem xn_5_68 : p_exnP 5 68 7 := ⟨_, rfl, p_t 448 (by decide +kernel)⟩
theorem xn_5_138 : p_exnP 5 138 8 := ⟨_, rfl, p_t 521 (by decide +kernel)⟩
theorem xn_5_183 : p_exnP 5 183 9 := ⟨_, rfl, p_t 565 (by decide +kernel)⟩
theorem xn_12_26 : p_exnP 12 26 10 := ⟨_, rfl, p_t 600 (by decide +kernel)⟩
theorem xn_5_96 : p_exnP 5 96 10 := ⟨_, rfl, p_t 606 (by decide +kernel)⟩
theorem xn_12_43 : p_exnP 12 43 11 := ⟨_, rfl, p_t 696 (by decide +kernel)⟩
theorem xn_5_159 : p_exnP 5 159 11 := ⟨_, rfl, p_t 703 (by decide +kernel)⟩
theorem p_exnA : p_all2 p_exnL p_exnP := List.forall_mem_cons.mpr ⟨List.forall_mem_cons.mpr ⟨xn_5_68, List.forall_mem_cons.mpr ⟨xn_5_96, List.forall_mem_cons.mpr ⟨xn_5_138, List.forall_mem_cons.mpr ⟨xn_5_159, List.forall_mem_cons.mpr ⟨xn_5_183, fun _ h => absurd h List.not_mem_nil⟩⟩⟩⟩⟩, List.forall_mem_cons.mpr ⟨List.forall_mem_cons.mpr ⟨xn_12_13, List.forall_mem_cons.mpr ⟨xn_12_15, List.forall_mem_cons.mpr ⟨xn_12_17, List.forall_mem_cons.mpr ⟨xn_12_26, List.forall_mem_cons.mpr ⟨xn_12_43, fun _ h => absurd h List.not_mem_nil⟩⟩⟩⟩⟩, fun _ h => absurd h List.not_mem_nil⟩⟩
