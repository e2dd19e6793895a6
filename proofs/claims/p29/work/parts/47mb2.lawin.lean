set_option maxHeartbeats 4000000 in
set_option maxRecDepth 100000 in
theorem wsL_law_j2 : ∀ w ∈ ([Cond.methodLink RL 151 yL_told, Cond.static yL_told, Cond.code yL_told cL_told 14 (some .boolean)] : List Cond), w ∈ lw_tbl := List.forall_mem_cons.mpr ⟨List.mem_of_getElem? (i := 658) (by decide +kernel), List.forall_mem_cons.mpr ⟨List.mem_of_getElem? (i := 659) (by decide +kernel), List.forall_mem_cons.mpr ⟨List.mem_append_right _ (List.mem_append_right _ (List.mem_append_right _ (List.mem_of_getElem? (l := tables_1_3) (i := 162) rfl))), fun _ h => absurd h List.not_mem_nil⟩⟩⟩
