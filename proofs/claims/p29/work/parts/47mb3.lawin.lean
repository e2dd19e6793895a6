set_option maxHeartbeats 4000000 in
set_option maxRecDepth 100000 in
theorem wsL_law_j3 : ∀ w ∈ ([Cond.methodLink RL 155 yL_goes, Cond.static yL_goes, Cond.code yL_goes cL_goes 15 (some .boolean)] : List Cond), w ∈ lw_tbl := List.forall_mem_cons.mpr ⟨List.mem_of_getElem? (i := 661) (by decide +kernel), List.forall_mem_cons.mpr ⟨List.mem_of_getElem? (i := 662) (by decide +kernel), List.forall_mem_cons.mpr ⟨List.mem_append_right _ (List.mem_append_right _ (List.mem_append_right _ (List.mem_of_getElem? (l := tables_1_3) (i := 165) rfl))), fun _ h => absurd h List.not_mem_nil⟩⟩⟩
