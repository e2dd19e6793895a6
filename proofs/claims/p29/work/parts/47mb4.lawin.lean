set_option maxHeartbeats 4000000 in
set_option maxRecDepth 100000 in
theorem wsL_law_j4 : ∀ w ∈ ([Cond.methodLink RL 158 yL_back, Cond.static yL_back, Cond.code yL_back cL_back 10 (some .boolean)] : List Cond), w ∈ lw_tbl := List.forall_mem_cons.mpr ⟨List.mem_of_getElem? (i := 664) (by decide +kernel), List.forall_mem_cons.mpr ⟨List.mem_of_getElem? (i := 665) (by decide +kernel), List.forall_mem_cons.mpr ⟨List.mem_append_right _ (List.mem_append_right _ (List.mem_append_right _ (List.mem_of_getElem? (l := tables_1_3) (i := 168) rfl))), fun _ h => absurd h List.not_mem_nil⟩⟩⟩
