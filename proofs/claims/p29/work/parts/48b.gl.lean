set_option maxRecDepth 20000 in
theorem gt_L_all_1 : GoodIn wsL_law wsL_all_r1 := goodIn_r _ [81, 82, 83, 84, 85, 86, 87, 88, 89, 90, 91, 92, 93, 2, 94, 95, 96, 97, 98, 99, 16, 100, 101, 102] (by decide +kernel) (by decide +kernel)
set_option maxRecDepth 20000 in
theorem gt_L_all_2 : GoodIn wsL_law wsL_all_r2 := goodIn_r _ [103, 104, 105, 106, 107, 108, 109, 110, 111, 112, 113, 114, 115, 116, 117, 118, 119, 120, 121, 122, 123, 124, 125, 126] (by decide +kernel) (by decide +kernel)
set_option maxRecDepth 20000 in
theorem gt_L_all_3 : GoodIn wsL_law wsL_all_r3 := goodIn_r _ [127, 128, 129, 130, 131, 132, 133, 134, 135, 20, 136, 137, 138, 139, 140, 141, 142, 143, 144, 145, 146, 147, 148, 19] (by decide +kernel) (by decide +kernel)
set_option maxRecDepth 20000 in
theorem gt_L_all_4 : GoodIn wsL_law wsL_all_r4 := goodIn_r _ [149, 150, 151, 152, 153, 154, 155, 156, 157, 158, 159, 160, 161, 162, 163, 164, 165, 166, 167, 28, 168, 169, 170, 15] (by decide +kernel) (by decide +kernel)
set_option maxRecDepth 20000 in
theorem gt_L_all_5 : GoodIn wsL_law wsL_all_r5 := goodIn_r _ [171, 172, 173, 174, 175, 176, 50, 51, 177, 178, 179, 180, 181, 182, 183, 184, 185, 186, 49, 187, 188, 189, 190, 191] (by decide +kernel) (by decide +kernel)
set_option maxRecDepth 20000 in
theorem gt_L_all_6 : GoodIn wsL_law wsL_all_r6 := goodIn_r _ [192, 193, 194, 195, 196, 197, 198, 199, 200, 201, 202, 203, 204, 52, 205, 206, 207, 208, 209, 210, 211, 212, 213, 214] (by decide +kernel) (by decide +kernel)
set_option maxRecDepth 20000 in
theorem gt_L_all_7 : GoodIn wsL_law wsL_all_r7 := goodIn_r _ [215, 216, 217, 218, 219, 220, 221, 222, 223, 224, 225, 226, 227, 228, 229, 230, 231, 232, 233, 234, 235, 236, 237, 238] (by decide +kernel) (by decide +kernel)
set_option maxRecDepth 20000 in
theorem gt_L_all_8 : GoodIn wsL_law wsL_all_r8 := goodIn_r _ [239, 240, 241, 242, 243, 244, 245, 246, 247, 248, 249, 250, 251, 252, 253, 254, 255, 256, 257, 258, 259, 260, 261, 262] (by decide +kernel) (by decide +kernel)
set_option maxRecDepth 20000 in
theorem gt_L_all_9 : GoodIn wsL_law wsL_all_r9 := goodIn_r _ [263, 264, 265, 266, 267, 268, 269, 270, 271, 272, 273, 274, 275, 276, 277, 278, 279, 280, 281, 282] (by decide +kernel) (by decide +kernel)
set_option maxHeartbeats 4000000 in
set_option maxRecDepth 100000 in
theorem gt_L_all_0 : GoodIn wsL_law [.code yL_all cL_all 5 (some .long)] := List.forall_mem_cons.mpr ⟨⟨List.mem_of_getElem? (i := 80) rfl, Or.inl rfl⟩, fun _ h => absurd h List.not_mem_nil⟩
set_option maxRecDepth 20000 in
theorem ggL_law_L_all : GoodIn wsL_law wsL_all := goodIn_ca (goodIn_app (a := [.code yL_all cL_all 5 (some .long)]) gt_L_all_0 (goodIn_app (goodIn_app (goodIn_app (goodIn_app (goodIn_app (goodIn_app (goodIn_app gt_L_all_1 (goodIn_app gt_L_all_2 (goodIn_app gt_L_all_3 (goodIn_app gt_L_all_4 (goodIn_app gt_L_all_5 (goodIn_app gt_L_all_6 (goodIn_app gt_L_all_7 (goodIn_app gt_L_all_8 gt_L_all_9)))))))) (goodIn_sub inlX6 (by decide +kernel))) (goodIn_sub inlX2 (by decide +kernel))) (goodIn_sub inlX1 (by decide +kernel))) (goodIn_sub inlX3 (by decide +kernel))) (goodIn_sub inlX0 (by decide +kernel))) (goodIn_sub inlX5 (by decide +kernel)))) (goodIn_sub (fun _ h => List.mem_append_left _ (List.mem_append_left _ (List.mem_append_right _ h))) (by decide +kernel))
set_option maxRecDepth 20000 in
theorem gL_law_L_all : GoodIn wsL_law (va_wsS RL 131 yL_all wsL_all) := goodIn_app (goodIn_of _ (by decide +kernel)) ggL_law_L_all
