set_option maxRecDepth 20000 in
theorem gt_L_keeps_1 : GoodIn wsL_law wsL_keeps_r1 := goodIn_r _ [96, 97, 98, 2, 99, 16, 136, 137, 138, 139, 20, 286, 287, 288, 289, 290, 196, 197, 15, 198, 172, 168, 169, 170] (by decide +kernel) (by decide +kernel)
set_option maxRecDepth 20000 in
theorem gt_L_keeps_2 : GoodIn wsL_law wsL_keeps_r2 := goodIn_r _ [171, 112, 113, 114, 115, 116, 117, 118, 119, 100, 101, 102, 103, 124, 125, 126, 127, 120, 121, 122, 123, 132, 133, 134] (by decide +kernel) (by decide +kernel)
set_option maxRecDepth 20000 in
theorem gt_L_keeps_3 : GoodIn wsL_law wsL_keeps_r3 := goodIn_r _ [135, 156, 157, 158, 159, 144, 145, 146, 147, 148, 19, 149, 150, 151, 152, 153, 154, 155, 160, 161, 162, 163, 91, 92] (by decide +kernel) (by decide +kernel)
set_option maxRecDepth 20000 in
theorem gt_L_keeps_4 : GoodIn wsL_law wsL_keeps_r4 := goodIn_r _ [93, 94, 95, 140, 141, 142, 143, 104, 105, 106, 107, 291, 292, 79, 293, 294, 295, 296, 297, 298, 299, 300, 301, 302] (by decide +kernel) (by decide +kernel)
set_option maxRecDepth 20000 in
theorem gt_L_keeps_5 : GoodIn wsL_law wsL_keeps_r5 := goodIn_r _ [12, 303, 304, 305, 306, 307, 308, 309, 310, 190, 191, 192, 193, 50, 51, 178, 194, 195, 199, 200, 201, 202, 203, 204] (by decide +kernel) (by decide +kernel)
set_option maxRecDepth 20000 in
theorem gt_L_keeps_6 : GoodIn wsL_law wsL_keeps_r6 := goodIn_r _ [52, 205, 206, 207, 49, 208, 188, 189, 209, 210, 211, 212, 179, 180, 213, 214, 215, 216, 217, 218, 219, 220, 221, 222] (by decide +kernel) (by decide +kernel)
set_option maxRecDepth 20000 in
theorem gt_L_keeps_7 : GoodIn wsL_law wsL_keeps_r7 := goodIn_r _ [223, 224, 225, 226, 227, 228, 229, 230, 231, 232, 233, 234, 235, 236, 237, 238, 239, 240, 241, 242, 243, 244, 245, 246] (by decide +kernel) (by decide +kernel)
set_option maxRecDepth 20000 in
theorem gt_L_keeps_8 : GoodIn wsL_law wsL_keeps_r8 := goodIn_r _ [247, 248, 249, 250, 177, 181, 251, 252, 253, 254, 255, 256, 257, 258, 259, 260, 261, 262, 263, 264, 265, 266, 267, 268] (by decide +kernel) (by decide +kernel)
set_option maxRecDepth 20000 in
theorem gt_L_keeps_9 : GoodIn wsL_law wsL_keeps_r9 := goodIn_r _ [269, 270, 271, 272, 273, 274, 275, 276, 277, 278, 279, 280, 281, 282, 182, 183, 311, 312, 313, 314, 315, 316, 317, 318] (by decide +kernel) (by decide +kernel)
set_option maxRecDepth 20000 in
theorem gt_L_keeps_10 : GoodIn wsL_law wsL_keeps_r10 := goodIn_r _ [60, 61, 62, 319, 320, 321, 322, 323, 324, 325, 326, 24, 327, 328, 329, 330, 331, 332, 333, 334, 23, 335, 66, 67] (by decide +kernel) (by decide +kernel)
set_option maxRecDepth 20000 in
theorem gt_L_keeps_11 : GoodIn wsL_law wsL_keeps_r11 := goodIn_r _ [68, 336, 337, 338, 339, 340, 341, 342, 343, 344, 345, 346, 347, 28, 348, 349, 350, 351, 352, 353, 173, 174, 175, 176] (by decide +kernel) (by decide +kernel)
set_option maxRecDepth 20000 in
theorem gt_L_keeps_12 : GoodIn wsL_law wsL_keeps_r12 := goodIn_r _ [184, 185, 186, 187, 354, 355, 356, 357, 358, 359, 360, 361, 362, 363, 364, 365, 108, 109, 110, 111, 164, 165, 166, 167] (by decide +kernel) (by decide +kernel)
set_option maxHeartbeats 4000000 in
set_option maxRecDepth 100000 in
theorem gt_L_keeps_0 : GoodIn wsL_law [.code yL_keeps cL_keeps 5 (some .boolean)] := List.forall_mem_cons.mpr ⟨⟨List.mem_of_getElem? (i := 285) rfl, Or.inl rfl⟩, fun _ h => absurd h List.not_mem_nil⟩
set_option maxRecDepth 20000 in
theorem ggL_law_L_keeps : GoodIn wsL_law wsL_keeps := goodIn_ca (goodIn_ca (goodIn_ca (goodIn_app (a := [.code yL_keeps cL_keeps 5 (some .boolean)]) gt_L_keeps_0 (goodIn_app (goodIn_app (goodIn_app (goodIn_app (goodIn_app (goodIn_app (goodIn_app (goodIn_app gt_L_keeps_1 (goodIn_app gt_L_keeps_2 (goodIn_app gt_L_keeps_3 (goodIn_app gt_L_keeps_4 (goodIn_app gt_L_keeps_5 (goodIn_app gt_L_keeps_6 (goodIn_app gt_L_keeps_7 (goodIn_app gt_L_keeps_8 (goodIn_app gt_L_keeps_9 (goodIn_app gt_L_keeps_10 (goodIn_app gt_L_keeps_11 gt_L_keeps_12))))))))))) (goodIn_sub inlX6 (by decide +kernel))) (goodIn_sub inlX2 (by decide +kernel))) (goodIn_sub inlX3 (by decide +kernel))) (goodIn_sub inlX5 (by decide +kernel))) (goodIn_sub inlX1 (by decide +kernel))) (goodIn_sub inlX4 (by decide +kernel))) (goodIn_sub inlX0 (by decide +kernel)))) (goodIn_sub (fun _ h => List.mem_append_left _ (List.mem_append_left _ (List.mem_append_right _ h))) (by decide +kernel))) (goodIn_sub (fun _ h => List.mem_append_left _ (List.mem_append_right _ h)) (by decide +kernel))) (goodIn_sub (fun _ h => List.mem_append_right _ h) (by decide +kernel))
set_option maxRecDepth 20000 in
theorem gL_law_L_keeps : GoodIn wsL_law (va_wsS RL 143 yL_keeps wsL_keeps) := goodIn_app (goodIn_of _ (by decide +kernel)) ggL_law_L_keeps
