set_option maxRecDepth 20000 in
theorem gt_L_told_1 : GoodIn wsL_law wsL_told_r1 := goodIn_r _ [77, 78, 79, 80, 81, 82, 83, 84, 85, 86, 87, 88, 89, 90, 91, 92, 93, 2, 94, 95, 96, 97, 98, 99] (by decide +kernel) (by decide +kernel)
set_option maxRecDepth 20000 in
theorem gt_L_told_2 : GoodIn wsL_law wsL_told_r2 := goodIn_r _ [16, 100, 101, 102, 103, 104, 105, 106, 107, 108, 109, 110, 111, 112, 113, 114, 115, 116, 117, 118, 119, 120, 121, 122] (by decide +kernel) (by decide +kernel)
set_option maxRecDepth 20000 in
theorem gt_L_told_3 : GoodIn wsL_law wsL_told_r3 := goodIn_r _ [123, 124, 125, 126, 127, 128, 129, 130, 131, 132, 133, 134, 135, 20, 136, 137, 138, 139, 140, 141, 142, 143, 144, 145] (by decide +kernel) (by decide +kernel)
set_option maxRecDepth 20000 in
theorem gt_L_told_4 : GoodIn wsL_law wsL_told_r4 := goodIn_r _ [146, 147, 148, 19, 149, 150, 151, 152, 153, 154, 155, 156, 157, 158, 159, 160, 161, 162, 163, 164, 165, 166, 167, 28] (by decide +kernel) (by decide +kernel)
set_option maxRecDepth 20000 in
theorem gt_L_told_5 : GoodIn wsL_law wsL_told_r5 := goodIn_r _ [168, 169, 170, 15, 171, 172, 173, 174, 175, 176, 50, 51, 177, 178, 179, 180, 181, 182, 183, 184, 185, 186, 49, 187] (by decide +kernel) (by decide +kernel)
set_option maxRecDepth 20000 in
theorem gt_L_told_6 : GoodIn wsL_law wsL_told_r6 := goodIn_r _ [188, 189, 190, 191, 192, 193, 194, 195, 196, 197, 198, 199, 200, 201, 202, 203, 204, 52, 205, 206, 207, 208, 209, 210] (by decide +kernel) (by decide +kernel)
set_option maxRecDepth 20000 in
theorem gt_L_told_7 : GoodIn wsL_law wsL_told_r7 := goodIn_r _ [211, 212, 213, 214, 215, 216, 217, 218, 219, 220, 221, 222, 223, 224, 225, 226, 227, 228, 229, 230, 231, 232, 233, 234] (by decide +kernel) (by decide +kernel)
set_option maxRecDepth 20000 in
theorem gt_L_told_8 : GoodIn wsL_law wsL_told_r8 := goodIn_r _ [235, 236, 237, 238, 239, 240, 241, 242, 243, 244, 245, 246, 247, 248, 249, 250, 251, 252, 253, 254, 255, 256, 257, 258] (by decide +kernel) (by decide +kernel)
set_option maxRecDepth 20000 in
theorem gt_L_told_9 : GoodIn wsL_law wsL_told_r9 := goodIn_r _ [259, 260, 261, 262, 263, 264, 265, 266, 267, 268, 269, 270, 271, 272, 273, 274, 275, 276, 277, 278, 279, 280, 281, 282] (by decide +kernel) (by decide +kernel)
set_option maxRecDepth 20000 in
theorem gt_L_told_10 : GoodIn wsL_law wsL_told_r10 := goodIn_r _ [392, 393, 394, 291, 292, 293, 294, 295, 296, 297, 298, 299, 300, 301, 302, 12, 303, 304, 305, 306, 307, 308, 309, 310] (by decide +kernel) (by decide +kernel)
set_option maxRecDepth 20000 in
theorem gt_L_told_11 : GoodIn wsL_law wsL_told_r11 := goodIn_r _ [311, 312, 313, 314, 315, 316, 317, 318, 60, 61, 62, 319, 320, 321, 322, 323, 324, 325, 326, 24, 327, 328, 329, 330] (by decide +kernel) (by decide +kernel)
set_option maxRecDepth 20000 in
theorem gt_L_told_12 : GoodIn wsL_law wsL_told_r12 := goodIn_r _ [331, 332, 333, 334, 23, 335, 66, 67, 68, 336, 337, 338, 339, 340, 341, 342, 343, 344, 345, 346, 347, 348, 349, 350] (by decide +kernel) (by decide +kernel)
set_option maxRecDepth 20000 in
theorem gt_L_told_13 : GoodIn wsL_law wsL_told_r13 := goodIn_r _ [351, 352, 353, 354, 355, 356, 357, 358, 359, 360, 361, 362, 363, 364, 365, 366, 367, 368, 369, 370, 371, 372, 373, 374] (by decide +kernel) (by decide +kernel)
set_option maxRecDepth 20000 in
theorem gt_L_told_14 : GoodIn wsL_law wsL_told_r14 := goodIn_r _ [375, 376, 377, 378, 379, 380, 381, 382, 383, 384, 385, 386, 387] (by decide +kernel) (by decide +kernel)
set_option maxHeartbeats 4000000 in
set_option maxRecDepth 100000 in
theorem gt_L_told_0 : GoodIn wsL_law [.code yL_told cL_told 14 (some .boolean)] := List.forall_mem_cons.mpr ⟨⟨List.mem_of_getElem? (i := 397) rfl, Or.inl rfl⟩, fun _ h => absurd h List.not_mem_nil⟩
set_option maxRecDepth 20000 in
theorem ggL_law_L_told : GoodIn wsL_law wsL_told := goodIn_ca (goodIn_ca (goodIn_ca (goodIn_app (a := [.code yL_told cL_told 14 (some .boolean)]) gt_L_told_0 (goodIn_app (goodIn_app (goodIn_app (goodIn_app (goodIn_app (goodIn_app (goodIn_app (goodIn_app gt_L_told_1 (goodIn_app gt_L_told_2 (goodIn_app gt_L_told_3 (goodIn_app gt_L_told_4 (goodIn_app gt_L_told_5 (goodIn_app gt_L_told_6 (goodIn_app gt_L_told_7 (goodIn_app gt_L_told_8 (goodIn_app gt_L_told_9 (goodIn_app gt_L_told_10 (goodIn_app gt_L_told_11 (goodIn_app gt_L_told_12 (goodIn_app gt_L_told_13 gt_L_told_14))))))))))))) (goodIn_sub inlX6 (by decide +kernel))) (goodIn_sub inlX2 (by decide +kernel))) (goodIn_sub inlX1 (by decide +kernel))) (goodIn_sub inlX3 (by decide +kernel))) (goodIn_sub inlX0 (by decide +kernel))) (goodIn_sub inlX5 (by decide +kernel))) (goodIn_sub inlX4 (by decide +kernel)))) (goodIn_sub (fun _ h => List.mem_append_left _ (List.mem_append_left _ (List.mem_append_right _ h))) (by decide +kernel))) (goodIn_sub (fun _ h => List.mem_append_left _ (List.mem_append_right _ h)) (by decide +kernel))) (goodIn_sub (fun _ h => List.mem_append_right _ h) (by decide +kernel))
set_option maxRecDepth 20000 in
theorem gL_law_L_told : GoodIn wsL_law (va_wsS RL 151 yL_told wsL_told) := goodIn_app (goodIn_of _ (by decide +kernel)) ggL_law_L_told
