set_option maxRecDepth 20000 in
theorem gt_L_back_1 : GoodIn wsL_law wsL_back_r1 := goodIn_r _ [77, 78, 79, 80, 81, 82, 83, 84, 85, 86, 87, 88, 89, 90, 91, 92, 93, 2, 94, 95, 96, 97, 98, 99] (by decide +kernel) (by decide +kernel)
set_option maxRecDepth 20000 in
theorem gt_L_back_2 : GoodIn wsL_law wsL_back_r2 := goodIn_r _ [16, 100, 101, 102, 103, 104, 105, 106, 107, 108, 109, 110, 111, 112, 113, 114, 115, 116, 117, 118, 119, 120, 121, 122] (by decide +kernel) (by decide +kernel)
set_option maxRecDepth 20000 in
theorem gt_L_back_3 : GoodIn wsL_law wsL_back_r3 := goodIn_r _ [123, 124, 125, 126, 127, 128, 129, 130, 131, 132, 133, 134, 135, 20, 136, 137, 138, 139, 140, 141, 142, 143, 144, 145] (by decide +kernel) (by decide +kernel)
set_option maxRecDepth 20000 in
theorem gt_L_back_4 : GoodIn wsL_law wsL_back_r4 := goodIn_r _ [146, 147, 148, 19, 149, 150, 151, 152, 153, 154, 155, 156, 157, 158, 159, 160, 161, 162, 163, 164, 165, 166, 167, 28] (by decide +kernel) (by decide +kernel)
set_option maxRecDepth 20000 in
theorem gt_L_back_5 : GoodIn wsL_law wsL_back_r5 := goodIn_r _ [168, 169, 170, 15, 171, 172, 173, 174, 175, 176, 50, 51, 177, 178, 179, 180, 181, 182, 183, 184, 185, 186, 49, 187] (by decide +kernel) (by decide +kernel)
set_option maxRecDepth 20000 in
theorem gt_L_back_6 : GoodIn wsL_law wsL_back_r6 := goodIn_r _ [188, 189, 190, 191, 192, 193, 194, 195, 196, 197, 198, 199, 200, 201, 202, 203, 204, 52, 205, 206, 207, 208, 209, 210] (by decide +kernel) (by decide +kernel)
set_option maxRecDepth 20000 in
theorem gt_L_back_7 : GoodIn wsL_law wsL_back_r7 := goodIn_r _ [211, 212, 213, 214, 215, 216, 217, 218, 219, 220, 221, 222, 223, 224, 225, 226, 227, 228, 229, 230, 231, 232, 233, 234] (by decide +kernel) (by decide +kernel)
set_option maxRecDepth 20000 in
theorem gt_L_back_8 : GoodIn wsL_law wsL_back_r8 := goodIn_r _ [235, 236, 237, 238, 239, 240, 241, 242, 243, 244, 245, 246, 247, 248, 249, 250, 251, 252, 253, 254, 255, 256, 257, 258] (by decide +kernel) (by decide +kernel)
set_option maxRecDepth 20000 in
theorem gt_L_back_9 : GoodIn wsL_law wsL_back_r9 := goodIn_r _ [259, 260, 261, 262, 263, 264, 265, 266, 267, 268, 269, 270, 271, 272, 273, 274, 275, 276, 277, 278, 279, 280, 281, 282] (by decide +kernel) (by decide +kernel)
set_option maxRecDepth 20000 in
theorem gt_L_back_10 : GoodIn wsL_law wsL_back_r10 := goodIn_r _ [291, 292, 293, 294, 295, 296, 297, 298, 299, 300, 301, 302, 12, 303, 304, 305, 306, 307, 308, 309, 310, 311, 312, 313] (by decide +kernel) (by decide +kernel)
set_option maxRecDepth 20000 in
theorem gt_L_back_11 : GoodIn wsL_law wsL_back_r11 := goodIn_r _ [314, 315, 316, 317, 318, 60, 61, 62, 319, 320, 321, 322, 323, 324, 325, 326, 24, 327, 328, 329, 330, 331, 332, 333] (by decide +kernel) (by decide +kernel)
set_option maxRecDepth 20000 in
theorem gt_L_back_12 : GoodIn wsL_law wsL_back_r12 := goodIn_r _ [334, 23, 335, 66, 67, 68, 336, 337, 338, 339, 340, 341, 342, 343, 344, 345, 346, 347, 348, 349, 350, 351, 352, 353] (by decide +kernel) (by decide +kernel)
set_option maxRecDepth 20000 in
theorem gt_L_back_13 : GoodIn wsL_law wsL_back_r13 := goodIn_r _ [354, 355, 356, 357, 358, 359, 360, 361, 362, 363, 364, 365] (by decide +kernel) (by decide +kernel)
set_option maxHeartbeats 4000000 in
set_option maxRecDepth 100000 in
theorem gt_L_back_0 : GoodIn wsL_law [.code yL_back cL_back 10 (some .boolean)] := List.forall_mem_cons.mpr ⟨⟨List.mem_of_getElem? (i := 403) rfl, Or.inl rfl⟩, fun _ h => absurd h List.not_mem_nil⟩
set_option maxRecDepth 20000 in
theorem ggL_law_L_back : GoodIn wsL_law wsL_back := goodIn_ca (goodIn_ca (goodIn_ca (goodIn_app (a := [.code yL_back cL_back 10 (some .boolean)]) gt_L_back_0 (goodIn_app (goodIn_app (goodIn_app (goodIn_app (goodIn_app (goodIn_app (goodIn_app (goodIn_app gt_L_back_1 (goodIn_app gt_L_back_2 (goodIn_app gt_L_back_3 (goodIn_app gt_L_back_4 (goodIn_app gt_L_back_5 (goodIn_app gt_L_back_6 (goodIn_app gt_L_back_7 (goodIn_app gt_L_back_8 (goodIn_app gt_L_back_9 (goodIn_app gt_L_back_10 (goodIn_app gt_L_back_11 (goodIn_app gt_L_back_12 gt_L_back_13)))))))))))) (goodIn_sub inlX6 (by decide +kernel))) (goodIn_sub inlX2 (by decide +kernel))) (goodIn_sub inlX1 (by decide +kernel))) (goodIn_sub inlX3 (by decide +kernel))) (goodIn_sub inlX0 (by decide +kernel))) (goodIn_sub inlX5 (by decide +kernel))) (goodIn_sub inlX4 (by decide +kernel)))) (goodIn_sub (fun _ h => List.mem_append_left _ (List.mem_append_left _ (List.mem_append_right _ h))) (by decide +kernel))) (goodIn_sub (fun _ h => List.mem_append_left _ (List.mem_append_right _ h)) (by decide +kernel))) (goodIn_sub (fun _ h => List.mem_append_right _ h) (by decide +kernel))
set_option maxRecDepth 20000 in
theorem gL_law_L_back : GoodIn wsL_law (va_wsS RL 158 yL_back wsL_back) := goodIn_app (goodIn_of _ (by decide +kernel)) ggL_law_L_back
