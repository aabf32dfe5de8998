set_option maxRecDepth 20000 in
theorem ggL_build_L_act_p1 : GoodIn wsL_build ([.code yL_act cL_act 16 (some .boolean)] : List Cond) := goodIn_sub (List.forall_mem_cons.mpr ⟨List.mem_of_getElem? (i := 24) rfl, (fun _ h => absurd h List.not_mem_nil)⟩) (by decide +kernel)
set_option maxRecDepth 20000 in
theorem ggL_build_L_act_p2 : GoodIn wsL_build wsL_act_r1 := goodIn_r _ [25, 26, 27, 28, 29, 9, 30, 31, 32, 33, 34, 35, 36, 37, 38, 39, 40, 41, 42, 19, 43, 44, 45, 46] (by decide +kernel) (by decide +kernel)
set_option maxRecDepth 20000 in
theorem ggL_build_L_act_p3 : GoodIn wsL_build wsL_act_r2 := goodIn_r _ [3, 47, 11, 48, 49, 50, 51, 52, 53, 54, 55, 56, 57, 58, 59, 60, 61, 62, 63, 64, 65, 66, 67, 68] (by decide +kernel) (by decide +kernel)
set_option maxRecDepth 20000 in
theorem ggL_build_L_act_p4 : GoodIn wsL_build wsL_act_r3 := goodIn_r _ [69, 70, 71, 72, 73, 74, 75, 76, 77, 78, 79, 80, 81, 82, 83, 84, 85, 86, 87, 88, 89, 90, 91, 92] (by decide +kernel) (by decide +kernel)
set_option maxRecDepth 20000 in
theorem ggL_build_L_act_p5 : GoodIn wsL_build wsL_act_r4 := goodIn_r _ [93, 94, 95, 96, 97, 98, 99, 100, 101, 102, 103, 104, 105, 106, 107, 108, 109, 110, 111, 112, 113, 114, 115, 116] (by decide +kernel) (by decide +kernel)
set_option maxRecDepth 20000 in
theorem ggL_build_L_act_p6 : GoodIn wsL_build wsL_act_r5 := goodIn_r _ [117, 118, 119, 120, 121, 122, 123, 124, 125, 126, 127, 128, 129, 130, 131, 132, 133, 134, 135, 136, 137, 138, 139, 140] (by decide +kernel) (by decide +kernel)
set_option maxRecDepth 20000 in
theorem ggL_build_L_act_p7 : GoodIn wsL_build wsL_act_r6 := goodIn_r _ [141, 142, 10, 143, 144, 145, 146, 147, 14, 148, 16, 149, 150, 151, 152, 153, 154, 155, 156, 157, 158, 159, 12, 160] (by decide +kernel) (by decide +kernel)
set_option maxRecDepth 20000 in
theorem ggL_build_L_act_p8 : GoodIn wsL_build wsL_act_r7 := goodIn_r _ [161, 162, 163, 164, 165, 166, 167, 168, 169, 170, 171, 172, 173, 174, 175, 176, 177, 178, 179, 180, 181, 182, 183, 184] (by decide +kernel) (by decide +kernel)
set_option maxRecDepth 20000 in
theorem ggL_build_L_act_p9 : GoodIn wsL_build wsL_act_r8 := goodIn_r _ [185, 186, 187, 188, 189, 190, 191, 192, 193, 194, 195, 196, 197, 198, 199, 200, 201, 202, 203, 204, 205, 206, 207, 208] (by decide +kernel) (by decide +kernel)
set_option maxRecDepth 20000 in
theorem ggL_build_L_act_p10 : GoodIn wsL_build wsL_act_r9 := goodIn_r _ [209, 210, 211, 212, 213, 214, 215, 216, 217, 218, 219, 220, 221, 222, 223, 224, 225, 226, 227, 228, 229, 230, 231] (by decide +kernel) (by decide +kernel)
set_option maxRecDepth 20000 in
theorem ggL_build_L_act_p11 : GoodIn wsL_build wsX60 := goodIn_r _ [319, 320, 321, 322, 323, 324, 325, 326] (by decide +kernel) (by decide +kernel)
set_option maxRecDepth 20000 in
theorem ggL_build_L_act_p12 : GoodIn wsL_build wsX70 := goodIn_r _ [327, 328, 329, 330, 331] (by decide +kernel) (by decide +kernel)
set_option maxRecDepth 20000 in
theorem ggL_build_L_act_p13 : GoodIn wsL_build wsX50 := goodIn_r _ [332, 333, 334, 335] (by decide +kernel) (by decide +kernel)
set_option maxRecDepth 20000 in
theorem ggL_build_L_act_p14 : GoodIn wsL_build wsX20 := goodIn_r _ [336, 337, 338, 339, 340] (by decide +kernel) (by decide +kernel)
set_option maxRecDepth 20000 in
theorem ggL_build_L_act_p15 : GoodIn wsL_build wsX00 := goodIn_r _ [341, 342, 343, 344, 345] (by decide +kernel) (by decide +kernel)
set_option maxRecDepth 20000 in
theorem ggL_build_L_act_p16 : GoodIn wsL_build wsX10 := goodIn_r _ [346, 347, 348, 349, 350] (by decide +kernel) (by decide +kernel)
set_option maxRecDepth 20000 in
theorem ggL_build_L_act_p17 : GoodIn wsL_build wsX30 := goodIn_r _ [351, 352, 353] (by decide +kernel) (by decide +kernel)
set_option maxRecDepth 20000 in
theorem ggL_build_L_act_p18 : GoodIn wsL_build wsX40 := goodIn_r _ [354, 355, 356, 357, 358, 359, 360] (by decide +kernel) (by decide +kernel)
set_option maxRecDepth 20000 in
theorem ggL_build_L_act : GoodIn wsL_build wsL_act := goodIn_ca (goodIn_ca (goodIn_ca (goodIn_app ggL_build_L_act_p1 (goodIn_app (goodIn_app (goodIn_app (goodIn_app (goodIn_app (goodIn_app (goodIn_app (goodIn_app (goodIn_app ggL_build_L_act_p2 (goodIn_app ggL_build_L_act_p3 (goodIn_app ggL_build_L_act_p4 (goodIn_app ggL_build_L_act_p5 (goodIn_app ggL_build_L_act_p6 (goodIn_app ggL_build_L_act_p7 (goodIn_app ggL_build_L_act_p8 (goodIn_app ggL_build_L_act_p9 ggL_build_L_act_p10)))))))) ggL_build_L_act_p11) ggL_build_L_act_p12) ggL_build_L_act_p13) ggL_build_L_act_p14) ggL_build_L_act_p15) ggL_build_L_act_p16) ggL_build_L_act_p17) ggL_build_L_act_p18)) (goodIn_sub (fun _ h => List.mem_cons_of_mem _ (List.mem_append_left _ (List.mem_append_left _ (List.mem_append_right _ h)))) (by decide +kernel))) (goodIn_sub (fun _ h => List.mem_cons_of_mem _ (List.mem_append_left _ (List.mem_append_right _ h))) (by decide +kernel))) (goodIn_sub (fun _ h => List.mem_cons_of_mem _ (List.mem_append_right _ h)) (by decide +kernel))
set_option maxRecDepth 20000 in
theorem gL_build_L_act : GoodIn wsL_build (va_wsS RL 115 yL_act wsL_act) := goodIn_app (goodIn_of _ (by decide +kernel)) ggL_build_L_act
set_option maxRecDepth 20000 in
theorem ggL_build_X5_pass_p1 : GoodIn wsL_build ([.code yX5_pass cX5_pass 3 (some .int)] : List Cond) := goodIn_r _ [235] (by decide +kernel) (by decide +kernel)
set_option maxRecDepth 20000 in
theorem ggL_build_X5_pass_p2 : GoodIn wsL_build wsX5_pass_r1 := goodIn_r _ [53, 54, 57, 123, 236, 60, 61, 51, 62, 237, 238, 239, 185, 240, 241, 242, 243, 244, 245, 246, 247, 188, 248, 249] (by decide +kernel) (by decide +kernel)
set_option maxRecDepth 20000 in
theorem ggL_build_X5_pass_p3 : GoodIn wsL_build wsX5_pass_r2 := goodIn_r _ [250, 251, 252, 253, 254, 255, 256, 257, 258, 116, 117, 66, 118, 68, 259, 260, 261, 81, 262, 263, 264, 265, 266, 267] (by decide +kernel) (by decide +kernel)
set_option maxRecDepth 20000 in
theorem ggL_build_X5_pass_p4 : GoodIn wsL_build wsX5_pass_r3 := goodIn_r _ [69, 268, 269, 270, 271, 272, 84, 273, 35, 36, 37, 274, 275, 276, 277, 278, 279, 280, 281, 282, 283, 284, 285, 286] (by decide +kernel) (by decide +kernel)
set_option maxRecDepth 20000 in
theorem ggL_build_X5_pass_p5 : GoodIn wsL_build wsX5_pass_r4 := goodIn_r _ [287, 288, 289, 290, 130, 291, 132, 292, 203, 202, 204, 197, 181, 293, 294, 295, 296, 83, 85, 297, 298, 299, 300, 301] (by decide +kernel) (by decide +kernel)
set_option maxRecDepth 20000 in
theorem ggL_build_X5_pass_p6 : GoodIn wsL_build wsX5_pass_r5 := goodIn_r _ [302, 303, 183, 184, 186, 187, 189, 190, 191, 192, 304, 305, 306, 307] (by decide +kernel) (by decide +kernel)
set_option maxRecDepth 20000 in
theorem ggL_build_X5_pass_p7 : GoodIn wsL_build wsX50 := goodIn_r _ [332, 333, 334, 335] (by decide +kernel) (by decide +kernel)
set_option maxRecDepth 20000 in
theorem ggL_build_X5_pass_p8 : GoodIn wsL_build wsX20 := goodIn_r _ [336, 337, 338, 339, 340] (by decide +kernel) (by decide +kernel)
set_option maxRecDepth 20000 in
theorem ggL_build_X5_pass_p9 : GoodIn wsL_build wsX40 := goodIn_r _ [354, 355, 356, 357, 358, 359, 360] (by decide +kernel) (by decide +kernel)
set_option maxRecDepth 20000 in
theorem ggL_build_X5_pass_p10 : GoodIn wsL_build wsX10 := goodIn_r _ [346, 347, 348, 349, 350] (by decide +kernel) (by decide +kernel)
set_option maxRecDepth 20000 in
theorem ggL_build_X5_pass_p11 : GoodIn wsL_build wsX00 := goodIn_r _ [341, 342, 343, 344, 345] (by decide +kernel) (by decide +kernel)
set_option maxRecDepth 20000 in
theorem ggL_build_X5_pass : GoodIn wsL_build wsX5_pass := goodIn_ca (goodIn_app ggL_build_X5_pass_p1 (goodIn_app (goodIn_app (goodIn_app (goodIn_app (goodIn_app (goodIn_app ggL_build_X5_pass_p2 (goodIn_app ggL_build_X5_pass_p3 (goodIn_app ggL_build_X5_pass_p4 (goodIn_app ggL_build_X5_pass_p5 ggL_build_X5_pass_p6)))) ggL_build_X5_pass_p7) ggL_build_X5_pass_p8) ggL_build_X5_pass_p9) ggL_build_X5_pass_p10) ggL_build_X5_pass_p11)) (goodIn_sub (fun _ h => List.mem_cons_of_mem _ (List.mem_append_left _ (List.mem_append_left _ (List.mem_append_right _ h)))) (by decide +kernel))
