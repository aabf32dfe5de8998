set_option maxRecDepth 20000 in
theorem ggL_law_L_build_p1 : GoodIn wsL_law ([.code yL_build cL_build 4 (some (.object "GritWheelsLaw$Sim"))] : List Cond) := goodIn_sub (List.forall_mem_cons.mpr ⟨List.mem_of_getElem? (i := 84) rfl, (fun _ h => absurd h List.not_mem_nil)⟩) (by decide +kernel)
set_option maxRecDepth 20000 in
theorem ggL_law_L_build_p2 : GoodIn wsL_law wsL_build_r1 := goodIn_sub (List.forall_mem_cons.mpr ⟨List.mem_of_getElem? (i := 85) rfl, (List.forall_mem_cons.mpr ⟨List.mem_of_getElem? (i := 86) rfl, (List.forall_mem_cons.mpr ⟨List.mem_of_getElem? (i := 87) rfl, (List.forall_mem_cons.mpr ⟨List.mem_of_getElem? (i := 88) rfl, (List.forall_mem_cons.mpr ⟨List.mem_of_getElem? (i := 89) rfl, (List.forall_mem_cons.mpr ⟨List.mem_of_getElem? (i := 90) rfl, (List.forall_mem_cons.mpr ⟨List.mem_of_getElem? (i := 16) rfl, (List.forall_mem_cons.mpr ⟨List.mem_of_getElem? (i := 17) rfl, (List.forall_mem_cons.mpr ⟨List.mem_of_getElem? (i := 4) rfl, (List.forall_mem_cons.mpr ⟨List.mem_of_getElem? (i := 91) rfl, (List.forall_mem_cons.mpr ⟨List.mem_of_getElem? (i := 92) rfl, (List.forall_mem_cons.mpr ⟨List.mem_of_getElem? (i := 93) rfl, (List.forall_mem_cons.mpr ⟨List.mem_of_getElem? (i := 94) rfl, (List.forall_mem_cons.mpr ⟨List.mem_of_getElem? (i := 95) rfl, (List.forall_mem_cons.mpr ⟨List.mem_of_getElem? (i := 96) rfl, (List.forall_mem_cons.mpr ⟨List.mem_of_getElem? (i := 97) rfl, (List.forall_mem_cons.mpr ⟨List.mem_of_getElem? (i := 98) rfl, (List.forall_mem_cons.mpr ⟨List.mem_of_getElem? (i := 99) rfl, (List.forall_mem_cons.mpr ⟨List.mem_of_getElem? (i := 83) rfl, (List.forall_mem_cons.mpr ⟨List.mem_of_getElem? (i := 100) rfl, (List.forall_mem_cons.mpr ⟨List.mem_of_getElem? (i := 101) rfl, (List.forall_mem_cons.mpr ⟨List.mem_of_getElem? (i := 102) rfl, (List.forall_mem_cons.mpr ⟨List.mem_of_getElem? (i := 103) rfl, (List.forall_mem_cons.mpr ⟨List.mem_of_getElem? (i := 104) rfl, (fun _ h => absurd h List.not_mem_nil)⟩)⟩)⟩)⟩)⟩)⟩)⟩)⟩)⟩)⟩)⟩)⟩)⟩)⟩)⟩)⟩)⟩)⟩)⟩)⟩)⟩)⟩)⟩)⟩) (by decide +kernel)
set_option maxRecDepth 20000 in
theorem ggL_law_L_build_p3 : GoodIn wsL_law wsL_build_r2 := goodIn_r _ [5, 6, 7, 105, 106, 107, 108, 109, 110, 111, 112, 10, 113, 114, 115, 116, 117, 118, 119, 120, 121, 122, 123, 124] (by decide +kernel) (by decide +kernel)
set_option maxRecDepth 20000 in
theorem ggL_law_L_build_p4 : GoodIn wsL_law wsL_build_r3 := goodIn_r _ [125, 126, 2, 127, 128, 129, 130, 131, 21, 132, 133, 134, 135, 136, 137, 138, 139, 34, 140, 141, 52, 53, 54, 142] (by decide +kernel) (by decide +kernel)
set_option maxRecDepth 20000 in
theorem ggL_law_L_build_p5 : GoodIn wsL_law wsL_build_r4 := goodIn_r _ [143, 144, 145, 146, 147, 148, 149, 150, 38, 151, 152, 60, 61, 153, 154, 155, 156, 26, 157, 158, 159, 160, 25, 161] (by decide +kernel) (by decide +kernel)
set_option maxRecDepth 20000 in
theorem ggL_law_L_build_p6 : GoodIn wsL_law wsL_build_r5 := goodIn_r _ [162, 79, 163, 164, 165, 166, 167, 168, 169, 170, 171, 172, 173, 174, 175, 176, 177, 178, 179, 180, 181, 182, 183, 184] (by decide +kernel) (by decide +kernel)
set_option maxRecDepth 20000 in
theorem ggL_law_L_build_p7 : GoodIn wsL_law wsL_build_r6 := goodIn_r _ [185, 186, 187, 188, 189, 190, 191, 192, 193, 42, 194, 195, 196, 197, 198, 199, 200, 201, 202, 203, 204, 205, 206, 207] (by decide +kernel) (by decide +kernel)
set_option maxRecDepth 20000 in
theorem ggL_law_L_build_p8 : GoodIn wsL_law wsL_build_r7 := goodIn_r _ [208, 209, 210, 211, 212, 213, 214, 215, 216, 217, 218, 219, 220, 221, 222, 223, 224, 225, 226, 227, 228, 229, 230, 231] (by decide +kernel) (by decide +kernel)
set_option maxRecDepth 20000 in
theorem ggL_law_L_build_p9 : GoodIn wsL_law wsL_build_r8 := goodIn_r _ [232, 233, 234, 235, 236, 237, 238, 80, 239, 240, 241, 242, 74, 243, 244, 245, 20, 246, 31, 247, 248, 249, 250, 251] (by decide +kernel) (by decide +kernel)
set_option maxRecDepth 20000 in
theorem ggL_law_L_build_p10 : GoodIn wsL_law wsL_build_r9 := goodIn_r _ [252, 253, 254, 255, 73, 256, 257, 258, 259, 70, 69, 72, 260, 261, 262, 263, 264, 265, 266, 267, 268, 269, 270, 271] (by decide +kernel) (by decide +kernel)
set_option maxRecDepth 20000 in
theorem ggL_law_L_build_p11 : GoodIn wsL_law wsL_build_r10 := goodIn_r _ [272, 273, 274, 275, 276, 277, 278, 279, 280, 281, 282, 283, 284, 285, 286, 287, 288, 289, 290, 291, 292, 293, 294, 295] (by decide +kernel) (by decide +kernel)
set_option maxRecDepth 20000 in
theorem ggL_law_L_build_p12 : GoodIn wsL_law wsL_build_r11 := goodIn_r _ [296, 297, 298, 299, 39, 300, 43, 301, 302, 303, 304, 305, 35, 306, 307, 308, 309, 310, 311, 312, 313, 314, 62, 315] (by decide +kernel) (by decide +kernel)
set_option maxRecDepth 20000 in
theorem ggL_law_L_build_p13 : GoodIn wsL_law wsL_build_r12 := goodIn_r _ [316, 317, 318, 319, 320, 321, 322, 63, 323, 324, 325, 326, 327, 328, 329, 330, 331, 332, 333, 334, 335, 9, 11, 336] (by decide +kernel) (by decide +kernel)
set_option maxRecDepth 20000 in
theorem ggL_law_L_build_p14 : GoodIn wsL_law wsL_build_r13 := goodIn_sub (List.forall_mem_cons.mpr ⟨List.mem_of_getElem? (i := 337) rfl, (List.forall_mem_cons.mpr ⟨List.mem_of_getElem? (i := 338) rfl, (List.forall_mem_cons.mpr ⟨List.mem_of_getElem? (i := 339) rfl, (List.forall_mem_cons.mpr ⟨List.mem_of_getElem? (i := 68) rfl, (List.forall_mem_cons.mpr ⟨List.mem_of_getElem? (i := 340) rfl, (List.forall_mem_cons.mpr ⟨List.mem_of_getElem? (i := 341) rfl, (List.forall_mem_cons.mpr ⟨List.mem_of_getElem? (i := 342) rfl, (List.forall_mem_cons.mpr ⟨List.mem_of_getElem? (i := 343) rfl, (List.forall_mem_cons.mpr ⟨List.mem_of_getElem? (i := 344) rfl, (List.forall_mem_cons.mpr ⟨List.mem_of_getElem? (i := 345) rfl, (List.forall_mem_cons.mpr ⟨List.mem_of_getElem? (i := 346) rfl, (List.forall_mem_cons.mpr ⟨List.mem_of_getElem? (i := 347) rfl, (List.forall_mem_cons.mpr ⟨List.mem_of_getElem? (i := 348) rfl, (List.forall_mem_cons.mpr ⟨List.mem_of_getElem? (i := 349) rfl, (List.forall_mem_cons.mpr ⟨List.mem_of_getElem? (i := 350) rfl, (List.forall_mem_cons.mpr ⟨List.mem_of_getElem? (i := 351) rfl, (List.forall_mem_cons.mpr ⟨List.mem_of_getElem? (i := 352) rfl, (List.forall_mem_cons.mpr ⟨List.mem_of_getElem? (i := 353) rfl, (List.forall_mem_cons.mpr ⟨List.mem_of_getElem? (i := 354) rfl, (List.forall_mem_cons.mpr ⟨List.mem_of_getElem? (i := 355) rfl, (List.forall_mem_cons.mpr ⟨List.mem_of_getElem? (i := 356) rfl, (List.forall_mem_cons.mpr ⟨List.mem_of_getElem? (i := 357) rfl, (List.forall_mem_cons.mpr ⟨List.mem_of_getElem? (i := 358) rfl, (List.forall_mem_cons.mpr ⟨List.mem_of_getElem? (i := 359) rfl, (fun _ h => absurd h List.not_mem_nil)⟩)⟩)⟩)⟩)⟩)⟩)⟩)⟩)⟩)⟩)⟩)⟩)⟩)⟩)⟩)⟩)⟩)⟩)⟩)⟩)⟩)⟩)⟩)⟩) (by decide +kernel)
set_option maxRecDepth 20000 in
theorem ggL_law_L_build_p15 : GoodIn wsL_law wsL_build_r14 := goodIn_r _ [360, 361, 362, 363, 364, 365] (by decide +kernel) (by decide +kernel)
set_option maxRecDepth 20000 in
theorem ggL_law_L_build_p16 : GoodIn wsL_law wsX60 := goodIn_r _ [491, 492, 493, 494, 495, 496, 497, 498] (by decide +kernel) (by decide +kernel)
set_option maxRecDepth 20000 in
theorem ggL_law_L_build_p17 : GoodIn wsL_law wsX70 := goodIn_r _ [524, 525, 526, 527, 528] (by decide +kernel) (by decide +kernel)
set_option maxRecDepth 20000 in
theorem ggL_law_L_build_p18 : GoodIn wsL_law wsX50 := goodIn_r _ [487, 488, 489, 490] (by decide +kernel) (by decide +kernel)
set_option maxRecDepth 20000 in
theorem ggL_law_L_build_p19 : GoodIn wsL_law wsX20 := goodIn_r _ [499, 500, 501, 502, 503] (by decide +kernel) (by decide +kernel)
set_option maxRecDepth 20000 in
theorem ggL_law_L_build_p20 : GoodIn wsL_law wsX00 := goodIn_r _ [507, 508, 509, 510, 511] (by decide +kernel) (by decide +kernel)
set_option maxRecDepth 20000 in
theorem ggL_law_L_build_p21 : GoodIn wsL_law wsX10 := goodIn_r _ [512, 513, 514, 515, 516] (by decide +kernel) (by decide +kernel)
set_option maxRecDepth 20000 in
theorem ggL_law_L_build_p22 : GoodIn wsL_law wsX30 := goodIn_r _ [504, 505, 506] (by decide +kernel) (by decide +kernel)
set_option maxRecDepth 20000 in
theorem ggL_law_L_build_p23 : GoodIn wsL_law wsX40 := goodIn_r _ [517, 518, 519, 520, 521, 522, 523] (by decide +kernel) (by decide +kernel)
set_option maxRecDepth 20000 in
theorem ggL_law_L_build : GoodIn wsL_law wsL_build := goodIn_ca (goodIn_ca (goodIn_ca (goodIn_app ggL_law_L_build_p1 (goodIn_app (goodIn_app (goodIn_app (goodIn_app (goodIn_app (goodIn_app (goodIn_app (goodIn_app (goodIn_app ggL_law_L_build_p2 (goodIn_app ggL_law_L_build_p3 (goodIn_app ggL_law_L_build_p4 (goodIn_app ggL_law_L_build_p5 (goodIn_app ggL_law_L_build_p6 (goodIn_app ggL_law_L_build_p7 (goodIn_app ggL_law_L_build_p8 (goodIn_app ggL_law_L_build_p9 (goodIn_app ggL_law_L_build_p10 (goodIn_app ggL_law_L_build_p11 (goodIn_app ggL_law_L_build_p12 (goodIn_app ggL_law_L_build_p13 (goodIn_app ggL_law_L_build_p14 ggL_law_L_build_p15))))))))))))) ggL_law_L_build_p16) ggL_law_L_build_p17) ggL_law_L_build_p18) ggL_law_L_build_p19) ggL_law_L_build_p20) ggL_law_L_build_p21) ggL_law_L_build_p22) ggL_law_L_build_p23)) (goodIn_sub (fun _ h => List.mem_append_left _ (List.mem_append_left _ (List.mem_append_right _ h))) (by decide +kernel))) (goodIn_sub (fun _ h => List.mem_append_left _ (List.mem_append_right _ h)) (by decide +kernel))) (goodIn_sub (fun _ h => List.mem_append_right _ h) (by decide +kernel))
set_option maxRecDepth 20000 in
theorem gL_law_L_build : GoodIn wsL_law (va_wsS RL 125 yL_build wsL_build) := goodIn_app (goodIn_of _ (by decide +kernel)) ggL_law_L_build
set_option maxRecDepth 20000 in
theorem ggL_law_L_cell : GoodIn wsL_law wsL_cell := goodIn_r _ [100, 101] (by decide +kernel) (by decide +kernel)
set_option maxRecDepth 20000 in
theorem gL_law_L_cell : GoodIn wsL_law (va_wsS RL 111 yL_cell wsL_cell) := goodIn_app (goodIn_of _ (by decide +kernel)) ggL_law_L_cell
set_option maxRecDepth 20000 in
theorem ggL_law_X5_count : GoodIn wsL_law wsX5_count := goodIn_ca (goodIn_r _ [369, 167, 168, 134, 135, 2, 136, 370, 371, 372, 373, 230, 21, 374, 375, 376, 20, 377, 247, 43, 307, 39, 350, 244, 245, 246, 31, 248, 249, 250, 251, 346, 347, 348, 349, 378, 379, 380, 42, 381, 195, 73, 382, 383, 384, 38, 385, 152, 62, 487, 488, 489, 490, 499, 500, 501, 502, 503, 517, 518, 519, 520, 521, 522, 523, 512, 513, 514, 515, 516] (by decide +kernel) (by decide +kernel)) (goodIn_sub (fun _ h => List.mem_append_right _ h) (by decide +kernel))
set_option maxRecDepth 20000 in
theorem gL_law_X5_count : GoodIn wsL_law (wsV RL 128 RX5 yX5_count wsX5_count) := goodIn_app (goodIn_of _ (by decide +kernel)) ggL_law_X5_count
set_option maxRecDepth 20000 in
theorem ggL_law_X5_wheel : GoodIn wsL_law wsX5_wheel := goodIn_ca (goodIn_r _ [389, 167, 168, 21, 187, 191, 192, 193, 42, 194, 195, 134, 135, 2, 136, 390, 391, 392, 393, 68, 70, 73, 74, 282, 270, 271, 272, 256, 257, 258, 259, 69, 72, 487, 488, 489, 490, 499, 500, 501, 502, 503, 517, 518, 519, 520, 521, 522, 523] (by decide +kernel) (by decide +kernel)) (goodIn_sub (fun _ h => List.mem_append_right _ h) (by decide +kernel))
set_option maxRecDepth 20000 in
theorem gL_law_X5_wheel : GoodIn wsL_law (wsV RL 132 RX5 yX5_wheel wsX5_wheel) := goodIn_app (goodIn_of _ (by decide +kernel)) ggL_law_X5_wheel
set_option maxRecDepth 20000 in
theorem ggL_law_X5_bed : GoodIn wsL_law wsX5_bed := goodIn_ca (goodIn_r _ [397, 167, 168, 21, 132, 179, 180, 181, 34, 182, 141, 134, 135, 2, 136, 398, 399, 400, 20, 401, 35, 334, 333, 309, 39, 332, 43, 402, 403, 404, 38, 405, 152, 61, 406, 407, 408, 42, 409, 195, 68, 72, 487, 488, 489, 490, 499, 500, 501, 502, 503, 507, 508, 509, 510, 511, 512, 513, 514, 515, 516, 517, 518, 519, 520, 521, 522, 523] (by decide +kernel) (by decide +kernel)) (goodIn_sub (fun _ h => List.mem_append_right _ h) (by decide +kernel))
set_option maxRecDepth 20000 in
theorem gL_law_X5_bed : GoodIn wsL_law (wsV RL 135 RX5 yX5_bed wsX5_bed) := goodIn_app (goodIn_of _ (by decide +kernel)) ggL_law_X5_bed
set_option maxRecDepth 20000 in
theorem ggL_law_X5_quarrier : GoodIn wsL_law wsX5_quarrier := goodIn_ca (goodIn_r _ [413, 167, 168, 21, 146, 175, 176, 177, 38, 178, 152, 134, 135, 2, 136, 414, 415, 416, 20, 417, 39, 306, 305, 418, 308, 419, 420, 421, 422, 35, 310, 180, 181, 34, 182, 141, 315, 316, 317, 318, 52, 487, 488, 489, 490, 499, 500, 501, 502, 503, 512, 513, 514, 515, 516, 507, 508, 509, 510, 511] (by decide +kernel) (by decide +kernel)) (goodIn_sub (fun _ h => List.mem_append_right _ h) (by decide +kernel))
set_option maxRecDepth 20000 in
theorem gL_law_X5_quarrier : GoodIn wsL_law (wsV RL 137 RX5 yX5_quarrier wsX5_quarrier) := goodIn_app (goodIn_of _ (by decide +kernel)) ggL_law_X5_quarrier
set_option maxRecDepth 20000 in
theorem ggL_law_X5_raft : GoodIn wsL_law wsX5_raft := goodIn_ca (goodIn_r _ [426, 167, 168, 26, 231, 232, 233, 25, 234, 162, 134, 135, 2, 136, 427, 428, 429, 430, 277, 21, 187, 229, 273, 274, 275, 276, 278, 279, 280, 42, 281, 195, 74, 282, 270, 271, 272, 70, 239, 240, 241, 242, 235, 236, 237, 238, 80, 487, 488, 489, 490, 504, 505, 506, 499, 500, 501, 502, 503, 517, 518, 519, 520, 521, 522, 523] (by decide +kernel) (by decide +kernel)) (goodIn_sub (fun _ h => List.mem_append_right _ h) (by decide +kernel))
set_option maxRecDepth 20000 in
theorem gL_law_X5_raft : GoodIn wsL_law (wsV RL 140 RX5 yX5_raft wsX5_raft) := goodIn_app (goodIn_of _ (by decide +kernel)) ggL_law_X5_raft
set_option maxRecDepth 20000 in
theorem ggL_law_X5_foresee_p1 : GoodIn wsL_law ([.code yX5_foresee cX5_foresee 3 (some .int)] : List Cond) := goodIn_r _ [434] (by decide +kernel) (by decide +kernel)
set_option maxRecDepth 20000 in
theorem ggL_law_X5_foresee_p2 : GoodIn wsL_law wsX5_foresee_r1 := goodIn_r _ [128, 129, 167, 168, 22, 21, 134, 135, 2, 136, 435, 436, 437, 20, 438, 247, 31, 35, 39, 43, 439, 440, 441, 34] (by decide +kernel) (by decide +kernel)
set_option maxRecDepth 20000 in
theorem ggL_law_X5_foresee_p3 : GoodIn wsL_law wsX5_foresee_r2 := goodIn_r _ [442, 141, 52, 53, 54, 55, 443, 444, 445, 38, 446, 152, 60, 61, 62, 63, 447, 448, 449, 42, 450, 195, 68, 69] (by decide +kernel) (by decide +kernel)
set_option maxRecDepth 20000 in
theorem ggL_law_X5_foresee_p4 : GoodIn wsL_law wsX5_foresee_r3 := goodIn_r _ [70, 72, 73, 74, 292, 293, 294, 295, 296, 297, 298, 299, 300, 301, 302, 303, 304, 305, 306, 307, 308, 309, 310, 180] (by decide +kernel) (by decide +kernel)
set_option maxRecDepth 20000 in
theorem ggL_law_X5_foresee_p5 : GoodIn wsL_law wsX5_foresee_r4 := goodIn_r _ [181, 182, 311, 312, 313, 314, 315, 316, 317, 318, 319, 320, 321, 322, 323, 112, 10, 113, 324, 325, 326, 327, 328, 329] (by decide +kernel) (by decide +kernel)
set_option maxRecDepth 20000 in
theorem ggL_law_X5_foresee_p6 : GoodIn wsL_law wsX5_foresee_r5 := goodIn_r _ [330, 331, 332, 333, 334, 335, 9, 11, 336, 337, 338, 339, 340, 341, 342, 343, 344, 345, 346, 347, 348, 349, 350, 244] (by decide +kernel) (by decide +kernel)
set_option maxRecDepth 20000 in
theorem ggL_law_X5_foresee_p7 : GoodIn wsL_law wsX5_foresee_r6 := goodIn_r _ [245, 246, 248, 249, 250, 251, 351, 352, 353, 354, 374, 375, 376, 377, 378, 379, 380, 381, 382, 383, 384, 385] (by decide +kernel) (by decide +kernel)
set_option maxRecDepth 20000 in
theorem ggL_law_X5_foresee_p8 : GoodIn wsL_law wsX50 := goodIn_r _ [487, 488, 489, 490] (by decide +kernel) (by decide +kernel)
set_option maxRecDepth 20000 in
theorem ggL_law_X5_foresee_p9 : GoodIn wsL_law wsX20 := goodIn_r _ [499, 500, 501, 502, 503] (by decide +kernel) (by decide +kernel)
set_option maxRecDepth 20000 in
theorem ggL_law_X5_foresee_p10 : GoodIn wsL_law wsX00 := goodIn_r _ [507, 508, 509, 510, 511] (by decide +kernel) (by decide +kernel)
set_option maxRecDepth 20000 in
theorem ggL_law_X5_foresee_p11 : GoodIn wsL_law wsX10 := goodIn_r _ [512, 513, 514, 515, 516] (by decide +kernel) (by decide +kernel)
set_option maxRecDepth 20000 in
theorem ggL_law_X5_foresee_p12 : GoodIn wsL_law wsX40 := goodIn_r _ [517, 518, 519, 520, 521, 522, 523] (by decide +kernel) (by decide +kernel)
set_option maxRecDepth 20000 in
theorem ggL_law_X5_foresee : GoodIn wsL_law wsX5_foresee := goodIn_ca (goodIn_ca (goodIn_app ggL_law_X5_foresee_p1 (goodIn_app (goodIn_app (goodIn_app (goodIn_app (goodIn_app (goodIn_app ggL_law_X5_foresee_p2 (goodIn_app ggL_law_X5_foresee_p3 (goodIn_app ggL_law_X5_foresee_p4 (goodIn_app ggL_law_X5_foresee_p5 (goodIn_app ggL_law_X5_foresee_p6 ggL_law_X5_foresee_p7))))) ggL_law_X5_foresee_p8) ggL_law_X5_foresee_p9) ggL_law_X5_foresee_p10) ggL_law_X5_foresee_p11) ggL_law_X5_foresee_p12)) (goodIn_sub (fun _ h => List.mem_append_left _ (List.mem_append_left _ (List.mem_append_right _ h))) (by decide +kernel))) (goodIn_sub (fun _ h => List.mem_append_right _ h) (by decide +kernel))
set_option maxRecDepth 20000 in
theorem gL_law_X5_foresee : GoodIn wsL_law (wsV RL 142 RX5 yX5_foresee wsX5_foresee) := goodIn_app (goodIn_of _ (by decide +kernel)) ggL_law_X5_foresee
set_option maxRecDepth 20000 in
theorem ggL_law_X5_pass_p1 : GoodIn wsL_law ([.code yX5_pass cX5_pass 3 (some .int)] : List Cond) := goodIn_r _ [290] (by decide +kernel) (by decide +kernel)
set_option maxRecDepth 20000 in
theorem ggL_law_X5_pass_p2 : GoodIn wsL_law wsX5_pass_r1 := goodIn_r _ [128, 129, 21, 187, 291, 134, 135, 2, 136, 292, 293, 294, 20, 295, 296, 297, 298, 299, 39, 300, 43, 247, 301, 302] (by decide +kernel) (by decide +kernel)
set_option maxRecDepth 20000 in
theorem ggL_law_X5_pass_p3 : GoodIn wsL_law wsX5_pass_r2 := goodIn_r _ [303, 304, 305, 35, 306, 307, 308, 309, 310, 180, 181, 34, 182, 141, 311, 312, 313, 38, 314, 62, 315, 316, 317, 318] (by decide +kernel) (by decide +kernel)
set_option maxRecDepth 20000 in
theorem ggL_law_X5_pass_p4 : GoodIn wsL_law wsX5_pass_r3 := goodIn_r _ [52, 319, 320, 321, 322, 63, 60, 323, 112, 10, 113, 324, 325, 326, 327, 328, 329, 330, 331, 332, 333, 334, 335, 9] (by decide +kernel) (by decide +kernel)
set_option maxRecDepth 20000 in
theorem ggL_law_X5_pass_p5 : GoodIn wsL_law wsX5_pass_r4 := goodIn_r _ [11, 336, 337, 338, 42, 339, 195, 68, 69, 70, 72, 73, 74, 340, 341, 342, 343, 152, 61, 344, 345, 346, 347, 348] (by decide +kernel) (by decide +kernel)
set_option maxRecDepth 20000 in
theorem ggL_law_X5_pass_p6 : GoodIn wsL_law wsX5_pass_r5 := goodIn_r _ [349, 350, 244, 245, 246, 31, 248, 249, 250, 251, 351, 352, 353, 354] (by decide +kernel) (by decide +kernel)
set_option maxRecDepth 20000 in
theorem ggL_law_X5_pass_p7 : GoodIn wsL_law wsX50 := goodIn_r _ [487, 488, 489, 490] (by decide +kernel) (by decide +kernel)
set_option maxRecDepth 20000 in
theorem ggL_law_X5_pass_p8 : GoodIn wsL_law wsX20 := goodIn_r _ [499, 500, 501, 502, 503] (by decide +kernel) (by decide +kernel)
set_option maxRecDepth 20000 in
theorem ggL_law_X5_pass_p9 : GoodIn wsL_law wsX40 := goodIn_r _ [517, 518, 519, 520, 521, 522, 523] (by decide +kernel) (by decide +kernel)
set_option maxRecDepth 20000 in
theorem ggL_law_X5_pass_p10 : GoodIn wsL_law wsX10 := goodIn_r _ [512, 513, 514, 515, 516] (by decide +kernel) (by decide +kernel)
set_option maxRecDepth 20000 in
theorem ggL_law_X5_pass_p11 : GoodIn wsL_law wsX00 := goodIn_r _ [507, 508, 509, 510, 511] (by decide +kernel) (by decide +kernel)
set_option maxRecDepth 20000 in
theorem ggL_law_X5_pass : GoodIn wsL_law wsX5_pass := goodIn_ca (goodIn_app ggL_law_X5_pass_p1 (goodIn_app (goodIn_app (goodIn_app (goodIn_app (goodIn_app (goodIn_app ggL_law_X5_pass_p2 (goodIn_app ggL_law_X5_pass_p3 (goodIn_app ggL_law_X5_pass_p4 (goodIn_app ggL_law_X5_pass_p5 ggL_law_X5_pass_p6)))) ggL_law_X5_pass_p7) ggL_law_X5_pass_p8) ggL_law_X5_pass_p9) ggL_law_X5_pass_p10) ggL_law_X5_pass_p11)) (goodIn_sub (fun _ h => List.mem_append_left _ (List.mem_append_left _ (List.mem_append_right _ h))) (by decide +kernel))
set_option maxRecDepth 20000 in
theorem gL_law_X5_pass : GoodIn wsL_law (wsV RL 119 RX5 yX5_pass wsX5_pass) := goodIn_app (goodIn_of _ (by decide +kernel)) ggL_law_X5_pass
set_option maxRecDepth 20000 in
theorem ggL_law_X6_pass_p1 : GoodIn wsL_law ([.code yX6_pass cX6_pass 8 (some .int)] : List Cond) := goodIn_sub (List.forall_mem_cons.mpr ⟨List.mem_of_getElem? (i := 358) rfl, (fun _ h => absurd h List.not_mem_nil)⟩) (by decide +kernel)
set_option maxRecDepth 20000 in
theorem ggL_law_X6_pass_p2 : GoodIn wsL_law wsX6_pass_r1 := goodIn_r _ [211, 94, 93, 96, 359, 360, 223, 206, 218, 224, 97, 212, 95, 361, 362, 363, 16, 17, 364, 365, 203, 204, 87, 205] (by decide +kernel) (by decide +kernel)
set_option maxRecDepth 20000 in
theorem ggL_law_X6_pass_p3 : GoodIn wsL_law wsX6_pass_r2 := goodIn_r _ [91] (by decide +kernel) (by decide +kernel)
set_option maxRecDepth 20000 in
theorem ggL_law_X6_pass_p4 : GoodIn wsL_law wsX60 := goodIn_r _ [491, 492, 493, 494, 495, 496, 497, 498] (by decide +kernel) (by decide +kernel)
set_option maxRecDepth 20000 in
theorem ggL_law_X6_pass_p5 : GoodIn wsL_law wsX70 := goodIn_r _ [524, 525, 526, 527, 528] (by decide +kernel) (by decide +kernel)
set_option maxRecDepth 20000 in
theorem ggL_law_X6_pass : GoodIn wsL_law wsX6_pass := goodIn_app ggL_law_X6_pass_p1 (goodIn_app (goodIn_app (goodIn_app ggL_law_X6_pass_p2 ggL_law_X6_pass_p3) ggL_law_X6_pass_p4) ggL_law_X6_pass_p5)
set_option maxRecDepth 20000 in
theorem gL_law_X6_pass : GoodIn wsL_law (wsV RL 122 RX6 yX6_pass wsX6_pass) := goodIn_app (goodIn_of _ (by decide +kernel)) ggL_law_X6_pass
