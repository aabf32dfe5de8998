set_option maxRecDepth 20000 in
theorem ggL_law_L_act_p1 : GoodIn wsL_law ([.code yL_act cL_act 16 (some .boolean)] : List Cond) := goodIn_sub (List.forall_mem_cons.mpr ⟨List.mem_of_getElem? (i := 104) rfl, (fun _ h => absurd h List.not_mem_nil)⟩) (by decide +kernel)
set_option maxRecDepth 20000 in
theorem ggL_law_L_act_p2 : GoodIn wsL_law wsL_act_r1 := goodIn_r _ [5, 6, 7, 105, 106, 4, 107, 108, 109, 110, 111, 112, 10, 113, 114, 115, 116, 117, 118, 83, 119, 120, 121, 122] (by decide +kernel) (by decide +kernel)
set_option maxRecDepth 20000 in
theorem ggL_law_L_act_p3 : GoodIn wsL_law wsL_act_r2 := goodIn_r _ [87, 123, 92, 124, 125, 126, 2, 127, 128, 129, 130, 131, 21, 132, 133, 134, 135, 136, 137, 138, 139, 34, 140, 141] (by decide +kernel) (by decide +kernel)
set_option maxRecDepth 20000 in
theorem ggL_law_L_act_p4 : GoodIn wsL_law wsL_act_r3 := goodIn_r _ [52, 53, 54, 142, 143, 144, 145, 146, 147, 148, 149, 150, 38, 151, 152, 60, 61, 153, 154, 155, 156, 26, 157, 158] (by decide +kernel) (by decide +kernel)
set_option maxRecDepth 20000 in
theorem ggL_law_L_act_p5 : GoodIn wsL_law wsL_act_r4 := goodIn_r _ [159, 160, 25, 161, 162, 79, 163, 164, 165, 166, 167, 168, 169, 170, 171, 172, 173, 174, 175, 176, 177, 178, 179, 180] (by decide +kernel) (by decide +kernel)
set_option maxRecDepth 20000 in
theorem ggL_law_L_act_p6 : GoodIn wsL_law wsL_act_r5 := goodIn_r _ [181, 182, 183, 184, 185, 186, 187, 188, 189, 190, 191, 192, 193, 42, 194, 195, 196, 197, 198, 199, 200, 201, 202, 203] (by decide +kernel) (by decide +kernel)
set_option maxRecDepth 20000 in
theorem ggL_law_L_act_p7 : GoodIn wsL_law wsL_act_r6 := goodIn_r _ [204, 205, 91, 206, 207, 208, 209, 210, 95, 211, 97, 212, 213, 214, 215, 216, 217, 218, 219, 220, 221, 222, 93, 223] (by decide +kernel) (by decide +kernel)
set_option maxRecDepth 20000 in
theorem ggL_law_L_act_p8 : GoodIn wsL_law wsL_act_r7 := goodIn_r _ [224, 225, 226, 227, 228, 229, 230, 231, 232, 233, 234, 235, 236, 237, 238, 80, 239, 240, 241, 242, 74, 243, 244, 245] (by decide +kernel) (by decide +kernel)
set_option maxRecDepth 20000 in
theorem ggL_law_L_act_p9 : GoodIn wsL_law wsL_act_r8 := goodIn_r _ [20, 246, 31, 247, 248, 249, 250, 251, 252, 253, 254, 255, 73, 256, 257, 258, 259, 70, 69, 72, 260, 261, 262, 263] (by decide +kernel) (by decide +kernel)
set_option maxRecDepth 20000 in
theorem ggL_law_L_act_p10 : GoodIn wsL_law wsL_act_r9 := goodIn_r _ [264, 265, 266, 267, 268, 269, 270, 271, 272, 273, 274, 275, 276, 277, 278, 279, 280, 281, 282, 283, 284, 285, 286] (by decide +kernel) (by decide +kernel)
set_option maxRecDepth 20000 in
theorem ggL_law_L_act_p11 : GoodIn wsL_law wsX60 := goodIn_r _ [491, 492, 493, 494, 495, 496, 497, 498] (by decide +kernel) (by decide +kernel)
set_option maxRecDepth 20000 in
theorem ggL_law_L_act_p12 : GoodIn wsL_law wsX70 := goodIn_r _ [524, 525, 526, 527, 528] (by decide +kernel) (by decide +kernel)
set_option maxRecDepth 20000 in
theorem ggL_law_L_act_p13 : GoodIn wsL_law wsX50 := goodIn_r _ [487, 488, 489, 490] (by decide +kernel) (by decide +kernel)
set_option maxRecDepth 20000 in
theorem ggL_law_L_act_p14 : GoodIn wsL_law wsX20 := goodIn_r _ [499, 500, 501, 502, 503] (by decide +kernel) (by decide +kernel)
set_option maxRecDepth 20000 in
theorem ggL_law_L_act_p15 : GoodIn wsL_law wsX00 := goodIn_r _ [507, 508, 509, 510, 511] (by decide +kernel) (by decide +kernel)
set_option maxRecDepth 20000 in
theorem ggL_law_L_act_p16 : GoodIn wsL_law wsX10 := goodIn_r _ [512, 513, 514, 515, 516] (by decide +kernel) (by decide +kernel)
set_option maxRecDepth 20000 in
theorem ggL_law_L_act_p17 : GoodIn wsL_law wsX30 := goodIn_r _ [504, 505, 506] (by decide +kernel) (by decide +kernel)
set_option maxRecDepth 20000 in
theorem ggL_law_L_act_p18 : GoodIn wsL_law wsX40 := goodIn_r _ [517, 518, 519, 520, 521, 522, 523] (by decide +kernel) (by decide +kernel)
set_option maxRecDepth 20000 in
theorem ggL_law_L_act : GoodIn wsL_law wsL_act := goodIn_ca (goodIn_ca (goodIn_ca (goodIn_app ggL_law_L_act_p1 (goodIn_app (goodIn_app (goodIn_app (goodIn_app (goodIn_app (goodIn_app (goodIn_app (goodIn_app (goodIn_app ggL_law_L_act_p2 (goodIn_app ggL_law_L_act_p3 (goodIn_app ggL_law_L_act_p4 (goodIn_app ggL_law_L_act_p5 (goodIn_app ggL_law_L_act_p6 (goodIn_app ggL_law_L_act_p7 (goodIn_app ggL_law_L_act_p8 (goodIn_app ggL_law_L_act_p9 ggL_law_L_act_p10)))))))) ggL_law_L_act_p11) ggL_law_L_act_p12) ggL_law_L_act_p13) ggL_law_L_act_p14) ggL_law_L_act_p15) ggL_law_L_act_p16) ggL_law_L_act_p17) ggL_law_L_act_p18)) (goodIn_sub (fun _ h => List.mem_append_left _ (List.mem_append_left _ (List.mem_append_right _ h))) (by decide +kernel))) (goodIn_sub (fun _ h => List.mem_append_left _ (List.mem_append_right _ h)) (by decide +kernel))) (goodIn_sub (fun _ h => List.mem_append_right _ h) (by decide +kernel))
set_option maxRecDepth 20000 in
theorem gL_law_L_act : GoodIn wsL_law (va_wsS RL 115 yL_act wsL_act) := goodIn_app (goodIn_of _ (by decide +kernel)) ggL_law_L_act
set_option maxRecDepth 20000 in
theorem ggL_law_X6_isSame_p1 : GoodIn wsL_law ([.code yX6_isSame cX6_isSame 11 (some .boolean)] : List Cond) := goodIn_sub (List.forall_mem_cons.mpr ⟨List.mem_of_getElem? (i := 454) rfl, (fun _ h => absurd h List.not_mem_nil)⟩) (by decide +kernel)
set_option maxRecDepth 20000 in
theorem ggL_law_X6_isSame_p2 : GoodIn wsL_law wsX6_isSame_r1 := goodIn_r _ [4, 211, 97, 224, 223, 212, 213, 218, 93, 94, 95, 206, 455, 214, 215, 216, 87, 217, 456, 220, 221, 222, 457, 387] (by decide +kernel) (by decide +kernel)
set_option maxRecDepth 20000 in
theorem ggL_law_X6_isSame_p3 : GoodIn wsL_law wsX6_isSame_r2 := goodIn_r _ [388, 2, 389, 167, 168, 21, 187, 191, 192, 193, 42, 194, 195, 134, 135, 136, 390, 391, 392, 393, 68, 70, 73, 74] (by decide +kernel) (by decide +kernel)
set_option maxRecDepth 20000 in
theorem ggL_law_X6_isSame_p4 : GoodIn wsL_law wsX6_isSame_r3 := goodIn_r _ [282, 270, 271, 272, 256, 257, 258, 259, 69, 72, 458, 459, 460, 461, 130, 131, 188, 462, 463, 464, 465, 466, 411, 412] (by decide +kernel) (by decide +kernel)
set_option maxRecDepth 20000 in
theorem ggL_law_X6_isSame_p5 : GoodIn wsL_law wsX6_isSame_r4 := goodIn_r _ [413, 146, 175, 176, 177, 38, 178, 152, 414, 415, 416, 20, 417, 39, 306, 305, 418, 308, 419, 420, 421, 422, 35, 310] (by decide +kernel) (by decide +kernel)
set_option maxRecDepth 20000 in
theorem ggL_law_X6_isSame_p6 : GoodIn wsL_law wsX6_isSame_r5 := goodIn_r _ [180, 181, 34, 182, 141, 315, 316, 317, 318, 52, 467, 395, 396, 397, 132, 179, 398, 399, 400, 401, 334, 333, 309, 332] (by decide +kernel) (by decide +kernel)
set_option maxRecDepth 20000 in
theorem ggL_law_X6_isSame_p7 : GoodIn wsL_law wsX6_isSame_r6 := goodIn_r _ [43, 402, 403, 404, 405, 61, 406, 407, 408, 409, 468, 208, 209, 210, 469, 424, 425, 426, 26, 231, 232, 233, 25, 234] (by decide +kernel) (by decide +kernel)
set_option maxRecDepth 20000 in
theorem ggL_law_X6_isSame_p8 : GoodIn wsL_law wsX6_isSame_r7 := goodIn_r _ [162, 427, 428, 429, 430, 277, 229, 273, 274, 275, 276, 278, 279, 280, 281, 239, 240, 241, 242, 235, 236, 237, 238, 80] (by decide +kernel) (by decide +kernel)
set_option maxRecDepth 20000 in
theorem ggL_law_X6_isSame_p9 : GoodIn wsL_law wsX6_isSame_r8 := goodIn_r _ [365, 203, 204, 205, 91, 470, 471, 472, 473, 474, 475, 476, 477, 478, 367, 368, 369, 370, 371, 372, 373, 230, 374, 375] (by decide +kernel) (by decide +kernel)
set_option maxRecDepth 20000 in
theorem ggL_law_X6_isSame_p10 : GoodIn wsL_law wsX6_isSame_r9 := goodIn_r _ [376, 377, 247, 307, 350, 244, 245, 246, 31, 248, 249, 250, 251, 346, 347, 348, 349, 378, 379, 380, 381, 382, 383, 384] (by decide +kernel) (by decide +kernel)
set_option maxRecDepth 20000 in
theorem ggL_law_X6_isSame_p11 : GoodIn wsL_law wsX6_isSame_r10 := goodIn_r _ [385, 62, 479, 480, 481, 482, 291, 483, 484, 485, 486] (by decide +kernel) (by decide +kernel)
set_option maxRecDepth 20000 in
theorem ggL_law_X6_isSame_p12 : GoodIn wsL_law wsX60 := goodIn_r _ [491, 492, 493, 494, 495, 496, 497, 498] (by decide +kernel) (by decide +kernel)
set_option maxRecDepth 20000 in
theorem ggL_law_X6_isSame_p13 : GoodIn wsL_law wsX70 := goodIn_r _ [524, 525, 526, 527, 528] (by decide +kernel) (by decide +kernel)
set_option maxRecDepth 20000 in
theorem ggL_law_X6_isSame_p14 : GoodIn wsL_law wsX50 := goodIn_r _ [487, 488, 489, 490] (by decide +kernel) (by decide +kernel)
set_option maxRecDepth 20000 in
theorem ggL_law_X6_isSame_p15 : GoodIn wsL_law wsX20 := goodIn_r _ [499, 500, 501, 502, 503] (by decide +kernel) (by decide +kernel)
set_option maxRecDepth 20000 in
theorem ggL_law_X6_isSame_p16 : GoodIn wsL_law wsX40 := goodIn_r _ [517, 518, 519, 520, 521, 522, 523] (by decide +kernel) (by decide +kernel)
set_option maxRecDepth 20000 in
theorem ggL_law_X6_isSame_p17 : GoodIn wsL_law wsX10 := goodIn_r _ [512, 513, 514, 515, 516] (by decide +kernel) (by decide +kernel)
set_option maxRecDepth 20000 in
theorem ggL_law_X6_isSame_p18 : GoodIn wsL_law wsX00 := goodIn_r _ [507, 508, 509, 510, 511] (by decide +kernel) (by decide +kernel)
set_option maxRecDepth 20000 in
theorem ggL_law_X6_isSame_p19 : GoodIn wsL_law wsX30 := goodIn_r _ [504, 505, 506] (by decide +kernel) (by decide +kernel)
set_option maxRecDepth 20000 in
theorem ggL_law_X6_isSame : GoodIn wsL_law wsX6_isSame := goodIn_ca (goodIn_ca (goodIn_app ggL_law_X6_isSame_p1 (goodIn_app (goodIn_app (goodIn_app (goodIn_app (goodIn_app (goodIn_app (goodIn_app (goodIn_app (goodIn_app ggL_law_X6_isSame_p2 (goodIn_app ggL_law_X6_isSame_p3 (goodIn_app ggL_law_X6_isSame_p4 (goodIn_app ggL_law_X6_isSame_p5 (goodIn_app ggL_law_X6_isSame_p6 (goodIn_app ggL_law_X6_isSame_p7 (goodIn_app ggL_law_X6_isSame_p8 (goodIn_app ggL_law_X6_isSame_p9 (goodIn_app ggL_law_X6_isSame_p10 ggL_law_X6_isSame_p11))))))))) ggL_law_X6_isSame_p12) ggL_law_X6_isSame_p13) ggL_law_X6_isSame_p14) ggL_law_X6_isSame_p15) ggL_law_X6_isSame_p16) ggL_law_X6_isSame_p17) ggL_law_X6_isSame_p18) ggL_law_X6_isSame_p19)) (goodIn_sub (fun _ h => List.mem_append_right _ h) (by decide +kernel))) (goodIn_sub (fun _ h => List.mem_append_left _ (List.mem_append_right _ h)) (by decide +kernel))
set_option maxRecDepth 20000 in
theorem gL_law_X6_isSame : GoodIn wsL_law (wsV RL 148 RX6 yX6_isSame wsX6_isSame) := goodIn_app (goodIn_of _ (by decide +kernel)) ggL_law_X6_isSame
