set_option maxRecDepth 20000 in
theorem gpL_law_X5_init_0 : GoodIn wsL_law (.code yX5_init cX5_init 1 none :: wsX5_init_r1) := goodIn_r _ [14, 15, 16, 17, 18, 19, 20, 21, 22, 23, 24, 25, 26, 27, 28, 29, 30, 31, 4, 32, 33, 34, 35, 36, 37] (by decide +kernel) (by decide +kernel)
set_option maxRecDepth 20000 in
theorem gpL_law_X5_init_1 : GoodIn wsL_law wsX5_init_r2 := goodIn_r _ [38, 39, 40, 41, 42, 43, 44, 45, 46, 47, 48, 49, 50, 51, 52, 53, 54, 55, 56, 57, 58, 59, 60, 61] (by decide +kernel) (by decide +kernel)
set_option maxRecDepth 20000 in
theorem gpL_law_X5_init_2 : GoodIn wsL_law wsX5_init_r3 := goodIn_r _ [62, 63, 64, 65, 66, 67, 68, 69, 70, 71, 72, 73, 74, 75, 76, 77, 78, 79, 80, 81, 82, 83, 84] (by decide +kernel) (by decide +kernel)
set_option maxRecDepth 20000 in
theorem gpL_law_X5_init_wsX00 : GoodIn wsL_law wsX00 := goodIn_r _ [513, 514, 515, 516, 517, 518, 519, 520, 521, 522, 523, 524] (by decide +kernel) (by decide +kernel)
set_option maxRecDepth 20000 in
theorem gpL_law_X5_init_wsX50 : GoodIn wsL_law wsX50 := goodIn_r _ [499, 500] (by decide +kernel) (by decide +kernel)
set_option maxRecDepth 20000 in
theorem gpL_law_X5_init_wsX40 : GoodIn wsL_law wsX40 := goodIn_r _ [525, 526, 527] (by decide +kernel) (by decide +kernel)
set_option maxRecDepth 20000 in
theorem gpL_law_X5_init_wsX10 : GoodIn wsL_law wsX10 := goodIn_r _ [528, 529, 530, 531] (by decide +kernel) (by decide +kernel)
set_option maxRecDepth 20000 in
theorem gpL_law_X5_init_wsX30 : GoodIn wsL_law wsX30 := goodIn_r _ [532, 533, 534, 535] (by decide +kernel) (by decide +kernel)
set_option maxRecDepth 20000 in
theorem gpL_law_X5_init_wsX20 : GoodIn wsL_law wsX20 := goodIn_r _ [536, 537, 538, 539, 540] (by decide +kernel) (by decide +kernel)
set_option maxRecDepth 20000 in
theorem ggL_law_X5_init : GoodIn wsL_law wsX5_init := (goodIn_ca (goodIn_ca (goodIn_ca (goodIn_ca (goodIn_ca (goodIn_ca (goodIn_ca gpL_law_X5_init_0 (goodIn_app gpL_law_X5_init_1 gpL_law_X5_init_2)) gpL_law_X5_init_wsX00) gpL_law_X5_init_wsX50) gpL_law_X5_init_wsX40) gpL_law_X5_init_wsX10) gpL_law_X5_init_wsX30) gpL_law_X5_init_wsX20)
set_option maxRecDepth 20000 in
theorem gL_law_X5_init : GoodIn wsL_law (wsX5_init) := ggL_law_X5_init
set_option maxRecDepth 20000 in
set_option maxHeartbeats 4000000 in
theorem gpL_law_L_build_0 : GoodIn wsL_law (.code yL_build cL_build 4 (some (.object "RagVatsLaw$Sim")) :: wsL_build_r1) := by
  show ∀ w ∈ ([_, _, _, _, _, _, _, _, _, _, _, _, _, _, _, _, _, _, _, _, _, _, _, _, _] : List Cond), _
  exact List.forall_mem_cons.mpr ⟨⟨List.mem_of_getElem? (i := 88) rfl, good_of_word rfl⟩, List.forall_mem_cons.mpr ⟨⟨List.mem_of_getElem? (i := 89) rfl, good_of_word rfl⟩, List.forall_mem_cons.mpr ⟨⟨List.mem_of_getElem? (i := 90) rfl, good_of_word rfl⟩, List.forall_mem_cons.mpr ⟨⟨List.mem_of_getElem? (i := 91) rfl, good_of_word rfl⟩, List.forall_mem_cons.mpr ⟨⟨List.mem_of_getElem? (i := 92) rfl, good_of_word rfl⟩, List.forall_mem_cons.mpr ⟨⟨List.mem_of_getElem? (i := 93) rfl, good_of_word rfl⟩, List.forall_mem_cons.mpr ⟨⟨List.mem_of_getElem? (i := 94) rfl, good_of_word rfl⟩, List.forall_mem_cons.mpr ⟨⟨List.mem_of_getElem? (i := 16) rfl, good_of_word rfl⟩, List.forall_mem_cons.mpr ⟨⟨List.mem_of_getElem? (i := 17) rfl, good_of_word rfl⟩, List.forall_mem_cons.mpr ⟨⟨List.mem_of_getElem? (i := 95) rfl, good_of_word rfl⟩, List.forall_mem_cons.mpr ⟨⟨List.mem_of_getElem? (i := 96) rfl, good_of_word rfl⟩, List.forall_mem_cons.mpr ⟨⟨List.mem_of_getElem? (i := 4) rfl, good_of_word rfl⟩, List.forall_mem_cons.mpr ⟨⟨List.mem_of_getElem? (i := 97) rfl, good_of_word rfl⟩, List.forall_mem_cons.mpr ⟨⟨List.mem_of_getElem? (i := 98) rfl, good_of_word rfl⟩, List.forall_mem_cons.mpr ⟨⟨List.mem_of_getElem? (i := 99) rfl, good_of_word rfl⟩, List.forall_mem_cons.mpr ⟨⟨List.mem_of_getElem? (i := 100) rfl, good_of_word rfl⟩, List.forall_mem_cons.mpr ⟨⟨List.mem_of_getElem? (i := 101) rfl, good_of_word rfl⟩, List.forall_mem_cons.mpr ⟨⟨List.mem_of_getElem? (i := 102) rfl, good_of_word rfl⟩, List.forall_mem_cons.mpr ⟨⟨List.mem_of_getElem? (i := 103) rfl, good_of_word rfl⟩, List.forall_mem_cons.mpr ⟨⟨List.mem_of_getElem? (i := 104) rfl, good_of_word rfl⟩, List.forall_mem_cons.mpr ⟨⟨List.mem_of_getElem? (i := 105) rfl, good_of_word rfl⟩, List.forall_mem_cons.mpr ⟨⟨List.mem_of_getElem? (i := 106) rfl, good_of_word rfl⟩, List.forall_mem_cons.mpr ⟨⟨List.mem_of_getElem? (i := 107) rfl, good_of_word rfl⟩, List.forall_mem_cons.mpr ⟨⟨List.mem_of_getElem? (i := 87) rfl, good_of_word rfl⟩, List.forall_mem_cons.mpr ⟨⟨List.mem_of_getElem? (i := 108) rfl, good_of_word rfl⟩, fun _ h => absurd h List.not_mem_nil⟩⟩⟩⟩⟩⟩⟩⟩⟩⟩⟩⟩⟩⟩⟩⟩⟩⟩⟩⟩⟩⟩⟩⟩⟩
set_option maxRecDepth 20000 in
set_option maxHeartbeats 4000000 in
theorem gpL_law_L_build_1 : GoodIn wsL_law wsL_build_r2 := by
  show ∀ w ∈ ([_, _, _, _, _, _, _, _, _, _, _, _, _, _, _, _, _, _, _, _, _, _, _, _] : List Cond), _
  exact List.forall_mem_cons.mpr ⟨⟨List.mem_of_getElem? (i := 109) rfl, good_of_word rfl⟩, List.forall_mem_cons.mpr ⟨⟨List.mem_of_getElem? (i := 110) rfl, good_of_word rfl⟩, List.forall_mem_cons.mpr ⟨⟨List.mem_of_getElem? (i := 111) rfl, good_of_word rfl⟩, List.forall_mem_cons.mpr ⟨⟨List.mem_of_getElem? (i := 112) rfl, good_of_word rfl⟩, List.forall_mem_cons.mpr ⟨⟨List.mem_of_getElem? (i := 10) rfl, good_of_word rfl⟩, List.forall_mem_cons.mpr ⟨⟨List.mem_of_getElem? (i := 11) rfl, good_of_word rfl⟩, List.forall_mem_cons.mpr ⟨⟨List.mem_of_getElem? (i := 113) rfl, good_of_word rfl⟩, List.forall_mem_cons.mpr ⟨⟨List.mem_of_getElem? (i := 114) rfl, good_of_word rfl⟩, List.forall_mem_cons.mpr ⟨⟨List.mem_of_getElem? (i := 115) rfl, good_of_word rfl⟩, List.forall_mem_cons.mpr ⟨⟨List.mem_of_getElem? (i := 116) rfl, good_of_word rfl⟩, List.forall_mem_cons.mpr ⟨⟨List.mem_of_getElem? (i := 117) rfl, good_of_word rfl⟩, List.forall_mem_cons.mpr ⟨⟨List.mem_of_getElem? (i := 5) rfl, good_of_word rfl⟩, List.forall_mem_cons.mpr ⟨⟨List.mem_of_getElem? (i := 118) rfl, good_of_word rfl⟩, List.forall_mem_cons.mpr ⟨⟨List.mem_of_getElem? (i := 119) rfl, good_of_word rfl⟩, List.forall_mem_cons.mpr ⟨⟨List.mem_of_getElem? (i := 120) rfl, good_of_word rfl⟩, List.forall_mem_cons.mpr ⟨⟨List.mem_of_getElem? (i := 121) rfl, good_of_word rfl⟩, List.forall_mem_cons.mpr ⟨⟨List.mem_of_getElem? (i := 122) rfl, good_of_word rfl⟩, List.forall_mem_cons.mpr ⟨⟨List.mem_of_getElem? (i := 123) rfl, good_of_word rfl⟩, List.forall_mem_cons.mpr ⟨⟨List.mem_of_getElem? (i := 124) rfl, good_of_word rfl⟩, List.forall_mem_cons.mpr ⟨⟨List.mem_of_getElem? (i := 125) rfl, good_of_word rfl⟩, List.forall_mem_cons.mpr ⟨⟨List.mem_of_getElem? (i := 126) rfl, good_of_word rfl⟩, List.forall_mem_cons.mpr ⟨⟨List.mem_of_getElem? (i := 127) rfl, good_of_word rfl⟩, List.forall_mem_cons.mpr ⟨⟨List.mem_of_getElem? (i := 128) rfl, good_of_word rfl⟩, List.forall_mem_cons.mpr ⟨⟨List.mem_of_getElem? (i := 129) rfl, good_of_word rfl⟩, fun _ h => absurd h List.not_mem_nil⟩⟩⟩⟩⟩⟩⟩⟩⟩⟩⟩⟩⟩⟩⟩⟩⟩⟩⟩⟩⟩⟩⟩⟩
set_option maxRecDepth 20000 in
theorem gpL_law_L_build_2 : GoodIn wsL_law wsL_build_r3 := goodIn_r _ [130, 2, 131, 132, 133, 134, 135, 136, 137, 138, 21, 139, 140, 141, 142, 143, 144, 145, 146, 147, 20, 148, 29, 32] (by decide +kernel) (by decide +kernel)
set_option maxRecDepth 20000 in
theorem gpL_law_L_build_3 : GoodIn wsL_law wsL_build_r4 := goodIn_r _ [149, 150, 151, 152, 153, 154, 155, 156, 157, 158, 159, 50, 160, 161, 162, 163, 164, 165, 166, 167, 168, 169, 170, 171] (by decide +kernel) (by decide +kernel)
set_option maxRecDepth 20000 in
theorem gpL_law_L_build_4 : GoodIn wsL_law wsL_build_r5 := goodIn_r _ [172, 173, 174, 36, 175, 55, 176, 177, 178, 179, 56, 57, 180, 181, 182, 183, 184, 185, 186, 187, 188, 189, 190, 191] (by decide +kernel) (by decide +kernel)
set_option maxRecDepth 20000 in
theorem gpL_law_L_build_5 : GoodIn wsL_law wsL_build_r6 := goodIn_r _ [192, 193, 194, 195, 196, 197, 198, 40, 199, 65, 66, 67, 68, 200, 201, 202, 203, 204, 205, 206, 207, 208, 209, 210] (by decide +kernel) (by decide +kernel)
set_option maxRecDepth 20000 in
theorem gpL_law_L_build_6 : GoodIn wsL_law wsL_build_r7 := goodIn_r _ [211, 212, 213, 214, 215, 216, 217, 218, 219, 220, 221, 222, 223, 44, 224, 72, 73, 74, 75, 225, 226, 227, 228, 229] (by decide +kernel) (by decide +kernel)
set_option maxRecDepth 20000 in
theorem gpL_law_L_build_7 : GoodIn wsL_law wsL_build_r8 := goodIn_r _ [230, 231, 232, 233, 234, 235, 236, 237, 238, 239, 240, 241, 242, 243, 244, 245, 246, 247, 248, 249, 250, 251, 252, 253] (by decide +kernel) (by decide +kernel)
set_option maxRecDepth 20000 in
theorem gpL_law_L_build_8 : GoodIn wsL_law wsL_build_r9 := goodIn_r _ [45, 37, 41, 254, 7, 8, 9, 255, 256, 257, 258, 259, 260, 261, 262, 263, 264, 265, 266, 267, 268, 269, 270, 271] (by decide +kernel) (by decide +kernel)
set_option maxRecDepth 20000 in
theorem gpL_law_L_build_9 : GoodIn wsL_law wsL_build_r10 := goodIn_r _ [272, 273, 274, 275, 49, 276, 277, 278, 279, 280, 281, 282, 283, 284, 285, 286, 287, 288, 289, 290, 291, 292, 293, 294] (by decide +kernel) (by decide +kernel)
set_option maxRecDepth 20000 in
theorem gpL_law_L_build_10 : GoodIn wsL_law wsL_build_r11 := goodIn_r _ [295, 296, 33, 27, 297, 298, 299, 300, 301, 302, 303, 304, 305, 306, 307, 308, 309, 310, 311, 312, 313, 30, 31, 314] (by decide +kernel) (by decide +kernel)
set_option maxRecDepth 20000 in
theorem gpL_law_L_build_11 : GoodIn wsL_law wsL_build_r12 := goodIn_r _ [315, 316, 317, 318, 319, 320, 321, 322, 323, 324, 325, 326, 327, 328, 329, 330, 331, 332, 333, 48, 334, 79, 81, 82] (by decide +kernel) (by decide +kernel)
set_option maxRecDepth 20000 in
theorem gpL_law_L_build_12 : GoodIn wsL_law wsL_build_r13 := goodIn_r _ [83, 80, 335, 336, 337, 338, 339, 340, 341, 342, 343, 344, 345, 346, 347, 348, 349, 350, 351, 352, 353, 354, 355, 356] (by decide +kernel) (by decide +kernel)
set_option maxRecDepth 20000 in
set_option maxHeartbeats 4000000 in
theorem gpL_law_L_build_13 : GoodIn wsL_law wsL_build_r14 := by
  show ∀ w ∈ ([_, _, _, _, _, _, _, _, _, _, _, _, _, _, _, _, _, _, _, _, _, _, _, _] : List Cond), _
  exact List.forall_mem_cons.mpr ⟨⟨List.mem_of_getElem? (i := 357) rfl, good_of_word rfl⟩, List.forall_mem_cons.mpr ⟨⟨List.mem_of_getElem? (i := 358) rfl, good_of_word rfl⟩, List.forall_mem_cons.mpr ⟨⟨List.mem_of_getElem? (i := 359) rfl, good_of_word rfl⟩, List.forall_mem_cons.mpr ⟨⟨List.mem_of_getElem? (i := 360) rfl, good_of_word rfl⟩, List.forall_mem_cons.mpr ⟨⟨List.mem_of_getElem? (i := 361) rfl, good_of_word rfl⟩, List.forall_mem_cons.mpr ⟨⟨List.mem_of_getElem? (i := 362) rfl, good_of_word rfl⟩, List.forall_mem_cons.mpr ⟨⟨List.mem_of_getElem? (i := 363) rfl, good_of_word rfl⟩, List.forall_mem_cons.mpr ⟨⟨List.mem_of_getElem? (i := 364) rfl, good_of_word rfl⟩, List.forall_mem_cons.mpr ⟨⟨List.mem_of_getElem? (i := 365) rfl, good_of_word rfl⟩, List.forall_mem_cons.mpr ⟨⟨List.mem_of_getElem? (i := 366) rfl, good_of_word rfl⟩, List.forall_mem_cons.mpr ⟨⟨List.mem_of_getElem? (i := 367) rfl, good_of_word rfl⟩, List.forall_mem_cons.mpr ⟨⟨List.mem_of_getElem? (i := 368) rfl, good_of_word rfl⟩, List.forall_mem_cons.mpr ⟨⟨List.mem_of_getElem? (i := 369) rfl, good_of_word rfl⟩, List.forall_mem_cons.mpr ⟨⟨List.mem_of_getElem? (i := 370) rfl, good_of_word rfl⟩, List.forall_mem_cons.mpr ⟨⟨List.mem_of_getElem? (i := 371) rfl, good_of_word rfl⟩, List.forall_mem_cons.mpr ⟨⟨List.mem_of_getElem? (i := 372) rfl, good_of_word rfl⟩, List.forall_mem_cons.mpr ⟨⟨List.mem_of_getElem? (i := 373) rfl, good_of_word rfl⟩, List.forall_mem_cons.mpr ⟨⟨List.mem_of_getElem? (i := 374) rfl, good_of_word rfl⟩, List.forall_mem_cons.mpr ⟨⟨List.mem_of_getElem? (i := 375) rfl, good_of_word rfl⟩, List.forall_mem_cons.mpr ⟨⟨List.mem_of_getElem? (i := 376) rfl, good_of_word rfl⟩, List.forall_mem_cons.mpr ⟨⟨List.mem_of_getElem? (i := 377) rfl, good_of_word rfl⟩, List.forall_mem_cons.mpr ⟨⟨List.mem_of_getElem? (i := 378) rfl, good_of_word rfl⟩, List.forall_mem_cons.mpr ⟨⟨List.mem_of_getElem? (i := 379) rfl, good_of_word rfl⟩, List.forall_mem_cons.mpr ⟨⟨List.mem_of_getElem? (i := 380) rfl, good_of_word rfl⟩, fun _ h => absurd h List.not_mem_nil⟩⟩⟩⟩⟩⟩⟩⟩⟩⟩⟩⟩⟩⟩⟩⟩⟩⟩⟩⟩⟩⟩⟩⟩
set_option maxRecDepth 20000 in
theorem gpL_law_L_build_wsX60 : GoodIn wsL_law wsX60 := goodIn_r _ [501, 502, 503, 504, 505, 506, 507, 508, 509, 510, 511, 512] (by decide +kernel) (by decide +kernel)
set_option maxRecDepth 20000 in
theorem gpL_law_L_build_wsX50 : GoodIn wsL_law wsX50 := goodIn_r _ [499, 500] (by decide +kernel) (by decide +kernel)
set_option maxRecDepth 20000 in
theorem gpL_law_L_build_wsX00 : GoodIn wsL_law wsX00 := goodIn_r _ [513, 514, 515, 516, 517, 518, 519, 520, 521, 522, 523, 524] (by decide +kernel) (by decide +kernel)
set_option maxRecDepth 20000 in
theorem gpL_law_L_build_wsX40 : GoodIn wsL_law wsX40 := goodIn_r _ [525, 526, 527] (by decide +kernel) (by decide +kernel)
set_option maxRecDepth 20000 in
theorem gpL_law_L_build_wsX10 : GoodIn wsL_law wsX10 := goodIn_r _ [528, 529, 530, 531] (by decide +kernel) (by decide +kernel)
set_option maxRecDepth 20000 in
theorem gpL_law_L_build_wsX30 : GoodIn wsL_law wsX30 := goodIn_r _ [532, 533, 534, 535] (by decide +kernel) (by decide +kernel)
set_option maxRecDepth 20000 in
theorem gpL_law_L_build_wsX20 : GoodIn wsL_law wsX20 := goodIn_r _ [536, 537, 538, 539, 540] (by decide +kernel) (by decide +kernel)
set_option maxRecDepth 20000 in
theorem ggL_law_L_build : GoodIn wsL_law wsL_build := goodIn_ca (goodIn_ca (goodIn_ca (goodIn_ca (goodIn_ca (goodIn_ca (goodIn_ca (goodIn_ca (goodIn_ca (goodIn_ca (goodIn_ca gpL_law_L_build_0 (goodIn_app gpL_law_L_build_1 (goodIn_app gpL_law_L_build_2 (goodIn_app gpL_law_L_build_3 (goodIn_app gpL_law_L_build_4 (goodIn_app gpL_law_L_build_5 (goodIn_app gpL_law_L_build_6 (goodIn_app gpL_law_L_build_7 (goodIn_app gpL_law_L_build_8 (goodIn_app gpL_law_L_build_9 (goodIn_app gpL_law_L_build_10 (goodIn_app gpL_law_L_build_11 (goodIn_app gpL_law_L_build_12 gpL_law_L_build_13))))))))))))) gpL_law_L_build_wsX60) gpL_law_L_build_wsX50) gpL_law_L_build_wsX00) gpL_law_L_build_wsX40) gpL_law_L_build_wsX10) gpL_law_L_build_wsX30) gpL_law_L_build_wsX20) (goodIn_sub (fun _ h => List.mem_append_left _ (List.mem_append_left _ (List.mem_append_right _ h))) (by decide +kernel))) (goodIn_sub (fun _ h => List.mem_append_left _ (List.mem_append_right _ h)) (by decide +kernel))) (goodIn_sub (fun _ h => List.mem_append_right _ h) (by decide +kernel))
set_option maxRecDepth 20000 in
theorem gL_law_L_build : GoodIn wsL_law (va_wsS RL 107 yL_build wsL_build) := goodIn_app (goodIn_of _ (by decide +kernel)) ggL_law_L_build
set_option maxRecDepth 20000 in
theorem ggL_law_L_cell : GoodIn wsL_law wsL_cell := goodIn_r _ [108, 109] (by decide +kernel) (by decide +kernel)
set_option maxRecDepth 20000 in
theorem gL_law_L_cell : GoodIn wsL_law (va_wsS RL 92 yL_cell wsL_cell) := goodIn_app (goodIn_of _ (by decide +kernel)) ggL_law_L_cell
set_option maxRecDepth 20000 in
set_option maxHeartbeats 4000000 in
theorem gpL_law_L_act_0 : GoodIn wsL_law (.code yL_act cL_act 22 (some .boolean) :: wsL_act_r1) := by
  show ∀ w ∈ ([_, _, _, _, _, _, _, _, _, _, _, _, _, _, _, _, _, _, _, _, _, _, _, _, _] : List Cond), _
  exact List.forall_mem_cons.mpr ⟨⟨List.mem_of_getElem? (i := 112) rfl, good_of_word rfl⟩, List.forall_mem_cons.mpr ⟨⟨List.mem_of_getElem? (i := 10) rfl, good_of_word rfl⟩, List.forall_mem_cons.mpr ⟨⟨List.mem_of_getElem? (i := 11) rfl, good_of_word rfl⟩, List.forall_mem_cons.mpr ⟨⟨List.mem_of_getElem? (i := 113) rfl, good_of_word rfl⟩, List.forall_mem_cons.mpr ⟨⟨List.mem_of_getElem? (i := 114) rfl, good_of_word rfl⟩, List.forall_mem_cons.mpr ⟨⟨List.mem_of_getElem? (i := 115) rfl, good_of_word rfl⟩, List.forall_mem_cons.mpr ⟨⟨List.mem_of_getElem? (i := 116) rfl, good_of_word rfl⟩, List.forall_mem_cons.mpr ⟨⟨List.mem_of_getElem? (i := 117) rfl, good_of_word rfl⟩, List.forall_mem_cons.mpr ⟨⟨List.mem_of_getElem? (i := 4) rfl, good_of_word rfl⟩, List.forall_mem_cons.mpr ⟨⟨List.mem_of_getElem? (i := 5) rfl, good_of_word rfl⟩, List.forall_mem_cons.mpr ⟨⟨List.mem_of_getElem? (i := 118) rfl, good_of_word rfl⟩, List.forall_mem_cons.mpr ⟨⟨List.mem_of_getElem? (i := 119) rfl, good_of_word rfl⟩, List.forall_mem_cons.mpr ⟨⟨List.mem_of_getElem? (i := 120) rfl, good_of_word rfl⟩, List.forall_mem_cons.mpr ⟨⟨List.mem_of_getElem? (i := 121) rfl, good_of_word rfl⟩, List.forall_mem_cons.mpr ⟨⟨List.mem_of_getElem? (i := 122) rfl, good_of_word rfl⟩, List.forall_mem_cons.mpr ⟨⟨List.mem_of_getElem? (i := 123) rfl, good_of_word rfl⟩, List.forall_mem_cons.mpr ⟨⟨List.mem_of_getElem? (i := 124) rfl, good_of_word rfl⟩, List.forall_mem_cons.mpr ⟨⟨List.mem_of_getElem? (i := 125) rfl, good_of_word rfl⟩, List.forall_mem_cons.mpr ⟨⟨List.mem_of_getElem? (i := 87) rfl, good_of_word rfl⟩, List.forall_mem_cons.mpr ⟨⟨List.mem_of_getElem? (i := 126) rfl, good_of_word rfl⟩, List.forall_mem_cons.mpr ⟨⟨List.mem_of_getElem? (i := 127) rfl, good_of_word rfl⟩, List.forall_mem_cons.mpr ⟨⟨List.mem_of_getElem? (i := 128) rfl, good_of_word rfl⟩, List.forall_mem_cons.mpr ⟨⟨List.mem_of_getElem? (i := 129) rfl, good_of_word rfl⟩, List.forall_mem_cons.mpr ⟨⟨List.mem_of_getElem? (i := 130) rfl, good_of_word rfl⟩, List.forall_mem_cons.mpr ⟨⟨List.mem_of_getElem? (i := 2) rfl, good_of_word rfl⟩, fun _ h => absurd h List.not_mem_nil⟩⟩⟩⟩⟩⟩⟩⟩⟩⟩⟩⟩⟩⟩⟩⟩⟩⟩⟩⟩⟩⟩⟩⟩⟩
set_option maxRecDepth 20000 in
theorem gpL_law_L_act_1 : GoodIn wsL_law wsL_act_r2 := goodIn_r _ [131, 132, 133, 134, 135, 136, 137, 138, 21, 139, 140, 141, 142, 143, 144, 145, 146, 147, 20, 148, 29, 32, 149, 150] (by decide +kernel) (by decide +kernel)
set_option maxRecDepth 20000 in
theorem gpL_law_L_act_2 : GoodIn wsL_law wsL_act_r3 := goodIn_r _ [91, 151, 152, 153, 154, 155, 156, 157, 158, 159, 50, 160, 161, 162, 163, 164, 165, 166, 167, 168, 169, 170, 171, 172] (by decide +kernel) (by decide +kernel)
set_option maxRecDepth 20000 in
theorem gpL_law_L_act_3 : GoodIn wsL_law wsL_act_r4 := goodIn_r _ [173, 174, 36, 175, 55, 176, 177, 178, 179, 56, 57, 180, 181, 182, 183, 184, 185, 186, 187, 188, 189, 190, 191, 99] (by decide +kernel) (by decide +kernel)
set_option maxRecDepth 20000 in
theorem gpL_law_L_act_4 : GoodIn wsL_law wsL_act_r5 := goodIn_r _ [192, 193, 194, 195, 196, 197, 198, 40, 199, 65, 66, 67, 68, 200, 201, 202, 203, 204, 205, 206, 207, 208, 209, 210] (by decide +kernel) (by decide +kernel)
set_option maxRecDepth 20000 in
theorem gpL_law_L_act_5 : GoodIn wsL_law wsL_act_r6 := goodIn_r _ [211, 212, 213, 214, 215, 216, 217, 218, 219, 220, 221, 222, 223, 44, 224, 72, 73, 74, 75, 225, 226, 227, 228, 229] (by decide +kernel) (by decide +kernel)
set_option maxRecDepth 20000 in
theorem gpL_law_L_act_6 : GoodIn wsL_law wsL_act_r7 := goodIn_r _ [230, 231, 232, 233, 234, 235, 236, 237, 238, 239, 240, 241, 242, 243, 244, 245, 246, 247, 248, 249, 250, 251, 252, 253] (by decide +kernel) (by decide +kernel)
set_option maxRecDepth 20000 in
theorem gpL_law_L_act_7 : GoodIn wsL_law wsL_act_r8 := goodIn_r _ [45, 37, 41, 254, 7, 8, 9, 255, 256, 257, 258, 259, 260, 261, 262, 263, 264, 265, 266, 267, 268, 269, 270, 271] (by decide +kernel) (by decide +kernel)
set_option maxRecDepth 20000 in
theorem gpL_law_L_act_8 : GoodIn wsL_law wsL_act_r9 := goodIn_r _ [272, 273, 274, 275, 49, 276, 277, 278, 279, 280, 100, 101, 281, 282, 283, 284, 96, 103] (by decide +kernel) (by decide +kernel)
set_option maxRecDepth 20000 in
theorem gpL_law_L_act_wsX60 : GoodIn wsL_law wsX60 := goodIn_r _ [501, 502, 503, 504, 505, 506, 507, 508, 509, 510, 511, 512] (by decide +kernel) (by decide +kernel)
set_option maxRecDepth 20000 in
theorem gpL_law_L_act_wsX50 : GoodIn wsL_law wsX50 := goodIn_r _ [499, 500] (by decide +kernel) (by decide +kernel)
set_option maxRecDepth 20000 in
theorem gpL_law_L_act_wsX00 : GoodIn wsL_law wsX00 := goodIn_r _ [513, 514, 515, 516, 517, 518, 519, 520, 521, 522, 523, 524] (by decide +kernel) (by decide +kernel)
set_option maxRecDepth 20000 in
theorem gpL_law_L_act_wsX40 : GoodIn wsL_law wsX40 := goodIn_r _ [525, 526, 527] (by decide +kernel) (by decide +kernel)
set_option maxRecDepth 20000 in
theorem gpL_law_L_act_wsX10 : GoodIn wsL_law wsX10 := goodIn_r _ [528, 529, 530, 531] (by decide +kernel) (by decide +kernel)
set_option maxRecDepth 20000 in
theorem gpL_law_L_act_wsX30 : GoodIn wsL_law wsX30 := goodIn_r _ [532, 533, 534, 535] (by decide +kernel) (by decide +kernel)
set_option maxRecDepth 20000 in
theorem gpL_law_L_act_wsX20 : GoodIn wsL_law wsX20 := goodIn_r _ [536, 537, 538, 539, 540] (by decide +kernel) (by decide +kernel)
set_option maxRecDepth 20000 in
theorem ggL_law_L_act : GoodIn wsL_law wsL_act := goodIn_ca (goodIn_ca (goodIn_ca (goodIn_ca (goodIn_ca (goodIn_ca (goodIn_ca (goodIn_ca (goodIn_ca (goodIn_ca (goodIn_ca gpL_law_L_act_0 (goodIn_app gpL_law_L_act_1 (goodIn_app gpL_law_L_act_2 (goodIn_app gpL_law_L_act_3 (goodIn_app gpL_law_L_act_4 (goodIn_app gpL_law_L_act_5 (goodIn_app gpL_law_L_act_6 (goodIn_app gpL_law_L_act_7 gpL_law_L_act_8)))))))) gpL_law_L_act_wsX60) gpL_law_L_act_wsX50) gpL_law_L_act_wsX00) gpL_law_L_act_wsX40) gpL_law_L_act_wsX10) gpL_law_L_act_wsX30) gpL_law_L_act_wsX20) (goodIn_sub (fun _ h => List.mem_append_left _ (List.mem_append_left _ (List.mem_append_right _ h))) (by decide +kernel))) (goodIn_sub (fun _ h => List.mem_append_left _ (List.mem_append_right _ h)) (by decide +kernel))) (goodIn_sub (fun _ h => List.mem_append_right _ h) (by decide +kernel))
set_option maxRecDepth 20000 in
theorem gL_law_L_act : GoodIn wsL_law (va_wsS RL 96 yL_act wsL_act) := goodIn_app (goodIn_of _ (by decide +kernel)) ggL_law_L_act
set_option maxRecDepth 20000 in
theorem ggL_law_L_below : GoodIn wsL_law wsL_below := goodIn_r _ [126, 127] (by decide +kernel) (by decide +kernel)
set_option maxRecDepth 20000 in
theorem gL_law_L_below : GoodIn wsL_law (va_wsS RL 18 yL_below wsL_below) := goodIn_app (goodIn_of _ (by decide +kernel)) ggL_law_L_below
set_option maxRecDepth 20000 in
theorem gpL_law_X5_ripe_0 : GoodIn wsL_law (.code yX5_ripe cX5_ripe 4 (some .int) :: wsX5_ripe_r1) := goodIn_r _ [384, 132, 133, 134, 135, 22, 21, 139, 140, 2, 141, 142, 143, 144, 385, 386, 387, 20, 388, 27, 28, 29, 30, 31, 32] (by decide +kernel) (by decide +kernel)
set_option maxRecDepth 20000 in
theorem gpL_law_X5_ripe_1 : GoodIn wsL_law wsX5_ripe_r2 := goodIn_r _ [389, 390, 391, 392, 33, 37, 41, 45, 49, 50, 393, 394, 395, 36, 396, 55, 397, 56, 57, 398, 399, 400, 40, 401] (by decide +kernel) (by decide +kernel)
set_option maxRecDepth 20000 in
theorem gpL_law_X5_ripe_2 : GoodIn wsL_law wsX5_ripe_r3 := goodIn_r _ [65, 66, 402, 67, 68, 403, 404, 405, 44, 406, 72, 73, 407, 74, 75, 408, 409, 410, 48, 411, 79, 80, 81, 412] (by decide +kernel) (by decide +kernel)
set_option maxRecDepth 20000 in
theorem gpL_law_X5_ripe_3 : GoodIn wsL_law wsX5_ripe_r4 := goodIn_r _ [82, 83, 413, 261, 262, 263, 414, 294, 295, 296, 297, 298, 299, 300, 301, 302, 303, 304, 305, 7, 8, 9, 306, 307] (by decide +kernel) (by decide +kernel)
set_option maxRecDepth 20000 in
theorem gpL_law_X5_ripe_4 : GoodIn wsL_law wsX5_ripe_r5 := goodIn_r _ [308, 309, 310, 311, 312, 313, 314, 251, 252, 253, 254, 255, 256, 257, 258, 245, 234, 235, 236, 259, 242, 243, 244, 260] (by decide +kernel) (by decide +kernel)
set_option maxRecDepth 20000 in
theorem gpL_law_X5_ripe_5 : GoodIn wsL_law wsX5_ripe_r6 := goodIn_r _ [264, 265, 266, 267, 212, 205, 206, 207, 268, 269, 270, 271, 272, 273, 274, 275, 276, 173, 174, 175, 315, 316, 317, 318] (by decide +kernel) (by decide +kernel)
set_option maxRecDepth 20000 in
theorem gpL_law_X5_ripe_6 : GoodIn wsL_law wsX5_ripe_r7 := goodIn_r _ [319, 320, 321, 322, 323, 324, 325, 326, 209, 210, 211, 327, 328, 329, 330, 331, 332, 333, 334, 161, 162, 163, 335, 185] (by decide +kernel) (by decide +kernel)
set_option maxRecDepth 20000 in
theorem gpL_law_X5_ripe_7 : GoodIn wsL_law wsX5_ripe_r8 := goodIn_r _ [186, 187, 188, 177, 178, 179, 336, 337, 338, 339, 340, 341, 342, 343, 344, 345, 346, 347, 348, 349, 350, 351, 352, 353] (by decide +kernel) (by decide +kernel)
set_option maxRecDepth 20000 in
theorem gpL_law_X5_ripe_8 : GoodIn wsL_law wsX5_ripe_r9 := goodIn_r _ [354, 355, 356, 357, 358, 359, 360, 361, 165, 166, 167, 362, 363, 364, 365, 366, 367, 368, 369] (by decide +kernel) (by decide +kernel)
set_option maxRecDepth 20000 in
theorem gpL_law_X5_ripe_wsX50 : GoodIn wsL_law wsX50 := goodIn_r _ [499, 500] (by decide +kernel) (by decide +kernel)
set_option maxRecDepth 20000 in
theorem gpL_law_X5_ripe_wsX00 : GoodIn wsL_law wsX00 := goodIn_r _ [513, 514, 515, 516, 517, 518, 519, 520, 521, 522, 523, 524] (by decide +kernel) (by decide +kernel)
set_option maxRecDepth 20000 in
theorem gpL_law_X5_ripe_wsX40 : GoodIn wsL_law wsX40 := goodIn_r _ [525, 526, 527] (by decide +kernel) (by decide +kernel)
set_option maxRecDepth 20000 in
theorem gpL_law_X5_ripe_wsX10 : GoodIn wsL_law wsX10 := goodIn_r _ [528, 529, 530, 531] (by decide +kernel) (by decide +kernel)
set_option maxRecDepth 20000 in
theorem gpL_law_X5_ripe_wsX30 : GoodIn wsL_law wsX30 := goodIn_r _ [532, 533, 534, 535] (by decide +kernel) (by decide +kernel)
set_option maxRecDepth 20000 in
theorem gpL_law_X5_ripe_wsX20 : GoodIn wsL_law wsX20 := goodIn_r _ [536, 537, 538, 539, 540] (by decide +kernel) (by decide +kernel)
set_option maxRecDepth 20000 in
theorem ggL_law_X5_ripe : GoodIn wsL_law wsX5_ripe := goodIn_ca (goodIn_ca (goodIn_ca (goodIn_ca (goodIn_ca (goodIn_ca (goodIn_ca (goodIn_ca (goodIn_ca gpL_law_X5_ripe_0 (goodIn_app gpL_law_X5_ripe_1 (goodIn_app gpL_law_X5_ripe_2 (goodIn_app gpL_law_X5_ripe_3 (goodIn_app gpL_law_X5_ripe_4 (goodIn_app gpL_law_X5_ripe_5 (goodIn_app gpL_law_X5_ripe_6 (goodIn_app gpL_law_X5_ripe_7 gpL_law_X5_ripe_8)))))))) gpL_law_X5_ripe_wsX50) gpL_law_X5_ripe_wsX00) gpL_law_X5_ripe_wsX40) gpL_law_X5_ripe_wsX10) gpL_law_X5_ripe_wsX30) gpL_law_X5_ripe_wsX20) (goodIn_sub (fun _ h => List.mem_append_left _ (List.mem_append_left _ (List.mem_append_right _ h))) (by decide +kernel))) (goodIn_sub (fun _ h => List.mem_append_left _ (List.mem_append_right _ h)) (by decide +kernel))
set_option maxRecDepth 20000 in
theorem gL_law_X5_ripe : GoodIn wsL_law (wsV RL 111 RX5 yX5_ripe wsX5_ripe) := goodIn_app (goodIn_of _ (by decide +kernel)) ggL_law_X5_ripe
set_option maxRecDepth 20000 in
theorem ggL_law_X5_about : GoodIn wsL_law wsX5_about := goodIn_ca (goodIn_r _ [418, 132, 133, 21, 139, 140, 2, 141, 419, 420, 421, 36, 422, 423, 173, 174, 175, 55, 424, 261, 262, 263, 56, 425, 320, 321, 322, 57, 499, 500, 513, 514, 515, 516, 517, 518, 519, 520, 521, 522, 523, 524, 525, 526, 527] (by decide +kernel) (by decide +kernel)) (goodIn_sub (fun _ h => List.mem_append_left _ (List.mem_append_left _ (List.mem_append_right _ h))) (by decide +kernel))
set_option maxRecDepth 20000 in
theorem gL_law_X5_about : GoodIn wsL_law (wsV RL 115 RX5 yX5_about wsX5_about) := goodIn_app (goodIn_of _ (by decide +kernel)) ggL_law_X5_about
set_option maxRecDepth 20000 in
theorem gpL_law_X5_count_0 : GoodIn wsL_law (.code yX5_count cX5_count 2 (some .int) :: wsX5_count_r1) := goodIn_r _ [429, 132, 133, 21, 139, 140, 2, 141, 430, 431, 432, 20, 433, 27, 28, 29, 30, 31, 49, 37, 272, 273, 274, 275, 434] (by decide +kernel) (by decide +kernel)
set_option maxRecDepth 20000 in
theorem gpL_law_X5_count_1 : GoodIn wsL_law wsX5_count_r2 := goodIn_r _ [435, 436, 437, 50, 438, 439, 440, 36, 441, 55, 442, 443, 444, 445, 32] (by decide +kernel) (by decide +kernel)
set_option maxRecDepth 20000 in
theorem gpL_law_X5_count_wsX50 : GoodIn wsL_law wsX50 := goodIn_r _ [499, 500] (by decide +kernel) (by decide +kernel)
set_option maxRecDepth 20000 in
theorem gpL_law_X5_count_wsX00 : GoodIn wsL_law wsX00 := goodIn_r _ [513, 514, 515, 516, 517, 518, 519, 520, 521, 522, 523, 524] (by decide +kernel) (by decide +kernel)
set_option maxRecDepth 20000 in
theorem gpL_law_X5_count_wsX20 : GoodIn wsL_law wsX20 := goodIn_r _ [536, 537, 538, 539, 540] (by decide +kernel) (by decide +kernel)
set_option maxRecDepth 20000 in
theorem gpL_law_X5_count_wsX40 : GoodIn wsL_law wsX40 := goodIn_r _ [525, 526, 527] (by decide +kernel) (by decide +kernel)
set_option maxRecDepth 20000 in
theorem ggL_law_X5_count : GoodIn wsL_law wsX5_count := goodIn_ca (goodIn_ca (goodIn_ca (goodIn_ca (goodIn_ca (goodIn_ca gpL_law_X5_count_0 gpL_law_X5_count_1) gpL_law_X5_count_wsX50) gpL_law_X5_count_wsX00) gpL_law_X5_count_wsX20) gpL_law_X5_count_wsX40) (goodIn_sub (fun _ h => List.mem_append_left _ (List.mem_append_left _ (List.mem_append_right _ h))) (by decide +kernel))
set_option maxRecDepth 20000 in
theorem gL_law_X5_count : GoodIn wsL_law (wsV RL 118 RX5 yX5_count wsX5_count) := goodIn_app (goodIn_of _ (by decide +kernel)) ggL_law_X5_count
set_option maxRecDepth 20000 in
theorem gpL_law_X5_foresee_0 : GoodIn wsL_law (.code yX5_foresee cX5_foresee 3 (some .int) :: wsX5_foresee_r1) := goodIn_r _ [449, 134, 135, 132, 133, 22, 21, 142, 143, 2, 144, 139, 140, 141, 385, 386, 387, 20, 388, 27, 28, 29, 30, 31, 32] (by decide +kernel) (by decide +kernel)
set_option maxRecDepth 20000 in
theorem gpL_law_X5_foresee_1 : GoodIn wsL_law wsX5_foresee_r2 := goodIn_r _ [389, 390, 391, 392, 33, 37, 41, 45, 49, 50, 393, 394, 395, 36, 396, 55, 397, 56, 57, 398, 399, 400, 40, 401] (by decide +kernel) (by decide +kernel)
set_option maxRecDepth 20000 in
theorem gpL_law_X5_foresee_2 : GoodIn wsL_law wsX5_foresee_r3 := goodIn_r _ [65, 66, 402, 67, 68, 403, 404, 405, 44, 406, 72, 73, 407, 74, 75, 408, 409, 410, 48, 411, 79, 80, 81, 412] (by decide +kernel) (by decide +kernel)
set_option maxRecDepth 20000 in
theorem gpL_law_X5_foresee_3 : GoodIn wsL_law wsX5_foresee_r4 := goodIn_r _ [82, 83, 289, 290, 291, 292, 293, 294, 295, 296, 297, 298, 299, 300, 301, 302, 303, 304, 305, 7, 8, 9, 306, 307] (by decide +kernel) (by decide +kernel)
set_option maxRecDepth 20000 in
theorem gpL_law_X5_foresee_4 : GoodIn wsL_law wsX5_foresee_r5 := goodIn_r _ [308, 309, 310, 311, 312, 313, 314, 251, 252, 253, 254, 255, 256, 257, 258, 245, 234, 235, 236, 259, 242, 243, 244, 260] (by decide +kernel) (by decide +kernel)
set_option maxRecDepth 20000 in
theorem gpL_law_X5_foresee_5 : GoodIn wsL_law wsX5_foresee_r6 := goodIn_r _ [261, 262, 263, 264, 265, 266, 267, 212, 205, 206, 207, 268, 269, 270, 271, 272, 273, 274, 275, 276, 173, 174, 175, 315] (by decide +kernel) (by decide +kernel)
set_option maxRecDepth 20000 in
theorem gpL_law_X5_foresee_6 : GoodIn wsL_law wsX5_foresee_r7 := goodIn_r _ [316, 317, 318, 319, 320, 321, 322, 323, 324, 325, 326, 209, 210, 211, 327, 328, 329, 330, 331, 332, 333, 334, 161, 162] (by decide +kernel) (by decide +kernel)
set_option maxRecDepth 20000 in
theorem gpL_law_X5_foresee_7 : GoodIn wsL_law wsX5_foresee_r8 := goodIn_r _ [163, 335, 185, 186, 187, 188, 177, 178, 179, 336, 337, 338, 339, 340, 341, 342, 343, 344, 345, 346, 347, 348, 349, 350] (by decide +kernel) (by decide +kernel)
set_option maxRecDepth 20000 in
theorem gpL_law_X5_foresee_8 : GoodIn wsL_law wsX5_foresee_r9 := goodIn_r _ [351, 352, 353, 354, 355, 356, 357, 358, 359, 360, 361, 165, 166, 167, 362, 363, 364, 365, 366, 367, 368, 369, 430, 431] (by decide +kernel) (by decide +kernel)
set_option maxRecDepth 20000 in
theorem gpL_law_X5_foresee_9 : GoodIn wsL_law wsX5_foresee_r10 := goodIn_r _ [432, 433, 434, 435, 436, 437, 438, 439, 440, 441, 442, 443, 444, 445] (by decide +kernel) (by decide +kernel)
set_option maxRecDepth 20000 in
theorem gpL_law_X5_foresee_wsX50 : GoodIn wsL_law wsX50 := goodIn_r _ [499, 500] (by decide +kernel) (by decide +kernel)
set_option maxRecDepth 20000 in
theorem gpL_law_X5_foresee_wsX00 : GoodIn wsL_law wsX00 := goodIn_r _ [513, 514, 515, 516, 517, 518, 519, 520, 521, 522, 523, 524] (by decide +kernel) (by decide +kernel)
set_option maxRecDepth 20000 in
theorem gpL_law_X5_foresee_wsX40 : GoodIn wsL_law wsX40 := goodIn_r _ [525, 526, 527] (by decide +kernel) (by decide +kernel)
set_option maxRecDepth 20000 in
theorem gpL_law_X5_foresee_wsX10 : GoodIn wsL_law wsX10 := goodIn_r _ [528, 529, 530, 531] (by decide +kernel) (by decide +kernel)
set_option maxRecDepth 20000 in
theorem gpL_law_X5_foresee_wsX30 : GoodIn wsL_law wsX30 := goodIn_r _ [532, 533, 534, 535] (by decide +kernel) (by decide +kernel)
set_option maxRecDepth 20000 in
theorem gpL_law_X5_foresee_wsX20 : GoodIn wsL_law wsX20 := goodIn_r _ [536, 537, 538, 539, 540] (by decide +kernel) (by decide +kernel)
set_option maxRecDepth 20000 in
theorem ggL_law_X5_foresee : GoodIn wsL_law wsX5_foresee := goodIn_ca (goodIn_ca (goodIn_ca (goodIn_ca (goodIn_ca (goodIn_ca (goodIn_ca (goodIn_ca (goodIn_ca gpL_law_X5_foresee_0 (goodIn_app gpL_law_X5_foresee_1 (goodIn_app gpL_law_X5_foresee_2 (goodIn_app gpL_law_X5_foresee_3 (goodIn_app gpL_law_X5_foresee_4 (goodIn_app gpL_law_X5_foresee_5 (goodIn_app gpL_law_X5_foresee_6 (goodIn_app gpL_law_X5_foresee_7 (goodIn_app gpL_law_X5_foresee_8 gpL_law_X5_foresee_9))))))))) gpL_law_X5_foresee_wsX50) gpL_law_X5_foresee_wsX00) gpL_law_X5_foresee_wsX40) gpL_law_X5_foresee_wsX10) gpL_law_X5_foresee_wsX30) gpL_law_X5_foresee_wsX20) (goodIn_sub (fun _ h => List.mem_append_left _ (List.mem_append_right _ h)) (by decide +kernel))) (goodIn_sub (fun _ h => List.mem_append_left _ (List.mem_append_left _ (List.mem_append_right _ h))) (by decide +kernel))
set_option maxRecDepth 20000 in
theorem gL_law_X5_foresee : GoodIn wsL_law (wsV RL 121 RX5 yX5_foresee wsX5_foresee) := goodIn_app (goodIn_of _ (by decide +kernel)) ggL_law_X5_foresee
set_option maxRecDepth 20000 in
theorem gpL_law_X5_mould_0 : GoodIn wsL_law (.code yX5_mould cX5_mould 3 (some .int) :: wsX5_mould_r1) := goodIn_r _ [453, 132, 133, 21, 204, 205, 206, 40, 207, 65, 139, 140, 2, 141, 454, 455, 456, 20, 457, 41, 45, 327, 328, 329, 330] (by decide +kernel) (by decide +kernel)
set_option maxRecDepth 20000 in
theorem gpL_law_X5_mould_1 : GoodIn wsL_law wsX5_mould_r2 := goodIn_r _ [66, 212, 264, 265, 266, 267, 67, 326, 209, 210, 211, 68, 458, 238, 239, 44, 240, 72, 241, 242, 243, 244, 75, 245] (by decide +kernel) (by decide +kernel)
set_option maxRecDepth 20000 in
theorem gpL_law_X5_mould_2 : GoodIn wsL_law wsX5_mould_r3 := goodIn_r _ [234, 235, 236] (by decide +kernel) (by decide +kernel)
set_option maxRecDepth 20000 in
theorem gpL_law_X5_mould_wsX50 : GoodIn wsL_law wsX50 := goodIn_r _ [499, 500] (by decide +kernel) (by decide +kernel)
set_option maxRecDepth 20000 in
theorem gpL_law_X5_mould_wsX00 : GoodIn wsL_law wsX00 := goodIn_r _ [513, 514, 515, 516, 517, 518, 519, 520, 521, 522, 523, 524] (by decide +kernel) (by decide +kernel)
set_option maxRecDepth 20000 in
theorem gpL_law_X5_mould_wsX10 : GoodIn wsL_law wsX10 := goodIn_r _ [528, 529, 530, 531] (by decide +kernel) (by decide +kernel)
set_option maxRecDepth 20000 in
theorem gpL_law_X5_mould_wsX30 : GoodIn wsL_law wsX30 := goodIn_r _ [532, 533, 534, 535] (by decide +kernel) (by decide +kernel)
set_option maxRecDepth 20000 in
theorem ggL_law_X5_mould : GoodIn wsL_law wsX5_mould := goodIn_ca (goodIn_ca (goodIn_ca (goodIn_ca (goodIn_ca (goodIn_ca gpL_law_X5_mould_0 (goodIn_app gpL_law_X5_mould_1 gpL_law_X5_mould_2)) gpL_law_X5_mould_wsX50) gpL_law_X5_mould_wsX00) gpL_law_X5_mould_wsX10) gpL_law_X5_mould_wsX30) (goodIn_sub (fun _ h => List.mem_append_left _ (List.mem_append_left _ (List.mem_append_right _ h))) (by decide +kernel))
set_option maxRecDepth 20000 in
theorem gL_law_X5_mould : GoodIn wsL_law (wsV RL 129 RX5 yX5_mould wsX5_mould) := goodIn_app (goodIn_of _ (by decide +kernel)) ggL_law_X5_mould
set_option maxRecDepth 20000 in
theorem gpL_law_X5_told_0 : GoodIn wsL_law (.code yX5_told cX5_told 3 (some .int) :: wsX5_told_r1) := goodIn_r _ [462, 132, 133, 21, 233, 234, 235, 44, 236, 72, 139, 140, 2, 141, 463, 464, 465, 20, 466, 45, 268, 269, 270, 271, 73] (by decide +kernel) (by decide +kernel)
set_option maxRecDepth 20000 in
theorem gpL_law_X5_told_1 : GoodIn wsL_law wsX5_told_r2 := goodIn_r _ [245, 255, 256, 257, 258, 74, 259, 242, 243, 244, 75, 314, 251, 252, 253, 37, 41, 254, 7, 8, 9, 260, 261, 262] (by decide +kernel) (by decide +kernel)
set_option maxRecDepth 20000 in
theorem gpL_law_X5_told_2 : GoodIn wsL_law wsX5_told_r3 := goodIn_r _ [36, 263, 56, 264, 265, 266, 40, 267, 67, 212, 205, 206, 207, 65, 272, 273, 274, 275, 29, 49, 276, 173, 174, 175] (by decide +kernel) (by decide +kernel)
set_option maxRecDepth 20000 in
theorem gpL_law_X5_told_3 : GoodIn wsL_law wsX5_told_r4 := goodIn_r _ [55] (by decide +kernel) (by decide +kernel)
set_option maxRecDepth 20000 in
theorem gpL_law_X5_told_wsX50 : GoodIn wsL_law wsX50 := goodIn_r _ [499, 500] (by decide +kernel) (by decide +kernel)
set_option maxRecDepth 20000 in
theorem gpL_law_X5_told_wsX00 : GoodIn wsL_law wsX00 := goodIn_r _ [513, 514, 515, 516, 517, 518, 519, 520, 521, 522, 523, 524] (by decide +kernel) (by decide +kernel)
set_option maxRecDepth 20000 in
theorem gpL_law_X5_told_wsX30 : GoodIn wsL_law wsX30 := goodIn_r _ [532, 533, 534, 535] (by decide +kernel) (by decide +kernel)
set_option maxRecDepth 20000 in
theorem gpL_law_X5_told_wsX40 : GoodIn wsL_law wsX40 := goodIn_r _ [525, 526, 527] (by decide +kernel) (by decide +kernel)
set_option maxRecDepth 20000 in
theorem gpL_law_X5_told_wsX10 : GoodIn wsL_law wsX10 := goodIn_r _ [528, 529, 530, 531] (by decide +kernel) (by decide +kernel)
set_option maxRecDepth 20000 in
theorem gpL_law_X5_told_wsX20 : GoodIn wsL_law wsX20 := goodIn_r _ [536, 537, 538, 539, 540] (by decide +kernel) (by decide +kernel)
set_option maxRecDepth 20000 in
theorem ggL_law_X5_told : GoodIn wsL_law wsX5_told := goodIn_ca (goodIn_ca (goodIn_ca (goodIn_ca (goodIn_ca (goodIn_ca (goodIn_ca (goodIn_ca gpL_law_X5_told_0 (goodIn_app gpL_law_X5_told_1 (goodIn_app gpL_law_X5_told_2 gpL_law_X5_told_3))) gpL_law_X5_told_wsX50) gpL_law_X5_told_wsX00) gpL_law_X5_told_wsX30) gpL_law_X5_told_wsX40) gpL_law_X5_told_wsX10) gpL_law_X5_told_wsX20) (goodIn_sub (fun _ h => List.mem_append_left _ (List.mem_append_left _ (List.mem_append_right _ h))) (by decide +kernel))
set_option maxRecDepth 20000 in
theorem gL_law_X5_told : GoodIn wsL_law (wsV RL 132 RX5 yX5_told wsX5_told) := goodIn_app (goodIn_of _ (by decide +kernel)) ggL_law_X5_told
set_option maxRecDepth 20000 in
theorem gpL_law_X5_pass_0 : GoodIn wsL_law (.code yX5_pass cX5_pass 3 (some .int) :: wsX5_pass_r1) := goodIn_r _ [288, 134, 135, 21, 142, 143, 2, 144, 289, 290, 291, 20, 292, 293, 294, 295, 296, 37, 33, 27, 45, 297, 298, 299, 300] (by decide +kernel) (by decide +kernel)
set_option maxRecDepth 20000 in
theorem gpL_law_X5_pass_1 : GoodIn wsL_law wsX5_pass_r2 := goodIn_r _ [301, 302, 303, 36, 304, 55, 56, 305, 7, 8, 9, 306, 307, 308, 309, 310, 311, 312, 313, 49, 41, 30, 31, 314] (by decide +kernel) (by decide +kernel)
set_option maxRecDepth 20000 in
theorem gpL_law_X5_pass_2 : GoodIn wsL_law wsX5_pass_r3 := goodIn_r _ [251, 252, 253, 254, 255, 256, 257, 44, 258, 74, 245, 234, 235, 236, 72, 259, 242, 243, 244, 75, 260, 261, 262, 263] (by decide +kernel) (by decide +kernel)
set_option maxRecDepth 20000 in
theorem gpL_law_X5_pass_3 : GoodIn wsL_law wsX5_pass_r4 := goodIn_r _ [140, 141, 264, 265, 266, 40, 267, 67, 212, 205, 206, 207, 65, 268, 269, 270, 271, 73, 272, 273, 274, 275, 29, 276] (by decide +kernel) (by decide +kernel)
set_option maxRecDepth 20000 in
theorem gpL_law_X5_pass_4 : GoodIn wsL_law wsX5_pass_r5 := goodIn_r _ [173, 174, 175, 315, 316, 317, 318, 319, 320, 321, 322, 57, 323, 324, 325, 326, 209, 210, 211, 68, 327, 328, 329, 330] (by decide +kernel) (by decide +kernel)
set_option maxRecDepth 20000 in
theorem gpL_law_X5_pass_5 : GoodIn wsL_law wsX5_pass_r6 := goodIn_r _ [66, 331, 332, 333, 48, 334, 79, 81, 82, 83, 80, 161, 162, 163, 139, 335, 185, 186, 187, 188, 177, 178, 179, 336] (by decide +kernel) (by decide +kernel)
set_option maxRecDepth 20000 in
theorem gpL_law_X5_pass_6 : GoodIn wsL_law wsX5_pass_r7 := goodIn_r _ [337, 338, 339, 340, 341, 342, 343, 344, 345, 346, 347, 348, 349, 350, 351, 352, 353, 354, 355, 356, 357, 358, 359, 360] (by decide +kernel) (by decide +kernel)
set_option maxRecDepth 20000 in
theorem gpL_law_X5_pass_7 : GoodIn wsL_law wsX5_pass_r8 := goodIn_r _ [361, 165, 166, 167, 50, 362, 363, 364, 365, 366, 367, 368, 369] (by decide +kernel) (by decide +kernel)
set_option maxRecDepth 20000 in
theorem gpL_law_X5_pass_wsX50 : GoodIn wsL_law wsX50 := goodIn_r _ [499, 500] (by decide +kernel) (by decide +kernel)
set_option maxRecDepth 20000 in
theorem gpL_law_X5_pass_wsX00 : GoodIn wsL_law wsX00 := goodIn_r _ [513, 514, 515, 516, 517, 518, 519, 520, 521, 522, 523, 524] (by decide +kernel) (by decide +kernel)
set_option maxRecDepth 20000 in
theorem gpL_law_X5_pass_wsX30 : GoodIn wsL_law wsX30 := goodIn_r _ [532, 533, 534, 535] (by decide +kernel) (by decide +kernel)
set_option maxRecDepth 20000 in
theorem gpL_law_X5_pass_wsX40 : GoodIn wsL_law wsX40 := goodIn_r _ [525, 526, 527] (by decide +kernel) (by decide +kernel)
set_option maxRecDepth 20000 in
theorem gpL_law_X5_pass_wsX10 : GoodIn wsL_law wsX10 := goodIn_r _ [528, 529, 530, 531] (by decide +kernel) (by decide +kernel)
set_option maxRecDepth 20000 in
theorem gpL_law_X5_pass_wsX20 : GoodIn wsL_law wsX20 := goodIn_r _ [536, 537, 538, 539, 540] (by decide +kernel) (by decide +kernel)
set_option maxRecDepth 20000 in
theorem ggL_law_X5_pass : GoodIn wsL_law wsX5_pass := goodIn_ca (goodIn_ca (goodIn_ca (goodIn_ca (goodIn_ca (goodIn_ca (goodIn_ca (goodIn_ca gpL_law_X5_pass_0 (goodIn_app gpL_law_X5_pass_1 (goodIn_app gpL_law_X5_pass_2 (goodIn_app gpL_law_X5_pass_3 (goodIn_app gpL_law_X5_pass_4 (goodIn_app gpL_law_X5_pass_5 (goodIn_app gpL_law_X5_pass_6 gpL_law_X5_pass_7))))))) gpL_law_X5_pass_wsX50) gpL_law_X5_pass_wsX00) gpL_law_X5_pass_wsX30) gpL_law_X5_pass_wsX40) gpL_law_X5_pass_wsX10) gpL_law_X5_pass_wsX20) (goodIn_sub (fun _ h => List.mem_append_left _ (List.mem_append_right _ h)) (by decide +kernel))
set_option maxRecDepth 20000 in
theorem gL_law_X5_pass : GoodIn wsL_law (wsV RL 100 RX5 yX5_pass wsX5_pass) := goodIn_app (goodIn_of _ (by decide +kernel)) ggL_law_X5_pass
set_option maxRecDepth 20000 in
set_option maxHeartbeats 4000000 in
theorem gpL_law_X6_pass_0 : GoodIn wsL_law (.code yX6_pass cX6_pass 12 (some .int) :: wsX6_pass_r1) := by
  show ∀ w ∈ ([_, _, _, _, _, _, _, _, _, _, _, _, _, _, _, _, _, _, _, _, _, _, _, _, _] : List Cond), _
  exact List.forall_mem_cons.mpr ⟨⟨List.mem_of_getElem? (i := 373) rfl, good_of_word rfl⟩, List.forall_mem_cons.mpr ⟨⟨List.mem_of_getElem? (i := 100) rfl, good_of_word rfl⟩, List.forall_mem_cons.mpr ⟨⟨List.mem_of_getElem? (i := 97) rfl, good_of_word rfl⟩, List.forall_mem_cons.mpr ⟨⟨List.mem_of_getElem? (i := 374) rfl, good_of_word rfl⟩, List.forall_mem_cons.mpr ⟨⟨List.mem_of_getElem? (i := 375) rfl, good_of_word rfl⟩, List.forall_mem_cons.mpr ⟨⟨List.mem_of_getElem? (i := 7) rfl, good_of_word rfl⟩, List.forall_mem_cons.mpr ⟨⟨List.mem_of_getElem? (i := 8) rfl, good_of_word rfl⟩, List.forall_mem_cons.mpr ⟨⟨List.mem_of_getElem? (i := 9) rfl, good_of_word rfl⟩, List.forall_mem_cons.mpr ⟨⟨List.mem_of_getElem? (i := 102) rfl, good_of_word rfl⟩, List.forall_mem_cons.mpr ⟨⟨List.mem_of_getElem? (i := 101) rfl, good_of_word rfl⟩, List.forall_mem_cons.mpr ⟨⟨List.mem_of_getElem? (i := 103) rfl, good_of_word rfl⟩, List.forall_mem_cons.mpr ⟨⟨List.mem_of_getElem? (i := 4) rfl, good_of_word rfl⟩, List.forall_mem_cons.mpr ⟨⟨List.mem_of_getElem? (i := 376) rfl, good_of_word rfl⟩, List.forall_mem_cons.mpr ⟨⟨List.mem_of_getElem? (i := 377) rfl, good_of_word rfl⟩, List.forall_mem_cons.mpr ⟨⟨List.mem_of_getElem? (i := 105) rfl, good_of_word rfl⟩, List.forall_mem_cons.mpr ⟨⟨List.mem_of_getElem? (i := 99) rfl, good_of_word rfl⟩, List.forall_mem_cons.mpr ⟨⟨List.mem_of_getElem? (i := 378) rfl, good_of_word rfl⟩, List.forall_mem_cons.mpr ⟨⟨List.mem_of_getElem? (i := 278) rfl, good_of_word rfl⟩, List.forall_mem_cons.mpr ⟨⟨List.mem_of_getElem? (i := 279) rfl, good_of_word rfl⟩, List.forall_mem_cons.mpr ⟨⟨List.mem_of_getElem? (i := 91) rfl, good_of_word rfl⟩, List.forall_mem_cons.mpr ⟨⟨List.mem_of_getElem? (i := 280) rfl, good_of_word rfl⟩, List.forall_mem_cons.mpr ⟨⟨List.mem_of_getElem? (i := 281) rfl, good_of_word rfl⟩, List.forall_mem_cons.mpr ⟨⟨List.mem_of_getElem? (i := 282) rfl, good_of_word rfl⟩, List.forall_mem_cons.mpr ⟨⟨List.mem_of_getElem? (i := 283) rfl, good_of_word rfl⟩, List.forall_mem_cons.mpr ⟨⟨List.mem_of_getElem? (i := 284) rfl, good_of_word rfl⟩, fun _ h => absurd h List.not_mem_nil⟩⟩⟩⟩⟩⟩⟩⟩⟩⟩⟩⟩⟩⟩⟩⟩⟩⟩⟩⟩⟩⟩⟩⟩⟩
set_option maxRecDepth 20000 in
theorem gpL_law_X6_pass_1 : GoodIn wsL_law wsX6_pass_r2 := goodIn_r _ [96, 379, 190, 191, 380, 150, 151] (by decide +kernel) (by decide +kernel)
set_option maxRecDepth 20000 in
theorem gpL_law_X6_pass_wsX60 : GoodIn wsL_law wsX60 := goodIn_r _ [501, 502, 503, 504, 505, 506, 507, 508, 509, 510, 511, 512] (by decide +kernel) (by decide +kernel)
set_option maxRecDepth 20000 in
theorem ggL_law_X6_pass : GoodIn wsL_law wsX6_pass := (goodIn_ca (goodIn_ca gpL_law_X6_pass_0 gpL_law_X6_pass_1) gpL_law_X6_pass_wsX60)
set_option maxRecDepth 20000 in
theorem gL_law_X6_pass : GoodIn wsL_law (wsV RL 103 RX6 yX6_pass wsX6_pass) := goodIn_app (goodIn_of _ (by decide +kernel)) ggL_law_X6_pass
set_option maxRecDepth 20000 in
set_option maxHeartbeats 4000000 in
theorem gpL_law_X6_isSame_0 : GoodIn wsL_law (.code yX6_isSame cX6_isSame 6 (some .boolean) :: wsX6_isSame_r1) := by
  show ∀ w ∈ ([_, _, _, _, _, _, _, _, _, _, _, _, _, _, _, _, _, _, _, _, _, _, _, _, _] : List Cond), _
  exact List.forall_mem_cons.mpr ⟨⟨List.mem_of_getElem? (i := 470) rfl, good_of_word rfl⟩, List.forall_mem_cons.mpr ⟨⟨List.mem_of_getElem? (i := 100) rfl, good_of_word rfl⟩, List.forall_mem_cons.mpr ⟨⟨List.mem_of_getElem? (i := 101) rfl, good_of_word rfl⟩, List.forall_mem_cons.mpr ⟨⟨List.mem_of_getElem? (i := 102) rfl, good_of_word rfl⟩, List.forall_mem_cons.mpr ⟨⟨List.mem_of_getElem? (i := 103) rfl, good_of_word rfl⟩, List.forall_mem_cons.mpr ⟨⟨List.mem_of_getElem? (i := 105) rfl, good_of_word rfl⟩, List.forall_mem_cons.mpr ⟨⟨List.mem_of_getElem? (i := 471) rfl, good_of_word rfl⟩, List.forall_mem_cons.mpr ⟨⟨List.mem_of_getElem? (i := 416) rfl, good_of_word rfl⟩, List.forall_mem_cons.mpr ⟨⟨List.mem_of_getElem? (i := 417) rfl, good_of_word rfl⟩, List.forall_mem_cons.mpr ⟨⟨List.mem_of_getElem? (i := 2) rfl, good_of_word rfl⟩, List.forall_mem_cons.mpr ⟨⟨List.mem_of_getElem? (i := 418) rfl, good_of_word rfl⟩, List.forall_mem_cons.mpr ⟨⟨List.mem_of_getElem? (i := 132) rfl, good_of_word rfl⟩, List.forall_mem_cons.mpr ⟨⟨List.mem_of_getElem? (i := 133) rfl, good_of_word rfl⟩, List.forall_mem_cons.mpr ⟨⟨List.mem_of_getElem? (i := 21) rfl, good_of_word rfl⟩, List.forall_mem_cons.mpr ⟨⟨List.mem_of_getElem? (i := 139) rfl, good_of_word rfl⟩, List.forall_mem_cons.mpr ⟨⟨List.mem_of_getElem? (i := 140) rfl, good_of_word rfl⟩, List.forall_mem_cons.mpr ⟨⟨List.mem_of_getElem? (i := 141) rfl, good_of_word rfl⟩, List.forall_mem_cons.mpr ⟨⟨List.mem_of_getElem? (i := 419) rfl, good_of_word rfl⟩, List.forall_mem_cons.mpr ⟨⟨List.mem_of_getElem? (i := 420) rfl, good_of_word rfl⟩, List.forall_mem_cons.mpr ⟨⟨List.mem_of_getElem? (i := 421) rfl, good_of_word rfl⟩, List.forall_mem_cons.mpr ⟨⟨List.mem_of_getElem? (i := 36) rfl, good_of_word rfl⟩, List.forall_mem_cons.mpr ⟨⟨List.mem_of_getElem? (i := 422) rfl, good_of_word rfl⟩, List.forall_mem_cons.mpr ⟨⟨List.mem_of_getElem? (i := 423) rfl, good_of_word rfl⟩, List.forall_mem_cons.mpr ⟨⟨List.mem_of_getElem? (i := 173) rfl, good_of_word rfl⟩, List.forall_mem_cons.mpr ⟨⟨List.mem_of_getElem? (i := 174) rfl, good_of_word rfl⟩, fun _ h => absurd h List.not_mem_nil⟩⟩⟩⟩⟩⟩⟩⟩⟩⟩⟩⟩⟩⟩⟩⟩⟩⟩⟩⟩⟩⟩⟩⟩⟩
set_option maxRecDepth 20000 in
theorem gpL_law_X6_isSame_1 : GoodIn wsL_law wsX6_isSame_r2 := goodIn_r _ [175, 55, 424, 261, 262, 263, 56, 425, 320, 321, 322, 57, 472, 451, 452, 453, 204, 205, 206, 40, 207, 65, 454, 455] (by decide +kernel) (by decide +kernel)
set_option maxRecDepth 20000 in
theorem gpL_law_X6_isSame_2 : GoodIn wsL_law wsX6_isSame_r3 := goodIn_r _ [456, 20, 457, 41, 45, 327, 328, 329, 330, 66, 212, 264, 265, 266, 267, 67, 326, 209, 210, 211, 68, 458, 238, 239] (by decide +kernel) (by decide +kernel)
set_option maxRecDepth 20000 in
theorem gpL_law_X6_isSame_3 : GoodIn wsL_law wsX6_isSame_r4 := goodIn_r _ [44, 240, 72, 241, 242, 243, 244, 75, 245, 234, 235, 236, 473, 460, 461, 462, 233, 463, 464, 465, 466, 268, 269, 270] (by decide +kernel) (by decide +kernel)
set_option maxRecDepth 20000 in
theorem gpL_law_X6_isSame_4 : GoodIn wsL_law wsX6_isSame_r5 := goodIn_r _ [271, 73, 255, 256, 257, 258, 74, 259, 314, 251, 252, 253, 37, 254, 7, 8, 9, 260, 272, 273, 274, 275, 29, 49] (by decide +kernel) (by decide +kernel)
set_option maxRecDepth 20000 in
theorem gpL_law_X6_isSame_5 : GoodIn wsL_law wsX6_isSame_r6 := goodIn_r _ [276, 378, 278, 279, 91, 280, 281, 282, 283, 284, 96, 474, 475, 476, 477, 478, 350, 351, 48, 352, 79, 479, 480, 481] (by decide +kernel) (by decide +kernel)
set_option maxRecDepth 20000 in
theorem gpL_law_X6_isSame_6 : GoodIn wsL_law wsX6_isSame_r7 := goodIn_r _ [482, 483, 354, 355, 356, 81, 349, 484, 358, 359, 360, 82, 485, 346, 347, 348, 83, 486, 487, 488, 489, 156, 157, 158] (by decide +kernel) (by decide +kernel)
set_option maxRecDepth 20000 in
theorem gpL_law_X6_isSame_7 : GoodIn wsL_law wsX6_isSame_r8 := goodIn_r _ [159, 50, 490, 427, 428, 429, 430, 431, 432, 433, 27, 28, 30, 31, 434, 435, 436, 437, 438, 439, 440, 441, 442, 443] (by decide +kernel) (by decide +kernel)
set_option maxRecDepth 20000 in
set_option maxHeartbeats 4000000 in
theorem gpL_law_X6_isSame_8 : GoodIn wsL_law wsX6_isSame_r9 := by
  show ∀ w ∈ ([_, _, _, _, _, _, _, _, _, _, _, _, _, _, _, _, _, _] : List Cond), _
  exact List.forall_mem_cons.mpr ⟨⟨List.mem_of_getElem? (i := 444) rfl, good_of_word rfl⟩, List.forall_mem_cons.mpr ⟨⟨List.mem_of_getElem? (i := 445) rfl, good_of_word rfl⟩, List.forall_mem_cons.mpr ⟨⟨List.mem_of_getElem? (i := 32) rfl, good_of_word rfl⟩, List.forall_mem_cons.mpr ⟨⟨List.mem_of_getElem? (i := 491) rfl, good_of_word rfl⟩, List.forall_mem_cons.mpr ⟨⟨List.mem_of_getElem? (i := 492) rfl, good_of_word rfl⟩, List.forall_mem_cons.mpr ⟨⟨List.mem_of_getElem? (i := 493) rfl, good_of_word rfl⟩, List.forall_mem_cons.mpr ⟨⟨List.mem_of_getElem? (i := 494) rfl, good_of_word rfl⟩, List.forall_mem_cons.mpr ⟨⟨List.mem_of_getElem? (i := 4) rfl, good_of_word rfl⟩, List.forall_mem_cons.mpr ⟨⟨List.mem_of_getElem? (i := 374) rfl, good_of_word rfl⟩, List.forall_mem_cons.mpr ⟨⟨List.mem_of_getElem? (i := 95) rfl, good_of_word rfl⟩, List.forall_mem_cons.mpr ⟨⟨List.mem_of_getElem? (i := 377) rfl, good_of_word rfl⟩, List.forall_mem_cons.mpr ⟨⟨List.mem_of_getElem? (i := 376) rfl, good_of_word rfl⟩, List.forall_mem_cons.mpr ⟨⟨List.mem_of_getElem? (i := 98) rfl, good_of_word rfl⟩, List.forall_mem_cons.mpr ⟨⟨List.mem_of_getElem? (i := 495) rfl, good_of_word rfl⟩, List.forall_mem_cons.mpr ⟨⟨List.mem_of_getElem? (i := 496) rfl, good_of_word rfl⟩, List.forall_mem_cons.mpr ⟨⟨List.mem_of_getElem? (i := 497) rfl, good_of_word rfl⟩, List.forall_mem_cons.mpr ⟨⟨List.mem_of_getElem? (i := 498) rfl, good_of_word rfl⟩, List.forall_mem_cons.mpr ⟨⟨List.mem_of_getElem? (i := 208) rfl, good_of_word rfl⟩, fun _ h => absurd h List.not_mem_nil⟩⟩⟩⟩⟩⟩⟩⟩⟩⟩⟩⟩⟩⟩⟩⟩⟩⟩
set_option maxRecDepth 20000 in
theorem gpL_law_X6_isSame_wsX60 : GoodIn wsL_law wsX60 := goodIn_r _ [501, 502, 503, 504, 505, 506, 507, 508, 509, 510, 511, 512] (by decide +kernel) (by decide +kernel)
set_option maxRecDepth 20000 in
theorem gpL_law_X6_isSame_wsX50 : GoodIn wsL_law wsX50 := goodIn_r _ [499, 500] (by decide +kernel) (by decide +kernel)
set_option maxRecDepth 20000 in
theorem gpL_law_X6_isSame_wsX00 : GoodIn wsL_law wsX00 := goodIn_r _ [513, 514, 515, 516, 517, 518, 519, 520, 521, 522, 523, 524] (by decide +kernel) (by decide +kernel)
set_option maxRecDepth 20000 in
theorem gpL_law_X6_isSame_wsX40 : GoodIn wsL_law wsX40 := goodIn_r _ [525, 526, 527] (by decide +kernel) (by decide +kernel)
set_option maxRecDepth 20000 in
theorem gpL_law_X6_isSame_wsX10 : GoodIn wsL_law wsX10 := goodIn_r _ [528, 529, 530, 531] (by decide +kernel) (by decide +kernel)
set_option maxRecDepth 20000 in
theorem gpL_law_X6_isSame_wsX30 : GoodIn wsL_law wsX30 := goodIn_r _ [532, 533, 534, 535] (by decide +kernel) (by decide +kernel)
set_option maxRecDepth 20000 in
theorem gpL_law_X6_isSame_wsX20 : GoodIn wsL_law wsX20 := goodIn_r _ [536, 537, 538, 539, 540] (by decide +kernel) (by decide +kernel)
set_option maxRecDepth 20000 in
theorem ggL_law_X6_isSame : GoodIn wsL_law wsX6_isSame := goodIn_ca (goodIn_ca (goodIn_ca (goodIn_ca (goodIn_ca (goodIn_ca (goodIn_ca (goodIn_ca (goodIn_ca gpL_law_X6_isSame_0 (goodIn_app gpL_law_X6_isSame_1 (goodIn_app gpL_law_X6_isSame_2 (goodIn_app gpL_law_X6_isSame_3 (goodIn_app gpL_law_X6_isSame_4 (goodIn_app gpL_law_X6_isSame_5 (goodIn_app gpL_law_X6_isSame_6 (goodIn_app gpL_law_X6_isSame_7 gpL_law_X6_isSame_8)))))))) gpL_law_X6_isSame_wsX60) gpL_law_X6_isSame_wsX50) gpL_law_X6_isSame_wsX00) gpL_law_X6_isSame_wsX40) gpL_law_X6_isSame_wsX10) gpL_law_X6_isSame_wsX30) gpL_law_X6_isSame_wsX20) (goodIn_sub (fun _ h => List.mem_append_left _ (List.mem_append_left _ (List.mem_append_right _ h))) (by decide +kernel))
set_option maxRecDepth 20000 in
theorem gL_law_X6_isSame : GoodIn wsL_law (wsV RL 135 RX6 yX6_isSame wsX6_isSame) := goodIn_app (goodIn_of _ (by decide +kernel)) ggL_law_X6_isSame
