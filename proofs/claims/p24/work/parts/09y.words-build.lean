set_option maxRecDepth 20000 in
theorem ggL_build_X6_init : GoodIn wsL_build wsX6_init := goodIn_r _ [5, 6, 7, 8, 9, 10, 11, 12, 13, 14, 15, 16, 17, 18, 19, 20, 337, 338, 339, 340, 341, 342, 343, 344, 345, 346, 347, 348] (by decide +kernel) (by decide +kernel)
set_option maxRecDepth 20000 in
theorem gL_build_X6_init_n91 : GoodIn wsL_build (wsX6_init) := ggL_build_X6_init
set_option maxRecDepth 20000 in
theorem ggL_build_L_cell : GoodIn wsL_build wsL_cell := goodIn_r _ [24, 25] (by decide +kernel) (by decide +kernel)
set_option maxRecDepth 20000 in
theorem gL_build_L_cell : GoodIn wsL_build (va_wsS RL 92 yL_cell wsL_cell) := goodIn_app (goodIn_of _ (by decide +kernel)) ggL_build_L_cell
set_option maxRecDepth 20000 in
set_option maxHeartbeats 4000000 in
theorem gpL_build_L_act_0 : GoodIn wsL_build (.code yL_act cL_act 22 (some .boolean) :: wsL_act_r1) := by
  show ∀ w ∈ ([_, _, _, _, _, _, _, _, _, _, _, _, _, _, _, _, _, _, _, _, _, _, _, _, _] : List Cond), _
  exact List.forall_mem_cons.mpr ⟨⟨List.mem_of_getElem? (i := 28) rfl, good_of_word rfl⟩, List.forall_mem_cons.mpr ⟨⟨List.mem_of_getElem? (i := 29) rfl, good_of_word rfl⟩, List.forall_mem_cons.mpr ⟨⟨List.mem_of_getElem? (i := 30) rfl, good_of_word rfl⟩, List.forall_mem_cons.mpr ⟨⟨List.mem_of_getElem? (i := 31) rfl, good_of_word rfl⟩, List.forall_mem_cons.mpr ⟨⟨List.mem_of_getElem? (i := 32) rfl, good_of_word rfl⟩, List.forall_mem_cons.mpr ⟨⟨List.mem_of_getElem? (i := 33) rfl, good_of_word rfl⟩, List.forall_mem_cons.mpr ⟨⟨List.mem_of_getElem? (i := 34) rfl, good_of_word rfl⟩, List.forall_mem_cons.mpr ⟨⟨List.mem_of_getElem? (i := 35) rfl, good_of_word rfl⟩, List.forall_mem_cons.mpr ⟨⟨List.mem_of_getElem? (i := 11) rfl, good_of_word rfl⟩, List.forall_mem_cons.mpr ⟨⟨List.mem_of_getElem? (i := 36) rfl, good_of_word rfl⟩, List.forall_mem_cons.mpr ⟨⟨List.mem_of_getElem? (i := 37) rfl, good_of_word rfl⟩, List.forall_mem_cons.mpr ⟨⟨List.mem_of_getElem? (i := 38) rfl, good_of_word rfl⟩, List.forall_mem_cons.mpr ⟨⟨List.mem_of_getElem? (i := 39) rfl, good_of_word rfl⟩, List.forall_mem_cons.mpr ⟨⟨List.mem_of_getElem? (i := 40) rfl, good_of_word rfl⟩, List.forall_mem_cons.mpr ⟨⟨List.mem_of_getElem? (i := 41) rfl, good_of_word rfl⟩, List.forall_mem_cons.mpr ⟨⟨List.mem_of_getElem? (i := 42) rfl, good_of_word rfl⟩, List.forall_mem_cons.mpr ⟨⟨List.mem_of_getElem? (i := 43) rfl, good_of_word rfl⟩, List.forall_mem_cons.mpr ⟨⟨List.mem_of_getElem? (i := 44) rfl, good_of_word rfl⟩, List.forall_mem_cons.mpr ⟨⟨List.mem_of_getElem? (i := 23) rfl, good_of_word rfl⟩, List.forall_mem_cons.mpr ⟨⟨List.mem_of_getElem? (i := 45) rfl, good_of_word rfl⟩, List.forall_mem_cons.mpr ⟨⟨List.mem_of_getElem? (i := 46) rfl, good_of_word rfl⟩, List.forall_mem_cons.mpr ⟨⟨List.mem_of_getElem? (i := 47) rfl, good_of_word rfl⟩, List.forall_mem_cons.mpr ⟨⟨List.mem_of_getElem? (i := 48) rfl, good_of_word rfl⟩, List.forall_mem_cons.mpr ⟨⟨List.mem_of_getElem? (i := 49) rfl, good_of_word rfl⟩, List.forall_mem_cons.mpr ⟨⟨List.mem_of_getElem? (i := 50) rfl, good_of_word rfl⟩, fun _ h => absurd h List.not_mem_nil⟩⟩⟩⟩⟩⟩⟩⟩⟩⟩⟩⟩⟩⟩⟩⟩⟩⟩⟩⟩⟩⟩⟩⟩⟩
set_option maxRecDepth 20000 in
theorem gpL_build_L_act_1 : GoodIn wsL_build wsL_act_r2 := goodIn_r _ [51, 52, 53, 54, 55, 56, 57, 58, 59, 60, 61, 62, 63, 64, 65, 66, 67, 68, 69, 70, 71, 72, 73, 74] (by decide +kernel) (by decide +kernel)
set_option maxRecDepth 20000 in
theorem gpL_build_L_act_2 : GoodIn wsL_build wsL_act_r3 := goodIn_r _ [3, 75, 76, 77, 78, 79, 80, 81, 82, 83, 84, 85, 86, 87, 88, 89, 90, 91, 92, 93, 94, 95, 96, 97] (by decide +kernel) (by decide +kernel)
set_option maxRecDepth 20000 in
theorem gpL_build_L_act_3 : GoodIn wsL_build wsL_act_r4 := goodIn_r _ [98, 99, 100, 101, 102, 103, 104, 105, 106, 107, 108, 109, 110, 111, 112, 113, 114, 115, 116, 117, 118, 119, 120, 14] (by decide +kernel) (by decide +kernel)
set_option maxRecDepth 20000 in
theorem gpL_build_L_act_4 : GoodIn wsL_build wsL_act_r5 := goodIn_r _ [121, 122, 123, 124, 125, 126, 127, 128, 129, 130, 131, 132, 133, 134, 135, 136, 137, 138, 139, 140, 141, 142, 143, 144] (by decide +kernel) (by decide +kernel)
set_option maxRecDepth 20000 in
theorem gpL_build_L_act_5 : GoodIn wsL_build wsL_act_r6 := goodIn_r _ [145, 146, 147, 148, 149, 150, 151, 152, 153, 154, 155, 156, 157, 158, 159, 160, 161, 162, 163, 164, 165, 166, 167, 168] (by decide +kernel) (by decide +kernel)
set_option maxRecDepth 20000 in
theorem gpL_build_L_act_6 : GoodIn wsL_build wsL_act_r7 := goodIn_r _ [169, 170, 171, 172, 173, 174, 175, 176, 177, 178, 179, 180, 181, 182, 183, 184, 185, 186, 187, 188, 189, 190, 191, 192] (by decide +kernel) (by decide +kernel)
set_option maxRecDepth 20000 in
theorem gpL_build_L_act_7 : GoodIn wsL_build wsL_act_r8 := goodIn_r _ [193, 194, 195, 196, 197, 198, 199, 200, 201, 202, 203, 204, 205, 206, 207, 208, 209, 210, 211, 212, 213, 214, 215, 216] (by decide +kernel) (by decide +kernel)
set_option maxRecDepth 20000 in
theorem gpL_build_L_act_8 : GoodIn wsL_build wsL_act_r9 := goodIn_r _ [217, 218, 219, 220, 221, 222, 223, 224, 225, 226, 15, 16, 227, 228, 229, 230, 10, 18] (by decide +kernel) (by decide +kernel)
set_option maxRecDepth 20000 in
theorem gpL_build_L_act_wsX60 : GoodIn wsL_build wsX60 := goodIn_r _ [337, 338, 339, 340, 341, 342, 343, 344, 345, 346, 347, 348] (by decide +kernel) (by decide +kernel)
set_option maxRecDepth 20000 in
theorem gpL_build_L_act_wsX50 : GoodIn wsL_build wsX50 := goodIn_r _ [349, 350] (by decide +kernel) (by decide +kernel)
set_option maxRecDepth 20000 in
theorem gpL_build_L_act_wsX00 : GoodIn wsL_build wsX00 := goodIn_r _ [351, 352, 353, 354, 355, 356, 357, 358, 359, 360, 361, 362] (by decide +kernel) (by decide +kernel)
set_option maxRecDepth 20000 in
theorem gpL_build_L_act_wsX40 : GoodIn wsL_build wsX40 := goodIn_r _ [363, 364, 365] (by decide +kernel) (by decide +kernel)
set_option maxRecDepth 20000 in
theorem gpL_build_L_act_wsX10 : GoodIn wsL_build wsX10 := goodIn_r _ [366, 367, 368, 369] (by decide +kernel) (by decide +kernel)
set_option maxRecDepth 20000 in
theorem gpL_build_L_act_wsX30 : GoodIn wsL_build wsX30 := goodIn_r _ [370, 371, 372, 373] (by decide +kernel) (by decide +kernel)
set_option maxRecDepth 20000 in
theorem gpL_build_L_act_wsX20 : GoodIn wsL_build wsX20 := goodIn_r _ [374, 375, 376, 377, 378] (by decide +kernel) (by decide +kernel)
set_option maxRecDepth 20000 in
theorem ggL_build_L_act : GoodIn wsL_build wsL_act := goodIn_ca (goodIn_ca (goodIn_ca (goodIn_ca (goodIn_ca (goodIn_ca (goodIn_ca (goodIn_ca (goodIn_ca (goodIn_ca (goodIn_ca gpL_build_L_act_0 (goodIn_app gpL_build_L_act_1 (goodIn_app gpL_build_L_act_2 (goodIn_app gpL_build_L_act_3 (goodIn_app gpL_build_L_act_4 (goodIn_app gpL_build_L_act_5 (goodIn_app gpL_build_L_act_6 (goodIn_app gpL_build_L_act_7 gpL_build_L_act_8)))))))) gpL_build_L_act_wsX60) gpL_build_L_act_wsX50) gpL_build_L_act_wsX00) gpL_build_L_act_wsX40) gpL_build_L_act_wsX10) gpL_build_L_act_wsX30) gpL_build_L_act_wsX20) (goodIn_sub (fun _ h => List.mem_cons_of_mem _ (List.mem_append_left _ (List.mem_append_left _ (List.mem_append_right _ h)))) (by decide +kernel))) (goodIn_sub (fun _ h => List.mem_cons_of_mem _ (List.mem_append_left _ (List.mem_append_right _ h))) (by decide +kernel))) (goodIn_sub (fun _ h => List.mem_cons_of_mem _ (List.mem_append_right _ h)) (by decide +kernel))
set_option maxRecDepth 20000 in
theorem gL_build_L_act : GoodIn wsL_build (va_wsS RL 96 yL_act wsL_act) := goodIn_app (goodIn_of _ (by decide +kernel)) ggL_build_L_act
set_option maxRecDepth 20000 in
theorem gpL_build_X5_pass_0 : GoodIn wsL_build (.code yX5_pass cX5_pass 3 (some .int) :: wsX5_pass_r1) := goodIn_r _ [234, 54, 55, 59, 63, 64, 50, 65, 235, 236, 237, 69, 238, 239, 240, 241, 242, 194, 243, 244, 193, 245, 246, 247, 248] (by decide +kernel) (by decide +kernel)
set_option maxRecDepth 20000 in
theorem gpL_build_X5_pass_1 : GoodIn wsL_build wsX5_pass_r2 := goodIn_r _ [249, 250, 251, 100, 252, 102, 107, 253, 197, 198, 199, 254, 255, 256, 257, 258, 259, 260, 261, 221, 195, 262, 263, 264] (by decide +kernel) (by decide +kernel)
set_option maxRecDepth 20000 in
theorem gpL_build_X5_pass_2 : GoodIn wsL_build wsX5_pass_r3 := goodIn_r _ [190, 191, 192, 196, 200, 201, 202, 158, 203, 162, 184, 173, 174, 175, 160, 204, 181, 182, 183, 163, 205, 206, 207, 208] (by decide +kernel) (by decide +kernel)
set_option maxRecDepth 20000 in
theorem gpL_build_X5_pass_3 : GoodIn wsL_build wsX5_pass_r4 := goodIn_r _ [61, 62, 209, 210, 211, 128, 212, 132, 146, 139, 140, 141, 130, 213, 214, 215, 216, 161, 217, 218, 219, 220, 71, 222] (by decide +kernel) (by decide +kernel)
set_option maxRecDepth 20000 in
theorem gpL_build_X5_pass_4 : GoodIn wsL_build wsX5_pass_r5 := goodIn_r _ [98, 99, 101, 265, 266, 267, 268, 269, 270, 271, 272, 108, 273, 274, 275, 276, 143, 144, 145, 133, 277, 278, 279, 280] (by decide +kernel) (by decide +kernel)
set_option maxRecDepth 20000 in
theorem gpL_build_X5_pass_5 : GoodIn wsL_build wsX5_pass_r6 := goodIn_r _ [131, 281, 282, 283, 284, 285, 286, 287, 288, 289, 290, 86, 87, 88, 60, 291, 114, 115, 116, 117, 104, 105, 106, 292] (by decide +kernel) (by decide +kernel)
set_option maxRecDepth 20000 in
theorem gpL_build_X5_pass_6 : GoodIn wsL_build wsX5_pass_r7 := goodIn_r _ [293, 294, 295, 296, 297, 298, 299, 300, 301, 302, 303, 304, 305, 306, 307, 308, 309, 310, 311, 312, 313, 314, 315, 316] (by decide +kernel) (by decide +kernel)
set_option maxRecDepth 20000 in
theorem gpL_build_X5_pass_7 : GoodIn wsL_build wsX5_pass_r8 := goodIn_r _ [317, 90, 91, 92, 84, 318, 319, 320, 321, 322, 323, 324, 325] (by decide +kernel) (by decide +kernel)
set_option maxRecDepth 20000 in
theorem gpL_build_X5_pass_wsX50 : GoodIn wsL_build wsX50 := goodIn_r _ [349, 350] (by decide +kernel) (by decide +kernel)
set_option maxRecDepth 20000 in
theorem gpL_build_X5_pass_wsX00 : GoodIn wsL_build wsX00 := goodIn_r _ [351, 352, 353, 354, 355, 356, 357, 358, 359, 360, 361, 362] (by decide +kernel) (by decide +kernel)
set_option maxRecDepth 20000 in
theorem gpL_build_X5_pass_wsX30 : GoodIn wsL_build wsX30 := goodIn_r _ [370, 371, 372, 373] (by decide +kernel) (by decide +kernel)
set_option maxRecDepth 20000 in
theorem gpL_build_X5_pass_wsX40 : GoodIn wsL_build wsX40 := goodIn_r _ [363, 364, 365] (by decide +kernel) (by decide +kernel)
set_option maxRecDepth 20000 in
theorem gpL_build_X5_pass_wsX10 : GoodIn wsL_build wsX10 := goodIn_r _ [366, 367, 368, 369] (by decide +kernel) (by decide +kernel)
set_option maxRecDepth 20000 in
theorem gpL_build_X5_pass_wsX20 : GoodIn wsL_build wsX20 := goodIn_r _ [374, 375, 376, 377, 378] (by decide +kernel) (by decide +kernel)
set_option maxRecDepth 20000 in
theorem ggL_build_X5_pass : GoodIn wsL_build wsX5_pass := goodIn_ca (goodIn_ca (goodIn_ca (goodIn_ca (goodIn_ca (goodIn_ca (goodIn_ca (goodIn_ca gpL_build_X5_pass_0 (goodIn_app gpL_build_X5_pass_1 (goodIn_app gpL_build_X5_pass_2 (goodIn_app gpL_build_X5_pass_3 (goodIn_app gpL_build_X5_pass_4 (goodIn_app gpL_build_X5_pass_5 (goodIn_app gpL_build_X5_pass_6 gpL_build_X5_pass_7))))))) gpL_build_X5_pass_wsX50) gpL_build_X5_pass_wsX00) gpL_build_X5_pass_wsX30) gpL_build_X5_pass_wsX40) gpL_build_X5_pass_wsX10) gpL_build_X5_pass_wsX20) (goodIn_sub (fun _ h => List.mem_cons_of_mem _ (List.mem_append_left _ (List.mem_append_right _ h))) (by decide +kernel))
set_option maxRecDepth 20000 in
theorem gL_build_X5_pass : GoodIn wsL_build (wsV RL 100 RX5 yX5_pass wsX5_pass) := goodIn_app (goodIn_of _ (by decide +kernel)) ggL_build_X5_pass
set_option maxRecDepth 20000 in
set_option maxHeartbeats 4000000 in
theorem gpL_build_X6_pass_0 : GoodIn wsL_build (.code yX6_pass cX6_pass 12 (some .int) :: wsX6_pass_r1) := by
  show ∀ w ∈ ([_, _, _, _, _, _, _, _, _, _, _, _, _, _, _, _, _, _, _, _, _, _, _, _, _] : List Cond), _
  exact List.forall_mem_cons.mpr ⟨⟨List.mem_of_getElem? (i := 329) rfl, good_of_word rfl⟩, List.forall_mem_cons.mpr ⟨⟨List.mem_of_getElem? (i := 15) rfl, good_of_word rfl⟩, List.forall_mem_cons.mpr ⟨⟨List.mem_of_getElem? (i := 12) rfl, good_of_word rfl⟩, List.forall_mem_cons.mpr ⟨⟨List.mem_of_getElem? (i := 330) rfl, good_of_word rfl⟩, List.forall_mem_cons.mpr ⟨⟨List.mem_of_getElem? (i := 331) rfl, good_of_word rfl⟩, List.forall_mem_cons.mpr ⟨⟨List.mem_of_getElem? (i := 197) rfl, good_of_word rfl⟩, List.forall_mem_cons.mpr ⟨⟨List.mem_of_getElem? (i := 198) rfl, good_of_word rfl⟩, List.forall_mem_cons.mpr ⟨⟨List.mem_of_getElem? (i := 199) rfl, good_of_word rfl⟩, List.forall_mem_cons.mpr ⟨⟨List.mem_of_getElem? (i := 17) rfl, good_of_word rfl⟩, List.forall_mem_cons.mpr ⟨⟨List.mem_of_getElem? (i := 16) rfl, good_of_word rfl⟩, List.forall_mem_cons.mpr ⟨⟨List.mem_of_getElem? (i := 18) rfl, good_of_word rfl⟩, List.forall_mem_cons.mpr ⟨⟨List.mem_of_getElem? (i := 11) rfl, good_of_word rfl⟩, List.forall_mem_cons.mpr ⟨⟨List.mem_of_getElem? (i := 332) rfl, good_of_word rfl⟩, List.forall_mem_cons.mpr ⟨⟨List.mem_of_getElem? (i := 333) rfl, good_of_word rfl⟩, List.forall_mem_cons.mpr ⟨⟨List.mem_of_getElem? (i := 20) rfl, good_of_word rfl⟩, List.forall_mem_cons.mpr ⟨⟨List.mem_of_getElem? (i := 14) rfl, good_of_word rfl⟩, List.forall_mem_cons.mpr ⟨⟨List.mem_of_getElem? (i := 334) rfl, good_of_word rfl⟩, List.forall_mem_cons.mpr ⟨⟨List.mem_of_getElem? (i := 224) rfl, good_of_word rfl⟩, List.forall_mem_cons.mpr ⟨⟨List.mem_of_getElem? (i := 225) rfl, good_of_word rfl⟩, List.forall_mem_cons.mpr ⟨⟨List.mem_of_getElem? (i := 3) rfl, good_of_word rfl⟩, List.forall_mem_cons.mpr ⟨⟨List.mem_of_getElem? (i := 226) rfl, good_of_word rfl⟩, List.forall_mem_cons.mpr ⟨⟨List.mem_of_getElem? (i := 227) rfl, good_of_word rfl⟩, List.forall_mem_cons.mpr ⟨⟨List.mem_of_getElem? (i := 228) rfl, good_of_word rfl⟩, List.forall_mem_cons.mpr ⟨⟨List.mem_of_getElem? (i := 229) rfl, good_of_word rfl⟩, List.forall_mem_cons.mpr ⟨⟨List.mem_of_getElem? (i := 230) rfl, good_of_word rfl⟩, fun _ h => absurd h List.not_mem_nil⟩⟩⟩⟩⟩⟩⟩⟩⟩⟩⟩⟩⟩⟩⟩⟩⟩⟩⟩⟩⟩⟩⟩⟩⟩
set_option maxRecDepth 20000 in
theorem gpL_build_X6_pass_1 : GoodIn wsL_build wsX6_pass_r2 := goodIn_r _ [10, 335, 119, 120, 336, 74, 75] (by decide +kernel) (by decide +kernel)
set_option maxRecDepth 20000 in
theorem gpL_build_X6_pass_wsX60 : GoodIn wsL_build wsX60 := goodIn_r _ [337, 338, 339, 340, 341, 342, 343, 344, 345, 346, 347, 348] (by decide +kernel) (by decide +kernel)
set_option maxRecDepth 20000 in
theorem ggL_build_X6_pass : GoodIn wsL_build wsX6_pass := (goodIn_ca (goodIn_ca gpL_build_X6_pass_0 gpL_build_X6_pass_1) gpL_build_X6_pass_wsX60)
set_option maxRecDepth 20000 in
theorem gL_build_X6_pass : GoodIn wsL_build (wsV RL 103 RX6 yX6_pass wsX6_pass) := goodIn_app (goodIn_of _ (by decide +kernel)) ggL_build_X6_pass
