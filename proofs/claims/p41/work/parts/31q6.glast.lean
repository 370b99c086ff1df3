set_option maxRecDepth 20000 in
theorem gh_law_sticks : GoodIn wsL_law [Cond.code yL_sticks cL_sticks 7 (some .boolean)] := goodIn_sub (fun w h => by
  rw [List.mem_singleton.mp h]
  exact List.mem_append_left _ (List.mem_append_left _ (List.mem_append_left _ (List.mem_append_left _ (List.mem_append_left _ (List.mem_append_left _ (List.mem_append_left _ (List.mem_append_left _ (List.mem_append_left _ (List.mem_append_left _ (List.mem_append_left _ (List.mem_append_left _ (List.mem_append_left _ (List.mem_append_left _ (List.mem_append_right _ (List.mem_append_right _ (List.mem_append_right _ (List.mem_append_right _ (List.mem_append_right _ (List.mem_append_right _ (List.mem_append_right _ (List.mem_append_right _ (List.mem_append_right _ (List.mem_append_right _ (List.mem_append_right _ (List.mem_append_right _ (List.mem_append_right _ (List.mem_append_right _ (List.mem_append_right _ (List.mem_append_right _ (List.mem_append_right _ (List.mem_append_right _ (List.mem_append_right _ (List.mem_append_right _ (List.mem_append_right _ (List.mem_append_right _ (List.mem_append_right _ (List.mem_append_right _ (List.mem_of_getElem? (l := wsL_law0_r25) (i := 12) rfl))))))))))))))))))))))))))))))))))))))) (by decide +kernel)
set_option maxRecDepth 20000 in
theorem gk_law_wsL_sticks_r1 : GoodIn wsL_law wsL_sticks_r1 := goodIn_r _ [0, 1, 2, 3, 7, 10, 11, 12, 13, 14, 15, 16, 17, 18, 19, 20, 21, 22, 23, 24, 25, 26, 27, 28] (by decide +kernel) (by decide +kernel)
set_option maxRecDepth 20000 in
theorem gk_law_wsL_sticks_r2 : GoodIn wsL_law wsL_sticks_r2 := goodIn_r _ [29, 30, 31, 32, 33, 34, 35, 36, 37, 38, 39, 40, 41, 42, 43, 44, 45, 46, 47, 48, 49, 50, 51, 52] (by decide +kernel) (by decide +kernel)
set_option maxRecDepth 20000 in
theorem gk_law_wsL_sticks_r3 : GoodIn wsL_law wsL_sticks_r3 := goodIn_r _ [53, 54, 55, 56, 57, 58, 59, 60, 61, 62, 63, 64, 65, 66, 67, 68, 69, 70, 71, 72, 73, 74, 75, 76] (by decide +kernel) (by decide +kernel)
set_option maxRecDepth 20000 in
theorem gk_law_wsL_sticks_r4 : GoodIn wsL_law wsL_sticks_r4 := goodIn_r _ [77, 78, 79, 80, 81, 82, 83, 84, 85, 86, 87, 88, 89, 90, 91, 92, 93, 94, 95, 96, 97, 98, 99, 100] (by decide +kernel) (by decide +kernel)
set_option maxRecDepth 20000 in
theorem gk_law_wsL_sticks_r5 : GoodIn wsL_law wsL_sticks_r5 := goodIn_r _ [101, 102, 103, 104, 105, 106, 107, 108, 109, 110, 111, 112, 113, 470, 471, 181, 472, 473, 474, 475, 179, 180, 182, 183] (by decide +kernel) (by decide +kernel)
set_option maxRecDepth 20000 in
theorem gk_law_wsL_sticks_r6 : GoodIn wsL_law wsL_sticks_r6 := goodIn_r _ [184, 185, 186, 187, 4, 5, 188, 9, 189, 190, 191, 192, 193, 194, 195, 196, 197, 198, 199, 200, 201, 202, 203, 204] (by decide +kernel) (by decide +kernel)
set_option maxRecDepth 20000 in
theorem gk_law_wsL_sticks_r7 : GoodIn wsL_law wsL_sticks_r7 := goodIn_r _ [205, 206, 207, 208, 209, 210, 211, 212, 213, 214, 215, 216, 217, 218, 219, 220, 221, 222, 223, 224, 225, 226, 227, 228] (by decide +kernel) (by decide +kernel)
set_option maxRecDepth 20000 in
theorem gk_law_wsL_sticks_r8 : GoodIn wsL_law wsL_sticks_r8 := goodIn_r _ [229, 230, 231, 232, 233, 234, 235, 236, 237, 238, 239, 240, 241, 242, 243, 244, 245, 246, 247, 248, 249, 250, 251, 252] (by decide +kernel) (by decide +kernel)
set_option maxRecDepth 20000 in
theorem gk_law_wsL_sticks_r9 : GoodIn wsL_law wsL_sticks_r9 := goodIn_r _ [253, 254, 255, 256, 257, 258, 259, 260, 261, 262, 263, 264, 265, 266, 267, 268, 269, 270, 271, 272, 273, 274, 275, 276] (by decide +kernel) (by decide +kernel)
set_option maxRecDepth 20000 in
theorem gk_law_wsL_sticks_r10 : GoodIn wsL_law wsL_sticks_r10 := goodIn_r _ [277, 278, 279, 280, 281, 282, 283, 284, 130, 285, 286, 287, 288, 131, 289, 290, 291, 292, 293, 294, 295, 296, 297, 298] (by decide +kernel) (by decide +kernel)
set_option maxRecDepth 20000 in
theorem gk_law_wsL_sticks_r11 : GoodIn wsL_law wsL_sticks_r11 := goodIn_r _ [299, 300, 301, 302, 303, 304, 305, 306, 157, 158, 159, 160, 175, 176, 177, 178, 307, 308, 309, 310, 311, 312, 313, 314] (by decide +kernel) (by decide +kernel)
set_option maxRecDepth 20000 in
theorem gk_law_wsL_sticks_r12 : GoodIn wsL_law wsL_sticks_r12 := goodIn_r _ [315, 316, 317, 318, 319, 320, 321, 322, 323, 324, 325, 326, 327, 328, 329, 330, 331, 332, 333, 334, 335, 336, 337, 338] (by decide +kernel) (by decide +kernel)
set_option maxRecDepth 20000 in
theorem gk_law_wsL_sticks_r13 : GoodIn wsL_law wsL_sticks_r13 := goodIn_r _ [339, 340, 341, 342, 343, 344, 345, 346, 347, 348, 349, 350, 351, 352, 353, 354, 355, 356, 357, 146, 147, 148, 358, 359] (by decide +kernel) (by decide +kernel)
set_option maxRecDepth 20000 in
theorem gk_law_wsL_sticks_r14 : GoodIn wsL_law wsL_sticks_r14 := goodIn_r _ [360, 361, 362, 363, 364, 365, 366, 367, 368, 369, 370, 371, 372, 373, 374, 375, 376, 377, 378, 379, 380, 381, 382, 383] (by decide +kernel) (by decide +kernel)
set_option maxRecDepth 20000 in
theorem gk_law_wsL_sticks_r15 : GoodIn wsL_law wsL_sticks_r15 := goodIn_r _ [384, 385, 386, 387, 388, 389, 390, 391, 392, 393, 394, 395, 396, 397, 398, 399, 400, 401, 402, 403, 404, 405, 406, 407] (by decide +kernel) (by decide +kernel)
set_option maxRecDepth 20000 in
theorem gk_law_wsL_sticks_r16 : GoodIn wsL_law wsL_sticks_r16 := goodIn_r _ [408, 409, 410, 411, 412, 413, 414, 415, 416, 417, 418, 419, 420, 421, 422, 423, 424, 425, 426, 427, 428, 429, 430, 431] (by decide +kernel) (by decide +kernel)
set_option maxRecDepth 20000 in
theorem gk_law_wsL_sticks_r17 : GoodIn wsL_law wsL_sticks_r17 := goodIn_r _ [432, 433, 434, 435, 436, 437, 438, 439, 440, 441, 442, 443, 444, 445, 446, 447, 448, 449, 450, 451, 452, 453, 454, 455] (by decide +kernel) (by decide +kernel)
set_option maxRecDepth 20000 in
theorem gk_law_wsL_sticks_r18 : GoodIn wsL_law wsL_sticks_r18 := goodIn_r _ [456, 457, 458, 142, 143, 144, 145, 459, 460, 461, 462, 153, 154, 155, 156, 463, 150, 151, 152, 464, 162, 163, 164, 477] (by decide +kernel) (by decide +kernel)
set_option maxRecDepth 20000 in
theorem gk_law_wsL_sticks_r19 : GoodIn wsL_law wsL_sticks_r19 := goodIn_r _ [478, 479, 480, 481, 482, 483, 484, 485, 486, 487, 488, 489, 490, 491, 492, 493, 494, 495, 496, 497, 498, 499, 500, 501] (by decide +kernel) (by decide +kernel)
set_option maxRecDepth 20000 in
theorem gk_law_wsL_sticks_r20 : GoodIn wsL_law wsL_sticks_r20 := goodIn_r _ [502, 503, 504, 505, 506, 507, 508, 509, 510, 511, 512, 513, 514, 515, 516, 517, 518, 519, 520, 521, 522, 523, 524, 525] (by decide +kernel) (by decide +kernel)
set_option maxRecDepth 20000 in
theorem gk_law_wsL_sticks_r21 : GoodIn wsL_law wsL_sticks_r21 := goodIn_r _ [526, 527, 528, 529, 530, 531, 532, 533, 534, 535, 536, 537, 538, 539, 540, 541, 542, 543, 544, 545, 546, 547, 548, 549] (by decide +kernel) (by decide +kernel)
set_option maxRecDepth 20000 in
theorem gk_law_wsL_sticks_r22 : GoodIn wsL_law wsL_sticks_r22 := goodIn_r _ [550, 551, 552, 553, 554, 555, 556, 557, 558, 559, 560, 561, 562, 563, 564, 565, 566, 567, 568, 569, 570, 571, 572, 573] (by decide +kernel) (by decide +kernel)
set_option maxRecDepth 20000 in
theorem gk_law_wsL_sticks_r23 : GoodIn wsL_law wsL_sticks_r23 := goodIn_r _ [574, 575, 576, 577, 578, 579, 580, 581, 582, 583, 584, 585, 122, 123, 124, 125, 126, 127, 128, 129, 132, 133, 134, 135] (by decide +kernel) (by decide +kernel)
set_option maxRecDepth 20000 in
theorem gk_law_wsL_sticks_r24 : GoodIn wsL_law wsL_sticks_r24 := goodIn_r _ [136, 137, 138, 139, 140, 141, 149, 161] (by decide +kernel) (by decide +kernel)
theorem gx_law_sticks_0 : GoodIn wsL_law (wsX80) := goodIn_sub (fun _ h => List.mem_append_left _ (List.mem_append_left _ (List.mem_append_left _ (List.mem_append_left _ (List.mem_append_left _ (List.mem_append_left _ (List.mem_append_left _ (List.mem_append_left _ (List.mem_append_left _ (List.mem_append_left _ (List.mem_append_left _ (List.mem_append_left _ (List.mem_append_left _ (List.mem_append_right _ h)))))))))))))) (by decide +kernel)
theorem gx_law_sticks_1 : GoodIn wsL_law (wsX10) := goodIn_sub (fun _ h => List.mem_append_left _ (List.mem_append_left _ (List.mem_append_left _ (List.mem_append_left _ (List.mem_append_left _ (List.mem_append_left _ (List.mem_append_left _ (List.mem_append_left _ (List.mem_append_left _ (List.mem_append_left _ (List.mem_append_left _ (List.mem_append_left _ (List.mem_append_right _ h))))))))))))) (by decide +kernel)
theorem gx_law_sticks_2 : GoodIn wsL_law (wsX30) := goodIn_sub (fun _ h => List.mem_append_left _ (List.mem_append_left _ (List.mem_append_left _ (List.mem_append_left _ (List.mem_append_left _ (List.mem_append_left _ (List.mem_append_left _ (List.mem_append_left _ (List.mem_append_left _ (List.mem_append_left _ (List.mem_append_left _ (List.mem_append_right _ h)))))))))))) (by decide +kernel)
theorem gx_law_sticks_3 : GoodIn wsL_law (wsX60) := goodIn_sub (fun _ h => List.mem_append_left _ (List.mem_append_left _ (List.mem_append_left _ (List.mem_append_left _ (List.mem_append_left _ (List.mem_append_left _ (List.mem_append_left _ (List.mem_append_left _ (List.mem_append_left _ (List.mem_append_left _ (List.mem_append_right _ h))))))))))) (by decide +kernel)
theorem gx_law_sticks_4 : GoodIn wsL_law (wsX20) := goodIn_sub (fun _ h => List.mem_append_left _ (List.mem_append_left _ (List.mem_append_left _ (List.mem_append_left _ (List.mem_append_left _ (List.mem_append_left _ (List.mem_append_left _ (List.mem_append_left _ (List.mem_append_left _ (List.mem_append_right _ h)))))))))) (by decide +kernel)
theorem gx_law_sticks_5 : GoodIn wsL_law (wsX70) := goodIn_sub (fun _ h => List.mem_append_left _ (List.mem_append_left _ (List.mem_append_left _ (List.mem_append_left _ (List.mem_append_left _ (List.mem_append_left _ (List.mem_append_left _ (List.mem_append_left _ (List.mem_append_right _ h))))))))) (by decide +kernel)
theorem gx_law_sticks_6 : GoodIn wsL_law (wsX00) := goodIn_sub (fun _ h => List.mem_append_left _ (List.mem_append_left _ (List.mem_append_left _ (List.mem_append_left _ (List.mem_append_left _ (List.mem_append_left _ (List.mem_append_left _ (List.mem_append_right _ h)))))))) (by decide +kernel)
theorem gx_law_sticks_7 : GoodIn wsL_law (wsX40) := goodIn_sub (fun _ h => List.mem_append_left _ (List.mem_append_left _ (List.mem_append_left _ (List.mem_append_left _ (List.mem_append_left _ (List.mem_append_left _ (List.mem_append_right _ h))))))) (by decide +kernel)
theorem gx_law_sticks_8 : GoodIn wsL_law ((vx_atS RX8 107 "java/lang/IllegalStateException" ["java/lang/RuntimeException", "java/lang/Exception"]).filter goodWord) := goodIn_sub (fun _ h => List.mem_append_left _ (List.mem_append_left _ (List.mem_append_left _ (List.mem_append_left _ (List.mem_append_right _ h))))) (by decide +kernel)
theorem gx_law_sticks_9 : GoodIn wsL_law ((vx_atS RX8 299 "java/lang/IndexOutOfBoundsException" ["java/lang/RuntimeException", "java/lang/Exception"]).filter goodWord) := goodIn_sub (fun _ h => List.mem_append_left _ (List.mem_append_left _ (List.mem_append_left _ (List.mem_append_right _ h)))) (by decide +kernel)
theorem gx_law_sticks_10 : GoodIn wsL_law ((vx_atS RX8 304 "java/lang/IllegalArgumentException" ["java/lang/RuntimeException", "java/lang/Exception"]).filter goodWord) := goodIn_sub (fun _ h => List.mem_append_left _ (List.mem_append_left _ (List.mem_append_right _ h))) (by decide +kernel)
theorem gx_law_sticks_11 : GoodIn wsL_law ((vx_atS RX8 309 "java/lang/UnsupportedOperationException" ["java/lang/RuntimeException", "java/lang/Exception"]).filter goodWord) := goodIn_sub (fun _ h => List.mem_append_left _ (List.mem_append_right _ h)) (by decide +kernel)
theorem gx_law_sticks_12 : GoodIn wsL_law (xn_at242.filter goodWord) := goodIn_sub (fun _ h => List.mem_append_right _ h) (by decide +kernel)
theorem ggL_law_L_sticks : GoodIn wsL_law wsL_sticks := goodIn_app gh_law_sticks (goodIn_app (goodIn_app (goodIn_app (goodIn_app (goodIn_app (goodIn_app (goodIn_app (goodIn_app (goodIn_app (goodIn_app (goodIn_app (goodIn_app (goodIn_app (goodIn_app gk_law_wsL_sticks_r1 (goodIn_app gk_law_wsL_sticks_r2 (goodIn_app gk_law_wsL_sticks_r3 (goodIn_app gk_law_wsL_sticks_r4 (goodIn_app gk_law_wsL_sticks_r5 (goodIn_app gk_law_wsL_sticks_r6 (goodIn_app gk_law_wsL_sticks_r7 (goodIn_app gk_law_wsL_sticks_r8 (goodIn_app gk_law_wsL_sticks_r9 (goodIn_app gk_law_wsL_sticks_r10 (goodIn_app gk_law_wsL_sticks_r11 (goodIn_app gk_law_wsL_sticks_r12 (goodIn_app gk_law_wsL_sticks_r13 (goodIn_app gk_law_wsL_sticks_r14 (goodIn_app gk_law_wsL_sticks_r15 (goodIn_app gk_law_wsL_sticks_r16 (goodIn_app gk_law_wsL_sticks_r17 (goodIn_app gk_law_wsL_sticks_r18 (goodIn_app gk_law_wsL_sticks_r19 (goodIn_app gk_law_wsL_sticks_r20 (goodIn_app gk_law_wsL_sticks_r21 (goodIn_app gk_law_wsL_sticks_r22 (goodIn_app gk_law_wsL_sticks_r23 (gk_law_wsL_sticks_r24)))))))))))))))))))))))) gx_law_sticks_0) gx_law_sticks_1) gx_law_sticks_2) gx_law_sticks_3) gx_law_sticks_4) gx_law_sticks_5) gx_law_sticks_6) gx_law_sticks_7) gx_law_sticks_8) gx_law_sticks_9) gx_law_sticks_10) gx_law_sticks_11) gx_law_sticks_12)
set_option maxRecDepth 20000 in
theorem gL_law_L_sticks : GoodIn wsL_law (va_wsS RL 170 yL_sticks wsL_sticks) := goodIn_app (goodIn_of _ (by decide +kernel)) ggL_law_L_sticks
