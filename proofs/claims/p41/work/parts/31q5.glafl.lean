set_option maxRecDepth 20000 in
theorem gh_law_flips : GoodIn wsL_law [Cond.code yL_flips cL_flips 14 (some .boolean)] := goodIn_r _ [467] (by decide +kernel) (by decide +kernel)
set_option maxRecDepth 20000 in
theorem gk_law_wsL_flips_r1 : GoodIn wsL_law wsL_flips_r1 := goodIn_r _ [0, 1, 2, 468, 3, 98, 469, 10, 11, 12, 13, 14, 15, 16, 17, 18, 19, 20, 21, 22, 23, 24, 25, 26] (by decide +kernel) (by decide +kernel)
set_option maxRecDepth 20000 in
theorem gk_law_wsL_flips_r2 : GoodIn wsL_law wsL_flips_r2 := goodIn_r _ [27, 28, 29, 30, 31, 32, 33, 34, 35, 36, 37, 38, 39, 40, 41, 42, 43, 44, 45, 46, 47, 48, 49, 50] (by decide +kernel) (by decide +kernel)
set_option maxRecDepth 20000 in
theorem gk_law_wsL_flips_r3 : GoodIn wsL_law wsL_flips_r3 := goodIn_r _ [51, 52, 53, 54, 55, 56, 57, 58, 59, 60, 61, 62, 63, 64, 65, 66, 67, 68, 69, 70, 71, 72, 73, 74] (by decide +kernel) (by decide +kernel)
set_option maxRecDepth 20000 in
theorem gk_law_wsL_flips_r4 : GoodIn wsL_law wsL_flips_r4 := goodIn_r _ [75, 76, 77, 78, 79, 80, 81, 82, 83, 84, 85, 86, 87, 88, 89, 90, 91, 92, 93, 94, 95, 96, 97, 99] (by decide +kernel) (by decide +kernel)
set_option maxRecDepth 20000 in
theorem gk_law_wsL_flips_r5 : GoodIn wsL_law wsL_flips_r5 := goodIn_r _ [100, 101, 102, 103, 104, 105, 106, 107, 108, 109, 110, 111, 112, 113, 470, 471, 181, 472, 473, 474, 475, 179, 180, 182] (by decide +kernel) (by decide +kernel)
set_option maxRecDepth 20000 in
theorem gk_law_wsL_flips_r6 : GoodIn wsL_law wsL_flips_r6 := goodIn_r _ [183, 184, 185, 186, 187, 4, 5, 188, 7, 9, 189, 190, 191, 192, 193, 194, 195, 196, 197, 198, 199, 200, 201, 202] (by decide +kernel) (by decide +kernel)
set_option maxRecDepth 20000 in
theorem gk_law_wsL_flips_r7 : GoodIn wsL_law wsL_flips_r7 := goodIn_r _ [203, 204, 205, 206, 207, 208, 209, 210, 211, 212, 213, 214, 215, 216, 217, 218, 219, 220, 221, 222, 223, 224, 225, 226] (by decide +kernel) (by decide +kernel)
set_option maxRecDepth 20000 in
theorem gk_law_wsL_flips_r8 : GoodIn wsL_law wsL_flips_r8 := goodIn_r _ [227, 228, 229, 230, 231, 232, 233, 234, 235, 236, 237, 238, 239, 240, 241, 242, 243, 244, 245, 246, 247, 248, 249, 250] (by decide +kernel) (by decide +kernel)
set_option maxRecDepth 20000 in
theorem gk_law_wsL_flips_r9 : GoodIn wsL_law wsL_flips_r9 := goodIn_r _ [251, 252, 253, 254, 255, 256, 257, 258, 259, 260, 261, 262, 263, 264, 265, 266, 267, 268, 269, 270, 271, 272, 273, 274] (by decide +kernel) (by decide +kernel)
set_option maxRecDepth 20000 in
theorem gk_law_wsL_flips_r10 : GoodIn wsL_law wsL_flips_r10 := goodIn_r _ [275, 276, 277, 278, 279, 280, 281, 282, 283, 284, 130, 285, 286, 287, 288, 131, 289, 290, 291, 292, 293, 294, 295, 296] (by decide +kernel) (by decide +kernel)
set_option maxRecDepth 20000 in
theorem gk_law_wsL_flips_r11 : GoodIn wsL_law wsL_flips_r11 := goodIn_r _ [297, 298, 299, 300, 301, 302, 303, 304, 305, 306, 157, 158, 159, 160, 175, 176, 177, 178, 307, 308, 309, 310, 311, 312] (by decide +kernel) (by decide +kernel)
set_option maxRecDepth 20000 in
theorem gk_law_wsL_flips_r12 : GoodIn wsL_law wsL_flips_r12 := goodIn_r _ [313, 314, 315, 316, 317, 318, 319, 320, 321, 322, 323, 324, 325, 326, 327, 328, 329, 330, 331, 332, 333, 334, 335, 336] (by decide +kernel) (by decide +kernel)
set_option maxRecDepth 20000 in
theorem gk_law_wsL_flips_r13 : GoodIn wsL_law wsL_flips_r13 := goodIn_r _ [337, 338, 339, 340, 341, 342, 343, 344, 345, 346, 347, 348, 349, 350, 351, 352, 353, 354, 355, 356, 357, 146, 147, 148] (by decide +kernel) (by decide +kernel)
set_option maxRecDepth 20000 in
theorem gk_law_wsL_flips_r14 : GoodIn wsL_law wsL_flips_r14 := goodIn_r _ [358, 359, 360, 361, 362, 363, 364, 365, 366, 367, 368, 369, 370, 371, 372, 373, 374, 375, 376, 377, 378, 379, 380, 381] (by decide +kernel) (by decide +kernel)
set_option maxRecDepth 20000 in
theorem gk_law_wsL_flips_r15 : GoodIn wsL_law wsL_flips_r15 := goodIn_r _ [382, 383, 384, 385, 386, 387, 388, 389, 390, 391, 392, 393, 394, 395, 396, 397, 398, 399, 400, 401, 402, 403, 404, 405] (by decide +kernel) (by decide +kernel)
set_option maxRecDepth 20000 in
theorem gk_law_wsL_flips_r16 : GoodIn wsL_law wsL_flips_r16 := goodIn_r _ [406, 407, 408, 409, 410, 411, 412, 413, 414, 415, 416, 417, 418, 419, 420, 421, 422, 423, 424, 425, 426, 427, 428, 429] (by decide +kernel) (by decide +kernel)
set_option maxRecDepth 20000 in
theorem gk_law_wsL_flips_r17 : GoodIn wsL_law wsL_flips_r17 := goodIn_r _ [430, 431, 432, 433, 434, 435, 436, 437, 438, 439, 440, 441, 442, 443, 444, 445, 446, 447, 448, 449, 450, 451, 452, 453] (by decide +kernel) (by decide +kernel)
set_option maxRecDepth 20000 in
theorem gk_law_wsL_flips_r18 : GoodIn wsL_law wsL_flips_r18 := goodIn_r _ [454, 455, 456, 457, 458, 142, 143, 144, 145, 459, 460, 461, 462, 153, 154, 155, 156, 463, 150, 151, 152, 464, 162, 163] (by decide +kernel) (by decide +kernel)
set_option maxRecDepth 20000 in
theorem gk_law_wsL_flips_r19 : GoodIn wsL_law wsL_flips_r19 := goodIn_r _ [164, 476, 477, 478, 479, 480, 481, 482, 483, 484, 485, 486, 487, 488, 489, 490, 491, 492, 493, 494, 495, 496, 497, 498] (by decide +kernel) (by decide +kernel)
set_option maxRecDepth 20000 in
theorem gk_law_wsL_flips_r20 : GoodIn wsL_law wsL_flips_r20 := goodIn_r _ [499, 500, 501, 502, 503, 504, 505, 506, 507, 508, 509, 510, 511, 512, 513, 514, 515, 516, 517, 518, 519, 520, 521, 522] (by decide +kernel) (by decide +kernel)
set_option maxRecDepth 20000 in
theorem gk_law_wsL_flips_r21 : GoodIn wsL_law wsL_flips_r21 := goodIn_r _ [523, 524, 525, 526, 527, 528, 529, 530, 531, 532, 533, 534, 535, 536, 537, 538, 539, 540, 541, 542, 543, 544, 545, 546] (by decide +kernel) (by decide +kernel)
set_option maxRecDepth 20000 in
theorem gk_law_wsL_flips_r22 : GoodIn wsL_law wsL_flips_r22 := goodIn_r _ [547, 548, 549, 550, 551, 552, 553, 554, 555, 556, 557, 558, 559, 560, 561, 562, 563, 564, 565, 566, 567, 568, 569, 570] (by decide +kernel) (by decide +kernel)
set_option maxRecDepth 20000 in
theorem gk_law_wsL_flips_r23 : GoodIn wsL_law wsL_flips_r23 := goodIn_r _ [571, 572, 573, 574, 575, 576, 577, 578, 579, 580, 581, 582, 583, 584, 585, 126, 127, 128, 129, 132, 123, 124, 125, 133] (by decide +kernel) (by decide +kernel)
set_option maxRecDepth 20000 in
theorem gk_law_wsL_flips_r24 : GoodIn wsL_law wsL_flips_r24 := goodIn_r _ [134, 135, 136, 137, 138, 139, 140, 141, 149, 161] (by decide +kernel) (by decide +kernel)
theorem gx_law_flips_0 : GoodIn wsL_law (wsX80) := goodIn_sub (fun _ h => List.mem_append_left _ (List.mem_append_left _ (List.mem_append_left _ (List.mem_append_left _ (List.mem_append_left _ (List.mem_append_left _ (List.mem_append_left _ (List.mem_append_left _ (List.mem_append_left _ (List.mem_append_left _ (List.mem_append_left _ (List.mem_append_left _ (List.mem_append_left _ (List.mem_append_right _ h)))))))))))))) (by decide +kernel)
theorem gx_law_flips_1 : GoodIn wsL_law (wsX10) := goodIn_sub (fun _ h => List.mem_append_left _ (List.mem_append_left _ (List.mem_append_left _ (List.mem_append_left _ (List.mem_append_left _ (List.mem_append_left _ (List.mem_append_left _ (List.mem_append_left _ (List.mem_append_left _ (List.mem_append_left _ (List.mem_append_left _ (List.mem_append_left _ (List.mem_append_right _ h))))))))))))) (by decide +kernel)
theorem gx_law_flips_2 : GoodIn wsL_law (wsX30) := goodIn_sub (fun _ h => List.mem_append_left _ (List.mem_append_left _ (List.mem_append_left _ (List.mem_append_left _ (List.mem_append_left _ (List.mem_append_left _ (List.mem_append_left _ (List.mem_append_left _ (List.mem_append_left _ (List.mem_append_left _ (List.mem_append_left _ (List.mem_append_right _ h)))))))))))) (by decide +kernel)
theorem gx_law_flips_3 : GoodIn wsL_law (wsX60) := goodIn_sub (fun _ h => List.mem_append_left _ (List.mem_append_left _ (List.mem_append_left _ (List.mem_append_left _ (List.mem_append_left _ (List.mem_append_left _ (List.mem_append_left _ (List.mem_append_left _ (List.mem_append_left _ (List.mem_append_left _ (List.mem_append_right _ h))))))))))) (by decide +kernel)
theorem gx_law_flips_4 : GoodIn wsL_law (wsX20) := goodIn_sub (fun _ h => List.mem_append_left _ (List.mem_append_left _ (List.mem_append_left _ (List.mem_append_left _ (List.mem_append_left _ (List.mem_append_left _ (List.mem_append_left _ (List.mem_append_left _ (List.mem_append_left _ (List.mem_append_right _ h)))))))))) (by decide +kernel)
theorem gx_law_flips_5 : GoodIn wsL_law (wsX70) := goodIn_sub (fun _ h => List.mem_append_left _ (List.mem_append_left _ (List.mem_append_left _ (List.mem_append_left _ (List.mem_append_left _ (List.mem_append_left _ (List.mem_append_left _ (List.mem_append_left _ (List.mem_append_right _ h))))))))) (by decide +kernel)
theorem gx_law_flips_6 : GoodIn wsL_law (wsX00) := goodIn_sub (fun _ h => List.mem_append_left _ (List.mem_append_left _ (List.mem_append_left _ (List.mem_append_left _ (List.mem_append_left _ (List.mem_append_left _ (List.mem_append_left _ (List.mem_append_right _ h)))))))) (by decide +kernel)
theorem gx_law_flips_7 : GoodIn wsL_law (wsX40) := goodIn_sub (fun _ h => List.mem_append_left _ (List.mem_append_left _ (List.mem_append_left _ (List.mem_append_left _ (List.mem_append_left _ (List.mem_append_left _ (List.mem_append_right _ h))))))) (by decide +kernel)
theorem gx_law_flips_8 : GoodIn wsL_law ((vx_atS RX8 107 "java/lang/IllegalStateException" ["java/lang/RuntimeException", "java/lang/Exception"]).filter goodWord) := goodIn_sub (fun _ h => List.mem_append_left _ (List.mem_append_left _ (List.mem_append_left _ (List.mem_append_left _ (List.mem_append_right _ h))))) (by decide +kernel)
theorem gx_law_flips_9 : GoodIn wsL_law ((vx_atS RX8 299 "java/lang/IndexOutOfBoundsException" ["java/lang/RuntimeException", "java/lang/Exception"]).filter goodWord) := goodIn_sub (fun _ h => List.mem_append_left _ (List.mem_append_left _ (List.mem_append_left _ (List.mem_append_right _ h)))) (by decide +kernel)
theorem gx_law_flips_10 : GoodIn wsL_law ((vx_atS RX8 304 "java/lang/IllegalArgumentException" ["java/lang/RuntimeException", "java/lang/Exception"]).filter goodWord) := goodIn_sub (fun _ h => List.mem_append_left _ (List.mem_append_left _ (List.mem_append_right _ h))) (by decide +kernel)
theorem gx_law_flips_11 : GoodIn wsL_law ((vx_atS RX8 309 "java/lang/UnsupportedOperationException" ["java/lang/RuntimeException", "java/lang/Exception"]).filter goodWord) := goodIn_sub (fun _ h => List.mem_append_left _ (List.mem_append_right _ h)) (by decide +kernel)
theorem gx_law_flips_12 : GoodIn wsL_law (xn_at242.filter goodWord) := goodIn_sub (fun _ h => List.mem_append_right _ h) (by decide +kernel)
theorem ggL_law_L_flips : GoodIn wsL_law wsL_flips := goodIn_app gh_law_flips (goodIn_app (goodIn_app (goodIn_app (goodIn_app (goodIn_app (goodIn_app (goodIn_app (goodIn_app (goodIn_app (goodIn_app (goodIn_app (goodIn_app (goodIn_app (goodIn_app gk_law_wsL_flips_r1 (goodIn_app gk_law_wsL_flips_r2 (goodIn_app gk_law_wsL_flips_r3 (goodIn_app gk_law_wsL_flips_r4 (goodIn_app gk_law_wsL_flips_r5 (goodIn_app gk_law_wsL_flips_r6 (goodIn_app gk_law_wsL_flips_r7 (goodIn_app gk_law_wsL_flips_r8 (goodIn_app gk_law_wsL_flips_r9 (goodIn_app gk_law_wsL_flips_r10 (goodIn_app gk_law_wsL_flips_r11 (goodIn_app gk_law_wsL_flips_r12 (goodIn_app gk_law_wsL_flips_r13 (goodIn_app gk_law_wsL_flips_r14 (goodIn_app gk_law_wsL_flips_r15 (goodIn_app gk_law_wsL_flips_r16 (goodIn_app gk_law_wsL_flips_r17 (goodIn_app gk_law_wsL_flips_r18 (goodIn_app gk_law_wsL_flips_r19 (goodIn_app gk_law_wsL_flips_r20 (goodIn_app gk_law_wsL_flips_r21 (goodIn_app gk_law_wsL_flips_r22 (goodIn_app gk_law_wsL_flips_r23 (gk_law_wsL_flips_r24)))))))))))))))))))))))) gx_law_flips_0) gx_law_flips_1) gx_law_flips_2) gx_law_flips_3) gx_law_flips_4) gx_law_flips_5) gx_law_flips_6) gx_law_flips_7) gx_law_flips_8) gx_law_flips_9) gx_law_flips_10) gx_law_flips_11) gx_law_flips_12)
set_option maxRecDepth 20000 in
theorem gL_law_L_flips : GoodIn wsL_law (va_wsS RL 166 yL_flips wsL_flips) := goodIn_app (goodIn_of _ (by decide +kernel)) ggL_law_L_flips
