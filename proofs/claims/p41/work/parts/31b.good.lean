set_option maxRecDepth 20000 in
theorem ggL_ask_X8_code : GoodIn wsL_ask wsX8_code := goodIn_ca (goodIn_ca (goodIn_ca (goodIn_r _ [15, 16, 17, 18, 19, 20, 21, 14, 22, 23, 24, 25, 26, 27, 28, 29, 30, 31, 32, 33, 34, 35, 36, 37, 38, 39, 40, 41, 42, 43, 44, 45, 46, 47, 48, 49, 357, 358, 359, 360, 361, 362, 363, 364, 365, 366, 367, 368, 369, 370, 371, 372, 373, 374, 375, 376, 377] (by decide +kernel) (by decide +kernel)) (goodIn_sub (fun _ h => List.mem_cons_of_mem _ (List.mem_append_left _ (List.mem_append_left _ (List.mem_append_left _ (List.mem_append_left _ (List.mem_append_right _ h)))))) (by decide +kernel))) (goodIn_sub (fun _ h => List.mem_cons_of_mem _ (List.mem_append_left _ (List.mem_append_left _ (List.mem_append_left _ (List.mem_append_right _ h))))) (by decide +kernel))) (goodIn_sub (fun _ h => List.mem_cons_of_mem _ (List.mem_append_left _ (List.mem_append_left _ (List.mem_append_right _ h)))) (by decide +kernel))
set_option maxRecDepth 20000 in
theorem gL_ask_X8_code : GoodIn wsL_ask (wsV RL 7 RX8 yX8_code wsX8_code) := goodIn_app (goodIn_of _ (by decide +kernel)) ggL_ask_X8_code
set_option maxRecDepth 20000 in
theorem ggL_ask_X8_clear : GoodIn wsL_ask wsX8_clear := goodIn_ca (goodIn_r _ [53, 18, 19, 20, 21, 14, 22, 23, 24, 357, 358, 359, 360, 361, 362, 363, 364, 365, 366, 367, 368, 369, 370, 371, 372, 373, 374, 375, 376, 377] (by decide +kernel) (by decide +kernel)) (goodIn_sub (fun _ h => List.mem_cons_of_mem _ (List.mem_append_left _ (List.mem_append_left _ (List.mem_append_left _ (List.mem_append_right _ h))))) (by decide +kernel))
set_option maxRecDepth 20000 in
theorem gL_ask_X8_clear : GoodIn wsL_ask (wsV RL 13 RX8 yX8_clear wsX8_clear) := goodIn_app (goodIn_of _ (by decide +kernel)) ggL_ask_X8_clear
set_option maxRecDepth 20000 in
theorem ggL_ask_X8_slot : GoodIn wsL_ask wsX8_slot := goodIn_ca (goodIn_r _ [57, 58, 20, 21, 14, 22, 23, 24, 357, 358, 359, 360, 361, 362, 363, 364, 365, 366, 367, 368, 369, 370, 371, 372] (by decide +kernel) (by decide +kernel)) (goodIn_sub (fun _ h => List.mem_cons_of_mem _ (List.mem_append_left _ (List.mem_append_left _ (List.mem_append_left _ (List.mem_append_right _ h))))) (by decide +kernel))
set_option maxRecDepth 20000 in
theorem gL_ask_X8_slot : GoodIn wsL_ask (wsV RL 17 RX8 yX8_slot wsX8_slot) := goodIn_app (goodIn_of _ (by decide +kernel)) ggL_ask_X8_slot
set_option maxRecDepth 20000 in
theorem ggL_ask_X8_output : GoodIn wsL_ask wsX8_output := goodIn_ca (goodIn_r _ [62, 63, 20, 21, 14, 22, 23, 24, 357, 358, 359, 360, 361, 362, 363, 364, 365, 366, 367, 368, 369, 370, 371, 372] (by decide +kernel) (by decide +kernel)) (goodIn_sub (fun _ h => List.mem_cons_of_mem _ (List.mem_append_left _ (List.mem_append_left _ (List.mem_append_left _ (List.mem_append_right _ h))))) (by decide +kernel))
set_option maxRecDepth 20000 in
theorem gL_ask_X8_output : GoodIn wsL_ask (wsV RL 21 RX8 yX8_output wsX8_output) := goodIn_app (goodIn_of _ (by decide +kernel)) ggL_ask_X8_output
set_option maxRecDepth 20000 in
theorem ggL_ask_X8_plain : GoodIn wsL_ask wsX8_plain := goodIn_ca (goodIn_r _ [67, 68, 20, 21, 14, 22, 23, 24, 357, 358, 359, 360, 361, 362, 363, 364, 365, 366, 367, 368, 369, 370, 371, 372] (by decide +kernel) (by decide +kernel)) (goodIn_sub (fun _ h => List.mem_cons_of_mem _ (List.mem_append_left _ (List.mem_append_left _ (List.mem_append_left _ (List.mem_append_right _ h))))) (by decide +kernel))
set_option maxRecDepth 20000 in
theorem gL_ask_X8_plain : GoodIn wsL_ask (wsV RL 24 RX8 yX8_plain wsX8_plain) := goodIn_app (goodIn_of _ (by decide +kernel)) ggL_ask_X8_plain
set_option maxRecDepth 20000 in
theorem ggL_ask_X8_word : GoodIn wsL_ask wsX8_word := goodIn_ca (goodIn_r _ [72, 73, 74, 20, 21, 14, 22, 23, 24, 75, 76, 77, 78, 79, 80, 81, 82, 83, 31, 84, 357, 358, 359, 360, 361, 362, 363, 364, 365, 366, 367, 368, 369, 370, 371, 372, 378, 379, 380, 381, 382, 383, 384, 385, 386, 387, 388, 389, 390, 391, 392, 393, 394] (by decide +kernel) (by decide +kernel)) (goodIn_sub (fun _ h => List.mem_cons_of_mem _ (List.mem_append_left _ (List.mem_append_left _ (List.mem_append_left _ (List.mem_append_right _ h))))) (by decide +kernel))
set_option maxRecDepth 20000 in
theorem gL_ask_X8_word : GoodIn wsL_ask (wsV RL 27 RX8 yX8_word wsX8_word) := goodIn_app (goodIn_of _ (by decide +kernel)) ggL_ask_X8_word
set_option maxRecDepth 20000 in
theorem ggL_ask_X8_flip : GoodIn wsL_ask wsX8_flip := goodIn_ca (goodIn_r _ [88, 89, 73, 74, 20, 21, 14, 22, 23, 24, 90, 91, 92, 78, 93, 81, 94, 95, 96, 97, 98, 99, 100, 357, 358, 359, 360, 361, 362, 363, 364, 365, 366, 367, 368, 369, 370, 371, 372, 378, 379, 380, 381, 382, 383, 384, 385, 386, 387, 388, 389, 390, 391, 392, 393, 394] (by decide +kernel) (by decide +kernel)) (goodIn_sub (fun _ h => List.mem_cons_of_mem _ (List.mem_append_left _ (List.mem_append_left _ (List.mem_append_left _ (List.mem_append_right _ h))))) (by decide +kernel))
set_option maxRecDepth 20000 in
theorem gL_ask_X8_flip : GoodIn wsL_ask (wsV RL 30 RX8 yX8_flip wsX8_flip) := goodIn_app (goodIn_of _ (by decide +kernel)) ggL_ask_X8_flip
set_option maxRecDepth 20000 in
theorem ggL_ask_X8_stick : GoodIn wsL_ask wsX8_stick := goodIn_ca (goodIn_r _ [104, 89, 73, 20, 21, 14, 22, 23, 24, 105, 106, 107, 108, 109, 110, 111, 112, 113, 114, 115, 116, 117, 357, 358, 359, 360, 361, 362, 363, 364, 365, 366, 367, 368, 369, 370, 371, 372, 378, 379, 380, 381, 382, 383, 384, 385, 386, 387, 388, 389, 390, 391] (by decide +kernel) (by decide +kernel)) (goodIn_sub (fun _ h => List.mem_cons_of_mem _ (List.mem_append_left _ (List.mem_append_left _ (List.mem_append_left _ (List.mem_append_right _ h))))) (by decide +kernel))
set_option maxRecDepth 20000 in
theorem gL_ask_X8_stick : GoodIn wsL_ask (wsV RL 34 RX8 yX8_stick wsX8_stick) := goodIn_app (goodIn_of _ (by decide +kernel)) ggL_ask_X8_stick
set_option maxRecDepth 20000 in
theorem ggL_ask_X8_fix : GoodIn wsL_ask wsX8_fix := goodIn_ca (goodIn_r _ [121, 73, 122, 20, 21, 14, 22, 23, 24, 105, 106, 107, 108, 109, 110, 357, 358, 359, 360, 361, 362, 363, 364, 365, 366, 367, 368, 369, 370, 371, 372, 378, 379, 380, 381, 382, 383, 384, 385, 386, 387, 388, 389, 390, 391] (by decide +kernel) (by decide +kernel)) (goodIn_sub (fun _ h => List.mem_cons_of_mem _ (List.mem_append_left _ (List.mem_append_left _ (List.mem_append_left _ (List.mem_append_right _ h))))) (by decide +kernel))
set_option maxRecDepth 20000 in
theorem gL_ask_X8_fix : GoodIn wsL_ask (wsV RL 38 RX8 yX8_fix wsX8_fix) := goodIn_app (goodIn_of _ (by decide +kernel)) ggL_ask_X8_fix
set_option maxRecDepth 20000 in
theorem ggL_ask_X8_isOn : GoodIn wsL_ask wsX8_isOn := goodIn_ca (goodIn_r _ [126, 73, 127, 20, 21, 14, 22, 23, 24, 357, 358, 359, 360, 361, 362, 363, 364, 365, 366, 367, 368, 369, 370, 371, 372, 378, 379, 380, 381, 382, 383, 384, 385, 386, 387, 388, 389, 390, 391] (by decide +kernel) (by decide +kernel)) (goodIn_sub (fun _ h => List.mem_cons_of_mem _ (List.mem_append_left _ (List.mem_append_left _ (List.mem_append_left _ (List.mem_append_right _ h))))) (by decide +kernel))
set_option maxRecDepth 20000 in
theorem gL_ask_X8_isOn : GoodIn wsL_ask (wsV RL 42 RX8 yX8_isOn wsX8_isOn) := goodIn_app (goodIn_of _ (by decide +kernel)) ggL_ask_X8_isOn
set_option maxRecDepth 20000 in
theorem ggL_ask_X8_strikes : GoodIn wsL_ask wsX8_strikes := goodIn_ca (goodIn_r _ [131, 73, 132, 20, 21, 14, 22, 23, 24, 357, 358, 359, 360, 361, 362, 363, 364, 365, 366, 367, 368, 369, 370, 371, 372, 378, 379, 380, 381, 382, 383, 384, 385, 386, 387, 388, 389, 390, 391] (by decide +kernel) (by decide +kernel)) (goodIn_sub (fun _ h => List.mem_cons_of_mem _ (List.mem_append_left _ (List.mem_append_left _ (List.mem_append_left _ (List.mem_append_right _ h))))) (by decide +kernel))
set_option maxRecDepth 20000 in
theorem gL_ask_X8_strikes : GoodIn wsL_ask (wsV RL 45 RX8 yX8_strikes wsX8_strikes) := goodIn_app (goodIn_of _ (by decide +kernel)) ggL_ask_X8_strikes
set_option maxRecDepth 20000 in
theorem ggL_ask_X8_shut : GoodIn wsL_ask wsX8_shut := goodIn_ca (goodIn_ca (goodIn_r _ [136, 73, 127, 20, 21, 14, 22, 23, 24, 137, 138, 139, 140, 141, 142, 143, 144, 145, 146, 147, 148, 149, 150, 151, 152, 153, 154, 155, 156, 157, 158, 159, 160, 161, 162, 163, 164, 165, 357, 358, 359, 360, 361, 362, 363, 364, 365, 366, 367, 368, 369, 370, 371, 372, 378, 379, 380, 381, 382, 383, 384, 385, 386, 387, 388, 389, 390, 391, 395, 396, 397, 398] (by decide +kernel) (by decide +kernel)) (goodIn_sub (fun _ h => List.mem_cons_of_mem _ (List.mem_append_left _ (List.mem_append_left _ (List.mem_append_left _ (List.mem_append_right _ h))))) (by decide +kernel))) (goodIn_sub (fun _ h => List.mem_cons_of_mem _ (List.mem_append_left _ (List.mem_append_right _ h))) (by decide +kernel))
set_option maxRecDepth 20000 in
theorem gL_ask_X8_shut : GoodIn wsL_ask (wsV RL 48 RX8 yX8_shut wsX8_shut) := goodIn_app (goodIn_of _ (by decide +kernel)) ggL_ask_X8_shut
set_option maxRecDepth 20000 in
theorem ggL_ask_X8_test : GoodIn wsL_ask wsX8_test := goodIn_ca (goodIn_ca (goodIn_r _ [169, 73, 127, 146, 20, 21, 14, 22, 23, 24, 137, 138, 139, 140, 141, 105, 106, 107, 108, 109, 110, 357, 358, 359, 360, 361, 362, 363, 364, 365, 366, 367, 368, 369, 370, 371, 372, 378, 379, 380, 381, 382, 383, 384, 385, 386, 387, 388, 389, 390, 391] (by decide +kernel) (by decide +kernel)) (goodIn_sub (fun _ h => List.mem_cons_of_mem _ (List.mem_append_left _ (List.mem_append_left _ (List.mem_append_left _ (List.mem_append_right _ h))))) (by decide +kernel))) (goodIn_sub (fun _ h => List.mem_cons_of_mem _ (List.mem_append_left _ (List.mem_append_right _ h))) (by decide +kernel))
set_option maxRecDepth 20000 in
theorem gL_ask_X8_test : GoodIn wsL_ask (wsV RL 51 RX8 yX8_test wsX8_test) := goodIn_app (goodIn_of _ (by decide +kernel)) ggL_ask_X8_test
set_option maxRecDepth 20000 in
theorem ggL_ask_X8_back : GoodIn wsL_ask wsX8_back := goodIn_ca (goodIn_ca (goodIn_r _ [173, 73, 127, 146, 147, 148, 20, 21, 14, 22, 23, 24, 174, 175, 176, 177, 137, 138, 139, 140, 141, 178, 179, 180, 108, 181, 182, 183, 184, 185, 186, 187, 188, 78, 189, 190, 191, 192, 193, 80, 194, 195, 196, 197, 81, 149, 150, 151, 152, 153, 154, 155, 156, 157, 158, 159, 160, 161, 162, 163, 164, 165, 357, 358, 359, 360, 361, 362, 363, 364, 365, 366, 367, 368, 369, 370, 371, 372, 378, 379, 380, 381, 382, 383, 384, 385, 386, 387, 388, 389, 390, 391, 392, 393, 394, 395, 396, 397, 398] (by decide +kernel) (by decide +kernel)) (goodIn_sub (fun _ h => List.mem_cons_of_mem _ (List.mem_append_left _ (List.mem_append_left _ (List.mem_append_left _ (List.mem_append_right _ h))))) (by decide +kernel))) (goodIn_sub (fun _ h => List.mem_cons_of_mem _ (List.mem_append_left _ (List.mem_append_right _ h))) (by decide +kernel))
set_option maxRecDepth 20000 in
theorem gL_ask_X8_back : GoodIn wsL_ask (wsV RL 54 RX8 yX8_back wsX8_back) := goodIn_app (goodIn_of _ (by decide +kernel)) ggL_ask_X8_back
set_option maxRecDepth 20000 in
theorem ggL_ask_X8_mended : GoodIn wsL_ask wsX8_mended := goodIn_ca (goodIn_r _ [201, 73, 74, 202, 20, 21, 14, 22, 23, 24, 357, 358, 359, 360, 361, 362, 363, 364, 365, 366, 367, 368, 369, 370, 371, 372, 378, 379, 380, 381, 382, 383, 384, 385, 386, 387, 388, 389, 390, 391, 392, 393, 394] (by decide +kernel) (by decide +kernel)) (goodIn_sub (fun _ h => List.mem_cons_of_mem _ (List.mem_append_left _ (List.mem_append_left _ (List.mem_append_left _ (List.mem_append_right _ h))))) (by decide +kernel))
set_option maxRecDepth 20000 in
theorem gL_ask_X8_mended : GoodIn wsL_ask (wsV RL 57 RX8 yX8_mended wsX8_mended) := goodIn_app (goodIn_of _ (by decide +kernel)) ggL_ask_X8_mended
set_option maxRecDepth 20000 in
theorem ggL_ask_X8_overruns : GoodIn wsL_ask wsX8_overruns := goodIn_ca (goodIn_r _ [206, 18, 207, 20, 21, 14, 22, 23, 24, 357, 358, 359, 360, 361, 362, 363, 364, 365, 366, 367, 368, 369, 370, 371, 372, 373, 374, 375, 376, 377] (by decide +kernel) (by decide +kernel)) (goodIn_sub (fun _ h => List.mem_cons_of_mem _ (List.mem_append_left _ (List.mem_append_left _ (List.mem_append_left _ (List.mem_append_right _ h))))) (by decide +kernel))
set_option maxRecDepth 20000 in
theorem gL_ask_X8_overruns : GoodIn wsL_ask (wsV RL 60 RX8 yX8_overruns wsX8_overruns) := goodIn_app (goodIn_of _ (by decide +kernel)) ggL_ask_X8_overruns
set_option maxRecDepth 20000 in
theorem ggL_ask_L_asked : GoodIn wsL_ask wsL_asked := goodIn_ca (goodIn_ca (goodIn_ca (goodIn_ca (goodIn_r _ [211, 212, 213, 214, 14, 215, 216, 217, 20, 21, 22, 23, 24, 218, 34, 31, 35, 36, 30, 32, 37, 38, 39, 40, 41, 219, 220, 221, 222, 223, 224, 225, 226, 227, 228, 229, 230, 231, 232, 233, 234, 235, 236, 237, 238, 239, 240, 241, 242, 243, 73, 244, 245, 246, 247, 248, 249, 250, 251, 252, 253, 254, 255, 256, 257, 258, 259, 74, 174, 175, 176, 177, 127, 137, 138, 139, 140, 141, 260, 261, 262, 263, 264, 265, 266, 267, 268, 269, 270, 271, 272, 273, 274, 275, 276, 191, 192, 78, 193, 80, 277, 278, 279, 280, 281, 282, 283, 284, 285, 286, 287, 288, 289, 290, 291, 292, 293, 195, 196, 197, 81, 294, 295, 296, 297, 298, 299, 300, 301, 302, 303, 304, 305, 306, 307, 308, 309, 310, 311, 312, 313, 314, 315, 316, 317, 318, 148, 319, 320, 321, 322, 323, 324, 325, 326, 327, 328, 329, 330, 331, 332, 333, 334, 335, 147, 336, 337, 338, 152, 339, 154, 340, 341, 342, 343, 344, 155, 345, 346, 347, 348, 158, 159, 160, 161, 349, 350, 351, 352, 156, 353, 354, 355, 356, 157, 357, 358, 359, 360, 361, 362, 363, 364, 365, 366, 367, 368, 369, 370, 371, 372, 399, 400, 401, 402, 378, 379, 380, 381, 382, 383, 384, 385, 386, 387, 388, 389, 390, 391, 403, 404, 405, 392, 393, 394, 406, 407, 408, 395, 396, 397, 398] (by decide +kernel) (by decide +kernel)) (goodIn_sub (fun _ h => List.mem_cons_of_mem _ (List.mem_append_left _ (List.mem_append_left _ (List.mem_append_left _ (List.mem_append_right _ h))))) (by decide +kernel))) (goodIn_sub (fun _ h => List.mem_cons_of_mem _ (List.mem_append_left _ (List.mem_append_left _ (List.mem_append_right _ h)))) (by decide +kernel))) (goodIn_sub (fun _ h => List.mem_cons_of_mem _ (List.mem_append_left _ (List.mem_append_right _ h))) (by decide +kernel))) (goodIn_sub (fun _ h => List.mem_cons_of_mem _ (List.mem_append_right _ h)) (by decide +kernel))
set_option maxRecDepth 20000 in
theorem gL_ask_L_asked : GoodIn wsL_ask (va_wsS RL 63 yL_asked wsL_asked) := goodIn_app (goodIn_of _ (by decide +kernel)) ggL_ask_L_asked
set_option maxRecDepth 20000 in
theorem ggL_asked_X8_read : GoodIn wsL_asked wsX8_read := goodIn_ca (goodIn_ca (goodIn_r _ [5, 6, 7, 8, 9, 4, 10, 11, 12, 13, 14, 15, 16, 17, 18, 19, 20, 21, 22, 23, 24, 25, 26, 27, 28, 29, 30, 31, 32, 33, 34, 195, 196, 197, 198, 199, 200, 201, 202, 203, 204, 205, 206, 207, 208, 209, 210, 211, 212, 213, 214] (by decide +kernel) (by decide +kernel)) (goodIn_sub (fun _ h => List.mem_cons_of_mem _ (List.mem_append_left _ (List.mem_append_left _ (List.mem_append_left _ (List.mem_append_right _ h))))) (by decide +kernel))) (goodIn_sub (fun _ h => List.mem_cons_of_mem _ (List.mem_append_left _ (List.mem_append_left _ (List.mem_append_right _ h)))) (by decide +kernel))
set_option maxRecDepth 20000 in
theorem gL_asked_X8_read : GoodIn wsL_asked (wsV RL 84 RX8 yX8_read wsX8_read) := goodIn_app (goodIn_of _ (by decide +kernel)) ggL_asked_X8_read
set_option maxRecDepth 20000 in
theorem ggL_asked_X8_limit : GoodIn wsL_asked wsX8_limit := goodIn_ca (goodIn_ca (goodIn_r _ [38, 6, 39, 8, 9, 4, 10, 11, 12, 40, 18, 15, 19, 20, 21, 22, 23, 24, 195, 196, 197, 198, 199, 200, 201, 202, 203, 204, 205, 206, 207, 208, 209, 210, 211, 212, 213, 214] (by decide +kernel) (by decide +kernel)) (goodIn_sub (fun _ h => List.mem_cons_of_mem _ (List.mem_append_left _ (List.mem_append_left _ (List.mem_append_left _ (List.mem_append_right _ h))))) (by decide +kernel))) (goodIn_sub (fun _ h => List.mem_cons_of_mem _ (List.mem_append_left _ (List.mem_append_left _ (List.mem_append_right _ h)))) (by decide +kernel))
set_option maxRecDepth 20000 in
theorem gL_asked_X8_limit : GoodIn wsL_asked (wsV RL 87 RX8 yX8_limit wsX8_limit) := goodIn_app (goodIn_of _ (by decide +kernel)) ggL_asked_X8_limit
set_option maxRecDepth 20000 in
theorem ggL_asked_X8_agreed : GoodIn wsL_asked wsX8_agreed := goodIn_ca (goodIn_r _ [44, 6, 45, 8, 9, 4, 10, 11, 12, 195, 196, 197, 198, 199, 200, 201, 202, 203, 204, 205, 206, 207, 208, 209, 210, 211, 212, 213, 214] (by decide +kernel) (by decide +kernel)) (goodIn_sub (fun _ h => List.mem_cons_of_mem _ (List.mem_append_left _ (List.mem_append_left _ (List.mem_append_left _ (List.mem_append_right _ h))))) (by decide +kernel))
set_option maxRecDepth 20000 in
theorem gL_asked_X8_agreed : GoodIn wsL_asked (wsV RL 91 RX8 yX8_agreed wsX8_agreed) := goodIn_app (goodIn_of _ (by decide +kernel)) ggL_asked_X8_agreed
set_option maxRecDepth 20000 in
theorem ggL_asked_X8_drift : GoodIn wsL_asked wsX8_drift := goodIn_ca (goodIn_ca (goodIn_r _ [49, 50, 51, 8, 9, 4, 10, 11, 12, 40, 18, 15, 19, 20, 21, 22, 23, 24, 195, 196, 197, 198, 199, 200, 201, 202, 203, 204, 205, 206, 207, 208, 209, 210, 215, 216, 217, 218, 219, 220, 221, 222, 223, 224, 225, 226, 227, 228] (by decide +kernel) (by decide +kernel)) (goodIn_sub (fun _ h => List.mem_cons_of_mem _ (List.mem_append_left _ (List.mem_append_left _ (List.mem_append_left _ (List.mem_append_right _ h))))) (by decide +kernel))) (goodIn_sub (fun _ h => List.mem_cons_of_mem _ (List.mem_append_left _ (List.mem_append_left _ (List.mem_append_right _ h)))) (by decide +kernel))
set_option maxRecDepth 20000 in
theorem gL_asked_X8_drift : GoodIn wsL_asked (wsV RL 94 RX8 yX8_drift wsX8_drift) := goodIn_app (goodIn_of _ (by decide +kernel)) ggL_asked_X8_drift
set_option maxRecDepth 20000 in
theorem ggL_asked_X8_lie : GoodIn wsL_asked wsX8_lie := goodIn_ca (goodIn_ca (goodIn_r _ [55, 50, 56, 8, 9, 4, 10, 11, 12, 40, 18, 15, 19, 20, 21, 22, 23, 24, 195, 196, 197, 198, 199, 200, 201, 202, 203, 204, 205, 206, 207, 208, 209, 210, 215, 216, 217, 218, 219, 220, 221, 222, 223, 224, 225, 226, 227, 228] (by decide +kernel) (by decide +kernel)) (goodIn_sub (fun _ h => List.mem_cons_of_mem _ (List.mem_append_left _ (List.mem_append_left _ (List.mem_append_left _ (List.mem_append_right _ h))))) (by decide +kernel))) (goodIn_sub (fun _ h => List.mem_cons_of_mem _ (List.mem_append_left _ (List.mem_append_left _ (List.mem_append_right _ h)))) (by decide +kernel))
set_option maxRecDepth 20000 in
theorem gL_asked_X8_lie : GoodIn wsL_asked (wsV RL 97 RX8 yX8_lie wsX8_lie) := goodIn_app (goodIn_of _ (by decide +kernel)) ggL_asked_X8_lie
set_option maxRecDepth 20000 in
theorem ggL_asked_X8_clock : GoodIn wsL_asked wsX8_clock := goodIn_ca (goodIn_r _ [60, 50, 61, 8, 9, 4, 10, 11, 12, 195, 196, 197, 198, 199, 200, 201, 202, 203, 204, 205, 206, 207, 208, 209, 210, 215, 216, 217, 218, 219, 220, 221, 222, 223, 224, 225, 226, 227, 228] (by decide +kernel) (by decide +kernel)) (goodIn_sub (fun _ h => List.mem_cons_of_mem _ (List.mem_append_left _ (List.mem_append_left _ (List.mem_append_left _ (List.mem_append_right _ h))))) (by decide +kernel))
set_option maxRecDepth 20000 in
theorem gL_asked_X8_clock : GoodIn wsL_asked (wsV RL 100 RX8 yX8_clock wsX8_clock) := goodIn_app (goodIn_of _ (by decide +kernel)) ggL_asked_X8_clock
set_option maxRecDepth 20000 in
theorem ggL_asked_X8_save : GoodIn wsL_asked wsX8_save := goodIn_ca (goodIn_ca (goodIn_r _ [65, 66, 50, 67, 8, 9, 4, 10, 11, 12, 68, 69, 70, 71, 72, 73, 74, 75, 76, 77, 78, 79, 80, 81, 82, 83, 84, 85, 86, 87, 88, 89, 90, 91, 92, 93, 94, 95, 96, 97, 98, 99, 100, 101, 102, 103, 195, 196, 197, 198, 199, 200, 201, 202, 203, 204, 205, 206, 207, 208, 209, 210, 215, 216, 217, 218, 219, 220, 221, 222, 223, 224, 225, 226, 227, 228, 229, 230, 231, 232, 233, 234] (by decide +kernel) (by decide +kernel)) (goodIn_sub (fun _ h => List.mem_cons_of_mem _ (List.mem_append_left _ (List.mem_append_left _ (List.mem_append_left _ (List.mem_append_right _ h))))) (by decide +kernel))) (goodIn_sub (fun _ h => List.mem_cons_of_mem _ (List.mem_append_left _ (List.mem_append_right _ h))) (by decide +kernel))
set_option maxRecDepth 20000 in
theorem gL_asked_X8_save : GoodIn wsL_asked (wsV RL 103 RX8 yX8_save wsX8_save) := goodIn_app (goodIn_of _ (by decide +kernel)) ggL_asked_X8_save
set_option maxRecDepth 20000 in
theorem ggL_asked_X8_load : GoodIn wsL_asked wsX8_load := goodIn_ca (goodIn_ca (goodIn_r _ [107, 108, 109, 66, 110, 50, 72, 67, 111, 8, 9, 4, 10, 11, 12, 112, 113, 114, 81, 115, 88, 93, 116, 117, 118, 97, 119, 99, 120, 121, 122, 123, 124, 195, 196, 197, 198, 199, 200, 201, 202, 203, 204, 205, 206, 207, 208, 209, 210, 229, 230, 231, 215, 216, 217, 218, 219, 220, 221, 222, 223, 224, 225, 226, 227, 228, 232, 233, 234] (by decide +kernel) (by decide +kernel)) (goodIn_sub (fun _ h => List.mem_cons_of_mem _ (List.mem_append_right _ h)) (by decide +kernel))) (goodIn_sub (fun _ h => List.mem_cons_of_mem _ (List.mem_append_left _ (List.mem_append_left _ (List.mem_append_left _ (List.mem_append_right _ h))))) (by decide +kernel))
set_option maxRecDepth 20000 in
theorem gL_asked_X8_load : GoodIn wsL_asked (wsV RL 107 RX8 yX8_load wsX8_load) := goodIn_app (goodIn_of _ (by decide +kernel)) ggL_asked_X8_load
set_option maxRecDepth 20000 in
theorem ggL_asked_X8_fault : GoodIn wsL_asked wsX8_fault := goodIn_ca (goodIn_ca (goodIn_r _ [128, 129, 130, 8, 9, 4, 10, 11, 12, 40, 18, 15, 19, 20, 21, 22, 23, 24, 195, 196, 197, 198, 199, 200, 201, 202, 203, 204, 205, 206, 207, 208, 209, 210, 235, 236, 237] (by decide +kernel) (by decide +kernel)) (goodIn_sub (fun _ h => List.mem_cons_of_mem _ (List.mem_append_left _ (List.mem_append_left _ (List.mem_append_left _ (List.mem_append_right _ h))))) (by decide +kernel))) (goodIn_sub (fun _ h => List.mem_cons_of_mem _ (List.mem_append_left _ (List.mem_append_left _ (List.mem_append_right _ h)))) (by decide +kernel))
set_option maxRecDepth 20000 in
theorem gL_asked_X8_fault : GoodIn wsL_asked (wsV RL 110 RX8 yX8_fault wsX8_fault) := goodIn_app (goodIn_of _ (by decide +kernel)) ggL_asked_X8_fault
set_option maxRecDepth 20000 in
theorem ggL_asked_X8_position : GoodIn wsL_asked wsX8_position := goodIn_ca (goodIn_r _ [134, 129, 135, 8, 9, 4, 10, 11, 12, 195, 196, 197, 198, 199, 200, 201, 202, 203, 204, 205, 206, 207, 208, 209, 210, 235, 236, 237] (by decide +kernel) (by decide +kernel)) (goodIn_sub (fun _ h => List.mem_cons_of_mem _ (List.mem_append_left _ (List.mem_append_left _ (List.mem_append_left _ (List.mem_append_right _ h))))) (by decide +kernel))
set_option maxRecDepth 20000 in
theorem gL_asked_X8_position : GoodIn wsL_asked (wsV RL 113 RX8 yX8_position wsX8_position) := goodIn_app (goodIn_of _ (by decide +kernel)) ggL_asked_X8_position
set_option maxRecDepth 20000 in
theorem ggL_asked_X8_hasLetGo : GoodIn wsL_asked wsX8_hasLetGo := goodIn_ca (goodIn_r _ [139, 129, 140, 8, 9, 4, 10, 11, 12, 195, 196, 197, 198, 199, 200, 201, 202, 203, 204, 205, 206, 207, 208, 209, 210, 235, 236, 237] (by decide +kernel) (by decide +kernel)) (goodIn_sub (fun _ h => List.mem_cons_of_mem _ (List.mem_append_left _ (List.mem_append_left _ (List.mem_append_left _ (List.mem_append_right _ h))))) (by decide +kernel))
set_option maxRecDepth 20000 in
theorem gL_asked_X8_hasLetGo : GoodIn wsL_asked (wsV RL 116 RX8 yX8_hasLetGo wsX8_hasLetGo) := goodIn_app (goodIn_of _ (by decide +kernel)) ggL_asked_X8_hasLetGo
set_option maxRecDepth 20000 in
theorem ggL_asked_X8_arm : GoodIn wsL_asked wsX8_arm := goodIn_ca (goodIn_r _ [144, 145, 146, 147, 148, 149, 4, 150, 20, 21, 22, 23, 24, 195, 196, 197, 198, 199, 200, 201, 202, 203, 204, 205, 206, 207, 208, 209, 210] (by decide +kernel) (by decide +kernel)) (goodIn_sub (fun _ h => List.mem_cons_of_mem _ (List.mem_append_left _ (List.mem_append_left _ (List.mem_append_right _ h)))) (by decide +kernel))
set_option maxRecDepth 20000 in
theorem gL_asked_X8_arm : GoodIn wsL_asked (wsV RL 119 RX8 yX8_arm wsX8_arm) := goodIn_app (goodIn_of _ (by decide +kernel)) ggL_asked_X8_arm
set_option maxRecDepth 20000 in
theorem ggL_asked_X8_give : GoodIn wsL_asked wsX8_give := goodIn_ca (goodIn_ca (goodIn_r _ [154, 145, 146, 147, 155, 148, 149, 4, 150, 20, 21, 22, 23, 24, 73, 74, 75, 76, 77, 156, 157, 158, 159, 129, 140, 195, 196, 197, 198, 199, 200, 201, 202, 203, 204, 205, 206, 207, 208, 209, 210, 235, 236, 237] (by decide +kernel) (by decide +kernel)) (goodIn_sub (fun _ h => List.mem_cons_of_mem _ (List.mem_append_left _ (List.mem_append_left _ (List.mem_append_right _ h)))) (by decide +kernel))) (goodIn_sub (fun _ h => List.mem_cons_of_mem _ (List.mem_append_left _ (List.mem_append_right _ h))) (by decide +kernel))
set_option maxRecDepth 20000 in
theorem gL_asked_X8_give : GoodIn wsL_asked (wsV RL 123 RX8 yX8_give wsX8_give) := goodIn_app (goodIn_of _ (by decide +kernel)) ggL_asked_X8_give
set_option maxRecDepth 20000 in
theorem ggL_asked_X8_line : GoodIn wsL_asked wsX8_line := goodIn_ca (goodIn_ca (goodIn_r _ [163, 108, 109, 164, 20, 21, 4, 22, 23, 24, 165, 166, 167, 168, 169, 170, 171, 29, 30, 31, 172, 173, 174, 175, 176, 177, 178, 179, 180, 181, 182, 183, 184, 185, 186, 187, 188, 189, 190, 191, 192, 193, 194, 195, 196, 197, 198, 199, 200, 201, 202, 203, 204, 205, 206, 207, 208, 209, 210, 238, 239, 240, 241] (by decide +kernel) (by decide +kernel)) (goodIn_sub (fun _ h => List.mem_cons_of_mem _ (List.mem_append_right _ h)) (by decide +kernel))) (goodIn_sub (fun _ h => List.mem_cons_of_mem _ (List.mem_append_left _ (List.mem_append_left _ (List.mem_append_right _ h)))) (by decide +kernel))
set_option maxRecDepth 20000 in
theorem gL_asked_X8_line : GoodIn wsL_asked (wsV RL 126 RX8 yX8_line wsX8_line) := goodIn_app (goodIn_of _ (by decide +kernel)) ggL_asked_X8_line
set_option maxRecDepth 20000 in
theorem ggL_law_X8_init : GoodIn wsL_law wsX8_init := goodIn_r _ [12, 13, 14, 15, 16, 17, 18, 19, 20, 21, 22, 23, 24, 25, 3, 26, 27, 28, 29, 30, 31, 32, 33, 34, 35, 36, 37, 38, 39, 40, 41, 42, 43, 44, 45, 46, 47, 48, 49, 50, 51, 52, 53, 54, 55, 56, 57, 58, 59, 60, 61, 62, 63, 64, 65, 66, 67, 68, 69, 70, 71, 72, 73, 74, 75, 76, 77, 78, 79, 80, 81, 82, 83, 84, 85, 86, 87, 88, 89, 90, 91, 92, 93, 94, 95, 96, 97, 98, 99, 100, 101, 102, 103, 104, 105, 106, 107, 108, 109, 110, 111, 112, 113, 592, 593, 594, 595, 596, 597, 598, 599, 600, 601, 602, 603, 604, 605, 606, 607, 608, 609, 610, 611, 612, 613, 614, 615, 616, 617, 618, 619, 620, 621, 622, 623, 624, 625, 626, 627, 628, 629, 630, 631, 632, 633, 634, 635, 636, 637, 638, 639, 640, 641, 642, 643] (by decide +kernel) (by decide +kernel)
set_option maxRecDepth 20000 in
theorem gL_law_X8_init : GoodIn wsL_law (wsX8_init) := ggL_law_X8_init
set_option maxRecDepth 20000 in
theorem ggL_law_X8_time : GoodIn wsL_law wsX8_time := goodIn_r _ [117, 37, 592, 593, 594, 595, 596, 597, 598, 599, 600, 601, 602, 603, 604, 605, 606, 607] (by decide +kernel) (by decide +kernel)
set_option maxRecDepth 20000 in
theorem gL_law_X8_time : GoodIn wsL_law (wsV RL 139 RX8 yX8_time wsX8_time) := goodIn_app (goodIn_of _ (by decide +kernel)) ggL_law_X8_time
set_option maxRecDepth 20000 in
theorem ggL_law_X8_mode : GoodIn wsL_law wsX8_mode := goodIn_r _ [121, 38, 592, 593, 594, 595, 596, 597, 598, 599, 600, 601, 602, 603, 604, 605, 606, 607] (by decide +kernel) (by decide +kernel)
set_option maxRecDepth 20000 in
theorem gL_law_X8_mode : GoodIn wsL_law (wsV RL 143 RX8 yX8_mode wsX8_mode) := goodIn_app (goodIn_of _ (by decide +kernel)) ggL_law_X8_mode
set_option maxRecDepth 20000 in
theorem ggL_law_X8_isPlain : GoodIn wsL_law wsX8_isPlain := goodIn_r _ [125, 31, 32, 592, 593, 594, 595, 596, 597, 598, 599, 600, 601, 602, 603, 604, 605, 606, 607] (by decide +kernel) (by decide +kernel)
set_option maxRecDepth 20000 in
theorem gL_law_X8_isPlain : GoodIn wsL_law (wsV RL 146 RX8 yX8_isPlain wsX8_isPlain) := goodIn_app (goodIn_of _ (by decide +kernel)) ggL_law_X8_isPlain
set_option maxRecDepth 20000 in
theorem ggL_law_X8_isTrue : GoodIn wsL_law wsX8_isTrue := goodIn_r _ [129, 41, 42, 17, 130, 131, 36, 132, 123, 124, 2, 125, 31, 32, 133, 134, 135, 35, 136, 84, 137, 138, 139, 140, 141, 142, 143, 144, 145, 146, 147, 148, 149, 150, 151, 152, 81, 153, 154, 155, 156, 157, 158, 159, 160, 161, 162, 163, 164, 83, 592, 593, 594, 595, 596, 597, 598, 599, 600, 601, 602, 603, 604, 605, 606, 607, 608, 609, 610, 611, 612, 613, 614, 615, 616, 617, 618, 619, 620, 621, 622, 623, 624, 625] (by decide +kernel) (by decide +kernel)
set_option maxRecDepth 20000 in
theorem gL_law_X8_isTrue : GoodIn wsL_law (wsV RL 150 RX8 yX8_isTrue wsX8_isTrue) := goodIn_app (goodIn_of _ (by decide +kernel)) ggL_law_X8_isTrue
set_option maxRecDepth 20000 in
theorem ggL_law_X8_meanOutput : GoodIn wsL_law wsX8_meanOutput := goodIn_r _ [168, 31, 169, 592, 593, 594, 595, 596, 597, 598, 599, 600, 601, 602, 603, 604, 605, 606, 607] (by decide +kernel) (by decide +kernel)
set_option maxRecDepth 20000 in
theorem gL_law_X8_meanOutput : GoodIn wsL_law (wsV RL 153 RX8 yX8_meanOutput wsX8_meanOutput) := goodIn_app (goodIn_of _ (by decide +kernel)) ggL_law_X8_meanOutput
set_option maxRecDepth 20000 in
theorem ggL_law_X8_onShare : GoodIn wsL_law wsX8_onShare := goodIn_r _ [173, 174, 175, 176, 177, 2, 178, 17, 130, 592, 593, 594, 595, 596, 597, 598, 599, 600, 601, 602, 603, 604, 605, 606, 607, 608, 609, 610, 611, 612, 613, 614, 615, 616, 617, 618, 619, 620, 621] (by decide +kernel) (by decide +kernel)
set_option maxRecDepth 20000 in
theorem gL_law_X8_onShare : GoodIn wsL_law (wsV RL 157 RX8 yX8_onShare wsX8_onShare) := goodIn_app (goodIn_of _ (by decide +kernel)) ggL_law_X8_onShare
set_option maxRecDepth 20000 in
theorem ggL_flips_X8_init : GoodIn wsL_flips wsX8_init := goodIn_r _ [10, 11, 12, 13, 14, 15, 16, 17, 18, 19, 20, 21, 22, 23, 5, 24, 25, 26, 27, 28, 29, 30, 31, 32, 33, 34, 35, 36, 37, 38, 39, 40, 41, 42, 43, 44, 45, 46, 47, 48, 49, 50, 51, 52, 53, 54, 55, 56, 57, 58, 59, 60, 61, 62, 63, 64, 65, 66, 67, 68, 69, 70, 71, 72, 73, 74, 75, 76, 77, 78, 79, 80, 81, 82, 83, 84, 85, 86, 87, 88, 89, 90, 91, 92, 93, 94, 95, 6, 96, 97, 98, 99, 100, 101, 102, 103, 104, 105, 106, 107, 108, 109, 110, 563, 564, 565, 566, 567, 568, 569, 570, 571, 572, 573, 574, 575, 576, 577, 578, 579, 580, 581, 582, 583, 584, 585, 586, 587, 588, 589, 590, 591, 592, 593, 594, 595, 596, 597, 598, 599, 600, 601, 602, 603, 604, 605, 606, 607, 608, 609, 610, 611, 612, 613, 614] (by decide +kernel) (by decide +kernel)
set_option maxRecDepth 20000 in
theorem gL_flips_X8_init : GoodIn wsL_flips (wsX8_init) := ggL_flips_X8_init
set_option maxRecDepth 20000 in
theorem ggL_flips_L_at : GoodIn wsL_flips wsL_at := goodIn_r _ [114] (by decide +kernel) (by decide +kernel)
set_option maxRecDepth 20000 in
theorem gL_flips_L_at : GoodIn wsL_flips (va_wsS RL 178 yL_at wsL_at) := goodIn_app (goodIn_of _ (by decide +kernel)) ggL_flips_L_at
set_option maxRecDepth 20000 in
theorem ggL_flips_L_some : GoodIn wsL_flips wsL_some := goodIn_r _ [117] (by decide +kernel) (by decide +kernel)
set_option maxRecDepth 20000 in
theorem gL_flips_L_some : GoodIn wsL_flips (va_wsS RL 183 yL_some wsL_some) := goodIn_app (goodIn_of _ (by decide +kernel)) ggL_flips_L_some
set_option maxRecDepth 20000 in
theorem ggL_flips_J6_bitCount_0f7a4 : GoodIn wsL_flips wsJ6_bitCount_0f7a4 := goodIn_r _ [202, 203, 204, 205] (by decide +kernel) (by decide +kernel)
set_option maxRecDepth 20000 in
theorem gL_flips_J6_bitCount_0f7a4 : GoodIn wsL_flips (va_wsS RL 186 yJ6_bitCount_0f7a4 wsJ6_bitCount_0f7a4) := goodIn_app (goodIn_of _ (by decide +kernel)) ggL_flips_J6_bitCount_0f7a4
set_option maxRecDepth 20000 in
theorem ggL_flips_X8_frame : GoodIn wsL_flips wsX8_frame := goodIn_r _ [438, 35, 40, 26, 24, 36, 28, 29, 255, 256, 257, 3, 258, 15, 227, 439, 440, 441, 46, 442, 101, 103, 443, 444, 311, 445, 102, 104, 446, 447, 448, 449, 20, 18, 296, 450, 451, 452, 17, 453, 66, 454, 455, 456, 457, 60, 64, 65, 63, 458, 189, 148, 190, 459, 460, 461, 462, 463, 464, 465, 466, 467, 468, 469, 470, 471, 472, 473, 474, 475, 30, 476, 477, 478, 479, 67, 480, 55, 481, 482, 483, 484, 485, 54, 486, 73, 74, 199, 200, 201, 202, 203, 204, 205, 487, 488, 489, 490, 491, 492, 68, 493, 284, 285, 286, 72, 494, 280, 281, 282, 242, 243, 244, 245, 246, 34, 247, 248, 249, 33, 250, 82, 78, 79, 81, 251, 252, 253, 254, 495, 496, 497, 498, 499, 500, 501, 502, 232, 503, 504, 505, 506, 507, 508, 509, 510, 511, 512, 513, 514, 515, 516, 517, 518, 183, 519, 520, 521, 522, 523, 524, 341, 331, 525, 526, 527, 528, 529, 530, 531, 532, 533, 534, 535, 536, 57, 56, 306, 307, 308, 309, 310, 312, 313, 314, 315, 537, 538, 539, 48, 540, 108, 541, 542, 110, 109, 543, 563, 564, 565, 566, 567, 568, 569, 570, 571, 572, 573, 574, 575, 576, 577, 578, 579, 580, 581, 582, 583, 584, 585, 586, 587, 588, 589, 590, 591, 592, 605, 606, 607, 608, 597, 598, 599, 600, 601, 612, 613, 614, 593, 594, 595, 596, 609, 610, 611] (by decide +kernel) (by decide +kernel)
set_option maxRecDepth 20000 in
theorem gL_flips_X8_frame : GoodIn wsL_flips (wsV RL 191 RX8 yX8_frame wsX8_frame) := goodIn_app (goodIn_of _ (by decide +kernel)) ggL_flips_X8_frame
set_option maxRecDepth 20000 in
theorem ggL_flips_X8_isTrue : GoodIn wsL_flips wsX8_isTrue := goodIn_r _ [547, 39, 40, 15, 227, 232, 34, 548, 549, 550, 3, 551, 29, 30, 552, 553, 554, 33, 555, 82, 556, 557, 558, 559, 560, 414, 415, 416, 417, 310, 311, 312, 561, 427, 428, 429, 79, 422, 423, 424, 425, 251, 252, 253, 254, 562, 431, 432, 433, 81, 563, 564, 565, 566, 567, 568, 569, 570, 571, 572, 573, 574, 575, 576, 577, 578, 579, 580, 581, 582, 583, 584, 585, 586, 587, 588, 589, 590, 591, 592, 593, 594, 595, 596] (by decide +kernel) (by decide +kernel)
set_option maxRecDepth 20000 in
theorem gL_flips_X8_isTrue : GoodIn wsL_flips (wsV RL 150 RX8 yX8_isTrue wsX8_isTrue) := goodIn_app (goodIn_of _ (by decide +kernel)) ggL_flips_X8_isTrue
set_option maxRecDepth 20000 in
theorem ggL_sticks_X8_init : GoodIn wsL_sticks wsX8_init := goodIn_r _ [8, 9, 10, 11, 12, 13, 14, 15, 16, 17, 18, 19, 20, 21, 4, 22, 23, 24, 25, 26, 27, 28, 29, 30, 31, 32, 33, 34, 35, 36, 37, 38, 39, 40, 41, 42, 43, 44, 45, 46, 47, 48, 49, 50, 51, 52, 53, 54, 55, 56, 57, 58, 59, 60, 61, 62, 63, 64, 65, 66, 67, 68, 69, 70, 71, 72, 73, 74, 75, 76, 77, 78, 79, 80, 81, 82, 83, 84, 85, 86, 87, 88, 89, 90, 91, 92, 93, 94, 95, 96, 97, 98, 99, 100, 101, 102, 103, 104, 105, 106, 107, 108, 109, 561, 562, 563, 564, 565, 566, 567, 568, 569, 570, 571, 572, 573, 574, 575, 576, 577, 578, 579, 580, 581, 582, 583, 584, 585, 586, 587, 588, 589, 590, 591, 592, 593, 594, 595, 596, 597, 598, 599, 600, 601, 602, 603, 604, 605, 606, 607, 608, 609, 610, 611, 612] (by decide +kernel) (by decide +kernel)
set_option maxRecDepth 20000 in
theorem gL_sticks_X8_init : GoodIn wsL_sticks (wsX8_init) := ggL_sticks_X8_init
set_option maxRecDepth 20000 in
theorem ggL_sticks_L_at : GoodIn wsL_sticks wsL_at := goodIn_r _ [113] (by decide +kernel) (by decide +kernel)
set_option maxRecDepth 20000 in
theorem gL_sticks_L_at : GoodIn wsL_sticks (va_wsS RL 178 yL_at wsL_at) := goodIn_app (goodIn_of _ (by decide +kernel)) ggL_sticks_L_at
set_option maxRecDepth 20000 in
theorem ggL_sticks_L_some : GoodIn wsL_sticks wsL_some := goodIn_r _ [116] (by decide +kernel) (by decide +kernel)
set_option maxRecDepth 20000 in
theorem gL_sticks_L_some : GoodIn wsL_sticks (va_wsS RL 183 yL_some wsL_some) := goodIn_app (goodIn_of _ (by decide +kernel)) ggL_sticks_L_some
set_option maxRecDepth 20000 in
theorem ggL_sticks_X8_frame : GoodIn wsL_sticks wsX8_frame := goodIn_r _ [435, 33, 38, 24, 22, 34, 26, 27, 253, 254, 255, 3, 256, 13, 225, 436, 437, 438, 44, 439, 100, 102, 440, 441, 309, 442, 101, 103, 443, 444, 445, 446, 18, 16, 294, 447, 448, 449, 15, 450, 64, 451, 452, 453, 454, 58, 62, 63, 61, 455, 187, 146, 188, 456, 457, 458, 459, 460, 461, 462, 463, 464, 465, 466, 467, 468, 469, 470, 471, 472, 28, 473, 474, 475, 476, 65, 477, 53, 478, 479, 480, 481, 482, 52, 483, 71, 72, 197, 198, 199, 200, 201, 202, 203, 484, 485, 486, 487, 488, 489, 66, 490, 282, 283, 284, 70, 491, 278, 279, 280, 240, 241, 242, 243, 244, 32, 245, 246, 247, 31, 248, 80, 76, 77, 79, 249, 250, 251, 252, 492, 493, 494, 495, 496, 497, 498, 499, 230, 500, 501, 502, 503, 504, 505, 506, 507, 508, 509, 510, 511, 512, 513, 514, 515, 181, 516, 517, 518, 519, 520, 521, 339, 329, 522, 523, 524, 525, 526, 527, 528, 529, 530, 531, 532, 533, 55, 54, 304, 305, 306, 307, 308, 310, 311, 312, 313, 534, 535, 536, 46, 537, 107, 538, 539, 109, 108, 540, 561, 562, 563, 564, 565, 566, 567, 568, 569, 570, 571, 572, 573, 574, 575, 576, 577, 578, 579, 580, 581, 582, 583, 584, 585, 586, 587, 588, 589, 590, 603, 604, 605, 606, 595, 596, 597, 598, 599, 610, 611, 612, 591, 592, 593, 594, 607, 608, 609] (by decide +kernel) (by decide +kernel)
set_option maxRecDepth 20000 in
theorem gL_sticks_X8_frame : GoodIn wsL_sticks (wsV RL 191 RX8 yX8_frame wsX8_frame) := goodIn_app (goodIn_of _ (by decide +kernel)) ggL_sticks_X8_frame
set_option maxRecDepth 20000 in
theorem ggL_sticks_X8_word : GoodIn wsL_sticks wsX8_word := goodIn_ca (goodIn_r _ [180, 13, 181, 136, 137, 3, 138, 139, 140, 182, 183, 184, 52, 185, 70, 71, 186, 187, 146, 188, 561, 562, 563, 564, 565, 566, 567, 568, 569, 570, 571, 572, 573, 574, 575, 576, 577, 578, 579, 580, 581, 582, 583, 584, 585, 586, 587, 588, 589, 590, 610, 611, 612] (by decide +kernel) (by decide +kernel)) (goodIn_sub (fun _ h => List.mem_cons_of_mem _ (List.mem_append_left _ (List.mem_append_left _ (List.mem_append_left _ (List.mem_append_right _ h))))) (by decide +kernel))
set_option maxRecDepth 20000 in
theorem gL_sticks_X8_word : GoodIn wsL_sticks (wsV RL 27 RX8 yX8_word wsX8_word) := goodIn_app (goodIn_of _ (by decide +kernel)) ggL_sticks_X8_word
set_option maxRecDepth 20000 in
theorem ggL_sticks_X8_isPlain : GoodIn wsL_sticks wsX8_isPlain := goodIn_r _ [544, 27, 28, 561, 562, 563, 564, 565, 566, 567, 568, 569, 570, 571, 572, 573, 574, 575, 576] (by decide +kernel) (by decide +kernel)
set_option maxRecDepth 20000 in
theorem gL_sticks_X8_isPlain : GoodIn wsL_sticks (wsV RL 146 RX8 yX8_isPlain wsX8_isPlain) := goodIn_app (goodIn_of _ (by decide +kernel)) ggL_sticks_X8_isPlain
set_option maxRecDepth 20000 in
theorem ggL_sticks_X8_isTrue : GoodIn wsL_sticks wsX8_isTrue := goodIn_r _ [548, 37, 38, 13, 225, 230, 32, 549, 542, 543, 3, 544, 27, 28, 550, 551, 552, 31, 553, 80, 554, 555, 556, 557, 558, 412, 413, 414, 415, 308, 309, 310, 559, 425, 426, 427, 77, 420, 421, 422, 423, 249, 250, 251, 252, 560, 429, 430, 431, 79, 561, 562, 563, 564, 565, 566, 567, 568, 569, 570, 571, 572, 573, 574, 575, 576, 577, 578, 579, 580, 581, 582, 583, 584, 585, 586, 587, 588, 589, 590, 591, 592, 593, 594] (by decide +kernel) (by decide +kernel)
set_option maxRecDepth 20000 in
theorem gL_sticks_X8_isTrue : GoodIn wsL_sticks (wsV RL 150 RX8 yX8_isTrue wsX8_isTrue) := goodIn_app (goodIn_of _ (by decide +kernel)) ggL_sticks_X8_isTrue
set_option maxRecDepth 20000 in
theorem ggL_full_X8_init : GoodIn wsL_full wsX8_init := goodIn_r _ [9, 10, 11, 12, 13, 14, 15, 16, 17, 18, 19, 20, 21, 22, 4, 23, 24, 25, 26, 27, 28, 29, 30, 31, 32, 33, 34, 35, 36, 37, 38, 39, 40, 41, 42, 43, 44, 45, 46, 47, 48, 49, 50, 51, 52, 53, 54, 55, 56, 57, 58, 59, 60, 61, 62, 63, 64, 65, 66, 67, 68, 69, 70, 71, 72, 73, 74, 75, 76, 77, 78, 79, 80, 81, 82, 83, 84, 85, 86, 87, 88, 89, 90, 91, 92, 93, 94, 95, 96, 97, 98, 99, 100, 101, 102, 103, 104, 105, 106, 107, 108, 109, 110, 545, 546, 547, 548, 549, 550, 551, 552, 553, 554, 555, 556, 557, 558, 559, 560, 561, 562, 563, 564, 565, 566, 567, 568, 569, 570, 571, 572, 573, 574, 575, 576, 577, 578, 579, 580, 581, 582, 583, 584, 585, 586, 587, 588, 589, 590, 591, 592, 593, 594, 595, 596] (by decide +kernel) (by decide +kernel)
set_option maxRecDepth 20000 in
theorem gL_full_X8_init : GoodIn wsL_full (wsX8_init) := ggL_full_X8_init
set_option maxRecDepth 20000 in
theorem ggL_full_X8_frame : GoodIn wsL_full wsX8_frame := goodIn_r _ [429, 34, 39, 25, 23, 35, 27, 28, 247, 248, 249, 3, 250, 14, 219, 430, 431, 432, 45, 433, 101, 103, 434, 435, 303, 436, 102, 104, 437, 438, 439, 440, 19, 17, 288, 441, 442, 443, 16, 444, 65, 445, 446, 447, 448, 59, 63, 64, 62, 449, 181, 140, 182, 450, 451, 452, 453, 454, 455, 456, 457, 458, 459, 460, 461, 462, 463, 464, 465, 466, 29, 467, 468, 469, 470, 66, 471, 54, 472, 473, 474, 475, 476, 53, 477, 72, 73, 191, 192, 193, 194, 195, 196, 197, 478, 479, 480, 481, 482, 483, 67, 484, 276, 277, 278, 71, 485, 272, 273, 274, 234, 235, 236, 237, 238, 33, 239, 240, 241, 32, 242, 81, 77, 78, 80, 243, 244, 245, 246, 486, 487, 488, 489, 490, 491, 492, 493, 224, 494, 495, 496, 497, 498, 499, 500, 501, 502, 503, 504, 505, 506, 507, 508, 509, 175, 510, 511, 512, 513, 514, 515, 333, 323, 516, 517, 518, 519, 520, 521, 522, 523, 524, 525, 526, 527, 56, 55, 298, 299, 300, 301, 302, 304, 305, 306, 307, 528, 529, 530, 47, 531, 108, 532, 533, 110, 109, 534, 545, 546, 547, 548, 549, 550, 551, 552, 553, 554, 555, 556, 557, 558, 559, 560, 561, 562, 563, 564, 565, 566, 567, 568, 569, 570, 571, 572, 573, 574, 587, 588, 589, 590, 579, 580, 581, 582, 583, 594, 595, 596, 575, 576, 577, 578, 591, 592, 593] (by decide +kernel) (by decide +kernel)
set_option maxRecDepth 20000 in
theorem gL_full_X8_frame : GoodIn wsL_full (wsV RL 191 RX8 yX8_frame wsX8_frame) := goodIn_app (goodIn_of _ (by decide +kernel)) ggL_full_X8_frame
set_option maxRecDepth 20000 in
theorem ggL_full_X8_mode : GoodIn wsL_full wsX8_mode := goodIn_r _ [538, 35, 545, 546, 547, 548, 549, 550, 551, 552, 553, 554, 555, 556, 557, 558, 559, 560] (by decide +kernel) (by decide +kernel)
set_option maxRecDepth 20000 in
theorem gL_full_X8_mode : GoodIn wsL_full (wsV RL 143 RX8 yX8_mode wsX8_mode) := goodIn_app (goodIn_of _ (by decide +kernel)) ggL_full_X8_mode
set_option maxRecDepth 20000 in
theorem ggL_full_L_at : GoodIn wsL_full wsL_at := goodIn_r _ [541] (by decide +kernel) (by decide +kernel)
set_option maxRecDepth 20000 in
theorem gL_full_L_at : GoodIn wsL_full (va_wsS RL 178 yL_at wsL_at) := goodIn_app (goodIn_of _ (by decide +kernel)) ggL_full_L_at
set_option maxRecDepth 20000 in
theorem ggL_full_L_some : GoodIn wsL_full wsL_some := goodIn_r _ [544] (by decide +kernel) (by decide +kernel)
set_option maxRecDepth 20000 in
theorem gL_full_L_some : GoodIn wsL_full (va_wsS RL 183 yL_some wsL_some) := goodIn_app (goodIn_of _ (by decide +kernel)) ggL_full_L_some

