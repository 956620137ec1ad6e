set_option maxRecDepth 20000 in
theorem g_law_X8_format : GoodIn v_law (wsV RL 21 RX8 yX8_format v_X8_format) := goodIn_r _ [225, 226, 227, 2, 164, 40, 165, 15, 166, 17, 14, 37, 32, 11, 167, 13, 168, 169, 170, 171, 29, 115, 172, 173, 174, 175, 176, 177, 178, 179, 111, 116, 180, 181, 182, 183, 184, 2, 185, 186, 36, 187, 188, 189, 190, 191, 192, 193, 194, 195, 196, 197, 198, 199, 200, 201, 202, 203, 33, 204, 205, 206, 35, 207, 208, 209, 210, 211, 212, 213, 214, 215, 117, 216, 217, 218, 219, 220, 221, 118, 222, 223, 224, 414, 415, 416, 417, 418, 419, 420, 421, 422, 423, 424, 427, 428, 429, 430, 431, 432, 433, 471, 472, 473, 474] (by decide +kernel) (by decide +kernel)
set_option maxRecDepth 20000 in
theorem g_law_X9_format : GoodIn v_law (wsV RL 24 RX9 yX9_format v_X9_format) := goodIn_r _ [251, 252, 253, 123, 228, 229, 230, 127, 140, 231, 141, 232, 233, 234, 123, 235, 236, 155, 146, 237, 238, 239, 240, 241, 161, 242, 243, 244, 245, 246, 247, 248, 249, 250, 126, 475, 476, 477, 478, 479, 480, 481, 482, 483, 484, 485, 486, 487, 488, 489, 490, 491, 492, 493, 494, 495, 496, 497, 498, 499, 500, 501, 502, 503, 504, 505, 506, 507, 508, 509, 510, 511, 512, 513, 514, 515, 516, 517, 518, 519, 520, 521, 522, 523, 524] (by decide +kernel) (by decide +kernel)
set_option maxRecDepth 20000 in
theorem g_law_X8_put : GoodIn v_law (wsV RL 25 RX8 yX8_put v_X8_put) := goodIn_r _ [255, 256, 257, 2, 254, 118, 414, 415, 416, 417, 418, 419, 420, 421, 422, 423, 424] (by decide +kernel) (by decide +kernel)
set_option maxRecDepth 20000 in
theorem g_law_X9_put : GoodIn v_law (wsV RL 29 RX9 yX9_put v_X9_put) := goodIn_r _ [259, 260, 261, 123, 258, 126, 475, 476, 477, 478, 479, 480, 481, 482, 483, 484, 485, 486, 487, 488, 489, 490, 491, 492, 493, 494, 495, 496, 497, 498, 499, 500, 501, 502, 503, 504, 505, 506, 507, 508, 509, 510, 511, 512, 513, 514, 515, 516, 517, 518, 519, 520, 521, 522, 523, 524] (by decide +kernel) (by decide +kernel)
set_option maxRecDepth 20000 in
theorem g_law_X8_remove : GoodIn v_law (wsV RL 30 RX8 yX8_remove v_X8_remove) := goodIn_r _ [263, 264, 265, 2, 262, 118, 414, 415, 416, 417, 418, 419, 420, 421, 422, 423, 424] (by decide +kernel) (by decide +kernel)
set_option maxRecDepth 20000 in
theorem g_law_X9_remove : GoodIn v_law (wsV RL 34 RX9 yX9_remove v_X9_remove) := goodIn_r _ [267, 268, 269, 123, 266, 126, 475, 476, 477, 478, 479, 480, 481, 482, 483, 484, 485, 486, 487, 488, 489, 490, 491, 492, 493, 494, 495, 496, 497, 498, 499, 500, 501, 502, 503, 504, 505, 506, 507, 508, 509, 510, 511, 512, 513, 514, 515, 516, 517, 518, 519, 520, 521, 522, 523, 524] (by decide +kernel) (by decide +kernel)
set_option maxRecDepth 20000 in
theorem g_law_X8_get : GoodIn v_law (wsV RL 35 RX8 yX8_get v_X8_get) := goodIn_r _ [271, 272, 273, 2, 270, 118, 414, 415, 416, 417, 418, 419, 420, 421, 422, 423, 424] (by decide +kernel) (by decide +kernel)
set_option maxRecDepth 20000 in
theorem g_law_X9_get : GoodIn v_law (wsV RL 38 RX9 yX9_get v_X9_get) := goodIn_r _ [275, 276, 277, 123, 274, 126, 475, 476, 477, 478, 479, 480, 481, 482, 483, 484, 485, 486, 487, 488, 489, 490, 491, 492, 493, 494, 495, 496, 497, 498, 499, 500, 501, 502, 503, 504, 505, 506, 507, 508, 509, 510, 511, 512, 513, 514, 515, 516, 517, 518, 519, 520, 521, 522, 523, 524] (by decide +kernel) (by decide +kernel)
set_option maxRecDepth 20000 in
theorem g_law_X8_contains : GoodIn v_law (wsV RL 39 RX8 yX8_contains v_X8_contains) := goodIn_r _ [279, 280, 281, 2, 278, 118, 414, 415, 416, 417, 418, 419, 420, 421, 422, 423, 424] (by decide +kernel) (by decide +kernel)
set_option maxRecDepth 20000 in
theorem g_law_X9_contains : GoodIn v_law (wsV RL 43 RX9 yX9_contains v_X9_contains) := goodIn_r _ [283, 284, 285, 123, 282, 126, 475, 476, 477, 478, 479, 480, 481, 482, 483, 484, 485, 486, 487, 488, 489, 490, 491, 492, 493, 494, 495, 496, 497, 498, 499, 500, 501, 502, 503, 504, 505, 506, 507, 508, 509, 510, 511, 512, 513, 514, 515, 516, 517, 518, 519, 520, 521, 522, 523, 524] (by decide +kernel) (by decide +kernel)
set_option maxRecDepth 20000 in
theorem g_law_X8_was : GoodIn v_law (wsV RL 44 RX8 yX8_was v_X8_was) := goodIn_r _ [287, 288, 289, 2, 286, 118, 414, 415, 416, 417, 418, 419, 420, 421, 422, 423, 424] (by decide +kernel) (by decide +kernel)
set_option maxRecDepth 20000 in
theorem g_law_X9_was : GoodIn v_law (wsV RL 47 RX9 yX9_was v_X9_was) := goodIn_r _ [291, 292, 293, 123, 290, 231, 475, 476, 477, 478, 479, 480, 481, 482, 483, 484, 485, 486, 487, 488, 489, 490, 491, 492, 493, 494, 495, 496, 497, 498, 499, 500, 501, 502, 503, 504, 505, 506, 507, 508, 509, 510, 511, 512, 513, 514, 515, 516, 517, 518, 519, 520, 521, 522, 523, 524] (by decide +kernel) (by decide +kernel)
set_option maxRecDepth 20000 in
theorem g_law_X8_size : GoodIn v_law (wsV RL 48 RX8 yX8_size v_X8_size) := goodIn_r _ [295, 296, 297, 2, 294, 118, 414, 415, 416, 417, 418, 419, 420, 421, 422, 423, 424] (by decide +kernel) (by decide +kernel)
set_option maxRecDepth 20000 in
theorem g_law_X9_size : GoodIn v_law (wsV RL 52 RX9 yX9_size v_X9_size) := goodIn_r _ [299, 300, 301, 123, 298, 126, 475, 476, 477, 478, 479, 480, 481, 482, 483, 484, 485, 486, 487, 488, 489, 490, 491, 492, 493, 494, 495, 496, 497, 498, 499, 500, 501, 502, 503, 504, 505, 506, 507, 508, 509, 510, 511, 512, 513, 514, 515, 516, 517, 518, 519, 520, 521, 522, 523, 524] (by decide +kernel) (by decide +kernel)
set_option maxRecDepth 20000 in
theorem g_law_X8_rank : GoodIn v_law (wsV RL 53 RX8 yX8_rank v_X8_rank) := goodIn_r _ [303, 304, 305, 2, 302, 118, 414, 415, 416, 417, 418, 419, 420, 421, 422, 423, 424] (by decide +kernel) (by decide +kernel)
set_option maxRecDepth 20000 in
theorem g_law_X9_rank : GoodIn v_law (wsV RL 56 RX9 yX9_rank v_X9_rank) := goodIn_r _ [307, 308, 309, 123, 306, 126, 475, 476, 477, 478, 479, 480, 481, 482, 483, 484, 485, 486, 487, 488, 489, 490, 491, 492, 493, 494, 495, 496, 497, 498, 499, 500, 501, 502, 503, 504, 505, 506, 507, 508, 509, 510, 511, 512, 513, 514, 515, 516, 517, 518, 519, 520, 521, 522, 523, 524] (by decide +kernel) (by decide +kernel)
set_option maxRecDepth 20000 in
theorem g_law_X8_key : GoodIn v_law (wsV RL 57 RX8 yX8_key v_X8_key) := goodIn_r _ [311, 312, 313, 2, 310, 118, 414, 415, 416, 417, 418, 419, 420, 421, 422, 423, 424] (by decide +kernel) (by decide +kernel)
set_option maxRecDepth 20000 in
theorem g_law_X9_key : GoodIn v_law (wsV RL 60 RX9 yX9_key v_X9_key) := goodIn_r _ [315, 316, 317, 123, 314, 126, 475, 476, 477, 478, 479, 480, 481, 482, 483, 484, 485, 486, 487, 488, 489, 490, 491, 492, 493, 494, 495, 496, 497, 498, 499, 500, 501, 502, 503, 504, 505, 506, 507, 508, 509, 510, 511, 512, 513, 514, 515, 516, 517, 518, 519, 520, 521, 522, 523, 524] (by decide +kernel) (by decide +kernel)
set_option maxRecDepth 20000 in
theorem g_law_X8_sum : GoodIn v_law (wsV RL 61 RX8 yX8_sum v_X8_sum) := goodIn_r _ [319, 320, 321, 2, 318, 118, 414, 415, 416, 417, 418, 419, 420, 421, 422, 423, 424] (by decide +kernel) (by decide +kernel)
set_option maxRecDepth 20000 in
theorem g_law_X9_sum : GoodIn v_law (wsV RL 64 RX9 yX9_sum v_X9_sum) := goodIn_r _ [323, 324, 325, 123, 322, 126, 475, 476, 477, 478, 479, 480, 481, 482, 483, 484, 485, 486, 487, 488, 489, 490, 491, 492, 493, 494, 495, 496, 497, 498, 499, 500, 501, 502, 503, 504, 505, 506, 507, 508, 509, 510, 511, 512, 513, 514, 515, 516, 517, 518, 519, 520, 521, 522, 523, 524] (by decide +kernel) (by decide +kernel)
set_option maxRecDepth 20000 in
theorem g_law_X8_commit : GoodIn v_law (wsV RL 65 RX8 yX8_commit v_X8_commit) := goodIn_r _ [327, 328, 329, 2, 326, 118, 414, 415, 416, 417, 418, 419, 420, 421, 422, 423, 424] (by decide +kernel) (by decide +kernel)
set_option maxRecDepth 20000 in
theorem g_law_X9_commit : GoodIn v_law (wsV RL 68 RX9 yX9_commit v_X9_commit) := goodIn_r _ [331, 332, 333, 123, 330, 126, 475, 476, 477, 478, 479, 480, 481, 482, 483, 484, 485, 486, 487, 488, 489, 490, 491, 492, 493, 494, 495, 496, 497, 498, 499, 500, 501, 502, 503, 504, 505, 506, 507, 508, 509, 510, 511, 512, 513, 514, 515, 516, 517, 518, 519, 520, 521, 522, 523, 524] (by decide +kernel) (by decide +kernel)
set_option maxRecDepth 20000 in
theorem g_law_X8_arm : GoodIn v_law (wsV RL 69 RX8 yX8_arm v_X8_arm) := goodIn_r _ [335, 336, 337, 2, 334, 40, 165, 15, 166, 17, 14, 37, 32, 11, 167, 13, 168, 169, 170, 171, 29, 414, 415, 416, 417, 418, 419, 420, 421, 422, 423, 424, 427, 428, 429, 430, 431, 432, 433] (by decide +kernel) (by decide +kernel)
set_option maxRecDepth 20000 in
theorem g_law_X9_arm : GoodIn v_law (wsV RL 72 RX9 yX9_arm v_X9_arm) := goodIn_r _ [341, 342, 343, 123, 338, 229, 339, 15, 154, 17, 14, 340, 475, 476, 477, 478, 479, 480, 481, 482, 483, 484, 485, 486, 487, 488, 489, 490, 491, 492, 493, 494, 495, 496, 497, 498, 499, 500, 501, 502, 503, 504, 505, 506, 507, 508, 509, 510, 511, 512, 513, 514, 515, 516, 517, 518, 519, 520, 521, 522, 523, 524] (by decide +kernel) (by decide +kernel)
set_option maxRecDepth 20000 in
theorem g_law_X8_recover : GoodIn v_law (wsV RL 73 RX8 yX8_recover v_X8_recover) := goodIn_r _ [360, 361, 362, 2, 344, 118, 77, 115, 345, 346, 347, 348, 349, 350, 67, 351, 203, 33, 32, 204, 205, 206, 29, 35, 352, 353, 354, 172, 173, 174, 175, 176, 355, 178, 179, 111, 356, 357, 358, 359, 64, 116, 414, 415, 416, 417, 418, 419, 420, 421, 422, 423, 424, 444, 445, 446, 447, 448, 449, 450, 451, 452, 453, 427, 428, 429, 430, 431, 432, 433, 471, 472, 473, 474] (by decide +kernel) (by decide +kernel)
set_option maxRecDepth 20000 in
theorem g_law_X9_recover : GoodIn v_law (wsV RL 76 RX9 yX9_recover v_X9_recover) := goodIn_r _ [371, 372, 373, 123, 363, 230, 127, 140, 231, 141, 232, 233, 234, 123, 126, 364, 365, 366, 367, 155, 161, 240, 368, 369, 370, 475, 476, 477, 478, 479, 480, 481, 482, 483, 484, 485, 486, 487, 488, 489, 490, 491, 492, 493, 494, 495, 496, 497, 498, 499, 500, 501, 502, 503, 504, 505, 506, 507, 508, 509, 510, 511, 512, 513, 514, 515, 516, 517, 518, 519, 520, 521, 522, 523, 524] (by decide +kernel) (by decide +kernel)
set_option maxRecDepth 20000 in
theorem g_law_X8_decay : GoodIn v_law (wsV RL 77 RX8 yX8_decay v_X8_decay) := goodIn_r _ [379, 380, 381, 2, 374, 40, 375, 203, 33, 32, 204, 205, 206, 29, 35, 376, 377, 378, 414, 415, 416, 417, 418, 419, 420, 421, 422, 423, 424, 427, 428, 429, 430, 431, 432, 433] (by decide +kernel) (by decide +kernel)
set_option maxRecDepth 20000 in
theorem g_law_X9_decay : GoodIn v_law (wsV RL 81 RX9 yX9_decay v_X9_decay) := goodIn_r _ [383, 384, 385, 123, 382, 156, 155, 161, 475, 476, 477, 478, 479, 480, 481, 482, 483, 484, 485, 486, 487, 488, 489, 490, 491, 492, 493, 494, 495, 496, 497, 498, 499, 500, 501, 502, 503, 504, 505, 506, 507, 508, 509, 510, 511, 512, 513, 514, 515, 516, 517, 518, 519, 520, 521, 522, 523, 524] (by decide +kernel) (by decide +kernel)
set_option maxRecDepth 20000 in
theorem g_law_X8_word : GoodIn v_law (wsV RL 82 RX8 yX8_word v_X8_word) := goodIn_r _ [388, 389, 390, 2, 386, 40, 351, 203, 33, 32, 204, 205, 206, 29, 35, 387, 353, 354, 414, 415, 416, 417, 418, 419, 420, 421, 422, 423, 424, 427, 428, 429, 430, 431, 432, 433] (by decide +kernel) (by decide +kernel)
set_option maxRecDepth 20000 in
theorem g_law_X9_word : GoodIn v_law (wsV RL 85 RX9 yX9_word v_X9_word) := goodIn_r _ [392, 393, 394, 123, 391, 156, 155, 161, 475, 476, 477, 478, 479, 480, 481, 482, 483, 484, 485, 486, 487, 488, 489, 490, 491, 492, 493, 494, 495, 496, 497, 498, 499, 500, 501, 502, 503, 504, 505, 506, 507, 508, 509, 510, 511, 512, 513, 514, 515, 516, 517, 518, 519, 520, 521, 522, 523, 524] (by decide +kernel) (by decide +kernel)
set_option maxRecDepth 20000 in
theorem g_law_X8_block : GoodIn v_law (wsV RL 86 RX8 yX8_block v_X8_block) := goodIn_r _ [396, 397, 398, 2, 395, 118, 414, 415, 416, 417, 418, 419, 420, 421, 422, 423, 424] (by decide +kernel) (by decide +kernel)
set_option maxRecDepth 20000 in
theorem g_law_X9_block : GoodIn v_law (wsV RL 89 RX9 yX9_block v_X9_block) := goodIn_r _ [400, 401, 402, 123, 399, 126, 475, 476, 477, 478, 479, 480, 481, 482, 483, 484, 485, 486, 487, 488, 489, 490, 491, 492, 493, 494, 495, 496, 497, 498, 499, 500, 501, 502, 503, 504, 505, 506, 507, 508, 509, 510, 511, 512, 513, 514, 515, 516, 517, 518, 519, 520, 521, 522, 523, 524] (by decide +kernel) (by decide +kernel)
set_option maxRecDepth 20000 in
theorem g_law_X8_count : GoodIn v_law (wsV RL 90 RX8 yX8_count v_X8_count) := goodIn_r _ [407, 408, 409, 2, 403, 40, 404, 405, 406, 118, 414, 415, 416, 417, 418, 419, 420, 421, 422, 423, 424, 427, 428, 429, 430, 431, 432, 433] (by decide +kernel) (by decide +kernel)
set_option maxRecDepth 20000 in
theorem g_law_X9_count : GoodIn v_law (wsV RL 93 RX9 yX9_count v_X9_count) := goodIn_r _ [411, 412, 413, 123, 410, 156, 155, 242, 126, 475, 476, 477, 478, 479, 480, 481, 482, 483, 484, 485, 486, 487, 488, 489, 490, 491, 492, 493, 494, 495, 496, 497, 498, 499, 500, 501, 502, 503, 504, 505, 506, 507, 508, 509, 510, 511, 512, 513, 514, 515, 516, 517, 518, 519, 520, 521, 522, 523, 524] (by decide +kernel) (by decide +kernel)
set_option maxRecDepth 20000 in
theorem g_law_L_cell : GoodIn v_law (va_wsS RL 9 yL_cell v_L_cell) := goodIn_r _ [4, 5, 6, 3] (by decide +kernel) (by decide +kernel)
set_option maxRecDepth 20000 in
theorem g_law_X8_init : GoodIn v_law v_X8_init := goodIn_r _ [7, 8, 9, 10, 11, 12, 13, 14, 15, 16, 17, 18, 19, 20, 21, 22, 23, 24, 25, 26, 27, 28, 29, 30, 31, 32, 33, 34, 35, 36, 37, 38, 39, 40, 41, 42, 43, 44, 45, 46, 47, 48, 49, 50, 51, 52, 53, 54, 55, 56, 57, 58, 59, 60, 61, 62, 63, 64, 65, 66, 67, 68, 69, 70, 71, 72, 73, 74, 75, 76, 77, 78, 79, 80, 81, 82, 83, 84, 85, 86, 87, 88, 89, 90, 91, 92, 93, 94, 95, 96, 97, 98, 99, 100, 101, 102, 103, 104, 105, 106, 107, 108, 109, 110, 111, 112, 113, 114, 115, 116, 117, 118, 425, 426, 427, 428, 429, 430, 431, 432, 433, 414, 415, 416, 417, 418, 419, 420, 421, 422, 423, 424, 434, 435, 436, 437, 438, 439, 440, 441, 442, 443, 444, 445, 446, 447, 448, 449, 450, 451, 452, 453, 454, 455, 456, 457, 458, 459, 460, 461, 462, 463, 464, 465, 466, 467, 468, 469, 470, 471, 472, 473, 474] (by decide +kernel) (by decide +kernel)
set_option maxRecDepth 20000 in
theorem g_law_X9_init : GoodIn v_law v_X9_init := goodIn_r _ [124, 8, 125, 10, 126, 34, 127, 128, 129, 130, 131, 132, 133, 134, 135, 136, 137, 138, 139, 140, 141, 142, 143, 144, 145, 146, 147, 148, 149, 150, 151, 152, 11, 153, 13, 14, 15, 154, 17, 155, 156, 157, 158, 159, 160, 161, 475, 476, 477, 478, 479, 480, 481, 482, 483, 484, 485, 486, 487, 488, 489, 490, 491, 492, 493, 494, 495, 496, 497, 498, 499, 500, 501, 502, 503, 504, 505, 506, 507, 508, 509, 510, 511, 512, 513, 514, 515, 516, 517, 518, 519, 520, 521, 522, 523, 524] (by decide +kernel) (by decide +kernel)
