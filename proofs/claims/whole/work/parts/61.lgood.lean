/-! the words of what the law calls, among the tables' words -/
set_option maxRecDepth 100000 in
theorem ggL_X4_build : GoodIn lw_tbl wsX4_build := goodIn_r _ [317, 187, 96, 188, 318, 319, 320, 31, 321, 124, 114, 116, 118, 120, 122, 322, 323, 324, 30, 325, 89, 95, 193, 195, 197, 199, 201, 203, 205, 97, 99, 101, 103, 126, 128, 130, 132, 134, 136, 138] (by decide +kernel) (by decide +kernel)
set_option maxRecDepth 100000 in
theorem gL_X4_build : GoodIn lw_tbl (wsV RL 55 RX4 yX4_build wsX4_build) := goodIn_app (goodIn_r _ [314, 315, 316, 28] (by decide +kernel) (by decide +kernel)) ggL_X4_build
set_option maxRecDepth 100000 in
theorem ggL_X5_build : GoodIn lw_tbl wsX5_build := goodIn_r _ [671, 672, 539, 540, 544, 550, 552, 554, 556, 558, 560, 562, 564, 566, 568, 570, 572, 574, 576, 578, 580, 582, 584, 586] (by decide +kernel) (by decide +kernel)
set_option maxRecDepth 100000 in
theorem gL_X5_build : GoodIn lw_tbl (wsV RL 59 RX5 yX5_build wsX5_build) := goodIn_app (goodIn_r _ [668, 669, 670, 33] (by decide +kernel) (by decide +kernel)) ggL_X5_build
set_option maxRecDepth 100000 in
theorem ggL_X4_verdict : GoodIn lw_tbl wsX4_verdict := goodIn_r _ [329, 186, 187, 96, 215, 216, 217, 29, 218, 63, 330, 297, 298, 30, 299, 91, 93, 331, 332, 333, 334, 95, 335, 193, 195, 197, 199, 201, 203, 205, 97, 99, 101, 103, 65, 67, 69, 71, 73, 75, 77] (by decide +kernel) (by decide +kernel)
set_option maxRecDepth 100000 in
theorem gL_X4_verdict : GoodIn lw_tbl (wsV RL 60 RX4 yX4_verdict wsX4_verdict) := goodIn_app (goodIn_r _ [326, 327, 328, 28] (by decide +kernel) (by decide +kernel)) ggL_X4_verdict
set_option maxRecDepth 100000 in
theorem ggL_X5_verdict : GoodIn lw_tbl wsX5_verdict := goodIn_r _ [676, 539, 596, 598, 8, 33, 599, 533, 593, 594, 595, 677, 679, 17, 680, 541, 550, 552, 554, 556, 558, 560, 562, 564, 566, 568, 570, 572, 574, 576, 578, 580, 582, 584, 586] (by decide +kernel) (by decide +kernel)
set_option maxRecDepth 100000 in
theorem gL_X5_verdict : GoodIn lw_tbl (wsV RL 64 RX5 yX5_verdict wsX5_verdict) := goodIn_app (goodIn_r _ [673, 674, 675, 33] (by decide +kernel) (by decide +kernel)) ggL_X5_verdict
set_option maxRecDepth 100000 in
theorem ggL_X4_was : GoodIn lw_tbl wsX4_was := goodIn_r _ [339, 186, 187, 215, 216, 217, 29, 218, 63, 340, 341, 342, 30, 343, 95, 330, 297, 298, 299, 91, 93, 193, 195, 197, 199, 201, 203, 205, 65, 67, 69, 71, 73, 75, 77, 97, 99, 101, 103] (by decide +kernel) (by decide +kernel)
set_option maxRecDepth 100000 in
theorem gL_X4_was : GoodIn lw_tbl (wsV RL 65 RX4 yX4_was wsX4_was) := goodIn_app (goodIn_r _ [336, 337, 338, 28] (by decide +kernel) (by decide +kernel)) ggL_X4_was
set_option maxRecDepth 100000 in
theorem ggL_X5_was : GoodIn lw_tbl wsX5_was := goodIn_r _ [684, 541, 596, 598, 8, 33, 599, 533, 593, 594, 595, 685, 687, 18, 688, 539, 550, 552, 554, 556, 558, 560, 562, 564, 566, 568, 570, 572, 574, 576, 578, 580, 582, 584, 586] (by decide +kernel) (by decide +kernel)
set_option maxRecDepth 100000 in
theorem gL_X5_was : GoodIn lw_tbl (wsV RL 68 RX5 yX5_was wsX5_was) := goodIn_app (goodIn_r _ [681, 682, 683, 33] (by decide +kernel) (by decide +kernel)) ggL_X5_was
set_option maxRecDepth 100000 in
theorem ggL_X4_change : GoodIn lw_tbl wsX4_change := goodIn_r _ [347, 187, 90, 192, 340, 341, 342, 30, 343, 95, 193, 195, 197, 199, 201, 203, 205, 97, 99, 101, 103] (by decide +kernel) (by decide +kernel)
set_option maxRecDepth 100000 in
theorem gL_X4_change : GoodIn lw_tbl (wsV RL 69 RX4 yX4_change wsX4_change) := goodIn_app (goodIn_r _ [344, 345, 346, 28] (by decide +kernel) (by decide +kernel)) ggL_X4_change
set_option maxRecDepth 100000 in
theorem ggL_X5_change : GoodIn lw_tbl wsX5_change := goodIn_r _ [692, 540, 542, 685, 687, 18, 33, 688, 539, 593, 594, 595, 550, 552, 554, 556, 558, 560, 562, 564, 566, 568, 570, 572, 574, 576, 578, 580, 582, 584, 586] (by decide +kernel) (by decide +kernel)
set_option maxRecDepth 100000 in
theorem gL_X5_change : GoodIn lw_tbl (wsV RL 72 RX5 yX5_change wsX5_change) := goodIn_app (goodIn_r _ [689, 690, 691, 33] (by decide +kernel) (by decide +kernel)) ggL_X5_change
set_option maxRecDepth 100000 in
theorem ggL_X4_often : GoodIn lw_tbl wsX4_often := goodIn_r _ [351, 186, 187, 92, 94, 96, 215, 216, 217, 29, 218, 63, 352, 353, 35, 354, 355, 356, 357, 193, 195, 197, 199, 201, 203, 205, 97, 99, 101, 103, 65, 67, 69, 71, 73, 75, 77] (by decide +kernel) (by decide +kernel)
set_option maxRecDepth 100000 in
theorem gL_X4_often : GoodIn lw_tbl (wsV RL 73 RX4 yX4_often wsX4_often) := goodIn_app (goodIn_r _ [348, 349, 350, 28] (by decide +kernel) (by decide +kernel)) ggL_X4_often
set_option maxRecDepth 100000 in
theorem ggL_X5_often : GoodIn lw_tbl wsX5_often := goodIn_r _ [696, 539, 541, 596, 598, 8, 33, 599, 533, 593, 594, 595, 550, 552, 554, 556, 558, 560, 562, 564, 566, 568, 570, 572, 574, 576, 578, 580, 582, 584, 586] (by decide +kernel) (by decide +kernel)
set_option maxRecDepth 100000 in
theorem gL_X5_often : GoodIn lw_tbl (wsV RL 76 RX5 yX5_often wsX5_often) := goodIn_app (goodIn_r _ [693, 694, 695, 33] (by decide +kernel) (by decide +kernel)) ggL_X5_often
set_option maxRecDepth 100000 in
theorem ggL_X4_pick : GoodIn lw_tbl wsX4_pick := goodIn_r _ [361, 187, 96, 188, 186, 64, 117, 119, 115, 362, 363, 28, 364, 365, 366, 367, 30, 368, 95, 89, 369, 370, 371, 31, 372, 124, 122, 373, 319, 320, 321, 114, 116, 118, 120, 374, 375, 376, 29, 377, 63, 51, 61, 57, 378, 380, 3, 381, 58, 123, 121, 395, 382, 383, 384, 385, 386, 387, 388, 390, 280, 281, 282, 53, 391, 392, 393, 394, 59, 352, 353, 35, 354, 355, 356, 357, 283, 284, 285, 286, 91, 287, 396, 398, 4, 399, 60, 279, 400, 401, 402, 403, 112, 193, 195, 197, 199, 201, 203, 205, 97, 99, 101, 103, 65, 67, 69, 71, 73, 75, 77, 126, 128, 130, 132, 134, 136, 138] (by decide +kernel) (by decide +kernel)
set_option maxRecDepth 100000 in
theorem gL_X4_pick : GoodIn lw_tbl (wsV RL 77 RX4 yX4_pick wsX4_pick) := goodIn_app (goodIn_r _ [358, 359, 360, 28] (by decide +kernel) (by decide +kernel)) ggL_X4_pick
set_option maxRecDepth 100000 in
theorem ggL_X5_pick : GoodIn lw_tbl wsX5_pick := goodIn_r _ [700, 539, 540, 544, 548, 708, 533, 546, 547, 593, 594, 33, 595, 701, 703, 19, 704, 705, 706, 707, 649, 651, 14, 652, 537, 538, 657, 659, 16, 660, 536, 709, 711, 20, 712, 534, 661, 662, 663, 641, 643, 12, 644, 541, 713, 715, 21, 716, 637, 639, 11, 640, 535, 717, 719, 22, 720, 545, 550, 552, 554, 556, 558, 560, 562, 564, 566, 568, 570, 572, 574, 576, 578, 580, 582, 584, 586] (by decide +kernel) (by decide +kernel)
set_option maxRecDepth 100000 in
theorem gL_X5_pick : GoodIn lw_tbl (wsV RL 80 RX5 yX5_pick wsX5_pick) := goodIn_app (goodIn_r _ [697, 698, 699, 33] (by decide +kernel) (by decide +kernel)) ggL_X5_pick
set_option maxRecDepth 100000 in
theorem ggL_X4_picked : GoodIn lw_tbl wsX4_picked := goodIn_r _ [407, 188, 125, 115, 113, 193, 195, 197, 199, 201, 203, 205, 126, 128, 130, 132, 134, 136, 138] (by decide +kernel) (by decide +kernel)
set_option maxRecDepth 100000 in
theorem gL_X4_picked : GoodIn lw_tbl (wsV RL 81 RX4 yX4_picked wsX4_picked) := goodIn_app (goodIn_r _ [404, 405, 406, 28] (by decide +kernel) (by decide +kernel)) ggL_X4_picked
set_option maxRecDepth 100000 in
theorem ggL_X5_picked : GoodIn lw_tbl wsX5_picked := goodIn_r _ [724, 544, 545, 593, 594, 33, 595, 550, 552, 554, 556, 558, 560, 562, 564, 566, 568, 570, 572, 574, 576, 578, 580, 582, 584, 586] (by decide +kernel) (by decide +kernel)
set_option maxRecDepth 100000 in
theorem gL_X5_picked : GoodIn lw_tbl (wsV RL 84 RX5 yX5_picked wsX5_picked) := goodIn_app (goodIn_r _ [721, 722, 723, 33] (by decide +kernel) (by decide +kernel)) ggL_X5_picked
set_option maxRecDepth 100000 in
theorem ggL_X4_about : GoodIn lw_tbl wsX4_about := goodIn_r _ [411, 188, 125, 119, 117, 412, 413, 414, 31, 415, 120, 122, 416, 353, 35, 354, 355, 356, 357, 193, 195, 197, 199, 201, 203, 205, 126, 128, 130, 132, 134, 136, 138] (by decide +kernel) (by decide +kernel)
set_option maxRecDepth 100000 in
theorem gL_X4_about : GoodIn lw_tbl (wsV RL 85 RX4 yX4_about wsX4_about) := goodIn_app (goodIn_r _ [408, 409, 410, 28] (by decide +kernel) (by decide +kernel)) ggL_X4_about
set_option maxRecDepth 100000 in
theorem ggL_X5_about : GoodIn lw_tbl wsX5_about := goodIn_r _ [728, 544, 546, 547, 548, 593, 594, 33, 595, 550, 552, 554, 556, 558, 560, 562, 564, 566, 568, 570, 572, 574, 576, 578, 580, 582, 584, 586] (by decide +kernel) (by decide +kernel)
set_option maxRecDepth 100000 in
theorem gL_X5_about : GoodIn lw_tbl (wsV RL 88 RX5 yX5_about wsX5_about) := goodIn_app (goodIn_r _ [725, 726, 727, 33] (by decide +kernel) (by decide +kernel)) ggL_X5_about
set_option maxRecDepth 100000 in
theorem ggL_X4_best : GoodIn lw_tbl wsX4_best := goodIn_r _ [420, 187, 96, 186, 189, 64, 58, 60, 157, 192, 160, 362, 363, 28, 364, 374, 375, 376, 29, 377, 63, 51, 61, 57, 304, 305, 34, 306, 307, 308, 309, 365, 366, 367, 30, 368, 95, 89, 421, 422, 423, 32, 424, 151, 156, 158, 159, 382, 383, 384, 279, 280, 281, 282, 53, 425, 426, 427, 428, 147, 148, 149, 150, 429, 430, 431, 432, 154, 153, 152, 433, 434, 435, 436, 441, 442, 36, 443, 155, 437, 438, 439, 440, 444, 445, 446, 447, 448, 353, 35, 354, 355, 356, 357, 449, 450, 451, 452, 352, 193, 195, 197, 199, 201, 203, 205, 97, 99, 101, 103, 65, 67, 69, 71, 73, 75, 77, 161, 163, 165, 167, 169, 171, 173, 175, 177, 179, 181, 183] (by decide +kernel) (by decide +kernel)
set_option maxRecDepth 100000 in
theorem gL_X4_best : GoodIn lw_tbl (wsV RL 89 RX4 yX4_best wsX4_best) := goodIn_app (goodIn_r _ [417, 418, 419, 28] (by decide +kernel) (by decide +kernel)) ggL_X4_best
set_option maxRecDepth 100000 in
theorem ggL_X5_best : GoodIn lw_tbl wsX5_best := goodIn_r _ [732, 539, 533, 549, 540, 542, 593, 594, 33, 595, 709, 711, 20, 712, 534, 537, 536, 733, 735, 23, 736, 705, 706, 707, 701, 703, 19, 704, 649, 651, 14, 652, 538, 661, 662, 663, 713, 715, 21, 716, 637, 639, 11, 640, 535, 657, 659, 16, 660, 550, 552, 554, 556, 558, 560, 562, 564, 566, 568, 570, 572, 574, 576, 578, 580, 582, 584, 586] (by decide +kernel) (by decide +kernel)
set_option maxRecDepth 100000 in
theorem gL_X5_best : GoodIn lw_tbl (wsV RL 92 RX5 yX5_best wsX5_best) := goodIn_app (goodIn_r _ [729, 730, 731, 33] (by decide +kernel) (by decide +kernel)) ggL_X5_best
set_option maxRecDepth 100000 in
theorem ggL_X4_run : GoodIn lw_tbl wsX4_run := goodIn_r _ [456, 186, 188, 125, 115, 113, 58, 187, 457, 458, 459, 29, 460, 63, 382, 383, 28, 384, 331, 332, 333, 30, 334, 95, 91, 335, 93, 193, 195, 197, 199, 201, 203, 205, 126, 128, 130, 132, 134, 136, 138, 65, 67, 69, 71, 73, 75, 77, 97, 99, 101, 103] (by decide +kernel) (by decide +kernel)
set_option maxRecDepth 100000 in
theorem gL_X4_run : GoodIn lw_tbl (wsV RL 93 RX4 yX4_run wsX4_run) := goodIn_app (goodIn_r _ [453, 454, 455, 28] (by decide +kernel) (by decide +kernel)) ggL_X4_run
set_option maxRecDepth 100000 in
theorem ggL_X5_run : GoodIn lw_tbl wsX5_run := goodIn_r _ [740, 544, 545, 741, 743, 24, 33, 744, 533, 657, 659, 16, 660, 536, 705, 706, 707, 677, 679, 17, 680, 539, 541, 550, 552, 554, 556, 558, 560, 562, 564, 566, 568, 570, 572, 574, 576, 578, 580, 582, 584, 586] (by decide +kernel) (by decide +kernel)
set_option maxRecDepth 100000 in
theorem gL_X5_run : GoodIn lw_tbl (wsV RL 96 RX5 yX5_run wsX5_run) := goodIn_app (goodIn_r _ [737, 738, 739, 33] (by decide +kernel) (by decide +kernel)) ggL_X5_run
