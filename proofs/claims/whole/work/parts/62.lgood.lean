/-! the words of what the law calls, among the tables' words -/
set_option maxRecDepth 100000 in
theorem ggL_X4_suspects : GoodIn lw_tbl wsX4_suspects := goodIn_r _ [464, 187, 96, 186, 64, 60, 395, 192, 330, 297, 298, 30, 299, 91, 93, 288, 290, 2, 28, 291, 292, 293, 294, 295, 95, 89, 296, 365, 366, 367, 368, 352, 353, 35, 354, 355, 356, 357, 193, 195, 197, 199, 201, 203, 205, 97, 99, 101, 103, 65, 67, 69, 71, 73, 75, 77] (by decide +kernel) (by decide +kernel)
set_option maxRecDepth 100000 in
theorem gL_X4_suspects : GoodIn lw_tbl (wsV RL 97 RX4 yX4_suspects wsX4_suspects) := goodIn_app (goodIn_r _ [461, 462, 463, 28] (by decide +kernel) (by decide +kernel)) ggL_X4_suspects
set_option maxRecDepth 100000 in
theorem ggL_X5_suspects : GoodIn lw_tbl wsX5_suspects := goodIn_r _ [748, 539, 533, 541, 540, 708, 542, 645, 647, 13, 33, 648, 649, 651, 14, 652, 537, 538, 661, 662, 663, 550, 552, 554, 556, 558, 560, 562, 564, 566, 568, 570, 572, 574, 576, 578, 580, 582, 584, 586] (by decide +kernel) (by decide +kernel)
set_option maxRecDepth 100000 in
theorem gL_X5_suspects : GoodIn lw_tbl (wsV RL 101 RX5 yX5_suspects wsX5_suspects) := goodIn_app (goodIn_r _ [745, 746, 747, 33] (by decide +kernel) (by decide +kernel)) ggL_X5_suspects
set_option maxRecDepth 100000 in
theorem ggL_X4_badWork : GoodIn lw_tbl wsX4_badWork := goodIn_r _ [468, 187, 96, 186, 64, 330, 297, 298, 30, 299, 91, 93, 288, 290, 2, 28, 291, 60, 292, 293, 294, 295, 95, 89, 296, 193, 195, 197, 199, 201, 203, 205, 97, 99, 101, 103, 65, 67, 69, 71, 73, 75, 77] (by decide +kernel) (by decide +kernel)
set_option maxRecDepth 100000 in
theorem gL_X4_badWork : GoodIn lw_tbl (wsV RL 102 RX4 yX4_badWork wsX4_badWork) := goodIn_app (goodIn_r _ [465, 466, 467, 28] (by decide +kernel) (by decide +kernel)) ggL_X4_badWork
set_option maxRecDepth 100000 in
theorem ggL_X5_badWork : GoodIn lw_tbl wsX5_badWork := goodIn_r _ [752, 539, 533, 541, 645, 647, 13, 33, 648, 540, 649, 651, 14, 652, 537, 538, 550, 552, 554, 556, 558, 560, 562, 564, 566, 568, 570, 572, 574, 576, 578, 580, 582, 584, 586] (by decide +kernel) (by decide +kernel)
set_option maxRecDepth 100000 in
theorem gL_X5_badWork : GoodIn lw_tbl (wsV RL 105 RX5 yX5_badWork wsX5_badWork) := goodIn_app (goodIn_r _ [749, 750, 751, 33] (by decide +kernel) (by decide +kernel)) ggL_X5_badWork
set_option maxRecDepth 100000 in
theorem ggL_X4_fewest : GoodIn lw_tbl wsX4_fewest := goodIn_r _ [472, 189, 186, 64, 58, 187, 92, 157, 192, 473, 475, 5, 28, 476, 52, 288, 290, 2, 291, 60, 292, 293, 294, 30, 295, 95, 89, 296, 297, 298, 299, 91, 93, 304, 305, 34, 306, 307, 308, 309, 421, 422, 423, 32, 424, 151, 156, 158, 159, 382, 383, 384, 279, 280, 281, 29, 282, 51, 53, 425, 426, 427, 428, 147, 148, 149, 150, 477, 479, 6, 480, 481, 482, 483, 484, 155, 154, 433, 434, 435, 436, 441, 442, 36, 443, 152, 153, 437, 438, 439, 440, 485, 449, 450, 451, 452, 193, 195, 197, 199, 201, 203, 205, 65, 67, 69, 71, 73, 75, 77, 97, 99, 101, 103, 161, 163, 165, 167, 169, 171, 173, 175, 177, 179, 181, 183] (by decide +kernel) (by decide +kernel)
set_option maxRecDepth 100000 in
theorem gL_X4_fewest : GoodIn lw_tbl (wsV RL 106 RX4 yX4_fewest wsX4_fewest) := goodIn_app (goodIn_r _ [469, 470, 471, 28] (by decide +kernel) (by decide +kernel)) ggL_X4_fewest
set_option maxRecDepth 100000 in
theorem ggL_X5_fewest : GoodIn lw_tbl wsX5_fewest := goodIn_r _ [756, 539, 533, 549, 542, 757, 759, 25, 33, 760, 534, 645, 647, 13, 648, 540, 541, 649, 651, 14, 652, 537, 538, 761, 763, 26, 764, 705, 706, 707, 733, 735, 23, 736, 661, 662, 663, 713, 715, 21, 716, 637, 639, 11, 640, 535, 550, 552, 554, 556, 558, 560, 562, 564, 566, 568, 570, 572, 574, 576, 578, 580, 582, 584, 586] (by decide +kernel) (by decide +kernel)
set_option maxRecDepth 100000 in
theorem gL_X5_fewest : GoodIn lw_tbl (wsV RL 109 RX5 yX5_fewest wsX5_fewest) := goodIn_app (goodIn_r _ [753, 754, 755, 33] (by decide +kernel) (by decide +kernel)) ggL_X5_fewest
set_option maxRecDepth 100000 in
theorem ggL_X4_missed : GoodIn lw_tbl wsX4_missed := goodIn_r _ [489, 186, 395, 457, 458, 459, 29, 460, 63, 473, 475, 5, 28, 476, 64, 52, 187, 92, 288, 290, 2, 291, 60, 292, 293, 294, 30, 295, 95, 89, 296, 297, 298, 299, 91, 93, 477, 479, 6, 480, 382, 383, 384, 490, 491, 35, 492, 493, 438, 34, 439, 440, 193, 195, 197, 199, 201, 203, 205, 65, 67, 69, 71, 73, 75, 77, 97, 99, 101, 103] (by decide +kernel) (by decide +kernel)
set_option maxRecDepth 100000 in
theorem gL_X4_missed : GoodIn lw_tbl (wsV RL 110 RX4 yX4_missed wsX4_missed) := goodIn_app (goodIn_r _ [486, 487, 488, 28] (by decide +kernel) (by decide +kernel)) ggL_X4_missed
set_option maxRecDepth 100000 in
theorem ggL_X5_missed : GoodIn lw_tbl wsX5_missed := goodIn_r _ [768, 539, 741, 743, 24, 33, 744, 533, 757, 759, 25, 760, 534, 645, 647, 13, 648, 540, 541, 649, 651, 14, 652, 537, 538, 761, 763, 26, 764, 705, 706, 707, 550, 552, 554, 556, 558, 560, 562, 564, 566, 568, 570, 572, 574, 576, 578, 580, 582, 584, 586] (by decide +kernel) (by decide +kernel)
set_option maxRecDepth 100000 in
theorem gL_X5_missed : GoodIn lw_tbl (wsV RL 113 RX5 yX5_missed wsX5_missed) := goodIn_app (goodIn_r _ [765, 766, 767, 33] (by decide +kernel) (by decide +kernel)) ggL_X5_missed
set_option maxRecDepth 100000 in
theorem ggL_X4_asked : GoodIn lw_tbl wsX4_asked := goodIn_r _ [497, 192, 193, 195, 197, 199, 201, 203, 205] (by decide +kernel) (by decide +kernel)
set_option maxRecDepth 100000 in
theorem gL_X4_asked : GoodIn lw_tbl (wsV RL 114 RX4 yX4_asked wsX4_asked) := goodIn_app (goodIn_r _ [494, 495, 496, 28] (by decide +kernel) (by decide +kernel)) ggL_X4_asked
set_option maxRecDepth 100000 in
theorem ggL_X5_asked : GoodIn lw_tbl wsX5_asked := goodIn_r _ [772, 542, 550, 552, 554, 556, 558, 560, 562, 564, 566, 568, 570, 572, 574, 576, 578, 580, 582, 584, 586] (by decide +kernel) (by decide +kernel)
set_option maxRecDepth 100000 in
theorem gL_X5_asked : GoodIn lw_tbl (wsV RL 118 RX5 yX5_asked wsX5_asked) := goodIn_app (goodIn_r _ [769, 770, 771, 33] (by decide +kernel) (by decide +kernel)) ggL_X5_asked
set_option maxRecDepth 100000 in
theorem ggL_X4_count : GoodIn lw_tbl wsX4_count := goodIn_r _ [501, 186, 64, 187, 96, 502, 503, 504, 30, 505, 91, 93, 506, 353, 35, 354, 355, 356, 357, 193, 195, 197, 199, 201, 203, 205, 65, 67, 69, 71, 73, 75, 77, 97, 99, 101, 103] (by decide +kernel) (by decide +kernel)
set_option maxRecDepth 100000 in
theorem gL_X4_count : GoodIn lw_tbl (wsV RL 119 RX4 yX4_count wsX4_count) := goodIn_app (goodIn_r _ [498, 499, 500, 28] (by decide +kernel) (by decide +kernel)) ggL_X4_count
set_option maxRecDepth 100000 in
theorem ggL_X5_count : GoodIn lw_tbl wsX5_count := goodIn_r _ [776, 539, 541, 533, 550, 552, 554, 556, 558, 560, 562, 564, 566, 568, 570, 572, 574, 576, 578, 580, 582, 584, 586] (by decide +kernel) (by decide +kernel)
set_option maxRecDepth 100000 in
theorem gL_X5_count : GoodIn lw_tbl (wsV RL 122 RX5 yX5_count wsX5_count) := goodIn_app (goodIn_r _ [773, 774, 775, 33] (by decide +kernel) (by decide +kernel)) ggL_X5_count
set_option maxRecDepth 100000 in
theorem ggL_X4_finding : GoodIn lw_tbl wsX4_finding := goodIn_r _ [510, 191, 193, 195, 197, 199, 201, 203, 205] (by decide +kernel) (by decide +kernel)
set_option maxRecDepth 100000 in
theorem gL_X4_finding : GoodIn lw_tbl (wsV RL 123 RX4 yX4_finding wsX4_finding) := goodIn_app (goodIn_r _ [507, 508, 509, 28] (by decide +kernel) (by decide +kernel)) ggL_X4_finding
set_option maxRecDepth 100000 in
theorem ggL_X5_finding : GoodIn lw_tbl wsX5_finding := goodIn_r _ [780, 531, 550, 552, 554, 556, 558, 560, 562, 564, 566, 568, 570, 572, 574, 576, 578, 580, 582, 584, 586] (by decide +kernel) (by decide +kernel)
set_option maxRecDepth 100000 in
theorem gL_X5_finding : GoodIn lw_tbl (wsV RL 126 RX5 yX5_finding wsX5_finding) := goodIn_app (goodIn_r _ [777, 778, 779, 33] (by decide +kernel) (by decide +kernel)) ggL_X5_finding
set_option maxRecDepth 100000 in
theorem ggL_X4_findings : GoodIn lw_tbl wsX4_findings := goodIn_r _ [514, 190, 193, 195, 197, 199, 201, 203, 205] (by decide +kernel) (by decide +kernel)
set_option maxRecDepth 100000 in
theorem gL_X4_findings : GoodIn lw_tbl (wsV RL 127 RX4 yX4_findings wsX4_findings) := goodIn_app (goodIn_r _ [511, 512, 513, 28] (by decide +kernel) (by decide +kernel)) ggL_X4_findings
set_option maxRecDepth 100000 in
theorem ggL_X5_findings : GoodIn lw_tbl wsX5_findings := goodIn_r _ [784, 532, 593, 594, 33, 595, 550, 552, 554, 556, 558, 560, 562, 564, 566, 568, 570, 572, 574, 576, 578, 580, 582, 584, 586] (by decide +kernel) (by decide +kernel)
set_option maxRecDepth 100000 in
theorem gL_X5_findings : GoodIn lw_tbl (wsV RL 130 RX5 yX5_findings wsX5_findings) := goodIn_app (goodIn_r _ [781, 782, 783, 33] (by decide +kernel) (by decide +kernel)) ggL_X5_findings
set_option maxRecDepth 100000 in
theorem ggL_X4_digest : GoodIn lw_tbl wsX4_digest := goodIn_r _ [518, 519, 186, 64, 187, 96, 524, 90, 520, 522, 7, 28, 523, 62, 275, 277, 1, 278, 52, 56, 58, 279, 280, 281, 29, 282, 51, 53, 283, 284, 285, 30, 286, 95, 91, 287, 288, 290, 2, 291, 60, 292, 293, 294, 295, 89, 296, 297, 298, 299, 93, 300, 301, 302, 303, 304, 305, 34, 306, 307, 308, 309, 238, 239, 240, 241, 59, 242, 330, 193, 195, 197, 199, 201, 203, 205, 65, 67, 69, 71, 73, 75, 77, 97, 99, 101, 103] (by decide +kernel) (by decide +kernel)
set_option maxRecDepth 100000 in
theorem gL_X4_digest : GoodIn lw_tbl (wsV RL 131 RX4 yX4_digest wsX4_digest) := goodIn_app (goodIn_r _ [515, 516, 517, 28] (by decide +kernel) (by decide +kernel)) ggL_X4_digest
set_option maxRecDepth 100000 in
theorem ggL_X5_digest : GoodIn lw_tbl wsX5_digest := goodIn_r _ [788, 789, 533, 790, 537, 538, 539, 540, 541, 633, 635, 10, 33, 636, 534, 536, 637, 639, 11, 640, 535, 641, 643, 12, 644, 645, 647, 13, 648, 649, 651, 14, 652, 653, 655, 15, 656, 657, 659, 16, 660, 661, 662, 663, 550, 552, 554, 556, 558, 560, 562, 564, 566, 568, 570, 572, 574, 576, 578, 580, 582, 584, 586] (by decide +kernel) (by decide +kernel)
set_option maxRecDepth 100000 in
theorem gL_X5_digest : GoodIn lw_tbl (wsV RL 134 RX5 yX5_digest wsX5_digest) := goodIn_app (goodIn_r _ [785, 786, 787, 33] (by decide +kernel) (by decide +kernel)) ggL_X5_digest
