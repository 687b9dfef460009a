/-! the words of what the law calls, among the tables' words -/
set_option maxRecDepth 100000 in
theorem ggL_X4_init : GoodIn lw_tbl wsX4_init := goodIn_r _ [41, 42, 43, 44, 45, 46, 29, 186, 83, 84, 30, 187, 106, 107, 31, 188, 141, 142, 32, 189, 80, 190, 191, 192, 48, 49, 50, 51, 53, 55, 57, 81, 59, 82, 61, 63, 86, 87, 88, 89, 91, 93, 95, 109, 110, 111, 112, 114, 116, 118, 120, 122, 124, 144, 145, 146, 147, 148, 149, 150, 151, 152, 153, 154, 155, 156, 158, 159, 65, 67, 69, 71, 73, 75, 77, 193, 195, 197, 199, 201, 203, 205, 97, 99, 101, 103, 126, 128, 130, 132, 134, 136, 138, 161, 163, 165, 167, 169, 171, 173, 175, 177, 179, 181, 183] (by decide +kernel) (by decide +kernel)
set_option maxRecDepth 100000 in
theorem ggL_X5_init : GoodIn lw_tbl wsX5_init := goodIn_r _ [529, 530, 43, 44, 80, 532, 534, 535, 536, 82, 537, 538, 81, 540, 541, 543, 544, 545, 549, 550, 552, 554, 556, 558, 560, 562, 564, 566, 568, 570, 572, 574, 576, 578, 580, 582, 584, 586] (by decide +kernel) (by decide +kernel)
set_option maxRecDepth 100000 in
theorem ggL_X4_test : GoodIn lw_tbl wsX4_test := goodIn_r _ [211, 186, 64, 212, 213, 28, 214, 215, 216, 217, 29, 218, 63, 219, 220, 221, 222, 51, 53, 55, 57, 193, 195, 197, 199, 201, 203, 205, 65, 67, 69, 71, 73, 75, 77] (by decide +kernel) (by decide +kernel)
set_option maxRecDepth 100000 in
theorem gL_X4_test : GoodIn lw_tbl (wsV RL 13 RX4 yX4_test wsX4_test) := goodIn_app (goodIn_r _ [208, 209, 210, 28] (by decide +kernel) (by decide +kernel)) ggL_X4_test
set_option maxRecDepth 100000 in
theorem ggL_X5_test : GoodIn lw_tbl wsX5_test := goodIn_r _ [592, 533, 534, 535, 536, 593, 594, 33, 595, 596, 598, 8, 599, 550, 552, 554, 556, 558, 560, 562, 564, 566, 568, 570, 572, 574, 576, 578, 580, 582, 584, 586] (by decide +kernel) (by decide +kernel)
set_option maxRecDepth 100000 in
theorem gL_X5_test : GoodIn lw_tbl (wsV RL 17 RX5 yX5_test wsX5_test) := goodIn_app (goodIn_r _ [589, 590, 591, 33] (by decide +kernel) (by decide +kernel)) ggL_X5_test
set_option maxRecDepth 100000 in
theorem ggL_X4_turn : GoodIn lw_tbl wsX4_turn := goodIn_r _ [226, 186, 52, 215, 216, 217, 29, 218, 63, 212, 213, 28, 214, 227, 229, 0, 230, 191, 190, 193, 195, 197, 199, 201, 203, 205, 65, 67, 69, 71, 73, 75, 77] (by decide +kernel) (by decide +kernel)
set_option maxRecDepth 100000 in
theorem gL_X4_turn : GoodIn lw_tbl (wsV RL 18 RX4 yX4_turn wsX4_turn) := goodIn_app (goodIn_r _ [223, 224, 225, 28] (by decide +kernel) (by decide +kernel)) ggL_X4_turn
set_option maxRecDepth 100000 in
theorem ggL_X5_turn : GoodIn lw_tbl wsX5_turn := goodIn_r _ [603, 534, 596, 598, 8, 33, 599, 533, 593, 594, 595, 604, 606, 9, 607, 531, 532, 550, 552, 554, 556, 558, 560, 562, 564, 566, 568, 570, 572, 574, 576, 578, 580, 582, 584, 586] (by decide +kernel) (by decide +kernel)
set_option maxRecDepth 100000 in
theorem gL_X5_turn : GoodIn lw_tbl (wsV RL 22 RX5 yX5_turn wsX5_turn) := goodIn_app (goodIn_r _ [600, 601, 602, 33] (by decide +kernel) (by decide +kernel)) ggL_X5_turn
set_option maxRecDepth 100000 in
theorem ggL_X4_reach : GoodIn lw_tbl wsX4_reach := goodIn_r _ [234, 186, 62, 215, 216, 217, 29, 218, 63, 227, 229, 0, 28, 230, 191, 190, 235, 236, 237, 238, 239, 240, 241, 59, 242, 243, 244, 245, 246, 247, 193, 195, 197, 199, 201, 203, 205, 65, 67, 69, 71, 73, 75, 77] (by decide +kernel) (by decide +kernel)
set_option maxRecDepth 100000 in
theorem gL_X4_reach : GoodIn lw_tbl (wsV RL 23 RX4 yX4_reach wsX4_reach) := goodIn_app (goodIn_r _ [231, 232, 233, 28] (by decide +kernel) (by decide +kernel)) ggL_X4_reach
set_option maxRecDepth 100000 in
theorem ggL_X5_reach : GoodIn lw_tbl wsX5_reach := goodIn_r _ [611, 537, 538, 596, 598, 8, 33, 599, 533, 593, 594, 595, 604, 606, 9, 607, 531, 532, 550, 552, 554, 556, 558, 560, 562, 564, 566, 568, 570, 572, 574, 576, 578, 580, 582, 584, 586] (by decide +kernel) (by decide +kernel)
set_option maxRecDepth 100000 in
theorem gL_X5_reach : GoodIn lw_tbl (wsV RL 26 RX5 yX5_reach wsX5_reach) := goodIn_app (goodIn_r _ [608, 609, 610, 33] (by decide +kernel) (by decide +kernel)) ggL_X5_reach
set_option maxRecDepth 100000 in
theorem ggL_X4_byteOf : GoodIn lw_tbl wsX4_byteOf := goodIn_r _ [251, 186, 62, 215, 216, 217, 29, 218, 63, 227, 229, 0, 28, 230, 191, 190, 235, 236, 237, 238, 239, 240, 241, 59, 242, 193, 195, 197, 199, 201, 203, 205, 65, 67, 69, 71, 73, 75, 77] (by decide +kernel) (by decide +kernel)
set_option maxRecDepth 100000 in
theorem gL_X4_byteOf : GoodIn lw_tbl (wsV RL 27 RX4 yX4_byteOf wsX4_byteOf) := goodIn_app (goodIn_r _ [248, 249, 250, 28] (by decide +kernel) (by decide +kernel)) ggL_X4_byteOf
set_option maxRecDepth 100000 in
theorem ggL_X5_byteOf : GoodIn lw_tbl wsX5_byteOf := goodIn_r _ [615, 537, 538, 596, 598, 8, 33, 599, 533, 593, 594, 595, 604, 606, 9, 607, 531, 532, 550, 552, 554, 556, 558, 560, 562, 564, 566, 568, 570, 572, 574, 576, 578, 580, 582, 584, 586] (by decide +kernel) (by decide +kernel)
set_option maxRecDepth 100000 in
theorem gL_X5_byteOf : GoodIn lw_tbl (wsV RL 30 RX5 yX5_byteOf wsX5_byteOf) := goodIn_app (goodIn_r _ [612, 613, 614, 33] (by decide +kernel) (by decide +kernel)) ggL_X5_byteOf
set_option maxRecDepth 100000 in
theorem ggL_X4_tear : GoodIn lw_tbl wsX4_tear := goodIn_r _ [255, 186, 62, 60, 215, 216, 217, 29, 218, 63, 227, 229, 0, 28, 230, 191, 190, 193, 195, 197, 199, 201, 203, 205, 65, 67, 69, 71, 73, 75, 77] (by decide +kernel) (by decide +kernel)
set_option maxRecDepth 100000 in
theorem gL_X4_tear : GoodIn lw_tbl (wsV RL 31 RX4 yX4_tear wsX4_tear) := goodIn_app (goodIn_r _ [252, 253, 254, 28] (by decide +kernel) (by decide +kernel)) ggL_X4_tear
set_option maxRecDepth 100000 in
theorem ggL_X5_tear : GoodIn lw_tbl wsX5_tear := goodIn_r _ [619, 537, 596, 598, 8, 33, 599, 533, 593, 594, 595, 604, 606, 9, 607, 531, 532, 550, 552, 554, 556, 558, 560, 562, 564, 566, 568, 570, 572, 574, 576, 578, 580, 582, 584, 586] (by decide +kernel) (by decide +kernel)
set_option maxRecDepth 100000 in
theorem gL_X5_tear : GoodIn lw_tbl (wsV RL 35 RX5 yX5_tear wsX5_tear) := goodIn_app (goodIn_r _ [616, 617, 618, 33] (by decide +kernel) (by decide +kernel)) ggL_X5_tear
set_option maxRecDepth 100000 in
theorem ggL_X4_anew : GoodIn lw_tbl wsX4_anew := goodIn_r _ [259, 186, 62, 60, 215, 216, 217, 29, 218, 63, 193, 195, 197, 199, 201, 203, 205, 65, 67, 69, 71, 73, 75, 77] (by decide +kernel) (by decide +kernel)
set_option maxRecDepth 100000 in
theorem gL_X4_anew : GoodIn lw_tbl (wsV RL 36 RX4 yX4_anew wsX4_anew) := goodIn_app (goodIn_r _ [256, 257, 258, 28] (by decide +kernel) (by decide +kernel)) ggL_X4_anew
set_option maxRecDepth 100000 in
theorem ggL_X5_anew : GoodIn lw_tbl wsX5_anew := goodIn_r _ [623, 537, 538, 596, 598, 8, 33, 599, 533, 593, 594, 595, 550, 552, 554, 556, 558, 560, 562, 564, 566, 568, 570, 572, 574, 576, 578, 580, 582, 584, 586] (by decide +kernel) (by decide +kernel)
set_option maxRecDepth 100000 in
theorem gL_X5_anew : GoodIn lw_tbl (wsV RL 39 RX5 yX5_anew wsX5_anew) := goodIn_app (goodIn_r _ [620, 621, 622, 33] (by decide +kernel) (by decide +kernel)) ggL_X5_anew
set_option maxRecDepth 100000 in
theorem ggL_X4_copy : GoodIn lw_tbl wsX4_copy := goodIn_r _ [263, 186, 62, 215, 216, 217, 29, 218, 63, 227, 229, 0, 28, 230, 191, 190, 264, 265, 266, 267, 268, 269, 270, 59, 247, 193, 195, 197, 199, 201, 203, 205, 65, 67, 69, 71, 73, 75, 77] (by decide +kernel) (by decide +kernel)
set_option maxRecDepth 100000 in
theorem gL_X4_copy : GoodIn lw_tbl (wsV RL 40 RX4 yX4_copy wsX4_copy) := goodIn_app (goodIn_r _ [260, 261, 262, 28] (by decide +kernel) (by decide +kernel)) ggL_X4_copy
set_option maxRecDepth 100000 in
theorem ggL_X5_copy : GoodIn lw_tbl wsX5_copy := goodIn_r _ [627, 537, 628, 543, 538, 596, 598, 8, 33, 599, 533, 593, 594, 595, 604, 606, 9, 607, 531, 532, 550, 552, 554, 556, 558, 560, 562, 564, 566, 568, 570, 572, 574, 576, 578, 580, 582, 584, 586] (by decide +kernel) (by decide +kernel)
set_option maxRecDepth 100000 in
theorem gL_X5_copy : GoodIn lw_tbl (wsV RL 44 RX5 yX5_copy wsX5_copy) := goodIn_app (goodIn_r _ [624, 625, 626, 33] (by decide +kernel) (by decide +kernel)) ggL_X5_copy
set_option maxRecDepth 100000 in
theorem ggL_X4_told : GoodIn lw_tbl wsX4_told := goodIn_r _ [274, 186, 215, 216, 217, 29, 218, 63, 275, 277, 1, 28, 278, 52, 56, 187, 58, 279, 280, 281, 282, 51, 53, 283, 284, 285, 30, 286, 95, 91, 287, 288, 290, 2, 291, 60, 292, 293, 294, 295, 89, 296, 297, 298, 299, 93, 300, 301, 302, 303, 304, 305, 34, 306, 307, 308, 309, 193, 195, 197, 199, 201, 203, 205, 65, 67, 69, 71, 73, 75, 77, 97, 99, 101, 103] (by decide +kernel) (by decide +kernel)
set_option maxRecDepth 100000 in
theorem gL_X4_told : GoodIn lw_tbl (wsV RL 45 RX4 yX4_told wsX4_told) := goodIn_app (goodIn_r _ [271, 272, 273, 28] (by decide +kernel) (by decide +kernel)) ggL_X4_told
set_option maxRecDepth 100000 in
theorem ggL_X5_told : GoodIn lw_tbl wsX5_told := goodIn_r _ [632, 596, 598, 8, 33, 599, 533, 593, 594, 595, 633, 635, 10, 636, 534, 536, 637, 639, 11, 640, 535, 641, 643, 12, 644, 539, 541, 645, 647, 13, 648, 540, 649, 651, 14, 652, 537, 538, 653, 655, 15, 656, 657, 659, 16, 660, 661, 662, 663, 550, 552, 554, 556, 558, 560, 562, 564, 566, 568, 570, 572, 574, 576, 578, 580, 582, 584, 586] (by decide +kernel) (by decide +kernel)
set_option maxRecDepth 100000 in
theorem gL_X5_told : GoodIn lw_tbl (wsV RL 48 RX5 yX5_told wsX5_told) := goodIn_app (goodIn_r _ [629, 630, 631, 33] (by decide +kernel) (by decide +kernel)) ggL_X5_told
set_option maxRecDepth 100000 in
theorem ggL_X4_time : GoodIn lw_tbl wsX4_time := goodIn_r _ [313, 186, 52, 54, 215, 216, 217, 29, 218, 63, 212, 213, 28, 214, 227, 229, 0, 230, 191, 190, 193, 195, 197, 199, 201, 203, 205, 65, 67, 69, 71, 73, 75, 77] (by decide +kernel) (by decide +kernel)
set_option maxRecDepth 100000 in
theorem gL_X4_time : GoodIn lw_tbl (wsV RL 49 RX4 yX4_time wsX4_time) := goodIn_app (goodIn_r _ [310, 311, 312, 28] (by decide +kernel) (by decide +kernel)) ggL_X4_time
set_option maxRecDepth 100000 in
theorem ggL_X5_time : GoodIn lw_tbl wsX5_time := goodIn_r _ [667, 534, 535, 596, 598, 8, 33, 599, 533, 593, 594, 595, 604, 606, 9, 607, 531, 532, 550, 552, 554, 556, 558, 560, 562, 564, 566, 568, 570, 572, 574, 576, 578, 580, 582, 584, 586] (by decide +kernel) (by decide +kernel)
set_option maxRecDepth 100000 in
theorem gL_X5_time : GoodIn lw_tbl (wsV RL 52 RX5 yX5_time wsX5_time) := goodIn_app (goodIn_r _ [664, 665, 666, 33] (by decide +kernel) (by decide +kernel)) ggL_X5_time
