set_option maxRecDepth 20000 in
theorem g_law_X9_feed : GoodIn w_law (wsV RL 13 RX9 yX9_feed w_X9_feed) := goodIn_r _ [0, 1, 2, 3, 4, 5, 6, 7, 8, 9, 10, 11, 12, 13, 14, 15, 16, 17, 553, 554, 555, 556, 557, 558, 559, 560, 561, 562, 563, 564, 565, 566, 567, 568, 569] (by decide +kernel) (by decide +kernel)
set_option maxRecDepth 20000 in
theorem g_law_X10_feed : GoodIn w_law (wsV RL 17 RX10 yX10_feed w_X10_feed) := goodIn_r _ [18, 19, 20, 21, 22, 23, 24, 25, 21, 26, 27, 28, 29, 570, 571, 572, 573, 574, 575, 576, 577, 578, 579, 580, 581, 582, 583, 584, 585, 586, 587, 588, 589, 590, 591, 592, 593, 594] (by decide +kernel) (by decide +kernel)
set_option maxRecDepth 20000 in
theorem g_law_X9_work : GoodIn w_law (wsV RL 18 RX9 yX9_work w_X9_work) := goodIn_r _ [30, 31, 32, 3, 33, 34, 35, 36, 37, 38, 39, 40, 41, 42, 43, 44, 45, 46, 47, 48, 49, 50, 51, 15, 16, 10, 17, 12, 52, 53, 54, 55, 56, 57, 6, 58, 59, 60, 61, 62, 63, 64, 65, 66, 67, 68, 69, 70, 71, 72, 73, 74, 75, 553, 554, 555, 556, 557, 558, 559, 560, 561, 562, 563, 564, 565, 566, 595, 596, 597, 598, 599, 600, 601, 567, 568, 569] (by decide +kernel) (by decide +kernel)
set_option maxRecDepth 20000 in
theorem g_law_X10_work : GoodIn w_law (wsV RL 22 RX10 yX10_work w_X10_work) := goodIn_r _ [76, 77, 78, 21, 79, 80, 81, 82, 83, 84, 85, 21, 86, 87, 88, 89, 90, 91, 27, 92, 93, 94, 95, 96, 97, 98, 99, 100, 101, 102, 103, 104, 105, 106, 107, 24, 25, 26, 108, 109, 110, 111, 112, 113, 114, 115, 116, 117, 570, 571, 572, 573, 574, 575, 576, 577, 578, 579, 580, 581, 582, 583, 584, 585, 586, 587, 588, 589, 590, 591, 592, 593, 594] (by decide +kernel) (by decide +kernel)
set_option maxRecDepth 20000 in
theorem g_law_X9_fault : GoodIn w_law (wsV RL 23 RX9 yX9_fault w_X9_fault) := goodIn_r _ [118, 119, 120, 3, 121, 6, 122, 123, 124, 10, 125, 70, 553, 554, 555, 556, 557, 558, 559, 560, 561, 562, 563, 564, 565, 566, 567, 568, 569] (by decide +kernel) (by decide +kernel)
set_option maxRecDepth 20000 in
theorem g_law_X10_fault : GoodIn w_law (wsV RL 26 RX10 yX10_fault w_X10_fault) := goodIn_r _ [126, 127, 128, 21, 129, 116, 570, 571, 572, 573, 574, 575, 576, 577, 578, 579, 580, 581, 582, 583, 584, 585, 586, 587, 588, 589, 590, 591, 592, 593, 594] (by decide +kernel) (by decide +kernel)
set_option maxRecDepth 20000 in
theorem g_law_X9_undo : GoodIn w_law (wsV RL 27 RX9 yX9_undo w_X9_undo) := goodIn_r _ [130, 131, 132, 3, 133, 134, 135, 136, 137, 138, 139, 140, 141, 142, 143, 553, 554, 555, 556, 557, 558, 559, 560, 561, 562, 563, 564, 565, 566, 602, 603, 604] (by decide +kernel) (by decide +kernel)
set_option maxRecDepth 20000 in
theorem g_law_X10_undo : GoodIn w_law (wsV RL 30 RX10 yX10_undo w_X10_undo) := goodIn_r _ [144, 145, 146, 21, 147, 148, 149, 570, 571, 572, 573, 574, 575, 576, 577, 578, 579, 580, 581, 582, 583, 584, 585, 586, 587, 588, 589, 590, 591, 592, 593, 594] (by decide +kernel) (by decide +kernel)
set_option maxRecDepth 20000 in
theorem g_law_X9_add : GoodIn w_law (wsV RL 31 RX9 yX9_add w_X9_add) := goodIn_r _ [150, 151, 152, 3, 153, 135, 154, 155, 156, 157, 158, 159, 5, 553, 554, 555, 556, 557, 558, 559, 560, 561, 562, 563, 564, 565, 566, 605, 606, 607, 608, 609, 610, 611, 612] (by decide +kernel) (by decide +kernel)
set_option maxRecDepth 20000 in
theorem g_law_X10_add : GoodIn w_law (wsV RL 35 RX10 yX10_add w_X10_add) := goodIn_r _ [160, 161, 162, 21, 163, 164, 165, 166, 21, 167, 168, 169, 170, 171, 172, 29, 570, 571, 572, 573, 574, 575, 576, 577, 578, 579, 580, 581, 582, 583, 584, 585, 586, 587, 588, 589, 590, 591, 592, 593, 594] (by decide +kernel) (by decide +kernel)
set_option maxRecDepth 20000 in
theorem g_law_X9_drop : GoodIn w_law (wsV RL 36 RX9 yX9_drop w_X9_drop) := goodIn_r _ [173, 174, 175, 3, 176, 135, 177, 178, 179, 157, 180, 181, 182, 183, 184, 185, 155, 156, 158, 159, 5, 553, 554, 555, 556, 557, 558, 559, 560, 561, 562, 563, 564, 565, 566, 605, 606, 607, 608, 609, 610, 611, 612] (by decide +kernel) (by decide +kernel)
set_option maxRecDepth 20000 in
theorem g_law_X10_drop : GoodIn w_law (wsV RL 40 RX10 yX10_drop w_X10_drop) := goodIn_r _ [186, 187, 188, 21, 189, 190, 191, 192, 21, 193, 164, 165, 166, 167, 168, 169, 170, 171, 172, 29, 570, 571, 572, 573, 574, 575, 576, 577, 578, 579, 580, 581, 582, 583, 584, 585, 586, 587, 588, 589, 590, 591, 592, 593, 594] (by decide +kernel) (by decide +kernel)
set_option maxRecDepth 20000 in
theorem g_law_X9_alter : GoodIn w_law (wsV RL 41 RX9 yX9_alter w_X9_alter) := goodIn_r _ [194, 195, 196, 3, 197, 135, 177, 178, 179, 157, 180, 181, 182, 183, 184, 185, 155, 156, 158, 159, 5, 553, 554, 555, 556, 557, 558, 559, 560, 561, 562, 563, 564, 565, 566, 605, 606, 607, 608, 609, 610, 611, 612] (by decide +kernel) (by decide +kernel)
set_option maxRecDepth 20000 in
theorem g_law_X10_alter : GoodIn w_law (wsV RL 45 RX10 yX10_alter w_X10_alter) := goodIn_r _ [198, 199, 200, 21, 201, 190, 191, 192, 21, 193, 164, 165, 166, 167, 168, 169, 170, 171, 172, 29, 570, 571, 572, 573, 574, 575, 576, 577, 578, 579, 580, 581, 582, 583, 584, 585, 586, 587, 588, 589, 590, 591, 592, 593, 594] (by decide +kernel) (by decide +kernel)
set_option maxRecDepth 20000 in
theorem g_law_X9_cite : GoodIn w_law (wsV RL 46 RX9 yX9_cite w_X9_cite) := goodIn_r _ [202, 203, 204, 3, 205, 5, 135, 154, 155, 156, 157, 158, 159, 553, 554, 555, 556, 557, 558, 559, 560, 561, 562, 563, 564, 565, 566, 605, 606, 607, 608, 609, 610, 611, 612] (by decide +kernel) (by decide +kernel)
set_option maxRecDepth 20000 in
theorem g_law_X10_cite : GoodIn w_law (wsV RL 49 RX10 yX10_cite w_X10_cite) := goodIn_r _ [206, 207, 208, 21, 209, 210, 24, 25, 21, 26, 164, 165, 166, 167, 168, 169, 170, 171, 172, 29, 570, 571, 572, 573, 574, 575, 576, 577, 578, 579, 580, 581, 582, 583, 584, 585, 586, 587, 588, 589, 590, 591, 592, 593, 594] (by decide +kernel) (by decide +kernel)
set_option maxRecDepth 20000 in
theorem g_law_X9_strike : GoodIn w_law (wsV RL 50 RX9 yX9_strike w_X9_strike) := goodIn_r _ [211, 212, 213, 3, 214, 135, 215, 216, 217, 157, 218, 219, 220, 221, 222, 223, 5, 553, 554, 555, 556, 557, 558, 559, 560, 561, 562, 563, 564, 565, 566, 605, 606, 607, 608, 609, 610, 611, 612] (by decide +kernel) (by decide +kernel)
set_option maxRecDepth 20000 in
theorem g_law_X10_strike : GoodIn w_law (wsV RL 53 RX10 yX10_strike w_X10_strike) := goodIn_r _ [224, 225, 226, 21, 227, 228, 229, 230, 21, 231, 210, 24, 25, 26, 232, 233, 234, 235, 172, 29, 570, 571, 572, 573, 574, 575, 576, 577, 578, 579, 580, 581, 582, 583, 584, 585, 586, 587, 588, 589, 590, 591, 592, 593, 594] (by decide +kernel) (by decide +kernel)
set_option maxRecDepth 20000 in
theorem g_law_X9_see : GoodIn w_law (wsV RL 54 RX9 yX9_see w_X9_see) := goodIn_r _ [236, 237, 238, 3, 239, 240, 241, 3, 242, 5, 135, 243, 244, 245, 157, 246, 247, 553, 554, 555, 556, 557, 558, 559, 560, 561, 562, 563, 564, 565, 566, 605, 606, 607, 608, 609, 610, 611, 612] (by decide +kernel) (by decide +kernel)
set_option maxRecDepth 20000 in
theorem g_law_X10_see : GoodIn w_law (wsV RL 57 RX10 yX10_see w_X10_see) := goodIn_r _ [248, 249, 250, 21, 251, 252, 253, 21, 254, 255, 24, 25, 26, 29, 256, 257, 258, 259, 172, 570, 571, 572, 573, 574, 575, 576, 577, 578, 579, 580, 581, 582, 583, 584, 585, 586, 587, 588, 589, 590, 591, 592, 593, 594] (by decide +kernel) (by decide +kernel)
set_option maxRecDepth 20000 in
theorem g_law_X9_stretch : GoodIn w_law (wsV RL 58 RX9 yX9_stretch w_X9_stretch) := goodIn_r _ [260, 261, 262, 3, 263, 135, 177, 178, 179, 157, 180, 181, 182, 183, 184, 185, 155, 156, 158, 159, 5, 553, 554, 555, 556, 557, 558, 559, 560, 561, 562, 563, 564, 565, 566, 605, 606, 607, 608, 609, 610, 611, 612] (by decide +kernel) (by decide +kernel)
set_option maxRecDepth 20000 in
theorem g_law_X10_stretch : GoodIn w_law (wsV RL 62 RX10 yX10_stretch w_X10_stretch) := goodIn_r _ [264, 265, 266, 21, 267, 190, 191, 192, 21, 193, 164, 165, 166, 167, 168, 169, 170, 171, 172, 29, 570, 571, 572, 573, 574, 575, 576, 577, 578, 579, 580, 581, 582, 583, 584, 585, 586, 587, 588, 589, 590, 591, 592, 593, 594] (by decide +kernel) (by decide +kernel)
set_option maxRecDepth 20000 in
theorem g_law_X9_as : GoodIn w_law (wsV RL 63 RX9 yX9_as w_X9_as) := goodIn_r _ [268, 269, 270, 3, 271, 135, 177, 178, 179, 157, 180, 181, 182, 183, 184, 185, 155, 156, 158, 159, 5, 553, 554, 555, 556, 557, 558, 559, 560, 561, 562, 563, 564, 565, 566, 605, 606, 607, 608, 609, 610, 611, 612] (by decide +kernel) (by decide +kernel)
set_option maxRecDepth 20000 in
theorem g_law_X10_as : GoodIn w_law (wsV RL 66 RX10 yX10_as w_X10_as) := goodIn_r _ [272, 273, 274, 21, 275, 190, 191, 192, 21, 193, 164, 165, 166, 167, 168, 169, 170, 171, 172, 29, 570, 571, 572, 573, 574, 575, 576, 577, 578, 579, 580, 581, 582, 583, 584, 585, 586, 587, 588, 589, 590, 591, 592, 593, 594] (by decide +kernel) (by decide +kernel)
set_option maxRecDepth 20000 in
theorem g_law_X9_edition : GoodIn w_law (wsV RL 67 RX9 yX9_edition w_X9_edition) := goodIn_r _ [276, 277, 278, 3, 279, 135, 154, 155, 156, 157, 158, 159, 5, 553, 554, 555, 556, 557, 558, 559, 560, 561, 562, 563, 564, 565, 566, 605, 606, 607, 608, 609, 610, 611, 612] (by decide +kernel) (by decide +kernel)
set_option maxRecDepth 20000 in
theorem g_law_X10_edition : GoodIn w_law (wsV RL 70 RX10 yX10_edition w_X10_edition) := goodIn_r _ [280, 281, 282, 21, 283, 164, 165, 166, 21, 167, 168, 169, 170, 171, 172, 29, 570, 571, 572, 573, 574, 575, 576, 577, 578, 579, 580, 581, 582, 583, 584, 585, 586, 587, 588, 589, 590, 591, 592, 593, 594] (by decide +kernel) (by decide +kernel)
set_option maxRecDepth 20000 in
theorem g_law_X9_number : GoodIn w_law (wsV RL 71 RX9 yX9_number w_X9_number) := goodIn_r _ [284, 285, 286, 3, 287, 135, 154, 155, 156, 157, 158, 159, 5, 553, 554, 555, 556, 557, 558, 559, 560, 561, 562, 563, 564, 565, 566, 605, 606, 607, 608, 609, 610, 611, 612] (by decide +kernel) (by decide +kernel)
set_option maxRecDepth 20000 in
theorem g_law_X10_number_ : GoodIn w_law (wsV RL 74 RX10 yX10_number_ w_X10_number_) := goodIn_r _ [288, 289, 290, 21, 291, 164, 165, 166, 21, 167, 168, 169, 170, 171, 172, 29, 570, 571, 572, 573, 574, 575, 576, 577, 578, 579, 580, 581, 582, 583, 584, 585, 586, 587, 588, 589, 590, 591, 592, 593, 594] (by decide +kernel) (by decide +kernel)
set_option maxRecDepth 20000 in
theorem g_law_X9_meant : GoodIn w_law (wsV RL 75 RX9 yX9_meant w_X9_meant) := goodIn_r _ [292, 293, 294, 3, 295, 135, 154, 155, 156, 157, 158, 159, 5, 553, 554, 555, 556, 557, 558, 559, 560, 561, 562, 563, 564, 565, 566, 605, 606, 607, 608, 609, 610, 611, 612] (by decide +kernel) (by decide +kernel)
set_option maxRecDepth 20000 in
theorem g_law_X10_meant : GoodIn w_law (wsV RL 78 RX10 yX10_meant w_X10_meant) := goodIn_r _ [296, 297, 298, 21, 299, 164, 165, 166, 21, 167, 168, 169, 170, 171, 172, 29, 570, 571, 572, 573, 574, 575, 576, 577, 578, 579, 580, 581, 582, 583, 584, 585, 586, 587, 588, 589, 590, 591, 592, 593, 594] (by decide +kernel) (by decide +kernel)
set_option maxRecDepth 20000 in
theorem g_law_X9_left : GoodIn w_law (wsV RL 79 RX9 yX9_left w_X9_left) := goodIn_r _ [300, 301, 302, 3, 303, 135, 154, 155, 156, 157, 158, 159, 5, 553, 554, 555, 556, 557, 558, 559, 560, 561, 562, 563, 564, 565, 566, 605, 606, 607, 608, 609, 610, 611, 612] (by decide +kernel) (by decide +kernel)
set_option maxRecDepth 20000 in
theorem g_law_X10_left : GoodIn w_law (wsV RL 82 RX10 yX10_left w_X10_left) := goodIn_r _ [304, 305, 306, 21, 307, 164, 165, 166, 21, 167, 168, 169, 170, 171, 172, 29, 570, 571, 572, 573, 574, 575, 576, 577, 578, 579, 580, 581, 582, 583, 584, 585, 586, 587, 588, 589, 590, 591, 592, 593, 594] (by decide +kernel) (by decide +kernel)
set_option maxRecDepth 20000 in
theorem g_law_X9_in : GoodIn w_law (wsV RL 83 RX9 yX9_in w_X9_in) := goodIn_r _ [308, 309, 310, 3, 311, 135, 154, 155, 156, 157, 158, 159, 5, 553, 554, 555, 556, 557, 558, 559, 560, 561, 562, 563, 564, 565, 566, 605, 606, 607, 608, 609, 610, 611, 612] (by decide +kernel) (by decide +kernel)
set_option maxRecDepth 20000 in
theorem g_law_X10_in : GoodIn w_law (wsV RL 86 RX10 yX10_in w_X10_in) := goodIn_r _ [312, 313, 314, 21, 315, 164, 165, 166, 21, 167, 168, 169, 170, 171, 172, 29, 570, 571, 572, 573, 574, 575, 576, 577, 578, 579, 580, 581, 582, 583, 584, 585, 586, 587, 588, 589, 590, 591, 592, 593, 594] (by decide +kernel) (by decide +kernel)
set_option maxRecDepth 20000 in
theorem g_law_X9_through : GoodIn w_law (wsV RL 87 RX9 yX9_through w_X9_through) := goodIn_r _ [316, 317, 318, 3, 319, 135, 154, 155, 156, 157, 158, 159, 5, 553, 554, 555, 556, 557, 558, 559, 560, 561, 562, 563, 564, 565, 566, 605, 606, 607, 608, 609, 610, 611, 612] (by decide +kernel) (by decide +kernel)
set_option maxRecDepth 20000 in
theorem g_law_X10_through : GoodIn w_law (wsV RL 90 RX10 yX10_through w_X10_through) := goodIn_r _ [320, 321, 322, 21, 323, 164, 165, 166, 21, 167, 168, 169, 170, 171, 172, 29, 570, 571, 572, 573, 574, 575, 576, 577, 578, 579, 580, 581, 582, 583, 584, 585, 586, 587, 588, 589, 590, 591, 592, 593, 594] (by decide +kernel) (by decide +kernel)
set_option maxRecDepth 20000 in
theorem g_law_X9_shift : GoodIn w_law (wsV RL 91 RX9 yX9_shift w_X9_shift) := goodIn_r _ [324, 325, 326, 3, 327, 135, 154, 155, 156, 157, 158, 159, 5, 553, 554, 555, 556, 557, 558, 559, 560, 561, 562, 563, 564, 565, 566, 605, 606, 607, 608, 609, 610, 611, 612] (by decide +kernel) (by decide +kernel)
set_option maxRecDepth 20000 in
theorem g_law_X10_shift : GoodIn w_law (wsV RL 94 RX10 yX10_shift w_X10_shift) := goodIn_r _ [328, 329, 330, 21, 331, 164, 165, 166, 21, 167, 168, 169, 170, 171, 172, 29, 570, 571, 572, 573, 574, 575, 576, 577, 578, 579, 580, 581, 582, 583, 584, 585, 586, 587, 588, 589, 590, 591, 592, 593, 594] (by decide +kernel) (by decide +kernel)
set_option maxRecDepth 20000 in
theorem g_law_X9_table : GoodIn w_law (wsV RL 95 RX9 yX9_table w_X9_table) := goodIn_r _ [332, 333, 334, 3, 335, 135, 154, 155, 156, 157, 158, 159, 5, 553, 554, 555, 556, 557, 558, 559, 560, 561, 562, 563, 564, 565, 566, 605, 606, 607, 608, 609, 610, 611, 612] (by decide +kernel) (by decide +kernel)
set_option maxRecDepth 20000 in
theorem g_law_X10_table : GoodIn w_law (wsV RL 98 RX10 yX10_table w_X10_table) := goodIn_r _ [336, 337, 338, 21, 339, 164, 165, 166, 21, 167, 168, 169, 170, 171, 172, 29, 570, 571, 572, 573, 574, 575, 576, 577, 578, 579, 580, 581, 582, 583, 584, 585, 586, 587, 588, 589, 590, 591, 592, 593, 594] (by decide +kernel) (by decide +kernel)
set_option maxRecDepth 20000 in
theorem g_law_X9_share : GoodIn w_law (wsV RL 99 RX9 yX9_share w_X9_share) := goodIn_r _ [340, 341, 342, 3, 343, 135, 154, 155, 156, 157, 158, 159, 5, 553, 554, 555, 556, 557, 558, 559, 560, 561, 562, 563, 564, 565, 566, 605, 606, 607, 608, 609, 610, 611, 612] (by decide +kernel) (by decide +kernel)
set_option maxRecDepth 20000 in
theorem g_law_X10_share : GoodIn w_law (wsV RL 102 RX10 yX10_share w_X10_share) := goodIn_r _ [344, 345, 346, 21, 347, 164, 165, 166, 21, 167, 168, 169, 170, 171, 172, 29, 570, 571, 572, 573, 574, 575, 576, 577, 578, 579, 580, 581, 582, 583, 584, 585, 586, 587, 588, 589, 590, 591, 592, 593, 594] (by decide +kernel) (by decide +kernel)
set_option maxRecDepth 20000 in
theorem g_law_X9_citation : GoodIn w_law (wsV RL 103 RX9 yX9_citation w_X9_citation) := goodIn_r _ [348, 349, 350, 3, 351, 135, 215, 216, 217, 157, 218, 219, 220, 221, 222, 223, 5, 553, 554, 555, 556, 557, 558, 559, 560, 561, 562, 563, 564, 565, 566, 605, 606, 607, 608, 609, 610, 611, 612] (by decide +kernel) (by decide +kernel)
set_option maxRecDepth 20000 in
theorem g_law_X10_citation : GoodIn w_law (wsV RL 106 RX10 yX10_citation w_X10_citation) := goodIn_r _ [352, 353, 354, 21, 355, 228, 229, 230, 21, 231, 210, 24, 25, 26, 232, 233, 234, 235, 172, 29, 570, 571, 572, 573, 574, 575, 576, 577, 578, 579, 580, 581, 582, 583, 584, 585, 586, 587, 588, 589, 590, 591, 592, 593, 594] (by decide +kernel) (by decide +kernel)
set_option maxRecDepth 20000 in
theorem g_law_X9_turned : GoodIn w_law (wsV RL 107 RX9 yX9_turned w_X9_turned) := goodIn_r _ [356, 357, 358, 3, 359, 135, 215, 216, 217, 157, 218, 219, 220, 221, 222, 223, 5, 553, 554, 555, 556, 557, 558, 559, 560, 561, 562, 563, 564, 565, 566, 605, 606, 607, 608, 609, 610, 611, 612] (by decide +kernel) (by decide +kernel)
set_option maxRecDepth 20000 in
theorem g_law_X10_turned : GoodIn w_law (wsV RL 110 RX10 yX10_turned w_X10_turned) := goodIn_r _ [360, 361, 362, 21, 363, 228, 229, 230, 21, 231, 210, 24, 25, 26, 232, 233, 234, 235, 172, 29, 570, 571, 572, 573, 574, 575, 576, 577, 578, 579, 580, 581, 582, 583, 584, 585, 586, 587, 588, 589, 590, 591, 592, 593, 594] (by decide +kernel) (by decide +kernel)
set_option maxRecDepth 20000 in
theorem g_law_X9_meet : GoodIn w_law (wsV RL 111 RX9 yX9_meet w_X9_meet) := goodIn_r _ [364, 365, 366, 3, 367, 135, 215, 216, 217, 157, 218, 219, 220, 221, 222, 223, 5, 553, 554, 555, 556, 557, 558, 559, 560, 561, 562, 563, 564, 565, 566, 605, 606, 607, 608, 609, 610, 611, 612] (by decide +kernel) (by decide +kernel)
set_option maxRecDepth 20000 in
theorem g_law_X10_meet : GoodIn w_law (wsV RL 114 RX10 yX10_meet w_X10_meet) := goodIn_r _ [368, 369, 370, 21, 371, 228, 229, 230, 21, 231, 210, 24, 25, 26, 232, 233, 234, 235, 172, 29, 570, 571, 572, 573, 574, 575, 576, 577, 578, 579, 580, 581, 582, 583, 584, 585, 586, 587, 588, 589, 590, 591, 592, 593, 594] (by decide +kernel) (by decide +kernel)
set_option maxRecDepth 20000 in
theorem g_law_X9_could : GoodIn w_law (wsV RL 115 RX9 yX9_could w_X9_could) := goodIn_r _ [372, 373, 374, 3, 375, 135, 215, 216, 217, 157, 218, 219, 220, 221, 222, 223, 5, 553, 554, 555, 556, 557, 558, 559, 560, 561, 562, 563, 564, 565, 566, 605, 606, 607, 608, 609, 610, 611, 612] (by decide +kernel) (by decide +kernel)
set_option maxRecDepth 20000 in
theorem g_law_X10_could : GoodIn w_law (wsV RL 118 RX10 yX10_could w_X10_could) := goodIn_r _ [376, 377, 378, 21, 379, 228, 229, 230, 21, 231, 210, 24, 25, 26, 232, 233, 234, 235, 172, 29, 570, 571, 572, 573, 574, 575, 576, 577, 578, 579, 580, 581, 582, 583, 584, 585, 586, 587, 588, 589, 590, 591, 592, 593, 594] (by decide +kernel) (by decide +kernel)
set_option maxRecDepth 20000 in
theorem g_law_X9_score : GoodIn w_law (wsV RL 119 RX9 yX9_score w_X9_score) := goodIn_r _ [380, 381, 382, 3, 383, 135, 154, 155, 156, 157, 158, 159, 5, 553, 554, 555, 556, 557, 558, 559, 560, 561, 562, 563, 564, 565, 566, 605, 606, 607, 608, 609, 610, 611, 612] (by decide +kernel) (by decide +kernel)
set_option maxRecDepth 20000 in
theorem g_law_X10_score : GoodIn w_law (wsV RL 122 RX10 yX10_score w_X10_score) := goodIn_r _ [384, 385, 386, 21, 387, 164, 165, 166, 21, 167, 168, 169, 170, 171, 172, 29, 570, 571, 572, 573, 574, 575, 576, 577, 578, 579, 580, 581, 582, 583, 584, 585, 586, 587, 588, 589, 590, 591, 592, 593, 594] (by decide +kernel) (by decide +kernel)
set_option maxRecDepth 20000 in
theorem g_law_X9_best : GoodIn w_law (wsV RL 123 RX9 yX9_best w_X9_best) := goodIn_r _ [388, 389, 390, 3, 391, 135, 392, 393, 394, 157, 395, 247, 143, 553, 554, 555, 556, 557, 558, 559, 560, 561, 562, 563, 564, 565, 566, 605, 606, 607, 608, 609, 610, 611, 612] (by decide +kernel) (by decide +kernel)
set_option maxRecDepth 20000 in
theorem g_law_X10_best : GoodIn w_law (wsV RL 126 RX10 yX10_best w_X10_best) := goodIn_r _ [396, 397, 398, 21, 399, 168, 169, 170, 21, 171, 172, 149, 570, 571, 572, 573, 574, 575, 576, 577, 578, 579, 580, 581, 582, 583, 584, 585, 586, 587, 588, 589, 590, 591, 592, 593, 594] (by decide +kernel) (by decide +kernel)
set_option maxRecDepth 20000 in
theorem g_law_X9_image : GoodIn w_law (wsV RL 127 RX9 yX9_image w_X9_image) := goodIn_r _ [400, 401, 402, 3, 403, 5, 404, 135, 392, 393, 394, 157, 395, 247, 143, 553, 554, 555, 556, 557, 558, 559, 560, 561, 562, 563, 564, 565, 566, 605, 606, 607, 608, 609, 610, 611, 612] (by decide +kernel) (by decide +kernel)
set_option maxRecDepth 20000 in
theorem g_law_X10_image : GoodIn w_law (wsV RL 130 RX10 yX10_image w_X10_image) := goodIn_r _ [405, 406, 407, 21, 408, 24, 25, 21, 26, 168, 169, 170, 171, 172, 149, 29, 570, 571, 572, 573, 574, 575, 576, 577, 578, 579, 580, 581, 582, 583, 584, 585, 586, 587, 588, 589, 590, 591, 592, 593, 594] (by decide +kernel) (by decide +kernel)
set_option maxRecDepth 20000 in
theorem g_law_X9_restore : GoodIn w_law (wsV RL 131 RX9 yX9_restore w_X9_restore) := goodIn_r _ [409, 410, 411, 3, 412, 5, 404, 143, 553, 554, 555, 556, 557, 558, 559, 560, 561, 562, 563, 564, 565, 566] (by decide +kernel) (by decide +kernel)
set_option maxRecDepth 20000 in
theorem g_law_X10_restore : GoodIn w_law (wsV RL 134 RX10 yX10_restore w_X10_restore) := goodIn_r _ [413, 414, 415, 21, 416, 24, 25, 21, 26, 417, 149, 29, 570, 571, 572, 573, 574, 575, 576, 577, 578, 579, 580, 581, 582, 583, 584, 585, 586, 587, 588, 589, 590, 591, 592, 593, 594] (by decide +kernel) (by decide +kernel)
set_option maxRecDepth 20000 in
theorem g_law_X9_count : GoodIn w_law (wsV RL 135 RX9 yX9_count w_X9_count) := goodIn_r _ [418, 419, 420, 3, 421, 5, 135, 392, 393, 394, 157, 395, 247, 422, 423, 424, 425, 159, 426, 427, 428, 429, 430, 431, 432, 433, 434, 216, 217, 218, 219, 220, 221, 222, 223, 435, 436, 437, 438, 439, 134, 440, 441, 442, 139, 443, 142, 6, 14, 15, 16, 10, 17, 12, 553, 554, 555, 556, 557, 558, 559, 560, 561, 562, 563, 564, 565, 566, 605, 606, 607, 608, 609, 610, 611, 612, 602, 603, 604, 567, 568, 569] (by decide +kernel) (by decide +kernel)
set_option maxRecDepth 20000 in
theorem g_law_X10_count : GoodIn w_law (wsV RL 138 RX10 yX10_count w_X10_count) := goodIn_r _ [444, 445, 446, 21, 447, 29, 172, 448, 449, 450, 21, 451, 452, 453, 454, 455, 232, 233, 234, 235, 148, 27, 570, 571, 572, 573, 574, 575, 576, 577, 578, 579, 580, 581, 582, 583, 584, 585, 586, 587, 588, 589, 590, 591, 592, 593, 594] (by decide +kernel) (by decide +kernel)
set_option maxRecDepth 20000 in
theorem g_law_X9_init : GoodIn w_law w_X9_init := goodIn_r _ [460, 461, 462, 463, 464, 465, 10, 466, 467, 468, 469, 13, 6, 470, 471, 157, 472, 473, 474, 475, 476, 477, 223, 478, 479, 135, 480, 481, 482, 38, 483, 484, 485, 486, 50, 487, 34, 488, 489, 139, 490, 491, 492, 493, 494, 134, 495, 404, 496, 497, 498, 499, 500, 501, 502, 503, 504, 505, 506, 507, 508, 509, 510, 511, 512, 513, 514, 515, 516, 517, 518, 519, 520, 521, 522, 523, 524, 525, 526, 527, 528, 529, 530, 531, 532, 533, 534, 535, 536, 567, 568, 569, 553, 554, 555, 556, 557, 558, 559, 560, 561, 562, 563, 564, 565, 566, 605, 606, 607, 608, 609, 610, 611, 612, 595, 596, 597, 598, 599, 600, 601, 602, 603, 604, 613, 614, 615, 616, 617, 618, 619, 620, 621, 622, 623, 624, 625, 626, 627, 628, 629] (by decide +kernel) (by decide +kernel)
set_option maxRecDepth 20000 in
theorem g_law_X10_init : GoodIn w_law w_X10_init := goodIn_r _ [541, 542, 462, 463, 475, 172, 80, 543, 544, 545, 417, 28, 546, 547, 548, 549, 550, 551, 570, 571, 572, 573, 574, 575, 576, 577, 578, 579, 580, 581, 582, 583, 584, 585, 586, 587, 588, 589, 590, 591, 592, 593, 594] (by decide +kernel) (by decide +kernel)
