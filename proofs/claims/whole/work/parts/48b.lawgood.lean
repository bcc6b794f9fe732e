set_option maxRecDepth 20000 in
theorem ggL_law_X10_init : GoodIn wsL_law wsX10_init := goodIn_r _ [9, 10, 11, 12, 13, 14, 15, 16, 17, 18, 19, 20, 21, 22, 23, 24, 25, 26, 27, 28, 29, 30, 31, 32, 33, 34, 35, 36, 37, 38, 39, 40, 41, 42, 43, 44, 45, 46, 47, 48, 49, 50, 51, 52, 53, 54, 55, 56, 57, 58, 59, 60, 61, 62, 63, 64, 65, 66, 67, 68, 69, 70, 71, 72, 73, 74, 75, 76, 77, 78, 79, 80, 81, 82, 83, 84, 85, 86, 87, 88, 89, 90, 91, 92, 93, 94, 95, 96, 97, 818, 819, 820, 821, 822, 823, 781, 782, 783, 824, 825, 826, 827, 828, 829, 830, 831, 832, 833, 834, 835, 836, 837, 838, 839, 840, 841, 842, 843, 844, 845, 846, 847, 848, 849, 850, 851, 852] (by decide +kernel) (by decide +kernel)
set_option maxRecDepth 20000 in
theorem gL_law_X10_init : GoodIn wsL_law (wsX10_init) := ggL_law_X10_init
set_option maxRecDepth 20000 in
theorem ggL_law_X11_init : GoodIn wsL_law wsX11_init := goodIn_r _ [100, 101, 11, 12, 6, 102, 37, 103, 104, 105, 106, 107, 108, 109, 110, 111, 112, 113, 114, 115, 116, 117, 118, 119, 120, 121, 122, 123, 124, 125, 126, 127, 128, 129, 130, 131, 132, 133, 784, 785, 786, 787, 788, 789, 790, 791, 792, 793, 794, 795, 796, 797, 798, 799, 800, 801, 802, 803, 804, 805, 806, 807, 808, 809, 810, 811, 812, 813, 814, 815, 816, 817] (by decide +kernel) (by decide +kernel)
set_option maxRecDepth 20000 in
theorem gL_law_X11_init : GoodIn wsL_law (wsX11_init) := ggL_law_X11_init
set_option maxRecDepth 20000 in
theorem ggL_law_L_key : GoodIn wsL_law wsL_key := goodIn_ca (goodIn_r _ [137, 138, 139, 140, 141, 2, 142, 143, 144, 16, 145, 146, 147, 148, 149, 150, 151, 152, 153, 154, 155, 156, 41, 157, 158, 159, 160, 161, 162, 163, 164, 165, 166, 167, 168, 169, 170, 171, 172, 173, 781, 782, 783, 818, 819, 820, 821, 822, 823, 831, 832, 833, 834, 835, 836] (by decide +kernel) (by decide +kernel)) (goodIn_sub (fun _ h => List.mem_append_right _ h) (by decide +kernel))
set_option maxRecDepth 20000 in
theorem gL_law_L_key : GoodIn wsL_law (va_wsS RL 65 yL_key wsL_key) := goodIn_app (goodIn_of _ (by decide +kernel)) ggL_law_L_key
set_option maxRecDepth 20000 in
theorem ggL_law_X11_key : GoodIn wsL_law wsX11_key := goodIn_r _ [177, 178, 179, 104, 105, 106, 180, 181, 5, 182, 183, 184, 185, 186, 187, 188, 189, 190, 191, 192, 193, 194, 195, 196, 197, 108, 109, 784, 785, 786, 787, 788, 789, 790, 791, 792, 793, 794, 795, 796, 797, 798, 799, 800, 801, 802, 803, 804, 805, 806, 807, 808, 809, 810, 811, 812, 813, 814, 815, 816, 817] (by decide +kernel) (by decide +kernel)
set_option maxRecDepth 20000 in
theorem gL_law_X11_key : GoodIn wsL_law (wsV RL 70 RX11 yX11_key wsX11_key) := goodIn_app (goodIn_of _ (by decide +kernel)) ggL_law_X11_key
set_option maxRecDepth 20000 in
theorem ggL_law_X11_thrown : GoodIn wsL_law wsX11_thrown := goodIn_r _ [201, 187, 784, 785, 786, 787, 788, 789, 790, 791, 792, 793, 794, 795, 796, 797, 798, 799, 800, 801, 802, 803, 804, 805, 806, 807, 808, 809, 810, 811, 812, 813, 814, 815, 816, 817] (by decide +kernel) (by decide +kernel)
set_option maxRecDepth 20000 in
theorem gL_law_X11_thrown : GoodIn wsL_law (wsV RL 71 RX11 yX11_thrown wsX11_thrown) := goodIn_app (goodIn_of _ (by decide +kernel)) ggL_law_X11_thrown
set_option maxRecDepth 20000 in
theorem ggL_law_L_length : GoodIn wsL_law wsL_length := goodIn_ca (goodIn_r _ [204, 138, 205, 206, 207, 2, 208, 16, 209, 149, 150, 151, 152, 153, 781, 782, 783, 818, 819, 820, 821, 822, 823] (by decide +kernel) (by decide +kernel)) (goodIn_sub (fun _ h => List.mem_append_right _ h) (by decide +kernel))
set_option maxRecDepth 20000 in
theorem gL_law_L_length : GoodIn wsL_law (va_wsS RL 75 yL_length wsL_length) := goodIn_app (goodIn_of _ (by decide +kernel)) ggL_law_L_length
set_option maxRecDepth 20000 in
theorem ggL_law_X11_length : GoodIn wsL_law wsX11_length := goodIn_r _ [213, 111, 180, 181, 5, 182, 183, 184, 185, 186, 187, 784, 785, 786, 787, 788, 789, 790, 791, 792, 793, 794, 795, 796, 797, 798, 799, 800, 801, 802, 803, 804, 805, 806, 807, 808, 809, 810, 811, 812, 813, 814, 815, 816, 817] (by decide +kernel) (by decide +kernel)
set_option maxRecDepth 20000 in
theorem gL_law_X11_length : GoodIn wsL_law (wsV RL 78 RX11 yX11_length wsX11_length) := goodIn_app (goodIn_of _ (by decide +kernel)) ggL_law_X11_length
set_option maxRecDepth 20000 in
theorem ggL_law_L_weight : GoodIn wsL_law wsL_weight := goodIn_ca (goodIn_r _ [216, 138, 217, 218, 219, 2, 220, 16, 221, 222, 223, 224, 149, 150, 151, 152, 153, 146, 147, 148, 225, 226, 227, 15, 228, 36, 781, 782, 783, 837, 838, 839, 840, 818, 819, 820, 821, 822, 823] (by decide +kernel) (by decide +kernel)) (goodIn_sub (fun _ h => List.mem_append_right _ h) (by decide +kernel))
set_option maxRecDepth 20000 in
theorem gL_law_L_weight : GoodIn wsL_law (va_wsS RL 79 yL_weight wsL_weight) := goodIn_app (goodIn_of _ (by decide +kernel)) ggL_law_L_weight
set_option maxRecDepth 20000 in
theorem ggL_law_X11_weight : GoodIn wsL_law wsX11_weight := goodIn_r _ [232, 120, 180, 181, 5, 182, 183, 184, 185, 186, 187, 784, 785, 786, 787, 788, 789, 790, 791, 792, 793, 794, 795, 796, 797, 798, 799, 800, 801, 802, 803, 804, 805, 806, 807, 808, 809, 810, 811, 812, 813, 814, 815, 816, 817] (by decide +kernel) (by decide +kernel)
set_option maxRecDepth 20000 in
theorem gL_law_X11_weight : GoodIn wsL_law (wsV RL 81 RX11 yX11_weight wsX11_weight) := goodIn_app (goodIn_of _ (by decide +kernel)) ggL_law_X11_weight
set_option maxRecDepth 20000 in
theorem ggL_law_L_speed : GoodIn wsL_law wsL_speed := goodIn_ca (goodIn_r _ [235, 138, 236, 237, 238, 2, 239, 240, 149, 150, 151, 152, 153, 241, 242, 243, 244, 16, 245, 22, 246, 829, 830, 781, 782, 783, 818, 819, 820, 821, 822, 823, 826, 827, 828] (by decide +kernel) (by decide +kernel)) (goodIn_sub (fun _ h => List.mem_append_right _ h) (by decide +kernel))
set_option maxRecDepth 20000 in
theorem gL_law_L_speed : GoodIn wsL_law (va_wsS RL 82 yL_speed wsL_speed) := goodIn_app (goodIn_of _ (by decide +kernel)) ggL_law_L_speed
set_option maxRecDepth 20000 in
theorem ggL_law_X11_speed : GoodIn wsL_law wsX11_speed := goodIn_r _ [250, 103, 180, 181, 5, 182, 183, 184, 185, 186, 187, 784, 785, 786, 787, 788, 789, 790, 791, 792, 793, 794, 795, 796, 797, 798, 799, 800, 801, 802, 803, 804, 805, 806, 807, 808, 809, 810, 811, 812, 813, 814, 815, 816, 817] (by decide +kernel) (by decide +kernel)
set_option maxRecDepth 20000 in
theorem gL_law_X11_speed : GoodIn wsL_law (wsV RL 85 RX11 yX11_speed wsX11_speed) := goodIn_app (goodIn_of _ (by decide +kernel)) ggL_law_X11_speed
set_option maxRecDepth 20000 in
theorem ggL_law_L_take : GoodIn wsL_law wsL_take := goodIn_ca (goodIn_r _ [253, 138, 254, 255, 256, 2, 257, 22, 16, 145, 258, 222, 223, 224, 149, 150, 151, 152, 153, 146, 147, 148, 259, 260, 261, 24, 262, 86, 84, 263, 264, 265, 31, 266, 267, 268, 269, 270, 271, 88, 272, 273, 274, 275, 276, 277, 278, 94, 279, 280, 281, 282, 283, 53, 284, 285, 286, 287, 288, 289, 290, 291, 292, 293, 294, 295, 296, 297, 298, 299, 300, 301, 59, 302, 303, 304, 305, 306, 307, 308, 309, 310, 311, 312, 313, 314, 168, 315, 316, 317, 318, 319, 320, 321, 322, 323, 324, 325, 326, 327, 328, 329, 330, 331, 332, 333, 334, 335, 336, 337, 781, 782, 783, 818, 819, 820, 821, 822, 823, 831, 832, 833, 834, 835, 836, 826, 827, 828, 829, 830, 844, 845, 846, 847, 848, 849, 850, 851, 852, 853, 854, 855, 856, 841, 842, 843] (by decide +kernel) (by decide +kernel)) (goodIn_sub (fun _ h => List.mem_append_right _ h) (by decide +kernel))
set_option maxRecDepth 20000 in
theorem gL_law_L_take : GoodIn wsL_law (va_wsS RL 86 yL_take wsL_take) := goodIn_app (goodIn_of _ (by decide +kernel)) ggL_law_L_take
set_option maxRecDepth 20000 in
theorem ggL_law_X11_take : GoodIn wsL_law wsX11_take := goodIn_r _ [341, 123, 127, 197, 131, 129, 128, 107, 342, 343, 5, 344, 180, 181, 182, 183, 184, 185, 186, 187, 345, 346, 347, 348, 349, 350, 351, 352, 108, 353, 354, 355, 356, 357, 358, 359, 360, 130, 361, 362, 363, 364, 102, 192, 365, 366, 367, 784, 785, 786, 787, 788, 789, 790, 791, 792, 793, 794, 795, 796, 797, 798, 799, 800, 801, 802, 803, 804, 805, 806, 807, 808, 809, 810, 811, 812, 813, 814, 815, 816, 817] (by decide +kernel) (by decide +kernel)
set_option maxRecDepth 20000 in
theorem gL_law_X11_take : GoodIn wsL_law (wsV RL 89 RX11 yX11_take wsX11_take) := goodIn_app (goodIn_of _ (by decide +kernel)) ggL_law_X11_take
set_option maxRecDepth 20000 in
theorem ggL_law_L_work : GoodIn wsL_law wsL_work := goodIn_ca (goodIn_r _ [370, 138, 371, 372, 373, 2, 374, 20, 375, 22, 222, 223, 224, 149, 150, 151, 152, 153, 376, 377, 378, 24, 379, 86, 380, 84, 263, 264, 265, 31, 266, 267, 268, 381, 382, 383, 88, 384, 273, 385, 386, 387, 388, 389, 390, 391, 95, 96, 392, 393, 394, 395, 94, 279, 281, 282, 283, 53, 284, 285, 286, 287, 288, 289, 290, 291, 292, 293, 294, 295, 296, 297, 298, 299, 300, 301, 59, 302, 303, 304, 305, 306, 307, 308, 396, 397, 398, 399, 400, 401, 402, 403, 404, 405, 406, 407, 11, 12, 408, 409, 410, 411, 412, 413, 414, 415, 416, 417, 418, 419, 420, 19, 421, 422, 78, 324, 325, 326, 327, 328, 329, 330, 331, 332, 333, 334, 335, 336, 337, 275, 276, 277, 278, 280, 423, 424, 425, 426, 427, 428, 429, 781, 782, 783, 824, 825, 826, 827, 828, 829, 830, 844, 845, 846, 847, 848, 849, 850, 851, 852, 857, 858, 859, 860, 861, 862, 863, 864, 841, 842, 843, 853, 854, 855, 856] (by decide +kernel) (by decide +kernel)) (goodIn_sub (fun _ h => List.mem_append_right _ h) (by decide +kernel))
set_option maxRecDepth 20000 in
theorem gL_law_L_work : GoodIn wsL_law (va_wsS RL 90 yL_work wsL_work) := goodIn_app (goodIn_of _ (by decide +kernel)) ggL_law_L_work
set_option maxRecDepth 20000 in
theorem ggL_law_X11_work : GoodIn wsL_law wsX11_work := goodIn_r _ [433, 122, 123, 125, 126, 124, 121, 180, 181, 5, 182, 183, 184, 185, 186, 187, 434, 435, 436, 437, 197, 131, 128, 129, 349, 350, 351, 352, 108, 353, 354, 355, 356, 357, 358, 359, 360, 130, 361, 362, 363, 364, 102, 192, 365, 366, 367, 438, 439, 440, 441, 442, 132, 133, 345, 346, 347, 348, 784, 785, 786, 787, 788, 789, 790, 791, 792, 793, 794, 795, 796, 797, 798, 799, 800, 801, 802, 803, 804, 805, 806, 807, 808, 809, 810, 811, 812, 813, 814, 815, 816, 817] (by decide +kernel) (by decide +kernel)
set_option maxRecDepth 20000 in
theorem gL_law_X11_work : GoodIn wsL_law (wsV RL 93 RX11 yX11_work wsX11_work) := goodIn_app (goodIn_of _ (by decide +kernel)) ggL_law_X11_work
set_option maxRecDepth 20000 in
theorem ggL_law_L_carry : GoodIn wsL_law wsL_carry := goodIn_ca (goodIn_r _ [445, 138, 446, 447, 448, 2, 449, 450, 16, 20, 22, 451, 452, 453, 454, 455, 152, 153, 456, 457, 458, 19, 459, 422, 78, 460, 461, 462, 15, 463, 464, 38, 465, 466, 467, 468, 469, 470, 471, 472, 473, 226, 227, 228, 36, 474, 475, 476, 477, 478, 32, 479, 34, 480, 481, 482, 390, 391, 39, 483, 484, 264, 265, 31, 266, 267, 268, 485, 486, 487, 41, 488, 170, 489, 490, 491, 492, 493, 494, 495, 43, 496, 497, 498, 499, 500, 501, 407, 11, 12, 408, 409, 410, 411, 413, 414, 416, 417, 502, 503, 504, 505, 165, 54, 506, 507, 508, 509, 510, 511, 512, 513, 514, 515, 516, 517, 518, 53, 519, 332, 333, 59, 285, 520, 521, 522, 523, 524, 525, 526, 527, 528, 529, 530, 531, 58, 532, 533, 168, 534, 535, 536, 537, 538, 539, 540, 541, 542, 543, 544, 545, 546, 547, 548, 549, 550, 551, 552, 553, 554, 555, 556, 557, 558, 314, 315, 559, 335, 336, 337, 560, 419, 420, 421, 561, 562, 563, 564, 565, 566, 567, 568, 569, 570, 571, 164, 572, 282, 283, 284, 573, 287, 288, 289, 290, 291, 292, 293, 294, 295, 296, 297, 298, 299, 300, 301, 574, 575, 576, 577, 578, 579, 325, 326, 327, 328, 329, 330, 331, 334, 160, 161, 162, 163, 159, 166, 167, 169, 171, 172, 173, 580, 581, 582, 24, 583, 584, 380, 86, 585, 586, 587, 588, 88, 589, 387, 590, 386, 591, 94, 592, 593, 305, 388, 594, 595, 596, 597, 598, 599, 307, 600, 308, 601, 602, 603, 857, 858, 859, 860, 861, 862, 863, 864, 781, 782, 783, 824, 825, 818, 819, 820, 821, 822, 823, 837, 838, 839, 840, 829, 830, 831, 832, 833, 834, 835, 836, 865, 866, 867, 841, 842, 843, 826, 827, 828, 844, 845, 846, 847, 848, 849, 850, 851, 852, 853, 854, 855, 856] (by decide +kernel) (by decide +kernel)) (goodIn_sub (fun _ h => List.mem_append_right _ h) (by decide +kernel))
set_option maxRecDepth 20000 in
theorem gL_law_L_carry : GoodIn wsL_law (va_wsS RL 94 yL_carry wsL_carry) := goodIn_app (goodIn_of _ (by decide +kernel)) ggL_law_L_carry
set_option maxRecDepth 20000 in
theorem ggL_law_X11_carry : GoodIn wsL_law wsX11_carry := goodIn_r _ [607, 132, 608, 609, 610, 5, 611, 442, 133, 183, 184, 185, 186, 187, 612, 613, 614, 615, 112, 113, 616, 617, 618, 619, 118, 119, 106, 192, 120, 115, 116, 111, 114, 197, 108, 109, 110, 361, 362, 363, 364, 102, 620, 621, 622, 623, 438, 439, 440, 441, 624, 625, 626, 627, 121, 125, 124, 128, 129, 130, 126, 131, 628, 629, 630, 631, 188, 189, 190, 191, 105, 193, 194, 195, 196, 784, 785, 786, 787, 788, 789, 790, 791, 792, 793, 794, 795, 796, 797, 798, 799, 800, 801, 802, 803, 804, 805, 806, 807, 808, 809, 810, 811, 812, 813, 814, 815, 816, 817] (by decide +kernel) (by decide +kernel)
set_option maxRecDepth 20000 in
theorem gL_law_X11_carry : GoodIn wsL_law (wsV RL 96 RX11 yX11_carry wsX11_carry) := goodIn_app (goodIn_of _ (by decide +kernel)) ggL_law_X11_carry
set_option maxRecDepth 20000 in
theorem ggL_law_L_drop : GoodIn wsL_law wsL_drop := goodIn_ca (goodIn_r _ [634, 138, 635, 636, 637, 2, 638, 20, 452, 453, 454, 455, 152, 153, 456, 457, 458, 19, 459, 422, 78, 639, 640, 641, 642, 781, 782, 783, 824, 825] (by decide +kernel) (by decide +kernel)) (goodIn_sub (fun _ h => List.mem_append_right _ h) (by decide +kernel))
set_option maxRecDepth 20000 in
theorem gL_law_L_drop : GoodIn wsL_law (va_wsS RL 97 yL_drop wsL_drop) := goodIn_app (goodIn_of _ (by decide +kernel)) ggL_law_L_drop
set_option maxRecDepth 20000 in
theorem ggL_law_X11_drop : GoodIn wsL_law wsX11_drop := goodIn_r _ [646, 133, 608, 609, 610, 5, 611, 442, 183, 184, 185, 186, 187, 784, 785, 786, 787, 788, 789, 790, 791, 792, 793, 794, 795, 796, 797, 798, 799, 800, 801, 802, 803, 804, 805, 806, 807, 808, 809, 810, 811, 812, 813, 814, 815, 816, 817] (by decide +kernel) (by decide +kernel)
set_option maxRecDepth 20000 in
theorem gL_law_X11_drop : GoodIn wsL_law (wsV RL 99 RX11 yX11_drop wsX11_drop) := goodIn_app (goodIn_of _ (by decide +kernel)) ggL_law_X11_drop
set_option maxRecDepth 20000 in
theorem ggL_law_L_tick : GoodIn wsL_law wsL_tick := goodIn_ca (goodIn_r _ [649, 138, 650, 651, 652, 2, 653, 16, 22, 246, 149, 150, 151, 152, 153, 654, 655, 656, 15, 657, 32, 34, 484, 264, 265, 31, 266, 267, 268, 658, 659, 660, 661, 47, 662, 663, 664, 41, 665, 54, 570, 666, 158, 572, 282, 283, 53, 284, 285, 667, 668, 669, 670, 573, 287, 288, 289, 290, 291, 292, 293, 294, 295, 296, 297, 298, 299, 300, 301, 59, 160, 161, 162, 163, 164, 159, 165, 166, 167, 168, 169, 170, 171, 172, 173, 574, 575, 576, 577, 578, 579, 325, 326, 327, 328, 329, 330, 331, 332, 333, 334, 335, 336, 337, 671, 781, 782, 783, 826, 827, 828, 818, 819, 820, 821, 822, 823, 829, 830, 831, 832, 833, 834, 835, 836, 865, 866, 867, 841, 842, 843] (by decide +kernel) (by decide +kernel)) (goodIn_sub (fun _ h => List.mem_append_right _ h) (by decide +kernel))
set_option maxRecDepth 20000 in
theorem gL_law_L_tick : GoodIn wsL_law (va_wsS RL 100 yL_tick wsL_tick) := goodIn_app (goodIn_of _ (by decide +kernel)) ggL_law_L_tick
set_option maxRecDepth 20000 in
theorem ggL_law_X11_tick : GoodIn wsL_law wsX11_tick := goodIn_r _ [675, 102, 103, 180, 181, 5, 182, 183, 184, 185, 186, 187, 361, 362, 363, 364, 192, 676, 677, 678, 679, 197, 110, 109, 680, 681, 682, 683, 684, 685, 686, 687, 106, 104, 188, 189, 190, 191, 105, 193, 194, 195, 196, 108, 784, 785, 786, 787, 788, 789, 790, 791, 792, 793, 794, 795, 796, 797, 798, 799, 800, 801, 802, 803, 804, 805, 806, 807, 808, 809, 810, 811, 812, 813, 814, 815, 816, 817] (by decide +kernel) (by decide +kernel)
set_option maxRecDepth 20000 in
theorem gL_law_X11_tick : GoodIn wsL_law (wsV RL 102 RX11 yX11_tick wsX11_tick) := goodIn_app (goodIn_of _ (by decide +kernel)) ggL_law_X11_tick
set_option maxRecDepth 20000 in
theorem ggL_law_L_restart : GoodIn wsL_law wsL_restart := goodIn_ca (goodIn_r _ [690, 138, 691, 692, 693, 2, 694, 22, 222, 223, 224, 149, 150, 151, 152, 153, 695, 696, 697, 24, 698, 86, 380, 699, 700, 701, 88, 702, 94, 385, 273, 386, 387, 388, 274, 703, 704, 705, 53, 706, 332, 333, 59, 285, 781, 782, 783, 826, 827, 828, 844, 845, 846, 847, 848, 849, 850, 851, 852, 841, 842, 843] (by decide +kernel) (by decide +kernel)) (goodIn_sub (fun _ h => List.mem_append_right _ h) (by decide +kernel))
set_option maxRecDepth 20000 in
theorem gL_law_L_restart : GoodIn wsL_law (va_wsS RL 103 yL_restart wsL_restart) := goodIn_app (goodIn_of _ (by decide +kernel)) ggL_law_L_restart
set_option maxRecDepth 20000 in
theorem ggL_law_X11_restart : GoodIn wsL_law wsX11_restart := goodIn_r _ [710, 121, 197, 128, 122, 123, 124, 125, 126, 127, 180, 181, 5, 182, 183, 184, 185, 186, 187, 784, 785, 786, 787, 788, 789, 790, 791, 792, 793, 794, 795, 796, 797, 798, 799, 800, 801, 802, 803, 804, 805, 806, 807, 808, 809, 810, 811, 812, 813, 814, 815, 816, 817] (by decide +kernel) (by decide +kernel)
set_option maxRecDepth 20000 in
theorem gL_law_X11_restart : GoodIn wsL_law (wsV RL 105 RX11 yX11_restart wsX11_restart) := goodIn_app (goodIn_of _ (by decide +kernel)) ggL_law_X11_restart
set_option maxRecDepth 20000 in
theorem ggL_law_L_root : GoodIn wsL_law wsL_root := goodIn_ca (goodIn_r _ [713, 138, 714, 715, 716, 2, 717, 16, 145, 258, 718, 719, 720, 146, 147, 148, 149, 150, 151, 152, 153, 721, 282, 283, 53, 284, 285, 781, 782, 783, 818, 819, 820, 821, 822, 823, 831, 832, 833, 834, 835, 836, 841, 842, 843] (by decide +kernel) (by decide +kernel)) (goodIn_sub (fun _ h => List.mem_append_right _ h) (by decide +kernel))
set_option maxRecDepth 20000 in
theorem gL_law_L_root : GoodIn wsL_law (va_wsS RL 106 yL_root wsL_root) := goodIn_app (goodIn_of _ (by decide +kernel)) ggL_law_L_root
set_option maxRecDepth 20000 in
theorem ggL_law_X11_root : GoodIn wsL_law wsX11_root := goodIn_r _ [725, 197, 108, 109, 107, 106, 180, 181, 5, 182, 183, 184, 185, 186, 187, 193, 194, 195, 196, 784, 785, 786, 787, 788, 789, 790, 791, 792, 793, 794, 795, 796, 797, 798, 799, 800, 801, 802, 803, 804, 805, 806, 807, 808, 809, 810, 811, 812, 813, 814, 815, 816, 817] (by decide +kernel) (by decide +kernel)
set_option maxRecDepth 20000 in
theorem gL_law_X11_root : GoodIn wsL_law (wsV RL 109 RX11 yX11_root wsX11_root) := goodIn_app (goodIn_of _ (by decide +kernel)) ggL_law_X11_root
set_option maxRecDepth 20000 in
theorem ggL_law_L_gate : GoodIn wsL_law wsL_gate := goodIn_ca (goodIn_r _ [728, 138, 729, 730, 731, 2, 732, 22, 733, 246, 734, 735, 736, 737, 738, 739, 222, 223, 224, 149, 150, 151, 152, 153, 146, 147, 148, 740, 264, 265, 31, 266, 267, 268, 741, 276, 277, 88, 278, 94, 279, 280, 281, 282, 283, 53, 284, 285, 286, 287, 288, 289, 290, 291, 292, 293, 294, 295, 296, 297, 298, 299, 300, 301, 59, 302, 303, 304, 305, 306, 307, 308, 721, 781, 782, 783, 826, 827, 828, 844, 845, 846, 847, 848, 849, 850, 851, 852, 829, 830, 853, 854, 855, 856, 841, 842, 843] (by decide +kernel) (by decide +kernel)) (goodIn_sub (fun _ h => List.mem_append_right _ h) (by decide +kernel))
set_option maxRecDepth 20000 in
theorem gL_law_L_gate : GoodIn wsL_law (va_wsS RL 110 yL_gate wsL_gate) := goodIn_app (goodIn_of _ (by decide +kernel)) ggL_law_L_gate
set_option maxRecDepth 20000 in
theorem ggL_law_X11_gate : GoodIn wsL_law wsX11_gate := goodIn_r _ [745, 197, 122, 123, 124, 125, 127, 342, 343, 5, 344, 180, 181, 182, 183, 184, 185, 186, 187, 349, 350, 351, 352, 128, 108, 345, 346, 347, 348, 129, 353, 354, 355, 356, 131, 357, 358, 359, 360, 130, 361, 362, 363, 364, 102, 192, 365, 366, 367, 784, 785, 786, 787, 788, 789, 790, 791, 792, 793, 794, 795, 796, 797, 798, 799, 800, 801, 802, 803, 804, 805, 806, 807, 808, 809, 810, 811, 812, 813, 814, 815, 816, 817] (by decide +kernel) (by decide +kernel)
set_option maxRecDepth 20000 in
theorem gL_law_X11_gate : GoodIn wsL_law (wsV RL 112 RX11 yX11_gate wsX11_gate) := goodIn_app (goodIn_of _ (by decide +kernel)) ggL_law_X11_gate
set_option maxRecDepth 20000 in
theorem ggL_law_L_message : GoodIn wsL_law wsL_message := goodIn_ca (goodIn_r _ [748, 138, 749, 750, 751, 2, 752, 450, 451, 753, 754, 755, 756, 757, 452, 453, 454, 455, 152, 153, 20, 456, 457, 458, 19, 459, 422, 78, 149, 150, 151, 857, 858, 859, 860, 861, 862, 863, 864, 781, 782, 783, 824, 825] (by decide +kernel) (by decide +kernel)) (goodIn_sub (fun _ h => List.mem_append_right _ h) (by decide +kernel))
set_option maxRecDepth 20000 in
theorem gL_law_L_message : GoodIn wsL_law (va_wsS RL 113 yL_message wsL_message) := goodIn_app (goodIn_of _ (by decide +kernel)) ggL_law_L_message
set_option maxRecDepth 20000 in
theorem ggL_law_X11_message : GoodIn wsL_law wsX11_message := goodIn_r _ [761, 132, 608, 609, 610, 5, 611, 442, 133, 180, 181, 182, 183, 184, 185, 186, 187, 784, 785, 786, 787, 788, 789, 790, 791, 792, 793, 794, 795, 796, 797, 798, 799, 800, 801, 802, 803, 804, 805, 806, 807, 808, 809, 810, 811, 812, 813, 814, 815, 816, 817] (by decide +kernel) (by decide +kernel)
set_option maxRecDepth 20000 in
theorem gL_law_X11_message : GoodIn wsL_law (wsV RL 115 RX11 yX11_message wsX11_message) := goodIn_app (goodIn_of _ (by decide +kernel)) ggL_law_X11_message
set_option maxRecDepth 20000 in
theorem ggL_law_X10_sent : GoodIn wsL_law wsX10_sent := goodIn_r _ [765, 20, 375, 781, 782, 783, 824, 825] (by decide +kernel) (by decide +kernel)
set_option maxRecDepth 20000 in
theorem gL_law_X10_sent : GoodIn wsL_law (wsV RL 116 RX10 yX10_sent wsX10_sent) := goodIn_app (goodIn_of _ (by decide +kernel)) ggL_law_X10_sent
set_option maxRecDepth 20000 in
theorem ggL_law_X11_sent : GoodIn wsL_law wsX11_sent := goodIn_r _ [769, 187, 442, 784, 785, 786, 787, 788, 789, 790, 791, 792, 793, 794, 795, 796, 797, 798, 799, 800, 801, 802, 803, 804, 805, 806, 807, 808, 809, 810, 811, 812, 813, 814, 815, 816, 817] (by decide +kernel) (by decide +kernel)
set_option maxRecDepth 20000 in
theorem gL_law_X11_sent : GoodIn wsL_law (wsV RL 119 RX11 yX11_sent wsX11_sent) := goodIn_app (goodIn_of _ (by decide +kernel)) ggL_law_X11_sent
set_option maxRecDepth 20000 in
theorem ggL_law_L_clock : GoodIn wsL_law wsL_clock := goodIn_ca (goodIn_r _ [772, 138, 773, 774, 775, 2, 776, 149, 150, 151, 152, 153, 241, 242, 243, 244, 16, 245, 22, 246, 740, 264, 265, 31, 266, 267, 268, 781, 782, 783, 818, 819, 820, 821, 822, 823, 826, 827, 828, 829, 830] (by decide +kernel) (by decide +kernel)) (goodIn_sub (fun _ h => List.mem_append_right _ h) (by decide +kernel))
set_option maxRecDepth 20000 in
theorem gL_law_L_clock : GoodIn wsL_law (va_wsS RL 120 yL_clock wsL_clock) := goodIn_app (goodIn_of _ (by decide +kernel)) ggL_law_L_clock
set_option maxRecDepth 20000 in
theorem ggL_law_X11_clock : GoodIn wsL_law wsX11_clock := goodIn_r _ [780, 180, 181, 5, 182, 183, 184, 185, 186, 187, 361, 362, 363, 364, 102, 192, 784, 785, 786, 787, 788, 789, 790, 791, 792, 793, 794, 795, 796, 797, 798, 799, 800, 801, 802, 803, 804, 805, 806, 807, 808, 809, 810, 811, 812, 813, 814, 815, 816, 817] (by decide +kernel) (by decide +kernel)
set_option maxRecDepth 20000 in
theorem gL_law_X11_clock : GoodIn wsL_law (wsV RL 122 RX11 yX11_clock wsX11_clock) := goodIn_app (goodIn_of _ (by decide +kernel)) ggL_law_X11_clock
