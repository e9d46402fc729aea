set_option maxRecDepth 20000 in
theorem ggL_law_X9_init : GoodIn wsL_law wsX9_init := goodIn_r _ [9, 10, 11, 12, 13, 14, 15, 16, 17, 18, 19, 20, 21, 22, 23, 24, 25, 26, 27, 28, 29, 30, 31, 32, 33, 34, 35, 36, 37, 38, 39, 40, 41, 42, 43, 44, 45, 46, 47, 48, 49, 50, 51, 52, 53, 54, 55, 56, 57, 58, 59, 60, 61, 62, 63, 64, 65, 66, 67, 68, 69, 70, 71, 72, 73, 74, 75, 76, 77, 78, 79, 80, 81, 82, 83, 84, 85, 86, 87, 88, 89, 90, 91, 92, 93, 94, 95, 96, 97, 98, 99, 100, 101, 102, 103, 104, 105, 106, 107, 108, 109, 110, 111, 112, 113, 114, 115, 116, 117, 118, 119, 120, 121, 122, 123, 124, 125, 126, 127, 128, 129, 130, 131, 132, 133, 134, 135, 136, 137, 138, 139, 823, 824, 825, 826, 827, 828, 829, 798, 799, 800, 801, 802, 803, 804, 830, 831, 832, 833, 834, 835, 836, 837, 838, 839, 840, 841, 842, 843, 844, 845, 846, 847, 848, 849, 850, 851, 852, 853, 854, 855, 856, 857, 858, 859, 860, 861, 862, 863, 864, 865, 866, 867, 868, 869, 870] (by decide +kernel) (by decide +kernel)
set_option maxRecDepth 20000 in
theorem gL_law_X9_init : GoodIn wsL_law (wsX9_init) := ggL_law_X9_init
set_option maxRecDepth 20000 in
theorem ggL_law_X10_init : GoodIn wsL_law wsX10_init := goodIn_r _ [142, 143, 11, 12, 37, 144, 145, 146, 23, 147, 148, 149, 150, 151, 152, 805, 806, 807, 808, 809, 810, 811, 812, 813, 814, 815, 816, 817, 818, 819, 820, 821, 822] (by decide +kernel) (by decide +kernel)
set_option maxRecDepth 20000 in
theorem gL_law_X10_init : GoodIn wsL_law (wsX10_init) := ggL_law_X10_init
set_option maxRecDepth 20000 in
theorem ggL_law_X9_set : GoodIn wsL_law wsX9_set := goodIn_r _ [156, 157, 158, 16, 159, 160, 21, 161, 162, 163, 164, 2, 165, 166, 167, 168, 169, 170, 171, 20, 172, 128, 173, 174, 175, 176, 177, 178, 179, 180, 181, 182, 183, 184, 185, 15, 186, 38, 59, 60, 61, 62, 42, 46, 50, 54, 58, 92, 187, 188, 189, 41, 190, 66, 191, 67, 192, 193, 194, 195, 45, 196, 71, 197, 72, 73, 74, 198, 199, 200, 49, 201, 78, 202, 79, 80, 81, 203, 204, 205, 206, 53, 207, 116, 117, 118, 119, 120, 121, 122, 208, 209, 210, 57, 211, 98, 99, 100, 101, 102, 103, 104, 105, 106, 107, 212, 109, 110, 111, 798, 799, 800, 801, 802, 803, 804, 823, 824, 825, 826, 827, 828, 829, 854, 855, 856, 857, 858, 859, 860, 830, 831, 832, 842, 843, 844, 845, 846, 847, 848, 849, 850, 851, 852, 853, 861, 862, 863, 864, 865, 866, 867, 868, 869, 870] (by decide +kernel) (by decide +kernel)
set_option maxRecDepth 20000 in
theorem gL_law_X9_set : GoodIn wsL_law (wsV RL 13 RX9 yX9_set wsX9_set) := goodIn_app (goodIn_of _ (by decide +kernel)) ggL_law_X9_set
set_option maxRecDepth 20000 in
theorem ggL_law_X10_set : GoodIn wsL_law wsX10_set := goodIn_r _ [216, 144, 217, 218, 5, 219, 220, 221, 222, 223, 224, 225, 226, 227, 228, 229, 230, 231, 145, 805, 806, 807, 808, 809, 810, 811, 812, 813, 814, 815, 816, 817, 818, 819, 820, 821, 822] (by decide +kernel) (by decide +kernel)
set_option maxRecDepth 20000 in
theorem gL_law_X10_set : GoodIn wsL_law (wsV RL 17 RX10 yX10_set wsX10_set) := goodIn_app (goodIn_of _ (by decide +kernel)) ggL_law_X10_set
set_option maxRecDepth 20000 in
theorem ggL_law_X9_beat : GoodIn wsL_law wsX9_beat := goodIn_r _ [235, 16, 236, 237, 21, 238, 166, 167, 2, 168, 239, 240, 241, 41, 242, 192, 243, 244, 245, 246, 66, 247, 248, 249, 250, 251, 252, 253, 254, 255, 256, 257, 258, 67, 259, 260, 261, 262, 263, 169, 170, 171, 20, 172, 128, 173, 174, 175, 176, 177, 178, 179, 180, 181, 182, 183, 184, 185, 15, 186, 38, 59, 60, 61, 62, 42, 46, 50, 54, 58, 92, 187, 188, 189, 190, 191, 193, 194, 195, 45, 196, 71, 197, 72, 73, 74, 198, 199, 200, 49, 201, 78, 202, 79, 80, 81, 203, 204, 205, 206, 53, 207, 116, 117, 118, 119, 120, 121, 122, 208, 209, 210, 57, 211, 98, 99, 100, 101, 102, 103, 104, 105, 106, 107, 264, 265, 266, 267, 798, 799, 800, 801, 802, 803, 804, 823, 824, 825, 826, 827, 828, 829, 842, 843, 844, 830, 831, 832, 845, 846, 847, 848, 849, 850, 851, 852, 853, 854, 855, 856, 857, 858, 859, 860, 861, 862, 863, 864, 865, 866, 867, 868, 869, 870] (by decide +kernel) (by decide +kernel)
set_option maxRecDepth 20000 in
theorem gL_law_X9_beat : GoodIn wsL_law (wsV RL 18 RX9 yX9_beat wsX9_beat) := goodIn_app (goodIn_of _ (by decide +kernel)) ggL_law_X9_beat
set_option maxRecDepth 20000 in
theorem ggL_law_X10_beat : GoodIn wsL_law wsX10_beat := goodIn_r _ [271, 144, 272, 217, 218, 5, 219, 273, 274, 275, 276, 277, 278, 279, 280, 281, 282, 283, 284, 226, 227, 228, 229, 230, 231, 145, 285, 286, 287, 288, 289, 290, 291, 292, 293, 294, 295, 296, 805, 806, 807, 808, 809, 810, 811, 812, 813, 814, 815, 816, 817, 818, 819, 820, 821, 822] (by decide +kernel) (by decide +kernel)
set_option maxRecDepth 20000 in
theorem gL_law_X10_beat : GoodIn wsL_law (wsV RL 21 RX10 yX10_beat wsX10_beat) := goodIn_app (goodIn_of _ (by decide +kernel)) ggL_law_X10_beat
set_option maxRecDepth 20000 in
theorem ggL_law_X9_cut : GoodIn wsL_law wsX9_cut := goodIn_r _ [300, 16, 236, 238, 301, 302, 21, 166, 167, 2, 168, 169, 170, 171, 20, 172, 128, 173, 174, 175, 176, 177, 178, 179, 180, 181, 182, 183, 184, 185, 15, 186, 38, 59, 60, 61, 62, 42, 46, 50, 54, 58, 92, 187, 188, 189, 41, 190, 66, 191, 67, 192, 193, 194, 195, 45, 196, 71, 197, 72, 73, 74, 198, 199, 200, 49, 201, 78, 202, 79, 80, 81, 203, 204, 205, 206, 53, 207, 116, 117, 118, 119, 120, 121, 122, 208, 209, 210, 57, 211, 98, 99, 100, 101, 102, 103, 104, 105, 106, 107, 798, 799, 800, 801, 802, 803, 804, 823, 824, 825, 826, 827, 828, 829, 842, 843, 844, 861, 862, 863, 864, 865, 866, 867, 868, 869, 870, 830, 831, 832, 845, 846, 847, 848, 849, 850, 851, 852, 853, 854, 855, 856, 857, 858, 859, 860] (by decide +kernel) (by decide +kernel)
set_option maxRecDepth 20000 in
theorem gL_law_X9_cut : GoodIn wsL_law (wsV RL 22 RX9 yX9_cut wsX9_cut) := goodIn_app (goodIn_of _ (by decide +kernel)) ggL_law_X9_cut
set_option maxRecDepth 20000 in
theorem ggL_law_X10_cut : GoodIn wsL_law wsX10_cut := goodIn_r _ [306, 144, 217, 218, 5, 219, 226, 227, 228, 229, 230, 231, 145, 805, 806, 807, 808, 809, 810, 811, 812, 813, 814, 815, 816, 817, 818, 819, 820, 821, 822] (by decide +kernel) (by decide +kernel)
set_option maxRecDepth 20000 in
theorem gL_law_X10_cut : GoodIn wsL_law (wsV RL 26 RX10 yX10_cut wsX10_cut) := goodIn_app (goodIn_of _ (by decide +kernel)) ggL_law_X10_cut
set_option maxRecDepth 20000 in
theorem ggL_law_X9_pass : GoodIn wsL_law wsX9_pass := goodIn_r _ [310, 16, 237, 311, 21, 166, 167, 2, 168, 169, 170, 171, 20, 172, 128, 173, 174, 175, 176, 177, 178, 179, 180, 181, 182, 183, 184, 185, 15, 186, 38, 59, 60, 61, 62, 42, 46, 50, 54, 58, 92, 187, 188, 189, 41, 190, 66, 191, 67, 192, 193, 194, 195, 45, 196, 71, 197, 72, 73, 74, 198, 199, 200, 49, 201, 78, 202, 79, 80, 81, 203, 204, 205, 206, 53, 207, 116, 117, 118, 119, 120, 121, 122, 208, 209, 210, 57, 211, 98, 99, 100, 101, 102, 103, 104, 105, 106, 107, 312, 313, 314, 315, 316, 317, 318, 319, 320, 244, 245, 246, 247, 248, 249, 250, 321, 322, 323, 324, 325, 326, 327, 328, 329, 330, 331, 332, 333, 334, 335, 336, 337, 338, 339, 340, 341, 342, 343, 344, 345, 346, 347, 348, 349, 350, 351, 352, 353, 354, 355, 356, 357, 358, 359, 360, 361, 362, 363, 364, 365, 366, 367, 368, 369, 370, 371, 372, 373, 374, 375, 376, 377, 378, 93, 379, 380, 256, 257, 258, 381, 382, 383, 384, 385, 386, 387, 388, 389, 390, 391, 392, 393, 394, 395, 396, 397, 398, 399, 400, 401, 402, 403, 404, 405, 406, 407, 408, 409, 410, 411, 412, 798, 799, 800, 801, 802, 803, 804, 823, 824, 825, 826, 827, 828, 829, 830, 831, 832, 842, 843, 844, 845, 846, 847, 848, 849, 850, 851, 852, 853, 854, 855, 856, 857, 858, 859, 860, 861, 862, 863, 864, 865, 866, 867, 868, 869, 870] (by decide +kernel) (by decide +kernel)
set_option maxRecDepth 20000 in
theorem gL_law_X9_pass : GoodIn wsL_law (wsV RL 27 RX9 yX9_pass wsX9_pass) := goodIn_app (goodIn_of _ (by decide +kernel)) ggL_law_X9_pass
set_option maxRecDepth 20000 in
theorem ggL_law_X10_pass : GoodIn wsL_law wsX10_pass := goodIn_r _ [416, 144, 417, 217, 218, 5, 219, 226, 227, 228, 229, 230, 231, 145, 418, 419, 420, 421, 149, 277, 278, 279, 280, 422, 423, 424, 425, 426, 427, 428, 429, 430, 431, 432, 433, 434, 435, 436, 437, 438, 439, 440, 441, 442, 443, 444, 445, 446, 447, 448, 449, 450, 451, 452, 453, 454, 455, 456, 457, 293, 294, 295, 296, 289, 290, 291, 292, 458, 459, 460, 461, 462, 463, 464, 465, 466, 467, 805, 806, 807, 808, 809, 810, 811, 812, 813, 814, 815, 816, 817, 818, 819, 820, 821, 822] (by decide +kernel) (by decide +kernel)
set_option maxRecDepth 20000 in
theorem gL_law_X10_pass : GoodIn wsL_law (wsV RL 30 RX10 yX10_pass wsX10_pass) := goodIn_app (goodIn_of _ (by decide +kernel)) ggL_law_X10_pass
set_option maxRecDepth 20000 in
theorem ggL_law_X9_anew : GoodIn wsL_law wsX9_anew := goodIn_r _ [471, 21, 16, 236, 238, 169, 170, 171, 20, 172, 128, 173, 174, 175, 176, 177, 178, 179, 180, 181, 182, 183, 184, 185, 15, 186, 38, 59, 60, 61, 62, 42, 46, 50, 54, 58, 92, 187, 188, 189, 41, 190, 66, 191, 67, 192, 193, 194, 195, 45, 196, 71, 197, 72, 73, 74, 198, 199, 200, 49, 201, 78, 202, 79, 80, 81, 203, 204, 205, 206, 53, 207, 116, 117, 118, 119, 120, 121, 122, 208, 209, 210, 57, 211, 98, 99, 100, 101, 102, 103, 104, 105, 106, 107, 472, 89, 90, 91, 93, 94, 95, 96, 97, 108, 109, 110, 111, 112, 113, 114, 115, 798, 799, 800, 801, 802, 803, 804, 823, 824, 825, 826, 827, 828, 829, 842, 843, 844, 830, 831, 832, 845, 846, 847, 848, 849, 850, 851, 852, 853, 854, 855, 856, 857, 858, 859, 860, 861, 862, 863, 864, 865, 866, 867, 868, 869, 870] (by decide +kernel) (by decide +kernel)
set_option maxRecDepth 20000 in
theorem gL_law_X9_anew : GoodIn wsL_law (wsV RL 31 RX9 yX9_anew wsX9_anew) := goodIn_app (goodIn_of _ (by decide +kernel)) ggL_law_X9_anew
set_option maxRecDepth 20000 in
theorem ggL_law_X10_anew : GoodIn wsL_law wsX10_anew := goodIn_r _ [476, 144, 226, 227, 228, 5, 229, 230, 231, 145, 477, 478, 479, 480, 293, 294, 295, 296, 289, 290, 291, 292, 805, 806, 807, 808, 809, 810, 811, 812, 813, 814, 815, 816, 817, 818, 819, 820, 821, 822] (by decide +kernel) (by decide +kernel)
set_option maxRecDepth 20000 in
theorem gL_law_X10_anew : GoodIn wsL_law (wsV RL 35 RX10 yX10_anew wsX10_anew) := goodIn_app (goodIn_of _ (by decide +kernel)) ggL_law_X10_anew
set_option maxRecDepth 20000 in
theorem ggL_law_X9_ofBeat : GoodIn wsL_law wsX9_ofBeat := goodIn_r _ [484, 16, 236, 485, 486, 248, 249, 41, 250, 192, 487, 244, 245, 246, 66, 247, 488, 256, 257, 258, 67, 489, 490, 491, 15, 492, 58, 316, 493, 494, 495, 45, 496, 71, 385, 386, 387, 497, 498, 499, 500, 72, 501, 502, 503, 504, 73, 505, 506, 507, 508, 74, 798, 799, 800, 801, 802, 803, 804, 823, 824, 825, 826, 827, 828, 829, 842, 843, 844, 861, 862, 863, 864, 865, 866, 867, 868, 869, 870, 845, 846, 847, 848] (by decide +kernel) (by decide +kernel)
set_option maxRecDepth 20000 in
theorem gL_law_X9_ofBeat : GoodIn wsL_law (wsV RL 36 RX9 yX9_ofBeat wsX9_ofBeat) := goodIn_app (goodIn_of _ (by decide +kernel)) ggL_law_X9_ofBeat
set_option maxRecDepth 20000 in
theorem ggL_law_X10_ofBeat : GoodIn wsL_law wsX10_ofBeat := goodIn_r _ [512, 144, 272, 217, 218, 5, 219, 277, 278, 279, 280, 805, 806, 807, 808, 809, 810, 811, 812, 813, 814, 815, 816, 817, 818, 819, 820, 821, 822] (by decide +kernel) (by decide +kernel)
set_option maxRecDepth 20000 in
theorem gL_law_X10_ofBeat : GoodIn wsL_law (wsV RL 39 RX10 yX10_ofBeat wsX10_ofBeat) := goodIn_app (goodIn_of _ (by decide +kernel)) ggL_law_X10_ofBeat
set_option maxRecDepth 20000 in
theorem ggL_law_X9_ofBlow : GoodIn wsL_law wsX9_ofBlow := goodIn_r _ [516, 16, 517, 518, 519, 520, 521, 522, 523, 524, 49, 525, 203, 526, 363, 364, 365, 798, 799, 800, 801, 802, 803, 804, 823, 824, 825, 826, 827, 828, 829, 849, 850, 851, 852, 853] (by decide +kernel) (by decide +kernel)
set_option maxRecDepth 20000 in
theorem gL_law_X9_ofBlow : GoodIn wsL_law (wsV RL 40 RX9 yX9_ofBlow wsX9_ofBlow) := goodIn_app (goodIn_of _ (by decide +kernel)) ggL_law_X9_ofBlow
set_option maxRecDepth 20000 in
theorem ggL_law_X10_ofBlow : GoodIn wsL_law wsX10_ofBlow := goodIn_r _ [530, 144, 217, 218, 5, 219, 805, 806, 807, 808, 809, 810, 811, 812, 813, 814, 815, 816, 817, 818, 819, 820, 821, 822] (by decide +kernel) (by decide +kernel)
set_option maxRecDepth 20000 in
theorem gL_law_X10_ofBlow : GoodIn wsL_law (wsV RL 43 RX10 yX10_ofBlow wsX10_ofBlow) := goodIn_app (goodIn_of _ (by decide +kernel)) ggL_law_X10_ofBlow
set_option maxRecDepth 20000 in
theorem ggL_law_X9_count : GoodIn wsL_law wsX9_count := goodIn_r _ [534, 16, 161, 237, 159, 535, 162, 160, 517, 536, 301, 537, 302, 538, 539, 540, 541, 542, 543, 544, 236, 238, 545, 28, 546, 21, 547, 166, 167, 2, 168, 798, 799, 800, 801, 802, 803, 804, 823, 824, 825, 826, 827, 828, 829, 854, 855, 856, 857, 858, 859, 860, 849, 850, 851, 852, 853, 861, 862, 863, 864, 865, 866, 867, 868, 869, 870, 842, 843, 844, 833, 834, 830, 831, 832] (by decide +kernel) (by decide +kernel)
set_option maxRecDepth 20000 in
theorem gL_law_X9_count : GoodIn wsL_law (wsV RL 44 RX9 yX9_count wsX9_count) := goodIn_app (goodIn_of _ (by decide +kernel)) ggL_law_X9_count
set_option maxRecDepth 20000 in
theorem ggL_law_X10_count : GoodIn wsL_law wsX10_count := goodIn_r _ [551, 144, 552, 230, 217, 218, 5, 219, 805, 806, 807, 808, 809, 810, 811, 812, 813, 814, 815, 816, 817, 818, 819, 820, 821, 822] (by decide +kernel) (by decide +kernel)
set_option maxRecDepth 20000 in
theorem gL_law_X10_count : GoodIn wsL_law (wsV RL 47 RX10 yX10_count wsX10_count) := goodIn_app (goodIn_of _ (by decide +kernel)) ggL_law_X10_count
set_option maxRecDepth 20000 in
theorem ggL_law_X9_slips : GoodIn wsL_law wsX9_slips := goodIn_r _ [556, 557, 16, 301, 558, 798, 799, 800, 801, 802, 803, 804, 823, 824, 825, 826, 827, 828, 829, 861, 862, 863, 864, 865, 866, 867, 868, 869, 870] (by decide +kernel) (by decide +kernel)
set_option maxRecDepth 20000 in
theorem gL_law_X9_slips : GoodIn wsL_law (wsV RL 48 RX9 yX9_slips wsX9_slips) := goodIn_app (goodIn_of _ (by decide +kernel)) ggL_law_X9_slips
set_option maxRecDepth 20000 in
theorem ggL_law_X10_slips : GoodIn wsL_law wsX10_slips := goodIn_r _ [562, 272, 144, 805, 806, 807, 808, 809, 810, 811, 812, 813, 814, 815, 816, 817, 818, 819, 820, 821, 822] (by decide +kernel) (by decide +kernel)
set_option maxRecDepth 20000 in
theorem gL_law_X10_slips : GoodIn wsL_law (wsV RL 51 RX10 yX10_slips wsX10_slips) := goodIn_app (goodIn_of _ (by decide +kernel)) ggL_law_X10_slips
set_option maxRecDepth 20000 in
theorem ggL_law_X9_nextBlow : GoodIn wsL_law wsX9_nextBlow := goodIn_r _ [566, 16, 159, 160, 544, 161, 162, 166, 167, 2, 168, 798, 799, 800, 801, 802, 803, 804, 823, 824, 825, 826, 827, 828, 829, 854, 855, 856, 857, 858, 859, 860] (by decide +kernel) (by decide +kernel)
set_option maxRecDepth 20000 in
theorem gL_law_X9_nextBlow : GoodIn wsL_law (wsV RL 52 RX9 yX9_nextBlow wsX9_nextBlow) := goodIn_app (goodIn_of _ (by decide +kernel)) ggL_law_X9_nextBlow
set_option maxRecDepth 20000 in
theorem ggL_law_X10_nextBlow : GoodIn wsL_law wsX10_nextBlow := goodIn_r _ [570, 144, 217, 218, 5, 219, 805, 806, 807, 808, 809, 810, 811, 812, 813, 814, 815, 816, 817, 818, 819, 820, 821, 822] (by decide +kernel) (by decide +kernel)
set_option maxRecDepth 20000 in
theorem gL_law_X10_nextBlow : GoodIn wsL_law (wsV RL 55 RX10 yX10_nextBlow wsX10_nextBlow) := goodIn_app (goodIn_of _ (by decide +kernel)) ggL_law_X10_nextBlow
set_option maxRecDepth 20000 in
theorem ggL_law_X9_ifHeard : GoodIn wsL_law wsX9_ifHeard := goodIn_r _ [574, 17, 16, 236, 301, 302, 238, 237, 166, 167, 2, 168, 575, 184, 185, 15, 186, 38, 59, 60, 61, 62, 42, 46, 50, 54, 58, 92, 187, 188, 189, 41, 190, 66, 191, 67, 192, 193, 194, 195, 45, 196, 71, 197, 72, 73, 74, 198, 199, 200, 49, 201, 78, 202, 79, 80, 81, 203, 204, 205, 206, 53, 207, 116, 117, 118, 119, 120, 121, 122, 208, 209, 210, 57, 211, 98, 99, 100, 101, 102, 103, 104, 105, 106, 107, 312, 313, 314, 315, 316, 317, 318, 319, 176, 177, 178, 320, 244, 245, 246, 247, 248, 249, 250, 321, 322, 323, 324, 325, 326, 327, 328, 329, 330, 331, 332, 181, 333, 334, 335, 336, 337, 338, 339, 340, 341, 342, 343, 344, 345, 346, 347, 348, 349, 350, 351, 352, 353, 354, 355, 356, 357, 358, 359, 360, 361, 362, 363, 364, 365, 366, 367, 368, 369, 370, 371, 372, 373, 374, 375, 376, 377, 378, 93, 379, 380, 256, 257, 258, 381, 382, 383, 384, 385, 386, 387, 388, 389, 390, 391, 392, 393, 394, 395, 396, 397, 398, 399, 400, 401, 402, 403, 404, 405, 406, 407, 408, 409, 410, 411, 412, 576, 798, 799, 800, 801, 802, 803, 804, 823, 824, 825, 826, 827, 828, 829, 861, 862, 863, 864, 865, 866, 867, 868, 869, 870, 842, 843, 844, 845, 846, 847, 848, 849, 850, 851, 852, 853, 854, 855, 856, 857, 858, 859, 860] (by decide +kernel) (by decide +kernel)
set_option maxRecDepth 20000 in
theorem gL_law_X9_ifHeard : GoodIn wsL_law (wsV RL 56 RX9 yX9_ifHeard wsX9_ifHeard) := goodIn_app (goodIn_of _ (by decide +kernel)) ggL_law_X9_ifHeard
set_option maxRecDepth 20000 in
theorem ggL_law_X10_ifHeard : GoodIn wsL_law wsX10_ifHeard := goodIn_r _ [580, 144, 217, 218, 5, 219, 581, 582, 583, 584, 148, 422, 423, 424, 425, 426, 427, 428, 429, 430, 431, 432, 433, 434, 435, 436, 437, 438, 439, 440, 441, 442, 443, 444, 445, 446, 447, 448, 449, 585, 586, 587, 588, 805, 806, 807, 808, 809, 810, 811, 812, 813, 814, 815, 816, 817, 818, 819, 820, 821, 822] (by decide +kernel) (by decide +kernel)
set_option maxRecDepth 20000 in
theorem gL_law_X10_ifHeard : GoodIn wsL_law (wsV RL 59 RX10 yX10_ifHeard wsX10_ifHeard) := goodIn_app (goodIn_of _ (by decide +kernel)) ggL_law_X10_ifHeard
set_option maxRecDepth 20000 in
theorem ggL_law_X9_endWith : GoodIn wsL_law wsX9_endWith := goodIn_r _ [592, 17, 236, 16, 301, 593, 538, 537, 541, 594, 166, 167, 2, 168, 595, 188, 189, 41, 190, 66, 191, 60, 61, 62, 67, 192, 596, 597, 598, 599, 161, 600, 472, 89, 90, 15, 91, 92, 50, 93, 58, 54, 94, 95, 96, 57, 97, 98, 99, 100, 101, 102, 103, 104, 105, 106, 107, 108, 109, 110, 111, 38, 112, 113, 114, 53, 115, 116, 117, 118, 119, 120, 121, 122, 239, 240, 241, 242, 243, 244, 245, 246, 247, 248, 249, 250, 312, 313, 314, 315, 316, 42, 317, 318, 319, 176, 177, 178, 320, 321, 322, 323, 324, 325, 326, 327, 328, 329, 330, 331, 332, 181, 333, 334, 335, 336, 337, 338, 339, 340, 341, 342, 343, 344, 345, 346, 347, 348, 349, 350, 351, 352, 353, 354, 355, 356, 357, 358, 359, 360, 49, 361, 203, 78, 79, 80, 81, 362, 363, 364, 365, 366, 367, 368, 369, 370, 371, 372, 373, 374, 375, 376, 377, 378, 379, 46, 380, 256, 257, 258, 381, 382, 383, 45, 384, 71, 72, 73, 74, 385, 386, 387, 388, 389, 390, 391, 392, 393, 394, 395, 396, 397, 398, 399, 400, 401, 402, 403, 404, 405, 406, 407, 408, 409, 410, 411, 412, 798, 799, 800, 801, 802, 803, 804, 823, 824, 825, 826, 827, 828, 829, 861, 862, 863, 864, 865, 866, 867, 868, 869, 870, 842, 843, 844, 849, 850, 851, 852, 853, 854, 855, 856, 857, 858, 859, 860, 845, 846, 847, 848] (by decide +kernel) (by decide +kernel)
set_option maxRecDepth 20000 in
theorem gL_law_X9_endWith : GoodIn wsL_law (wsV RL 60 RX9 yX9_endWith wsX9_endWith) := goodIn_app (goodIn_of _ (by decide +kernel)) ggL_law_X9_endWith
set_option maxRecDepth 20000 in
theorem ggL_law_X10_endWith : GoodIn wsL_law wsX10_endWith := goodIn_r _ [604, 217, 218, 5, 219, 581, 582, 583, 584, 148, 144, 605, 606, 607, 608, 149, 477, 478, 479, 480, 293, 294, 295, 296, 289, 290, 291, 292, 277, 278, 279, 280, 422, 423, 424, 425, 426, 427, 428, 429, 430, 431, 432, 433, 434, 435, 436, 437, 438, 439, 440, 441, 442, 443, 444, 445, 446, 447, 448, 449, 450, 451, 452, 453, 454, 455, 456, 457, 458, 459, 460, 461, 462, 463, 464, 465, 466, 467, 609, 610, 611, 612, 585, 586, 587, 588, 805, 806, 807, 808, 809, 810, 811, 812, 813, 814, 815, 816, 817, 818, 819, 820, 821, 822] (by decide +kernel) (by decide +kernel)
set_option maxRecDepth 20000 in
theorem gL_law_X10_endWith : GoodIn wsL_law (wsV RL 64 RX10 yX10_endWith wsX10_endWith) := goodIn_app (goodIn_of _ (by decide +kernel)) ggL_law_X10_endWith
set_option maxRecDepth 20000 in
theorem ggL_law_X9_bestNudge : GoodIn wsL_law wsX9_bestNudge := goodIn_r _ [616, 16, 236, 238, 17, 617, 161, 301, 541, 593, 595, 188, 189, 41, 190, 66, 191, 60, 61, 62, 67, 192, 596, 597, 598, 2, 599, 600, 472, 89, 90, 15, 91, 92, 50, 93, 58, 54, 94, 95, 96, 57, 97, 98, 99, 100, 101, 102, 103, 104, 105, 106, 107, 108, 109, 110, 111, 38, 112, 113, 114, 53, 115, 116, 117, 118, 119, 120, 121, 122, 239, 240, 241, 242, 243, 244, 245, 246, 247, 248, 249, 250, 312, 313, 314, 315, 316, 42, 317, 318, 319, 176, 177, 178, 320, 321, 322, 323, 324, 325, 326, 327, 328, 329, 330, 331, 332, 181, 333, 334, 335, 336, 337, 338, 339, 340, 341, 342, 343, 344, 345, 346, 347, 348, 349, 350, 351, 352, 353, 354, 355, 356, 357, 358, 359, 360, 49, 361, 203, 78, 79, 80, 81, 362, 363, 364, 365, 366, 367, 368, 369, 370, 371, 372, 373, 374, 375, 376, 377, 378, 379, 46, 380, 256, 257, 258, 381, 382, 383, 45, 384, 71, 72, 73, 74, 385, 386, 387, 388, 389, 390, 391, 392, 393, 394, 395, 396, 397, 398, 399, 400, 401, 402, 403, 404, 405, 406, 407, 408, 409, 410, 411, 412, 798, 799, 800, 801, 802, 803, 804, 823, 824, 825, 826, 827, 828, 829, 842, 843, 844, 861, 862, 863, 864, 865, 866, 867, 868, 869, 870, 849, 850, 851, 852, 853, 854, 855, 856, 857, 858, 859, 860, 845, 846, 847, 848] (by decide +kernel) (by decide +kernel)
set_option maxRecDepth 20000 in
theorem gL_law_X9_bestNudge : GoodIn wsL_law (wsV RL 65 RX9 yX9_bestNudge wsX9_bestNudge) := goodIn_app (goodIn_of _ (by decide +kernel)) ggL_law_X9_bestNudge
set_option maxRecDepth 20000 in
theorem ggL_law_X10_bestNudge : GoodIn wsL_law wsX10_bestNudge := goodIn_r _ [621, 144, 217, 218, 5, 219, 581, 582, 583, 584, 148, 605, 606, 607, 608, 149, 477, 478, 479, 480, 293, 294, 295, 296, 289, 290, 291, 292, 277, 278, 279, 280, 422, 423, 424, 425, 426, 427, 428, 429, 430, 431, 432, 433, 434, 435, 436, 437, 438, 439, 440, 441, 442, 443, 444, 445, 446, 447, 448, 449, 450, 451, 452, 453, 454, 455, 456, 457, 458, 459, 460, 461, 462, 463, 464, 465, 466, 467, 585, 586, 587, 588, 805, 806, 807, 808, 809, 810, 811, 812, 813, 814, 815, 816, 817, 818, 819, 820, 821, 822] (by decide +kernel) (by decide +kernel)
set_option maxRecDepth 20000 in
theorem gL_law_X10_bestNudge : GoodIn wsL_law (wsV RL 68 RX10 yX10_bestNudge wsX10_bestNudge) := goodIn_app (goodIn_of _ (by decide +kernel)) ggL_law_X10_bestNudge
set_option maxRecDepth 20000 in
theorem ggL_law_X9_worstBeat : GoodIn wsL_law wsX9_worstBeat := goodIn_r _ [625, 16, 236, 238, 617, 17, 161, 301, 541, 166, 167, 2, 168, 626, 627, 628, 41, 629, 192, 243, 244, 245, 246, 66, 247, 248, 249, 250, 255, 256, 257, 258, 67, 630, 265, 266, 267, 596, 597, 598, 599, 600, 60, 61, 62, 472, 89, 90, 15, 91, 92, 50, 93, 58, 54, 94, 95, 96, 57, 97, 98, 99, 100, 101, 102, 103, 104, 105, 106, 107, 108, 109, 110, 111, 38, 112, 113, 114, 53, 115, 116, 117, 118, 119, 120, 121, 122, 239, 240, 241, 242, 312, 313, 314, 315, 316, 42, 317, 318, 319, 176, 177, 178, 320, 321, 322, 323, 324, 325, 326, 327, 328, 329, 330, 331, 332, 181, 333, 334, 335, 336, 337, 338, 339, 340, 341, 342, 343, 344, 345, 346, 347, 348, 349, 350, 351, 352, 353, 354, 355, 356, 357, 358, 359, 360, 49, 361, 203, 78, 79, 80, 81, 362, 363, 364, 365, 366, 367, 368, 369, 370, 371, 372, 373, 374, 375, 376, 377, 378, 379, 46, 380, 381, 382, 383, 45, 384, 71, 72, 73, 74, 385, 386, 387, 388, 389, 390, 391, 392, 393, 394, 395, 396, 397, 398, 399, 400, 401, 402, 403, 404, 405, 406, 407, 408, 409, 410, 411, 412, 798, 799, 800, 801, 802, 803, 804, 823, 824, 825, 826, 827, 828, 829, 842, 843, 844, 861, 862, 863, 864, 865, 866, 867, 868, 869, 870, 849, 850, 851, 852, 853, 854, 855, 856, 857, 858, 859, 860, 845, 846, 847, 848] (by decide +kernel) (by decide +kernel)
set_option maxRecDepth 20000 in
theorem gL_law_X9_worstBeat : GoodIn wsL_law (wsV RL 69 RX9 yX9_worstBeat wsX9_worstBeat) := goodIn_app (goodIn_of _ (by decide +kernel)) ggL_law_X9_worstBeat
set_option maxRecDepth 20000 in
theorem ggL_law_X10_worstBeat : GoodIn wsL_law wsX10_worstBeat := goodIn_r _ [634, 144, 149, 217, 218, 5, 219, 581, 582, 583, 584, 148, 605, 606, 607, 608, 477, 478, 479, 480, 293, 294, 295, 296, 289, 290, 291, 292, 277, 278, 279, 280, 422, 423, 424, 425, 426, 427, 428, 429, 430, 431, 432, 433, 434, 435, 436, 437, 438, 439, 440, 441, 442, 443, 444, 445, 446, 447, 448, 449, 450, 451, 452, 453, 454, 455, 456, 457, 458, 459, 460, 461, 462, 463, 464, 465, 466, 467, 585, 586, 587, 588, 805, 806, 807, 808, 809, 810, 811, 812, 813, 814, 815, 816, 817, 818, 819, 820, 821, 822] (by decide +kernel) (by decide +kernel)
set_option maxRecDepth 20000 in
theorem gL_law_X10_worstBeat : GoodIn wsL_law (wsV RL 72 RX10 yX10_worstBeat wsX10_worstBeat) := goodIn_app (goodIn_of _ (by decide +kernel)) ggL_law_X10_worstBeat
set_option maxRecDepth 20000 in
theorem ggL_law_X9_put : GoodIn wsL_law wsX9_put := goodIn_r _ [638, 28, 546, 639, 640, 641, 2, 642, 166, 167, 168, 643, 644, 645, 27, 646, 647, 134, 798, 799, 800, 801, 802, 803, 804, 833, 834] (by decide +kernel) (by decide +kernel)
set_option maxRecDepth 20000 in
theorem gL_law_X9_put : GoodIn wsL_law (wsV RL 75 RX9 yX9_put wsX9_put) := goodIn_app (goodIn_of _ (by decide +kernel)) ggL_law_X9_put
set_option maxRecDepth 20000 in
theorem ggL_law_X10_put : GoodIn wsL_law wsX10_put := goodIn_r _ [651, 652, 552, 150, 217, 218, 5, 219, 805, 806, 807, 808, 809, 810, 811, 812, 813, 814, 815, 816, 817, 818, 819, 820, 821, 822] (by decide +kernel) (by decide +kernel)
set_option maxRecDepth 20000 in
theorem gL_law_X10_put : GoodIn wsL_law (wsV RL 79 RX10 yX10_put wsX10_put) := goodIn_app (goodIn_of _ (by decide +kernel)) ggL_law_X10_put
set_option maxRecDepth 20000 in
theorem ggL_law_X9_wipe : GoodIn wsL_law wsX9_wipe := goodIn_r _ [656, 28, 546, 798, 799, 800, 801, 802, 803, 804, 833, 834] (by decide +kernel) (by decide +kernel)
set_option maxRecDepth 20000 in
theorem gL_law_X9_wipe : GoodIn wsL_law (wsV RL 80 RX9 yX9_wipe wsX9_wipe) := goodIn_app (goodIn_of _ (by decide +kernel)) ggL_law_X9_wipe
set_option maxRecDepth 20000 in
theorem ggL_law_X10_wipe : GoodIn wsL_law wsX10_wipe := goodIn_r _ [660, 552, 805, 806, 807, 808, 809, 810, 811, 812, 813, 814, 815, 816, 817, 818, 819, 820, 821, 822] (by decide +kernel) (by decide +kernel)
set_option maxRecDepth 20000 in
theorem gL_law_X10_wipe : GoodIn wsL_law (wsV RL 83 RX10 yX10_wipe wsX10_wipe) := goodIn_app (goodIn_of _ (by decide +kernel)) ggL_law_X10_wipe
set_option maxRecDepth 20000 in
theorem ggL_law_X9_fault : GoodIn wsL_law wsX9_fault := goodIn_r _ [664, 32, 28, 665, 666, 667, 668, 31, 669, 670, 671, 672, 673, 674, 675, 676, 677, 678, 679, 680, 681, 682, 27, 683, 647, 134, 684, 685, 686, 687, 688, 689, 690, 691, 692, 693, 694, 695, 696, 697, 698, 699, 700, 138, 139, 701, 702, 703, 704, 705, 706, 707, 708, 798, 799, 800, 801, 802, 803, 804, 835, 836, 837, 838, 839, 840, 841, 833, 834] (by decide +kernel) (by decide +kernel)
set_option maxRecDepth 20000 in
theorem gL_law_X9_fault : GoodIn wsL_law (wsV RL 84 RX9 yX9_fault wsX9_fault) := goodIn_app (goodIn_of _ (by decide +kernel)) ggL_law_X9_fault
set_option maxRecDepth 20000 in
theorem ggL_law_X10_fault : GoodIn wsL_law wsX10_fault := goodIn_r _ [712, 713, 714, 715, 716, 717, 552, 718, 719, 720, 5, 721, 722, 723, 724, 725, 726, 150, 727, 728, 729, 730, 731, 732, 733, 734, 217, 218, 219, 735, 736, 737, 738, 151, 152, 739, 740, 741, 742, 743, 744, 745, 746, 805, 806, 807, 808, 809, 810, 811, 812, 813, 814, 815, 816, 817, 818, 819, 820, 821, 822] (by decide +kernel) (by decide +kernel)
set_option maxRecDepth 20000 in
theorem gL_law_X10_fault : GoodIn wsL_law (wsV RL 87 RX10 yX10_fault wsX10_fault) := goodIn_app (goodIn_of _ (by decide +kernel)) ggL_law_X10_fault
set_option maxRecDepth 20000 in
theorem ggL_law_X9_plan : GoodIn wsL_law wsX9_plan := goodIn_r _ [750, 32, 28, 665, 17, 236, 16, 238, 237, 21, 546, 666, 667, 668, 31, 669, 670, 671, 672, 673, 674, 675, 676, 677, 678, 679, 680, 681, 682, 27, 683, 647, 134, 684, 685, 686, 687, 688, 689, 690, 691, 692, 693, 694, 695, 696, 697, 698, 699, 700, 138, 139, 701, 702, 703, 704, 705, 706, 707, 708, 595, 188, 189, 41, 190, 66, 191, 60, 61, 62, 67, 192, 751, 752, 753, 754, 755, 756, 757, 758, 240, 241, 242, 243, 244, 245, 246, 247, 248, 249, 250, 759, 252, 253, 254, 255, 256, 257, 258, 760, 260, 261, 262, 263, 630, 265, 266, 267, 486, 487, 169, 170, 171, 20, 172, 128, 173, 174, 175, 176, 177, 178, 179, 180, 181, 182, 183, 184, 185, 15, 186, 38, 59, 42, 46, 50, 54, 58, 92, 187, 193, 194, 195, 45, 196, 71, 197, 72, 73, 74, 198, 199, 200, 49, 201, 78, 202, 79, 80, 81, 203, 204, 205, 206, 53, 207, 116, 117, 118, 119, 120, 121, 122, 208, 209, 210, 57, 211, 98, 99, 100, 101, 102, 103, 104, 105, 106, 107, 798, 799, 800, 801, 802, 803, 804, 835, 836, 837, 838, 839, 840, 841, 823, 824, 825, 826, 827, 828, 829, 842, 843, 844, 833, 834, 830, 831, 832, 845, 846, 847, 848, 849, 850, 851, 852, 853, 854, 855, 856, 857, 858, 859, 860, 861, 862, 863, 864, 865, 866, 867, 868, 869, 870] (by decide +kernel) (by decide +kernel)
set_option maxRecDepth 20000 in
theorem gL_law_X9_plan : GoodIn wsL_law (wsV RL 88 RX9 yX9_plan wsX9_plan) := goodIn_app (goodIn_of _ (by decide +kernel)) ggL_law_X9_plan
set_option maxRecDepth 20000 in
theorem ggL_law_X10_plan : GoodIn wsL_law wsX10_plan := goodIn_r _ [764, 715, 151, 152, 552, 144, 765, 710, 711, 5, 712, 713, 714, 716, 717, 718, 719, 720, 721, 722, 723, 724, 725, 726, 150, 727, 728, 729, 730, 731, 732, 733, 734, 217, 218, 219, 735, 736, 737, 738, 739, 740, 741, 742, 743, 744, 745, 746, 766, 767, 768, 769, 272, 273, 274, 275, 276, 277, 278, 279, 280, 281, 282, 283, 284, 226, 227, 228, 229, 230, 231, 145, 285, 286, 287, 288, 289, 290, 291, 292, 293, 294, 295, 296, 805, 806, 807, 808, 809, 810, 811, 812, 813, 814, 815, 816, 817, 818, 819, 820, 821, 822] (by decide +kernel) (by decide +kernel)
set_option maxRecDepth 20000 in
theorem gL_law_X10_plan : GoodIn wsL_law (wsV RL 91 RX10 yX10_plan wsX10_plan) := goodIn_app (goodIn_of _ (by decide +kernel)) ggL_law_X10_plan
set_option maxRecDepth 20000 in
theorem ggL_law_X9_undo : GoodIn wsL_law wsX9_undo := goodIn_r _ [773, 21, 547, 16, 774, 775, 776, 20, 777, 173, 174, 128, 179, 180, 181, 182, 183, 184, 185, 15, 186, 38, 59, 60, 61, 62, 42, 46, 50, 54, 58, 92, 187, 188, 189, 41, 190, 66, 191, 67, 192, 193, 194, 195, 45, 196, 71, 197, 72, 73, 74, 198, 199, 200, 49, 201, 78, 202, 79, 80, 81, 203, 204, 205, 206, 53, 207, 116, 117, 118, 119, 120, 121, 122, 208, 209, 210, 57, 211, 98, 99, 100, 101, 102, 103, 104, 105, 106, 107, 798, 799, 800, 801, 802, 803, 804, 830, 831, 832, 823, 824, 825, 826, 827, 828, 829, 842, 843, 844, 845, 846, 847, 848, 849, 850, 851, 852, 853, 854, 855, 856, 857, 858, 859, 860, 861, 862, 863, 864, 865, 866, 867, 868, 869, 870] (by decide +kernel) (by decide +kernel)
set_option maxRecDepth 20000 in
theorem gL_law_X9_undo : GoodIn wsL_law (wsV RL 92 RX9 yX9_undo wsX9_undo) := goodIn_app (goodIn_of _ (by decide +kernel)) ggL_law_X9_undo
set_option maxRecDepth 20000 in
theorem ggL_law_X10_undo : GoodIn wsL_law wsX10_undo := goodIn_r _ [781, 230, 231, 144, 145, 805, 806, 807, 808, 809, 810, 811, 812, 813, 814, 815, 816, 817, 818, 819, 820, 821, 822] (by decide +kernel) (by decide +kernel)
set_option maxRecDepth 20000 in
theorem gL_law_X10_undo : GoodIn wsL_law (wsV RL 95 RX10 yX10_undo wsX10_undo) := goodIn_app (goodIn_of _ (by decide +kernel)) ggL_law_X10_undo
set_option maxRecDepth 20000 in
theorem ggL_law_X9_save : GoodIn wsL_law wsX9_save := goodIn_r _ [785, 22, 16, 24, 237, 166, 167, 2, 168, 575, 184, 185, 15, 186, 38, 59, 60, 61, 62, 42, 46, 50, 54, 58, 92, 187, 188, 189, 41, 190, 66, 191, 67, 192, 193, 194, 195, 45, 196, 71, 197, 72, 73, 74, 198, 199, 200, 49, 201, 78, 202, 79, 80, 81, 203, 204, 205, 206, 53, 207, 116, 117, 118, 119, 120, 121, 122, 208, 209, 210, 57, 211, 98, 99, 100, 101, 102, 103, 104, 105, 106, 107, 798, 799, 800, 801, 802, 803, 804, 823, 824, 825, 826, 827, 828, 829, 842, 843, 844, 845, 846, 847, 848, 849, 850, 851, 852, 853, 854, 855, 856, 857, 858, 859, 860, 861, 862, 863, 864, 865, 866, 867, 868, 869, 870] (by decide +kernel) (by decide +kernel)
set_option maxRecDepth 20000 in
theorem gL_law_X9_save : GoodIn wsL_law (wsV RL 96 RX9 yX9_save wsX9_save) := goodIn_app (goodIn_of _ (by decide +kernel)) ggL_law_X9_save
set_option maxRecDepth 20000 in
theorem ggL_law_X10_save : GoodIn wsL_law wsX10_save := goodIn_r _ [789, 146, 144, 147, 217, 218, 5, 219, 805, 806, 807, 808, 809, 810, 811, 812, 813, 814, 815, 816, 817, 818, 819, 820, 821, 822] (by decide +kernel) (by decide +kernel)
set_option maxRecDepth 20000 in
theorem gL_law_X10_save : GoodIn wsL_law (wsV RL 99 RX10 yX10_save wsX10_save) := goodIn_app (goodIn_of _ (by decide +kernel)) ggL_law_X10_save
set_option maxRecDepth 20000 in
theorem ggL_law_X9_restore : GoodIn wsL_law wsX9_restore := goodIn_r _ [793, 24, 21, 16, 22, 237, 166, 167, 2, 168, 169, 170, 171, 20, 172, 128, 173, 174, 175, 176, 177, 178, 179, 180, 181, 182, 183, 184, 185, 15, 186, 38, 59, 60, 61, 62, 42, 46, 50, 54, 58, 92, 187, 188, 189, 41, 190, 66, 191, 67, 192, 193, 194, 195, 45, 196, 71, 197, 72, 73, 74, 198, 199, 200, 49, 201, 78, 202, 79, 80, 81, 203, 204, 205, 206, 53, 207, 116, 117, 118, 119, 120, 121, 122, 208, 209, 210, 57, 211, 98, 99, 100, 101, 102, 103, 104, 105, 106, 107, 575, 798, 799, 800, 801, 802, 803, 804, 823, 824, 825, 826, 827, 828, 829, 830, 831, 832, 842, 843, 844, 845, 846, 847, 848, 849, 850, 851, 852, 853, 854, 855, 856, 857, 858, 859, 860, 861, 862, 863, 864, 865, 866, 867, 868, 869, 870] (by decide +kernel) (by decide +kernel)
set_option maxRecDepth 20000 in
theorem gL_law_X9_restore : GoodIn wsL_law (wsV RL 100 RX9 yX9_restore wsX9_restore) := goodIn_app (goodIn_of _ (by decide +kernel)) ggL_law_X9_restore
set_option maxRecDepth 20000 in
theorem ggL_law_X10_restore : GoodIn wsL_law wsX10_restore := goodIn_r _ [797, 147, 144, 146, 217, 218, 5, 219, 226, 227, 228, 229, 230, 231, 145, 805, 806, 807, 808, 809, 810, 811, 812, 813, 814, 815, 816, 817, 818, 819, 820, 821, 822] (by decide +kernel) (by decide +kernel)
set_option maxRecDepth 20000 in
theorem gL_law_X10_restore : GoodIn wsL_law (wsV RL 103 RX10 yX10_restore wsX10_restore) := goodIn_app (goodIn_of _ (by decide +kernel)) ggL_law_X10_restore
