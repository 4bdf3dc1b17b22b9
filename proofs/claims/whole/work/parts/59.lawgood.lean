set_option maxRecDepth 20000 in
theorem ggL_law_X6_init : GoodIn wsL_law wsX6_init := goodIn_r _ [8, 9, 10, 11, 12, 13, 14, 15, 16, 17, 18, 19, 20, 21, 22, 23, 24, 25, 26, 27, 28, 29, 30, 31, 32, 33, 34, 35, 36, 37, 38, 39, 40, 41, 42, 43, 44, 45, 46, 47, 48, 49, 50, 51, 52, 53, 54, 55, 56, 57, 58, 59, 60, 61, 62, 63, 64, 65, 66, 67, 68, 69, 70, 71, 72, 73, 74, 75, 76, 77, 720, 721, 722, 723, 724, 725, 726, 727, 728, 729, 730, 731, 732, 733, 699, 700, 701, 702, 703, 704, 705, 706, 707, 708, 734, 735, 736, 737, 738, 739, 740, 741, 742, 743, 744, 745, 746, 747, 748, 749, 750, 751] (by decide +kernel) (by decide +kernel)
set_option maxRecDepth 20000 in
theorem gL_law_X6_init : GoodIn wsL_law (wsX6_init) := ggL_law_X6_init
set_option maxRecDepth 20000 in
theorem ggL_law_X7_init : GoodIn wsL_law wsX7_init := goodIn_r _ [80, 81, 10, 11, 63, 82, 76, 83, 84, 85, 709, 710, 711, 712, 713, 714, 715, 716, 717, 718, 719] (by decide +kernel) (by decide +kernel)
set_option maxRecDepth 20000 in
theorem gL_law_X7_init : GoodIn wsL_law (wsX7_init) := ggL_law_X7_init
set_option maxRecDepth 20000 in
theorem ggL_law_X6_setFire : GoodIn wsL_law wsX6_setFire := goodIn_r _ [89, 16, 15, 90, 91, 92, 14, 93, 38, 42, 46, 94, 95, 96, 97, 47, 48, 98, 99, 100, 101, 102, 103, 104, 105, 37, 106, 107, 53, 108, 109, 110, 111, 112, 113, 41, 114, 58, 115, 116, 117, 118, 119, 45, 120, 121, 64, 122, 123, 124, 125, 126, 127, 128, 129, 130, 131, 132, 2, 133, 134, 135, 136, 137, 23, 138, 139, 140, 22, 141, 142, 70, 143, 144, 145, 146, 147, 699, 700, 701, 702, 703, 704, 705, 706, 707, 708, 720, 721, 722, 723, 724, 725, 726, 727, 728, 729, 730, 731, 732, 733, 742, 743, 744, 745, 746, 747, 748, 749, 750, 751, 734, 735] (by decide +kernel) (by decide +kernel)
set_option maxRecDepth 20000 in
theorem gL_law_X6_setFire : GoodIn wsL_law (wsV RL 13 RX6 yX6_setFire wsX6_setFire) := goodIn_app (goodIn_of _ (by decide +kernel)) ggL_law_X6_setFire
set_option maxRecDepth 20000 in
theorem ggL_law_X7_setFire : GoodIn wsL_law wsX7_setFire := goodIn_r _ [151, 152, 153, 154, 5, 155, 82, 156, 157, 158, 159, 160, 161, 162, 163, 164, 165, 166, 167, 168, 169, 170, 171, 709, 710, 711, 712, 713, 714, 715, 716, 717, 718, 719] (by decide +kernel) (by decide +kernel)
set_option maxRecDepth 20000 in
theorem gL_law_X7_setFire : GoodIn wsL_law (wsV RL 17 RX7 yX7_setFire wsX7_setFire) := goodIn_app (goodIn_of _ (by decide +kernel)) ggL_law_X7_setFire
set_option maxRecDepth 20000 in
theorem ggL_law_X6_fill : GoodIn wsL_law wsX6_fill := goodIn_r _ [175, 16, 15, 90, 91, 92, 14, 93, 38, 42, 46, 94, 95, 96, 97, 47, 48, 98, 99, 100, 101, 102, 103, 104, 105, 37, 106, 107, 53, 108, 109, 110, 111, 112, 113, 41, 114, 58, 115, 116, 117, 118, 119, 45, 120, 121, 64, 176, 177, 178, 179, 180, 128, 129, 130, 131, 132, 2, 133, 134, 135, 136, 137, 23, 138, 139, 140, 22, 141, 142, 70, 143, 144, 145, 146, 147, 699, 700, 701, 702, 703, 704, 705, 706, 707, 708, 720, 721, 722, 723, 724, 725, 726, 727, 728, 729, 730, 731, 732, 733, 742, 743, 744, 745, 746, 747, 748, 749, 750, 751, 734, 735] (by decide +kernel) (by decide +kernel)
set_option maxRecDepth 20000 in
theorem gL_law_X6_fill : GoodIn wsL_law (wsV RL 18 RX6 yX6_fill wsX6_fill) := goodIn_app (goodIn_of _ (by decide +kernel)) ggL_law_X6_fill
set_option maxRecDepth 20000 in
theorem ggL_law_X7_fill : GoodIn wsL_law wsX7_fill := goodIn_r _ [184, 152, 153, 154, 5, 155, 82, 185, 186, 187, 188, 160, 161, 162, 163, 164, 165, 166, 167, 168, 169, 170, 171, 709, 710, 711, 712, 713, 714, 715, 716, 717, 718, 719] (by decide +kernel) (by decide +kernel)
set_option maxRecDepth 20000 in
theorem gL_law_X7_fill : GoodIn wsL_law (wsV RL 21 RX7 yX7_fill wsX7_fill) := goodIn_app (goodIn_of _ (by decide +kernel)) ggL_law_X7_fill
set_option maxRecDepth 20000 in
theorem ggL_law_X6_setRation : GoodIn wsL_law wsX6_setRation := goodIn_r _ [192, 16, 15, 90, 91, 92, 14, 93, 38, 42, 46, 94, 95, 96, 97, 47, 48, 98, 99, 100, 101, 102, 103, 104, 105, 37, 106, 107, 53, 108, 109, 110, 111, 112, 113, 41, 114, 58, 115, 116, 117, 118, 119, 45, 120, 121, 64, 193, 194, 195, 196, 132, 2, 133, 134, 135, 136, 137, 23, 138, 139, 140, 22, 141, 142, 70, 143, 144, 145, 146, 147, 699, 700, 701, 702, 703, 704, 705, 706, 707, 708, 720, 721, 722, 723, 724, 725, 726, 727, 728, 729, 730, 731, 732, 733, 742, 743, 744, 745, 746, 747, 748, 749, 750, 751, 734, 735] (by decide +kernel) (by decide +kernel)
set_option maxRecDepth 20000 in
theorem gL_law_X6_setRation : GoodIn wsL_law (wsV RL 22 RX6 yX6_setRation wsX6_setRation) := goodIn_app (goodIn_of _ (by decide +kernel)) ggL_law_X6_setRation
set_option maxRecDepth 20000 in
theorem ggL_law_X7_setRation : GoodIn wsL_law wsX7_setRation := goodIn_r _ [200, 82, 160, 161, 5, 162, 167, 168, 169, 170, 171, 152, 153, 154, 155, 709, 710, 711, 712, 713, 714, 715, 716, 717, 718, 719] (by decide +kernel) (by decide +kernel)
set_option maxRecDepth 20000 in
theorem gL_law_X7_setRation : GoodIn wsL_law (wsV RL 26 RX7 yX7_setRation wsX7_setRation) := goodIn_app (goodIn_of _ (by decide +kernel)) ggL_law_X7_setRation
set_option maxRecDepth 20000 in
theorem ggL_law_X6_start : GoodIn wsL_law wsX6_start := goodIn_r _ [204, 16, 15, 18, 90, 91, 92, 14, 93, 38, 42, 46, 94, 95, 96, 97, 47, 48, 98, 99, 100, 101, 102, 103, 104, 105, 37, 106, 107, 53, 108, 109, 110, 111, 112, 113, 41, 114, 58, 115, 116, 117, 118, 119, 45, 120, 121, 64, 205, 206, 207, 208, 209, 210, 211, 212, 213, 132, 2, 133, 214, 215, 216, 217, 218, 219, 220, 221, 222, 223, 224, 225, 226, 227, 228, 229, 230, 231, 232, 233, 234, 235, 236, 237, 238, 239, 240, 241, 242, 243, 244, 245, 246, 247, 248, 249, 250, 251, 252, 253, 254, 255, 256, 257, 258, 259, 260, 261, 262, 263, 264, 265, 266, 267, 268, 269, 270, 271, 272, 273, 274, 275, 276, 277, 278, 279, 280, 281, 282, 283, 134, 135, 136, 137, 23, 138, 139, 140, 22, 141, 142, 70, 143, 144, 145, 146, 147, 699, 700, 701, 702, 703, 704, 705, 706, 707, 708, 720, 721, 722, 723, 724, 725, 726, 727, 728, 729, 730, 731, 732, 733, 742, 743, 744, 745, 746, 747, 748, 749, 750, 751, 734, 735] (by decide +kernel) (by decide +kernel)
set_option maxRecDepth 20000 in
theorem gL_law_X6_start : GoodIn wsL_law (wsV RL 27 RX6 yX6_start wsX6_start) := goodIn_app (goodIn_of _ (by decide +kernel)) ggL_law_X6_start
set_option maxRecDepth 20000 in
theorem ggL_law_X7_start : GoodIn wsL_law wsX7_start := goodIn_r _ [287, 152, 153, 154, 5, 155, 82, 288, 289, 290, 291, 160, 161, 162, 292, 293, 294, 295, 296, 297, 298, 299, 300, 301, 302, 303, 304, 305, 306, 307, 308, 309, 310, 311, 312, 313, 314, 315, 316, 317, 318, 319, 320, 321, 322, 323, 324, 325, 326, 327, 328, 329, 330, 331, 332, 333, 334, 335, 336, 337, 163, 164, 165, 166, 167, 168, 169, 170, 171, 709, 710, 711, 712, 713, 714, 715, 716, 717, 718, 719] (by decide +kernel) (by decide +kernel)
set_option maxRecDepth 20000 in
theorem gL_law_X7_start : GoodIn wsL_law (wsV RL 30 RX7 yX7_start wsX7_start) := goodIn_app (goodIn_of _ (by decide +kernel)) ggL_law_X7_start
set_option maxRecDepth 20000 in
theorem ggL_law_X6_queue : GoodIn wsL_law wsX6_queue := goodIn_r _ [341, 16, 15, 90, 91, 92, 14, 93, 38, 42, 46, 94, 95, 96, 97, 47, 48, 98, 99, 100, 101, 102, 103, 104, 105, 37, 106, 107, 53, 108, 109, 110, 111, 112, 113, 41, 114, 58, 115, 116, 117, 118, 119, 45, 120, 121, 64, 342, 343, 344, 345, 132, 2, 133, 346, 347, 348, 349, 134, 135, 136, 137, 23, 138, 139, 140, 22, 141, 142, 70, 143, 144, 145, 146, 147, 699, 700, 701, 702, 703, 704, 705, 706, 707, 708, 720, 721, 722, 723, 724, 725, 726, 727, 728, 729, 730, 731, 732, 733, 742, 743, 744, 745, 746, 747, 748, 749, 750, 751, 734, 735] (by decide +kernel) (by decide +kernel)
set_option maxRecDepth 20000 in
theorem gL_law_X6_queue : GoodIn wsL_law (wsV RL 31 RX6 yX6_queue wsX6_queue) := goodIn_app (goodIn_of _ (by decide +kernel)) ggL_law_X6_queue
set_option maxRecDepth 20000 in
theorem ggL_law_X7_queue : GoodIn wsL_law wsX7_queue := goodIn_r _ [353, 152, 153, 154, 5, 155, 82, 354, 355, 356, 357, 160, 161, 162, 163, 164, 165, 166, 167, 168, 169, 170, 171, 709, 710, 711, 712, 713, 714, 715, 716, 717, 718, 719] (by decide +kernel) (by decide +kernel)
set_option maxRecDepth 20000 in
theorem gL_law_X7_queue : GoodIn wsL_law (wsV RL 34 RX7 yX7_queue wsX7_queue) := goodIn_app (goodIn_of _ (by decide +kernel)) ggL_law_X7_queue
set_option maxRecDepth 20000 in
theorem ggL_law_X6_unqueue : GoodIn wsL_law wsX6_unqueue := goodIn_r _ [361, 16, 15, 90, 91, 92, 14, 93, 38, 42, 46, 94, 95, 96, 97, 47, 48, 98, 99, 100, 101, 102, 103, 104, 105, 37, 106, 107, 53, 108, 109, 110, 111, 112, 113, 41, 114, 58, 115, 116, 117, 118, 119, 45, 120, 121, 64, 362, 363, 364, 365, 366, 367, 368, 369, 370, 371, 372, 373, 134, 135, 136, 2, 137, 23, 138, 139, 140, 22, 141, 142, 70, 143, 144, 145, 146, 147, 699, 700, 701, 702, 703, 704, 705, 706, 707, 708, 720, 721, 722, 723, 724, 725, 726, 727, 728, 729, 730, 731, 732, 733, 742, 743, 744, 745, 746, 747, 748, 749, 750, 751, 734, 735] (by decide +kernel) (by decide +kernel)
set_option maxRecDepth 20000 in
theorem gL_law_X6_unqueue : GoodIn wsL_law (wsV RL 35 RX6 yX6_unqueue wsX6_unqueue) := goodIn_app (goodIn_of _ (by decide +kernel)) ggL_law_X6_unqueue
set_option maxRecDepth 20000 in
theorem ggL_law_X7_unqueue : GoodIn wsL_law wsX7_unqueue := goodIn_r _ [377, 82, 160, 161, 5, 162, 167, 168, 169, 170, 171, 152, 153, 154, 155, 378, 379, 380, 381, 709, 710, 711, 712, 713, 714, 715, 716, 717, 718, 719] (by decide +kernel) (by decide +kernel)
set_option maxRecDepth 20000 in
theorem gL_law_X7_unqueue : GoodIn wsL_law (wsV RL 38 RX7 yX7_unqueue wsX7_unqueue) := goodIn_app (goodIn_of _ (by decide +kernel)) ggL_law_X7_unqueue
set_option maxRecDepth 20000 in
theorem ggL_law_X6_takeOut : GoodIn wsL_law wsX6_takeOut := goodIn_r _ [385, 16, 15, 90, 91, 92, 14, 93, 38, 42, 46, 94, 95, 96, 97, 47, 48, 98, 99, 100, 101, 102, 103, 104, 105, 37, 106, 107, 53, 108, 109, 110, 111, 112, 113, 41, 114, 58, 115, 116, 117, 118, 119, 45, 120, 121, 64, 386, 387, 388, 389, 209, 210, 211, 212, 213, 214, 215, 216, 217, 266, 267, 268, 269, 134, 135, 136, 2, 137, 23, 138, 139, 140, 22, 141, 142, 70, 143, 144, 145, 146, 147, 699, 700, 701, 702, 703, 704, 705, 706, 707, 708, 720, 721, 722, 723, 724, 725, 726, 727, 728, 729, 730, 731, 732, 733, 742, 743, 744, 745, 746, 747, 748, 749, 750, 751, 734, 735] (by decide +kernel) (by decide +kernel)
set_option maxRecDepth 20000 in
theorem gL_law_X6_takeOut : GoodIn wsL_law (wsV RL 39 RX6 yX6_takeOut wsX6_takeOut) := goodIn_app (goodIn_of _ (by decide +kernel)) ggL_law_X6_takeOut
set_option maxRecDepth 20000 in
theorem ggL_law_X7_takeOut : GoodIn wsL_law wsX7_takeOut := goodIn_r _ [393, 82, 160, 161, 5, 162, 167, 168, 169, 170, 171, 152, 153, 154, 155, 327, 328, 329, 330, 709, 710, 711, 712, 713, 714, 715, 716, 717, 718, 719] (by decide +kernel) (by decide +kernel)
set_option maxRecDepth 20000 in
theorem gL_law_X7_takeOut : GoodIn wsL_law (wsV RL 42 RX7 yX7_takeOut wsX7_takeOut) := goodIn_app (goodIn_of _ (by decide +kernel)) ggL_law_X7_takeOut
set_option maxRecDepth 20000 in
theorem ggL_law_X6_run : GoodIn wsL_law wsX6_run := goodIn_r _ [397, 16, 15, 18, 90, 91, 92, 14, 93, 38, 42, 46, 94, 95, 96, 97, 47, 48, 98, 99, 100, 101, 102, 103, 104, 105, 37, 106, 107, 53, 108, 109, 110, 111, 112, 113, 41, 114, 58, 115, 116, 117, 118, 119, 45, 120, 121, 64, 398, 399, 400, 401, 402, 132, 2, 133, 403, 404, 405, 406, 238, 239, 240, 241, 242, 243, 244, 245, 246, 247, 248, 249, 250, 251, 252, 253, 254, 255, 256, 257, 258, 259, 260, 226, 227, 228, 229, 230, 261, 262, 263, 264, 265, 214, 215, 216, 217, 266, 267, 268, 269, 270, 271, 272, 273, 274, 275, 276, 277, 209, 278, 279, 280, 281, 282, 283, 407, 371, 372, 373, 218, 219, 220, 221, 222, 223, 224, 225, 231, 232, 233, 234, 235, 236, 237, 366, 367, 368, 369, 370, 134, 135, 136, 137, 23, 138, 139, 140, 22, 141, 142, 70, 143, 144, 145, 146, 147, 699, 700, 701, 702, 703, 704, 705, 706, 707, 708, 720, 721, 722, 723, 724, 725, 726, 727, 728, 729, 730, 731, 732, 733, 742, 743, 744, 745, 746, 747, 748, 749, 750, 751, 734, 735] (by decide +kernel) (by decide +kernel)
set_option maxRecDepth 20000 in
theorem gL_law_X6_run : GoodIn wsL_law (wsV RL 43 RX6 yX6_run wsX6_run) := goodIn_app (goodIn_of _ (by decide +kernel)) ggL_law_X6_run
set_option maxRecDepth 20000 in
theorem ggL_law_X7_run : GoodIn wsL_law wsX7_run := goodIn_r _ [411, 152, 153, 154, 5, 155, 82, 412, 413, 414, 415, 416, 160, 161, 162, 417, 418, 419, 420, 307, 308, 309, 310, 311, 312, 313, 314, 315, 316, 317, 318, 319, 320, 321, 322, 296, 297, 298, 299, 323, 324, 325, 326, 327, 328, 329, 330, 331, 332, 333, 334, 335, 336, 337, 421, 422, 423, 424, 292, 293, 294, 295, 300, 301, 302, 303, 304, 305, 306, 378, 379, 380, 381, 163, 164, 165, 166, 167, 168, 169, 170, 171, 709, 710, 711, 712, 713, 714, 715, 716, 717, 718, 719] (by decide +kernel) (by decide +kernel)
set_option maxRecDepth 20000 in
theorem gL_law_X7_run : GoodIn wsL_law (wsV RL 46 RX7 yX7_run wsX7_run) := goodIn_app (goodIn_of _ (by decide +kernel)) ggL_law_X7_run
set_option maxRecDepth 20000 in
theorem ggL_law_X6_type : GoodIn wsL_law wsX6_type := goodIn_r _ [428, 27, 429, 430, 431, 26, 432, 433, 77, 699, 700, 701, 702, 703, 704, 705, 706, 707, 708, 736, 737, 738, 739, 740, 741] (by decide +kernel) (by decide +kernel)
set_option maxRecDepth 20000 in
theorem gL_law_X6_type : GoodIn wsL_law (wsV RL 47 RX6 yX6_type wsX6_type) := goodIn_app (goodIn_of _ (by decide +kernel)) ggL_law_X6_type
set_option maxRecDepth 20000 in
theorem ggL_law_X7_type : GoodIn wsL_law wsX7_type := goodIn_r _ [437, 438, 83, 709, 710, 711, 712, 713, 714, 715, 716, 717, 718, 719] (by decide +kernel) (by decide +kernel)
set_option maxRecDepth 20000 in
theorem gL_law_X7_type : GoodIn wsL_law (wsV RL 51 RX7 yX7_type wsX7_type) := goodIn_app (goodIn_of _ (by decide +kernel)) ggL_law_X7_type
set_option maxRecDepth 20000 in
theorem ggL_law_X6_clearText : GoodIn wsL_law wsX6_clearText := goodIn_r _ [442, 27, 443, 444, 445, 26, 446, 433, 699, 700, 701, 702, 703, 704, 705, 706, 707, 708, 736, 737, 738, 739, 740, 741] (by decide +kernel) (by decide +kernel)
set_option maxRecDepth 20000 in
theorem gL_law_X6_clearText : GoodIn wsL_law (wsV RL 52 RX6 yX6_clearText wsX6_clearText) := goodIn_app (goodIn_of _ (by decide +kernel)) ggL_law_X6_clearText
set_option maxRecDepth 20000 in
theorem ggL_law_X7_clearText : GoodIn wsL_law wsX7_clearText := goodIn_r _ [450, 438, 709, 710, 711, 712, 713, 714, 715, 716, 717, 718, 719] (by decide +kernel) (by decide +kernel)
set_option maxRecDepth 20000 in
theorem gL_law_X7_clearText : GoodIn wsL_law (wsV RL 56 RX7 yX7_clearText wsX7_clearText) := goodIn_app (goodIn_of _ (by decide +kernel)) ggL_law_X7_clearText
set_option maxRecDepth 20000 in
theorem ggL_law_X6_perform : GoodIn wsL_law wsX6_perform := goodIn_r _ [454, 27, 16, 15, 29, 30, 455, 456, 457, 26, 458, 459, 433, 460, 461, 462, 463, 464, 465, 466, 467, 468, 469, 470, 471, 472, 77, 473, 474, 475, 476, 477, 478, 479, 480, 481, 482, 483, 484, 485, 486, 487, 488, 489, 490, 132, 2, 133, 90, 91, 92, 14, 93, 38, 42, 46, 94, 95, 96, 97, 47, 48, 98, 99, 100, 101, 102, 103, 104, 105, 37, 106, 107, 53, 108, 109, 110, 111, 112, 113, 41, 114, 58, 115, 116, 117, 118, 119, 45, 120, 121, 64, 491, 492, 493, 494, 495, 496, 497, 498, 18, 499, 500, 501, 502, 122, 123, 124, 125, 126, 127, 128, 129, 130, 131, 176, 177, 178, 179, 180, 205, 206, 207, 208, 209, 210, 211, 212, 213, 214, 215, 216, 217, 218, 219, 220, 221, 222, 223, 224, 225, 226, 227, 228, 229, 230, 231, 232, 233, 234, 235, 236, 237, 238, 239, 240, 241, 242, 243, 244, 245, 246, 247, 248, 249, 250, 251, 252, 253, 254, 255, 256, 257, 258, 259, 260, 261, 262, 263, 264, 265, 266, 267, 268, 269, 270, 271, 272, 273, 274, 275, 276, 277, 278, 279, 280, 281, 282, 283, 342, 343, 344, 345, 346, 347, 348, 349, 398, 399, 400, 401, 402, 403, 404, 405, 406, 407, 371, 372, 373, 366, 367, 368, 369, 370, 134, 135, 136, 137, 23, 138, 139, 140, 22, 141, 142, 70, 143, 144, 145, 146, 147, 699, 700, 701, 702, 703, 704, 705, 706, 707, 708, 736, 737, 738, 739, 740, 741, 720, 721, 722, 723, 724, 725, 726, 727, 728, 729, 730, 731, 732, 733, 742, 743, 744, 745, 746, 747, 748, 749, 750, 751, 734, 735] (by decide +kernel) (by decide +kernel)
set_option maxRecDepth 20000 in
theorem gL_law_X6_perform : GoodIn wsL_law (wsV RL 57 RX6 yX6_perform wsX6_perform) := goodIn_app (goodIn_of _ (by decide +kernel)) ggL_law_X6_perform
set_option maxRecDepth 20000 in
theorem ggL_law_X7_perform : GoodIn wsL_law wsX7_perform := goodIn_r _ [506, 507, 85, 508, 509, 510, 511, 5, 512, 513, 514, 438, 83, 515, 516, 517, 518, 84, 519, 520, 521, 522, 523, 524, 525, 526, 160, 161, 162, 527, 528, 529, 530, 152, 153, 154, 155, 82, 531, 532, 533, 534, 156, 157, 158, 159, 185, 186, 187, 188, 288, 289, 290, 291, 292, 293, 294, 295, 296, 297, 298, 299, 300, 301, 302, 303, 304, 305, 306, 307, 308, 309, 310, 311, 312, 313, 314, 315, 316, 317, 318, 319, 320, 321, 322, 323, 324, 325, 326, 327, 328, 329, 330, 331, 332, 333, 334, 335, 336, 337, 354, 355, 356, 357, 412, 413, 414, 415, 416, 417, 418, 419, 420, 421, 422, 423, 424, 378, 379, 380, 381, 163, 164, 165, 166, 167, 168, 169, 170, 171, 709, 710, 711, 712, 713, 714, 715, 716, 717, 718, 719] (by decide +kernel) (by decide +kernel)
set_option maxRecDepth 20000 in
theorem gL_law_X7_perform : GoodIn wsL_law (wsV RL 60 RX7 yX7_perform wsX7_perform) := goodIn_app (goodIn_of _ (by decide +kernel)) ggL_law_X7_perform
set_option maxRecDepth 20000 in
theorem ggL_law_X6_stopped : GoodIn wsL_law wsX6_stopped := goodIn_r _ [538, 29, 30, 699, 700, 701, 702, 703, 704, 705, 706, 707, 708] (by decide +kernel) (by decide +kernel)
set_option maxRecDepth 20000 in
theorem gL_law_X6_stopped : GoodIn wsL_law (wsV RL 61 RX6 yX6_stopped wsX6_stopped) := goodIn_app (goodIn_of _ (by decide +kernel)) ggL_law_X6_stopped
set_option maxRecDepth 20000 in
theorem ggL_law_X7_stopped : GoodIn wsL_law wsX7_stopped := goodIn_r _ [542, 85, 508, 160, 161, 5, 162, 709, 710, 711, 712, 713, 714, 715, 716, 717, 718, 719] (by decide +kernel) (by decide +kernel)
set_option maxRecDepth 20000 in
theorem gL_law_X7_stopped : GoodIn wsL_law (wsV RL 64 RX7 yX7_stopped wsX7_stopped) := goodIn_app (goodIn_of _ (by decide +kernel)) ggL_law_X7_stopped
set_option maxRecDepth 20000 in
theorem ggL_law_X6_undo : GoodIn wsL_law wsX6_undo := goodIn_r _ [546, 23, 15, 547, 548, 549, 22, 550, 142, 70, 147, 91, 92, 14, 93, 38, 42, 46, 94, 95, 96, 97, 47, 48, 98, 99, 100, 101, 102, 103, 104, 105, 37, 106, 107, 53, 108, 109, 110, 111, 112, 113, 41, 114, 58, 115, 116, 117, 118, 119, 45, 120, 121, 64, 699, 700, 701, 702, 703, 704, 705, 706, 707, 708, 734, 735, 720, 721, 722, 723, 724, 725, 726, 727, 728, 729, 730, 731, 732, 733, 742, 743, 744, 745, 746, 747, 748, 749, 750, 751] (by decide +kernel) (by decide +kernel)
set_option maxRecDepth 20000 in
theorem gL_law_X6_undo : GoodIn wsL_law (wsV RL 65 RX6 yX6_undo wsX6_undo) := goodIn_app (goodIn_of _ (by decide +kernel)) ggL_law_X6_undo
set_option maxRecDepth 20000 in
theorem ggL_law_X7_undo : GoodIn wsL_law wsX7_undo := goodIn_r _ [554, 171, 152, 153, 154, 5, 155, 82, 709, 710, 711, 712, 713, 714, 715, 716, 717, 718, 719] (by decide +kernel) (by decide +kernel)
set_option maxRecDepth 20000 in
theorem gL_law_X7_undo : GoodIn wsL_law (wsV RL 68 RX7 yX7_undo wsX7_undo) := goodIn_app (goodIn_of _ (by decide +kernel)) ggL_law_X7_undo
set_option maxRecDepth 20000 in
theorem ggL_law_X6_keep : GoodIn wsL_law wsX6_keep := goodIn_r _ [558, 19, 15, 28, 559, 90, 91, 92, 14, 93, 38, 42, 46, 94, 95, 96, 97, 47, 48, 98, 99, 100, 101, 102, 103, 104, 105, 37, 106, 107, 53, 108, 109, 110, 111, 112, 113, 41, 114, 58, 115, 116, 117, 118, 119, 45, 120, 121, 64, 699, 700, 701, 702, 703, 704, 705, 706, 707, 708, 720, 721, 722, 723, 724, 725, 726, 727, 728, 729, 730, 731, 732, 733, 742, 743, 744, 745, 746, 747, 748, 749, 750, 751] (by decide +kernel) (by decide +kernel)
set_option maxRecDepth 20000 in
theorem gL_law_X6_keep : GoodIn wsL_law (wsV RL 69 RX6 yX6_keep wsX6_keep) := goodIn_app (goodIn_of _ (by decide +kernel)) ggL_law_X6_keep
set_option maxRecDepth 20000 in
theorem ggL_law_X7_keep : GoodIn wsL_law wsX7_keep := goodIn_r _ [563, 564, 82, 152, 153, 154, 5, 155, 709, 710, 711, 712, 713, 714, 715, 716, 717, 718, 719] (by decide +kernel) (by decide +kernel)
set_option maxRecDepth 20000 in
theorem gL_law_X7_keep : GoodIn wsL_law (wsV RL 72 RX7 yX7_keep wsX7_keep) := goodIn_app (goodIn_of _ (by decide +kernel)) ggL_law_X7_keep
set_option maxRecDepth 20000 in
theorem ggL_law_X6_restore : GoodIn wsL_law wsX6_restore := goodIn_r _ [568, 28, 16, 15, 19, 559, 90, 91, 92, 14, 93, 38, 42, 46, 94, 95, 96, 97, 47, 48, 98, 99, 100, 101, 102, 103, 104, 105, 37, 106, 107, 53, 108, 109, 110, 111, 112, 113, 41, 114, 58, 115, 116, 117, 118, 119, 45, 120, 121, 64, 134, 135, 136, 2, 137, 23, 138, 139, 140, 22, 141, 142, 70, 143, 144, 145, 146, 147, 699, 700, 701, 702, 703, 704, 705, 706, 707, 708, 720, 721, 722, 723, 724, 725, 726, 727, 728, 729, 730, 731, 732, 733, 742, 743, 744, 745, 746, 747, 748, 749, 750, 751, 734, 735] (by decide +kernel) (by decide +kernel)
set_option maxRecDepth 20000 in
theorem gL_law_X6_restore : GoodIn wsL_law (wsV RL 73 RX6 yX6_restore wsX6_restore) := goodIn_app (goodIn_of _ (by decide +kernel)) ggL_law_X6_restore
set_option maxRecDepth 20000 in
theorem ggL_law_X7_restore : GoodIn wsL_law wsX7_restore := goodIn_r _ [572, 564, 82, 167, 168, 169, 5, 170, 171, 152, 153, 154, 155, 709, 710, 711, 712, 713, 714, 715, 716, 717, 718, 719] (by decide +kernel) (by decide +kernel)
set_option maxRecDepth 20000 in
theorem gL_law_X7_restore : GoodIn wsL_law (wsV RL 76 RX7 yX7_restore wsX7_restore) := goodIn_app (goodIn_of _ (by decide +kernel)) ggL_law_X7_restore
set_option maxRecDepth 20000 in
theorem ggL_law_X6_boiler : GoodIn wsL_law wsX6_boiler := goodIn_r _ [576, 15, 577, 578, 579, 580, 581, 582, 129, 130, 14, 131, 38, 699, 700, 701, 702, 703, 704, 705, 706, 707, 708, 742, 743, 744, 745, 746, 720, 721, 722, 723, 724, 725, 726, 727, 728, 729, 730, 731, 732, 733] (by decide +kernel) (by decide +kernel)
set_option maxRecDepth 20000 in
theorem gL_law_X6_boiler : GoodIn wsL_law (wsV RL 77 RX6 yX6_boiler wsX6_boiler) := goodIn_app (goodIn_of _ (by decide +kernel)) ggL_law_X6_boiler
set_option maxRecDepth 20000 in
theorem ggL_law_X7_boiler : GoodIn wsL_law wsX7_boiler := goodIn_r _ [586, 82, 160, 161, 5, 162, 709, 710, 711, 712, 713, 714, 715, 716, 717, 718, 719] (by decide +kernel) (by decide +kernel)
set_option maxRecDepth 20000 in
theorem gL_law_X7_boiler : GoodIn wsL_law (wsV RL 80 RX7 yX7_boiler wsX7_boiler) := goodIn_app (goodIn_of _ (by decide +kernel)) ggL_law_X7_boiler
set_option maxRecDepth 20000 in
theorem ggL_law_X6_machine : GoodIn wsL_law wsX6_machine := goodIn_r _ [590, 15, 591, 592, 593, 594, 211, 212, 14, 213, 42, 699, 700, 701, 702, 703, 704, 705, 706, 707, 708, 747, 748, 749, 720, 721, 722, 723, 724, 725, 726, 727, 728, 729, 730, 731, 732, 733] (by decide +kernel) (by decide +kernel)
set_option maxRecDepth 20000 in
theorem gL_law_X6_machine : GoodIn wsL_law (wsV RL 81 RX6 yX6_machine wsX6_machine) := goodIn_app (goodIn_of _ (by decide +kernel)) ggL_law_X6_machine
set_option maxRecDepth 20000 in
theorem ggL_law_X7_machine : GoodIn wsL_law wsX7_machine := goodIn_r _ [598, 82, 160, 161, 5, 162, 709, 710, 711, 712, 713, 714, 715, 716, 717, 718, 719] (by decide +kernel) (by decide +kernel)
set_option maxRecDepth 20000 in
theorem gL_law_X7_machine : GoodIn wsL_law (wsV RL 84 RX7 yX7_machine wsX7_machine) := goodIn_app (goodIn_of _ (by decide +kernel)) ggL_law_X7_machine
set_option maxRecDepth 20000 in
theorem ggL_law_X6_line : GoodIn wsL_law wsX6_line := goodIn_r _ [602, 15, 603, 604, 371, 372, 45, 373, 121, 64, 699, 700, 701, 702, 703, 704, 705, 706, 707, 708, 720, 721, 722, 723, 724, 725, 726, 727, 728, 729, 730, 731, 732, 733, 750, 751] (by decide +kernel) (by decide +kernel)
set_option maxRecDepth 20000 in
theorem gL_law_X6_line : GoodIn wsL_law (wsV RL 85 RX6 yX6_line wsX6_line) := goodIn_app (goodIn_of _ (by decide +kernel)) ggL_law_X6_line
set_option maxRecDepth 20000 in
theorem ggL_law_X7_line : GoodIn wsL_law wsX7_line := goodIn_r _ [608, 82, 709, 710, 711, 712, 713, 714, 715, 716, 717, 718, 719] (by decide +kernel) (by decide +kernel)
set_option maxRecDepth 20000 in
theorem gL_law_X7_line : GoodIn wsL_law (wsV RL 88 RX7 yX7_line wsX7_line) := goodIn_app (goodIn_of _ (by decide +kernel)) ggL_law_X7_line
set_option maxRecDepth 20000 in
theorem ggL_law_X6_reason : GoodIn wsL_law wsX6_reason := goodIn_r _ [612, 15, 18, 613, 132, 2, 133, 614, 219, 220, 14, 221, 222, 223, 224, 225, 42, 214, 215, 216, 41, 217, 58, 226, 227, 228, 229, 38, 230, 231, 91, 92, 93, 46, 94, 95, 96, 97, 47, 48, 98, 99, 100, 101, 102, 103, 104, 105, 37, 106, 107, 53, 108, 109, 110, 111, 112, 113, 114, 115, 116, 117, 118, 119, 45, 120, 121, 64, 232, 233, 234, 235, 236, 237, 238, 239, 240, 241, 242, 243, 244, 245, 246, 247, 248, 249, 250, 251, 252, 253, 254, 255, 256, 257, 258, 259, 260, 261, 262, 263, 264, 265, 266, 267, 268, 269, 270, 271, 272, 273, 274, 275, 276, 277, 209, 278, 279, 280, 281, 282, 283, 699, 700, 701, 702, 703, 704, 705, 706, 707, 708, 720, 721, 722, 723, 724, 725, 726, 727, 728, 729, 730, 731, 732, 733, 747, 748, 749, 742, 743, 744, 745, 746, 750, 751] (by decide +kernel) (by decide +kernel)
set_option maxRecDepth 20000 in
theorem gL_law_X6_reason : GoodIn wsL_law (wsV RL 89 RX6 yX6_reason wsX6_reason) := goodIn_app (goodIn_of _ (by decide +kernel)) ggL_law_X6_reason
set_option maxRecDepth 20000 in
theorem ggL_law_X7_reason : GoodIn wsL_law wsX7_reason := goodIn_r _ [618, 160, 161, 5, 162, 421, 422, 423, 424, 82, 292, 293, 294, 295, 296, 297, 298, 299, 152, 153, 154, 155, 300, 301, 302, 303, 304, 305, 306, 307, 308, 309, 310, 311, 312, 313, 314, 315, 316, 317, 318, 319, 320, 321, 322, 323, 324, 325, 326, 327, 328, 329, 330, 331, 332, 333, 334, 335, 336, 337, 709, 710, 711, 712, 713, 714, 715, 716, 717, 718, 719] (by decide +kernel) (by decide +kernel)
set_option maxRecDepth 20000 in
theorem gL_law_X7_reason : GoodIn wsL_law (wsV RL 92 RX7 yX7_reason wsX7_reason) := goodIn_app (goodIn_of _ (by decide +kernel)) ggL_law_X7_reason
set_option maxRecDepth 20000 in
theorem ggL_law_X6_doneIn : GoodIn wsL_law wsX6_doneIn := goodIn_r _ [622, 17, 15, 18, 90, 91, 92, 14, 93, 38, 42, 46, 94, 95, 96, 97, 47, 48, 98, 99, 100, 101, 102, 103, 104, 105, 37, 106, 107, 53, 108, 109, 110, 111, 112, 113, 41, 114, 58, 115, 116, 117, 118, 119, 45, 120, 121, 64, 623, 624, 625, 626, 627, 628, 629, 630, 631, 214, 215, 216, 217, 632, 404, 405, 406, 238, 239, 240, 241, 242, 243, 244, 245, 246, 247, 248, 249, 250, 251, 252, 253, 254, 255, 256, 257, 258, 259, 2, 260, 226, 227, 228, 229, 230, 261, 262, 263, 264, 265, 266, 267, 268, 269, 270, 271, 272, 273, 274, 275, 276, 277, 209, 278, 279, 280, 281, 282, 283, 407, 371, 372, 373, 218, 219, 220, 221, 222, 223, 224, 225, 231, 232, 233, 234, 235, 236, 237, 366, 367, 368, 369, 370, 699, 700, 701, 702, 703, 704, 705, 706, 707, 708, 720, 721, 722, 723, 724, 725, 726, 727, 728, 729, 730, 731, 732, 733, 742, 743, 744, 745, 746, 747, 748, 749, 750, 751] (by decide +kernel) (by decide +kernel)
set_option maxRecDepth 20000 in
theorem gL_law_X6_doneIn : GoodIn wsL_law (wsV RL 93 RX6 yX6_doneIn wsX6_doneIn) := goodIn_app (goodIn_of _ (by decide +kernel)) ggL_law_X6_doneIn
set_option maxRecDepth 20000 in
theorem ggL_law_X7_doneIn : GoodIn wsL_law wsX7_doneIn := goodIn_r _ [636, 152, 153, 154, 5, 155, 82, 637, 638, 639, 640, 319, 320, 321, 322, 417, 418, 419, 420, 307, 308, 309, 310, 311, 312, 313, 314, 315, 316, 317, 318, 296, 297, 298, 299, 323, 324, 325, 326, 327, 328, 329, 330, 331, 332, 333, 334, 335, 336, 337, 421, 422, 423, 424, 292, 293, 294, 295, 300, 301, 302, 303, 304, 305, 306, 378, 379, 380, 381, 709, 710, 711, 712, 713, 714, 715, 716, 717, 718, 719] (by decide +kernel) (by decide +kernel)
set_option maxRecDepth 20000 in
theorem gL_law_X7_doneIn : GoodIn wsL_law (wsV RL 96 RX7 yX7_doneIn wsX7_doneIn) := goodIn_app (goodIn_of _ (by decide +kernel)) ggL_law_X7_doneIn
set_option maxRecDepth 20000 in
theorem ggL_law_X6_ifFires : GoodIn wsL_law wsX6_ifFires := goodIn_r _ [644, 17, 645, 15, 646, 647, 613, 132, 2, 133, 648, 649, 650, 651, 18, 90, 91, 92, 14, 93, 38, 42, 46, 94, 95, 96, 97, 47, 48, 98, 99, 100, 101, 102, 103, 104, 105, 37, 106, 107, 53, 108, 109, 110, 111, 112, 113, 41, 114, 58, 115, 116, 117, 118, 119, 45, 120, 121, 64, 652, 653, 654, 655, 127, 128, 129, 130, 131, 632, 404, 405, 406, 238, 239, 240, 241, 242, 243, 244, 245, 246, 247, 248, 249, 250, 251, 252, 253, 254, 255, 256, 257, 258, 259, 260, 226, 227, 228, 229, 230, 261, 262, 263, 264, 265, 214, 215, 216, 217, 266, 267, 268, 269, 270, 271, 272, 273, 274, 275, 276, 277, 209, 278, 279, 280, 281, 282, 283, 407, 371, 372, 373, 218, 219, 220, 221, 222, 223, 224, 225, 231, 232, 233, 234, 235, 236, 237, 366, 367, 368, 369, 370, 656, 657, 658, 659, 660, 699, 700, 701, 702, 703, 704, 705, 706, 707, 708, 720, 721, 722, 723, 724, 725, 726, 727, 728, 729, 730, 731, 732, 733, 742, 743, 744, 745, 746, 747, 748, 749, 750, 751] (by decide +kernel) (by decide +kernel)
set_option maxRecDepth 20000 in
theorem gL_law_X6_ifFires : GoodIn wsL_law (wsV RL 97 RX6 yX6_ifFires wsX6_ifFires) := goodIn_app (goodIn_of _ (by decide +kernel)) ggL_law_X6_ifFires
set_option maxRecDepth 20000 in
theorem ggL_law_X7_ifFires : GoodIn wsL_law wsX7_ifFires := goodIn_r _ [664, 160, 161, 5, 162, 665, 666, 667, 668, 82, 152, 153, 154, 155, 417, 418, 419, 420, 307, 308, 309, 310, 311, 312, 313, 314, 315, 316, 317, 318, 319, 320, 321, 322, 296, 297, 298, 299, 323, 324, 325, 326, 327, 328, 329, 330, 331, 332, 333, 334, 335, 336, 337, 421, 422, 423, 424, 292, 293, 294, 295, 300, 301, 302, 303, 304, 305, 306, 378, 379, 380, 381, 669, 670, 671, 672, 709, 710, 711, 712, 713, 714, 715, 716, 717, 718, 719] (by decide +kernel) (by decide +kernel)
set_option maxRecDepth 20000 in
theorem gL_law_X7_ifFires : GoodIn wsL_law (wsV RL 101 RX7 yX7_ifFires wsX7_ifFires) := goodIn_app (goodIn_of _ (by decide +kernel)) ggL_law_X7_ifFires
set_option maxRecDepth 20000 in
theorem ggL_law_X6_bestFires : GoodIn wsL_law wsX6_bestFires := goodIn_r _ [676, 17, 645, 647, 613, 132, 2, 133, 648, 649, 650, 651, 15, 18, 90, 91, 92, 14, 93, 38, 42, 46, 94, 95, 96, 97, 47, 48, 98, 99, 100, 101, 102, 103, 104, 105, 37, 106, 107, 53, 108, 109, 110, 111, 112, 113, 41, 114, 58, 115, 116, 117, 118, 119, 45, 120, 121, 64, 652, 653, 654, 655, 127, 128, 129, 130, 131, 632, 404, 405, 406, 238, 239, 240, 241, 242, 243, 244, 245, 246, 247, 248, 249, 250, 251, 252, 253, 254, 255, 256, 257, 258, 259, 260, 226, 227, 228, 229, 230, 261, 262, 263, 264, 265, 214, 215, 216, 217, 266, 267, 268, 269, 270, 271, 272, 273, 274, 275, 276, 277, 209, 278, 279, 280, 281, 282, 283, 407, 371, 372, 373, 218, 219, 220, 221, 222, 223, 224, 225, 231, 232, 233, 234, 235, 236, 237, 366, 367, 368, 369, 370, 699, 700, 701, 702, 703, 704, 705, 706, 707, 708, 720, 721, 722, 723, 724, 725, 726, 727, 728, 729, 730, 731, 732, 733, 742, 743, 744, 745, 746, 747, 748, 749, 750, 751] (by decide +kernel) (by decide +kernel)
set_option maxRecDepth 20000 in
theorem gL_law_X6_bestFires : GoodIn wsL_law (wsV RL 102 RX6 yX6_bestFires wsX6_bestFires) := goodIn_app (goodIn_of _ (by decide +kernel)) ggL_law_X6_bestFires
set_option maxRecDepth 20000 in
theorem ggL_law_X7_bestFires : GoodIn wsL_law wsX7_bestFires := goodIn_r _ [680, 160, 161, 5, 162, 665, 666, 667, 668, 82, 152, 153, 154, 155, 417, 418, 419, 420, 307, 308, 309, 310, 311, 312, 313, 314, 315, 316, 317, 318, 319, 320, 321, 322, 296, 297, 298, 299, 323, 324, 325, 326, 327, 328, 329, 330, 331, 332, 333, 334, 335, 336, 337, 421, 422, 423, 424, 292, 293, 294, 295, 300, 301, 302, 303, 304, 305, 306, 378, 379, 380, 381, 669, 670, 671, 672, 709, 710, 711, 712, 713, 714, 715, 716, 717, 718, 719] (by decide +kernel) (by decide +kernel)
set_option maxRecDepth 20000 in
theorem gL_law_X7_bestFires : GoodIn wsL_law (wsV RL 105 RX7 yX7_bestFires wsX7_bestFires) := goodIn_app (goodIn_of _ (by decide +kernel)) ggL_law_X7_bestFires
set_option maxRecDepth 20000 in
theorem ggL_law_X6_count : GoodIn wsL_law wsX6_count := goodIn_r _ [684, 23, 685, 27, 686, 15, 687, 688, 689, 14, 690, 94, 47, 97, 98, 48, 46, 627, 99, 95, 96, 100, 101, 102, 628, 629, 630, 631, 42, 214, 215, 216, 41, 217, 58, 226, 227, 228, 229, 38, 230, 699, 700, 701, 702, 703, 704, 705, 706, 707, 708, 734, 735, 736, 737, 738, 739, 740, 741, 720, 721, 722, 723, 724, 725, 726, 727, 728, 729, 730, 731, 732, 733, 750, 751, 747, 748, 749, 742, 743, 744, 745, 746] (by decide +kernel) (by decide +kernel)
set_option maxRecDepth 20000 in
theorem gL_law_X6_count : GoodIn wsL_law (wsV RL 106 RX6 yX6_count wsX6_count) := goodIn_app (goodIn_of _ (by decide +kernel)) ggL_law_X6_count
set_option maxRecDepth 20000 in
theorem ggL_law_X7_count : GoodIn wsL_law wsX7_count := goodIn_r _ [694, 82, 171, 438, 695, 696, 697, 5, 698, 296, 297, 298, 299, 709, 710, 711, 712, 713, 714, 715, 716, 717, 718, 719] (by decide +kernel) (by decide +kernel)
set_option maxRecDepth 20000 in
theorem gL_law_X7_count : GoodIn wsL_law (wsV RL 109 RX7 yX7_count wsX7_count) := goodIn_app (goodIn_of _ (by decide +kernel)) ggL_law_X7_count
