theorem inX0 : ∀ w ∈ wsX00, w ∈ lw_tbl := by decide +kernel
theorem inlX1 : ∀ w ∈ wsX10, w ∈ wsL_law := fun _ h => List.mem_append_left _ (List.mem_append_left _ (List.mem_append_left _ (List.mem_append_left _ (List.mem_append_right _ h))))
theorem inX1 : ∀ w ∈ wsX10, w ∈ lw_tbl := fun w h => wsL_law_in w (inlX1 w h)
theorem inlX2 : ∀ w ∈ wsX20, w ∈ wsL_law := fun _ h => List.mem_append_left _ (List.mem_append_left _ (List.mem_append_left _ (List.mem_append_right _ h)))
theorem inX2 : ∀ w ∈ wsX20, w ∈ lw_tbl := fun w h => wsL_law_in w (inlX2 w h)
theorem inlX3 : ∀ w ∈ wsX30, w ∈ wsL_law := fun _ h => List.mem_append_left _ (List.mem_append_left _ (List.mem_append_right _ h))
theorem inX3 : ∀ w ∈ wsX30, w ∈ lw_tbl := fun w h => wsL_law_in w (inlX3 w h)
theorem inX4 : ∀ w ∈ wsX40, w ∈ lw_tbl := by decide +kernel
theorem inlX5 : ∀ w ∈ wsX50, w ∈ wsL_law := fun _ h => List.mem_append_left _ (List.mem_append_right _ h)
theorem inX5 : ∀ w ∈ wsX50, w ∈ lw_tbl := fun w h => wsL_law_in w (inlX5 w h)
theorem inlX6 : ∀ w ∈ wsX60, w ∈ wsL_law := fun _ h => List.mem_append_left _ (List.mem_append_left _ (List.mem_append_left _ (List.mem_append_left _ (List.mem_append_left _ (List.mem_append_left _ (List.mem_append_right _ h))))))
theorem inX6 : ∀ w ∈ wsX60, w ∈ lw_tbl := fun w h => wsL_law_in w (inlX6 w h)
theorem inlX7 : ∀ w ∈ wsX70, w ∈ wsL_law := fun _ h => List.mem_append_left _ (List.mem_append_left _ (List.mem_append_left _ (List.mem_append_left _ (List.mem_append_left _ (List.mem_append_right _ h)))))
theorem inX7 : ∀ w ∈ wsX70, w ∈ lw_tbl := fun w h => wsL_law_in w (inlX7 w h)
theorem inJ6 : ∀ w ∈ wsJ60, w ∈ lw_tbl := by decide +kernel
theorem inJ9 : ∀ w ∈ wsJ90, w ∈ lw_tbl := by decide +kernel
set_option maxRecDepth 20000 in
theorem ggL_law_X6_init : GoodIn wsL_law wsX6_init := goodIn_r _ [8, 9, 10, 11, 12, 13, 14, 15, 16, 17, 18, 19, 20, 21, 22, 23, 24, 25, 26, 27, 28, 29, 30, 31, 32, 33, 34, 35, 36, 37, 38, 39, 40, 41, 42, 43, 44, 45, 46, 47, 48, 49, 50, 51, 52, 53, 54, 55, 56, 57, 639, 640, 641, 642, 643, 660, 661, 662, 663, 664, 665, 666, 667, 668, 669] (by decide +kernel) (by decide +kernel)
set_option maxRecDepth 20000 in
theorem gL_law_X6_init : GoodIn wsL_law (wsX6_init) := ggL_law_X6_init
set_option maxRecDepth 20000 in
theorem ggL_law_X7_init : GoodIn wsL_law wsX7_init := goodIn_r _ [60, 61, 10, 11, 33, 62, 63, 64, 65, 66, 67, 68, 69, 70, 644, 645, 646, 647, 648, 649, 650, 651, 652, 653, 654, 655, 656, 657, 658, 659] (by decide +kernel) (by decide +kernel)
set_option maxRecDepth 20000 in
theorem gL_law_X7_init : GoodIn wsL_law (wsX7_init) := ggL_law_X7_init
set_option maxRecDepth 20000 in
theorem ggL_law_X6_size : GoodIn wsL_law wsX6_size := goodIn_r _ [74, 13, 75, 76, 2, 77, 78, 79, 80, 81, 82, 83, 28, 84, 57, 56, 639, 640, 641, 642, 643, 668, 669] (by decide +kernel) (by decide +kernel)
set_option maxRecDepth 20000 in
theorem gL_law_X6_size : GoodIn wsL_law (wsV RL 13 RX6 yX6_size wsX6_size) := goodIn_app (goodIn_of _ (by decide +kernel)) ggL_law_X6_size
set_option maxRecDepth 20000 in
theorem ggL_law_X7_size : GoodIn wsL_law wsX7_size := goodIn_r _ [88, 62, 63, 89, 90, 5, 91, 92, 93, 94, 644, 645, 646, 647, 648, 649, 650, 651, 652, 653, 654, 655, 656, 657, 658, 659] (by decide +kernel) (by decide +kernel)
set_option maxRecDepth 20000 in
theorem gL_law_X7_size : GoodIn wsL_law (wsV RL 17 RX7 yX7_size wsX7_size) := goodIn_app (goodIn_of _ (by decide +kernel)) ggL_law_X7_size
set_option maxRecDepth 20000 in
theorem ggL_law_X6_turn : GoodIn wsL_law wsX6_turn := goodIn_r _ [98, 13, 99, 75, 76, 2, 77, 78, 79, 80, 100, 101, 102, 28, 103, 57, 639, 640, 641, 642, 643, 668, 669] (by decide +kernel) (by decide +kernel)
set_option maxRecDepth 20000 in
theorem gL_law_X6_turn : GoodIn wsL_law (wsV RL 18 RX6 yX6_turn wsX6_turn) := goodIn_app (goodIn_of _ (by decide +kernel)) ggL_law_X6_turn
set_option maxRecDepth 20000 in
theorem ggL_law_X7_turn : GoodIn wsL_law wsX7_turn := goodIn_r _ [107, 62, 63, 89, 90, 5, 91, 92, 93, 94, 644, 645, 646, 647, 648, 649, 650, 651, 652, 653, 654, 655, 656, 657, 658, 659] (by decide +kernel) (by decide +kernel)
set_option maxRecDepth 20000 in
theorem gL_law_X7_turn : GoodIn wsL_law (wsV RL 22 RX7 yX7_turn wsX7_turn) := goodIn_app (goodIn_of _ (by decide +kernel)) ggL_law_X7_turn
set_option maxRecDepth 20000 in
theorem ggL_law_X6_turned : GoodIn wsL_law wsX6_turned := goodIn_r _ [111, 13, 99, 75, 76, 2, 77, 78, 79, 80, 100, 101, 102, 28, 103, 57, 639, 640, 641, 642, 643, 668, 669] (by decide +kernel) (by decide +kernel)
set_option maxRecDepth 20000 in
theorem gL_law_X6_turned : GoodIn wsL_law (wsV RL 23 RX6 yX6_turned wsX6_turned) := goodIn_app (goodIn_of _ (by decide +kernel)) ggL_law_X6_turned
set_option maxRecDepth 20000 in
theorem ggL_law_X7_turned : GoodIn wsL_law wsX7_turned := goodIn_r _ [115, 62, 63, 89, 90, 5, 91, 92, 93, 94, 644, 645, 646, 647, 648, 649, 650, 651, 652, 653, 654, 655, 656, 657, 658, 659] (by decide +kernel) (by decide +kernel)
set_option maxRecDepth 20000 in
theorem gL_law_X7_turned : GoodIn wsL_law (wsV RL 26 RX7 yX7_turned wsX7_turned) := goodIn_app (goodIn_of _ (by decide +kernel)) ggL_law_X7_turned
set_option maxRecDepth 20000 in
theorem ggL_law_X6_made : GoodIn wsL_law wsX6_made := goodIn_r _ [119, 13, 120, 75, 76, 2, 77, 78, 79, 80, 121, 122, 123, 28, 124, 57, 56, 125, 126, 127, 128, 129, 130, 131, 132, 133, 134, 135, 136, 639, 640, 641, 642, 643, 668, 669] (by decide +kernel) (by decide +kernel)
set_option maxRecDepth 20000 in
theorem gL_law_X6_made : GoodIn wsL_law (wsV RL 27 RX6 yX6_made wsX6_made) := goodIn_app (goodIn_of _ (by decide +kernel)) ggL_law_X6_made
set_option maxRecDepth 20000 in
theorem ggL_law_X7_made : GoodIn wsL_law wsX7_made := goodIn_r _ [140, 62, 63, 70, 89, 90, 5, 91, 92, 93, 94, 644, 645, 646, 647, 648, 649, 650, 651, 652, 653, 654, 655, 656, 657, 658, 659] (by decide +kernel) (by decide +kernel)
set_option maxRecDepth 20000 in
theorem gL_law_X7_made : GoodIn wsL_law (wsV RL 30 RX7 yX7_made wsX7_made) := goodIn_app (goodIn_of _ (by decide +kernel)) ggL_law_X7_made
set_option maxRecDepth 20000 in
theorem ggL_law_X6_look : GoodIn wsL_law wsX6_look := goodIn_r _ [144, 13, 75, 76, 2, 77, 78, 79, 80, 145, 146, 147, 148, 149, 150, 28, 151, 57, 56, 152, 101, 102, 103, 153, 154, 639, 640, 641, 642, 643, 668, 669] (by decide +kernel) (by decide +kernel)
set_option maxRecDepth 20000 in
theorem gL_law_X6_look : GoodIn wsL_law (wsV RL 31 RX6 yX6_look wsX6_look) := goodIn_app (goodIn_of _ (by decide +kernel)) ggL_law_X6_look
set_option maxRecDepth 20000 in
theorem ggL_law_X7_look : GoodIn wsL_law wsX7_look := goodIn_r _ [158, 159, 160, 89, 90, 5, 91, 92, 93, 94, 161, 162, 163, 164, 62, 63, 165, 166, 167, 168, 644, 645, 646, 647, 648, 649, 650, 651, 652, 653, 654, 655, 656, 657, 658, 659] (by decide +kernel) (by decide +kernel)
set_option maxRecDepth 20000 in
theorem gL_law_X7_look : GoodIn wsL_law (wsV RL 35 RX7 yX7_look wsX7_look) := goodIn_app (goodIn_of _ (by decide +kernel)) ggL_law_X7_look
set_option maxRecDepth 20000 in
theorem ggL_law_X6_peak : GoodIn wsL_law wsX6_peak := goodIn_r _ [172, 13, 75, 76, 2, 77, 78, 79, 80, 173, 174, 175, 28, 176, 57, 177, 178, 179, 180, 181, 182, 183, 184, 185, 149, 150, 151, 56, 152, 101, 102, 103, 153, 154, 639, 640, 641, 642, 643, 668, 669] (by decide +kernel) (by decide +kernel)
set_option maxRecDepth 20000 in
theorem gL_law_X6_peak : GoodIn wsL_law (wsV RL 36 RX6 yX6_peak wsX6_peak) := goodIn_app (goodIn_of _ (by decide +kernel)) ggL_law_X6_peak
set_option maxRecDepth 20000 in
theorem ggL_law_X7_peak : GoodIn wsL_law wsX7_peak := goodIn_r _ [189, 89, 90, 5, 91, 92, 93, 94, 190, 191, 192, 193, 62, 161, 162, 163, 164, 159, 160, 63, 165, 166, 167, 168, 644, 645, 646, 647, 648, 649, 650, 651, 652, 653, 654, 655, 656, 657, 658, 659] (by decide +kernel) (by decide +kernel)
set_option maxRecDepth 20000 in
theorem gL_law_X7_peak : GoodIn wsL_law (wsV RL 40 RX7 yX7_peak wsX7_peak) := goodIn_app (goodIn_of _ (by decide +kernel)) ggL_law_X7_peak
set_option maxRecDepth 20000 in
theorem ggL_law_X6_flank : GoodIn wsL_law wsX6_flank := goodIn_r _ [197, 13, 75, 76, 2, 77, 78, 79, 80, 198, 199, 200, 28, 201, 57, 181, 182, 183, 184, 185, 149, 150, 151, 56, 152, 101, 102, 103, 153, 154, 639, 640, 641, 642, 643, 668, 669] (by decide +kernel) (by decide +kernel)
set_option maxRecDepth 20000 in
theorem gL_law_X6_flank : GoodIn wsL_law (wsV RL 41 RX6 yX6_flank wsX6_flank) := goodIn_app (goodIn_of _ (by decide +kernel)) ggL_law_X6_flank
set_option maxRecDepth 20000 in
theorem ggL_law_X7_flank : GoodIn wsL_law wsX7_flank := goodIn_r _ [205, 89, 90, 5, 91, 92, 93, 94, 206, 207, 208, 209, 62, 161, 162, 163, 164, 159, 160, 63, 165, 166, 167, 168, 644, 645, 646, 647, 648, 649, 650, 651, 652, 653, 654, 655, 656, 657, 658, 659] (by decide +kernel) (by decide +kernel)
set_option maxRecDepth 20000 in
theorem gL_law_X7_flank : GoodIn wsL_law (wsV RL 44 RX7 yX7_flank wsX7_flank) := goodIn_app (goodIn_of _ (by decide +kernel)) ggL_law_X7_flank
set_option maxRecDepth 20000 in
theorem ggL_law_X6_worst : GoodIn wsL_law wsX6_worst := goodIn_r _ [213, 13, 75, 76, 2, 77, 78, 79, 80, 214, 215, 216, 28, 217, 177, 178, 179, 180, 181, 182, 183, 184, 185, 149, 150, 151, 57, 56, 152, 101, 102, 103, 153, 154, 639, 640, 641, 642, 643, 668, 669] (by decide +kernel) (by decide +kernel)
set_option maxRecDepth 20000 in
theorem gL_law_X6_worst : GoodIn wsL_law (wsV RL 45 RX6 yX6_worst wsX6_worst) := goodIn_app (goodIn_of _ (by decide +kernel)) ggL_law_X6_worst
set_option maxRecDepth 20000 in
theorem ggL_law_X7_worst : GoodIn wsL_law wsX7_worst := goodIn_r _ [221, 89, 90, 5, 91, 92, 93, 94, 161, 162, 163, 164, 159, 160, 62, 63, 165, 166, 167, 168, 644, 645, 646, 647, 648, 649, 650, 651, 652, 653, 654, 655, 656, 657, 658, 659] (by decide +kernel) (by decide +kernel)
set_option maxRecDepth 20000 in
theorem gL_law_X7_worst : GoodIn wsL_law (wsV RL 48 RX7 yX7_worst wsX7_worst) := goodIn_app (goodIn_of _ (by decide +kernel)) ggL_law_X7_worst
set_option maxRecDepth 20000 in
theorem ggL_law_X6_best : GoodIn wsL_law wsX6_best := goodIn_r _ [225, 26, 13, 75, 76, 2, 77, 78, 79, 80, 226, 227, 228, 229, 230, 231, 232, 233, 178, 179, 180, 234, 235, 236, 237, 238, 239, 240, 241, 242, 243, 244, 245, 246, 247, 248, 249, 28, 250, 57, 56, 173, 174, 175, 176, 177, 181, 182, 183, 184, 185, 149, 150, 151, 152, 101, 102, 103, 153, 154, 639, 640, 641, 642, 643, 668, 669] (by decide +kernel) (by decide +kernel)
set_option maxRecDepth 20000 in
theorem gL_law_X6_best : GoodIn wsL_law (wsV RL 49 RX6 yX6_best wsX6_best) := goodIn_app (goodIn_of _ (by decide +kernel)) ggL_law_X6_best
set_option maxRecDepth 20000 in
theorem ggL_law_X7_best : GoodIn wsL_law wsX7_best := goodIn_r _ [254, 255, 62, 89, 90, 5, 91, 92, 93, 94, 256, 257, 258, 259, 63, 190, 191, 192, 193, 161, 162, 163, 164, 159, 160, 165, 166, 167, 168, 206, 207, 208, 209, 644, 645, 646, 647, 648, 649, 650, 651, 652, 653, 654, 655, 656, 657, 658, 659] (by decide +kernel) (by decide +kernel)
set_option maxRecDepth 20000 in
theorem gL_law_X7_best : GoodIn wsL_law (wsV RL 52 RX7 yX7_best wsX7_best) := goodIn_app (goodIn_of _ (by decide +kernel)) ggL_law_X7_best
set_option maxRecDepth 20000 in
theorem ggL_law_X6_pair : GoodIn wsL_law wsX6_pair := goodIn_r _ [263, 13, 75, 76, 2, 77, 78, 79, 80, 264, 265, 266, 28, 267, 57, 185, 149, 150, 151, 56, 152, 101, 102, 103, 153, 154, 639, 640, 641, 642, 643, 668, 669] (by decide +kernel) (by decide +kernel)
set_option maxRecDepth 20000 in
theorem gL_law_X6_pair : GoodIn wsL_law (wsV RL 53 RX6 yX6_pair wsX6_pair) := goodIn_app (goodIn_of _ (by decide +kernel)) ggL_law_X6_pair
set_option maxRecDepth 20000 in
theorem ggL_law_X7_pair : GoodIn wsL_law wsX7_pair := goodIn_r _ [271, 62, 159, 160, 89, 90, 5, 91, 92, 93, 94, 161, 162, 163, 164, 63, 165, 166, 167, 168, 644, 645, 646, 647, 648, 649, 650, 651, 652, 653, 654, 655, 656, 657, 658, 659] (by decide +kernel) (by decide +kernel)
set_option maxRecDepth 20000 in
theorem gL_law_X7_pair : GoodIn wsL_law (wsV RL 56 RX7 yX7_pair wsX7_pair) := goodIn_app (goodIn_of _ (by decide +kernel)) ggL_law_X7_pair
set_option maxRecDepth 20000 in
theorem ggL_law_X6_filter : GoodIn wsL_law wsX6_filter := goodIn_r _ [275, 17, 78, 79, 2, 80, 276, 277, 278, 16, 279, 35, 34, 639, 640, 641, 642, 643, 660, 661] (by decide +kernel) (by decide +kernel)
set_option maxRecDepth 20000 in
theorem gL_law_X6_filter : GoodIn wsL_law (wsV RL 57 RX6 yX6_filter wsX6_filter) := goodIn_app (goodIn_of _ (by decide +kernel)) ggL_law_X6_filter
set_option maxRecDepth 20000 in
theorem ggL_law_X7_filter : GoodIn wsL_law wsX7_filter := goodIn_r _ [283, 64, 65, 92, 93, 5, 94, 644, 645, 646, 647, 648, 649, 650, 651, 652, 653, 654, 655, 656, 657, 658, 659] (by decide +kernel) (by decide +kernel)
set_option maxRecDepth 20000 in
theorem gL_law_X7_filter : GoodIn wsL_law (wsV RL 60 RX7 yX7_filter wsX7_filter) := goodIn_app (goodIn_of _ (by decide +kernel)) ggL_law_X7_filter
set_option maxRecDepth 20000 in
theorem ggL_law_X6_weight : GoodIn wsL_law wsX6_weight := goodIn_r _ [287, 17, 288, 289, 78, 79, 2, 80, 639, 640, 641, 642, 643, 660, 661] (by decide +kernel) (by decide +kernel)
set_option maxRecDepth 20000 in
theorem gL_law_X6_weight : GoodIn wsL_law (wsV RL 61 RX6 yX6_weight wsX6_weight) := goodIn_app (goodIn_of _ (by decide +kernel)) ggL_law_X6_weight
set_option maxRecDepth 20000 in
theorem ggL_law_X7_weight : GoodIn wsL_law wsX7_weight := goodIn_r _ [293, 64, 65, 92, 93, 5, 94, 644, 645, 646, 647, 648, 649, 650, 651, 652, 653, 654, 655, 656, 657, 658, 659] (by decide +kernel) (by decide +kernel)
set_option maxRecDepth 20000 in
theorem gL_law_X7_weight : GoodIn wsL_law (wsV RL 64 RX7 yX7_weight wsX7_weight) := goodIn_app (goodIn_of _ (by decide +kernel)) ggL_law_X7_weight
set_option maxRecDepth 20000 in
theorem ggL_law_X6_own : GoodIn wsL_law wsX6_own := goodIn_r _ [297, 17, 13, 288, 75, 76, 2, 77, 78, 79, 80, 298, 299, 300, 16, 301, 302, 35, 34, 303, 153, 154, 639, 640, 641, 642, 643, 660, 661, 668, 669] (by decide +kernel) (by decide +kernel)
set_option maxRecDepth 20000 in
theorem gL_law_X6_own : GoodIn wsL_law (wsV RL 65 RX6 yX6_own wsX6_own) := goodIn_app (goodIn_of _ (by decide +kernel)) ggL_law_X6_own
set_option maxRecDepth 20000 in
theorem ggL_law_X7_own : GoodIn wsL_law wsX7_own := goodIn_r _ [307, 62, 64, 63, 65, 89, 90, 5, 91, 92, 93, 94, 644, 645, 646, 647, 648, 649, 650, 651, 652, 653, 654, 655, 656, 657, 658, 659] (by decide +kernel) (by decide +kernel)
set_option maxRecDepth 20000 in
theorem gL_law_X7_own : GoodIn wsL_law (wsV RL 68 RX7 yX7_own wsX7_own) := goodIn_app (goodIn_of _ (by decide +kernel)) ggL_law_X7_own
set_option maxRecDepth 20000 in
theorem ggL_law_X6_answer : GoodIn wsL_law wsX6_answer := goodIn_r _ [311, 312, 313, 17, 13, 75, 76, 2, 77, 78, 79, 80, 145, 146, 147, 314, 315, 316, 16, 317, 35, 34, 303, 318, 101, 102, 28, 103, 57, 153, 154, 639, 640, 641, 642, 643, 660, 661, 668, 669] (by decide +kernel) (by decide +kernel)
set_option maxRecDepth 20000 in
theorem gL_law_X6_answer : GoodIn wsL_law (wsV RL 69 RX6 yX6_answer wsX6_answer) := goodIn_app (goodIn_of _ (by decide +kernel)) ggL_law_X6_answer
set_option maxRecDepth 20000 in
theorem ggL_law_X7_answer : GoodIn wsL_law wsX7_answer := goodIn_r _ [322, 323, 324, 159, 160, 89, 90, 5, 91, 92, 93, 94, 325, 326, 327, 328, 64, 62, 63, 65, 165, 166, 167, 168, 644, 645, 646, 647, 648, 649, 650, 651, 652, 653, 654, 655, 656, 657, 658, 659] (by decide +kernel) (by decide +kernel)
set_option maxRecDepth 20000 in
theorem gL_law_X7_answer : GoodIn wsL_law (wsV RL 72 RX7 yX7_answer wsX7_answer) := goodIn_app (goodIn_of _ (by decide +kernel)) ggL_law_X7_answer
set_option maxRecDepth 20000 in
theorem ggL_law_X6_greatest : GoodIn wsL_law wsX6_greatest := goodIn_r _ [332, 17, 13, 75, 76, 2, 77, 78, 79, 80, 333, 334, 335, 16, 336, 35, 302, 337, 338, 339, 340, 341, 315, 316, 317, 34, 303, 318, 101, 102, 28, 103, 57, 153, 154, 639, 640, 641, 642, 643, 660, 661, 668, 669] (by decide +kernel) (by decide +kernel)
set_option maxRecDepth 20000 in
theorem gL_law_X6_greatest : GoodIn wsL_law (wsV RL 73 RX6 yX6_greatest wsX6_greatest) := goodIn_app (goodIn_of _ (by decide +kernel)) ggL_law_X6_greatest
set_option maxRecDepth 20000 in
theorem ggL_law_X7_greatest : GoodIn wsL_law wsX7_greatest := goodIn_r _ [345, 89, 90, 5, 91, 92, 93, 94, 346, 347, 348, 349, 62, 64, 325, 326, 327, 328, 159, 160, 63, 65, 165, 166, 167, 168, 644, 645, 646, 647, 648, 649, 650, 651, 652, 653, 654, 655, 656, 657, 658, 659] (by decide +kernel) (by decide +kernel)
set_option maxRecDepth 20000 in
theorem gL_law_X7_greatest : GoodIn wsL_law (wsV RL 76 RX7 yX7_greatest wsX7_greatest) := goodIn_app (goodIn_of _ (by decide +kernel)) ggL_law_X7_greatest
set_option maxRecDepth 20000 in
theorem ggL_law_X6_clear : GoodIn wsL_law wsX6_clear := goodIn_r _ [353, 17, 13, 75, 76, 2, 77, 78, 79, 80, 354, 355, 356, 16, 357, 35, 302, 358, 178, 179, 180, 359, 360, 334, 335, 336, 337, 338, 339, 340, 341, 315, 316, 317, 34, 303, 318, 101, 102, 28, 103, 57, 153, 154, 639, 640, 641, 642, 643, 660, 661, 668, 669] (by decide +kernel) (by decide +kernel)
set_option maxRecDepth 20000 in
theorem gL_law_X6_clear : GoodIn wsL_law (wsV RL 77 RX6 yX6_clear wsX6_clear) := goodIn_app (goodIn_of _ (by decide +kernel)) ggL_law_X6_clear
set_option maxRecDepth 20000 in
theorem ggL_law_X7_clear : GoodIn wsL_law wsX7_clear := goodIn_r _ [364, 62, 64, 365, 89, 90, 5, 91, 92, 93, 94, 346, 347, 348, 349, 325, 326, 327, 328, 159, 160, 63, 65, 165, 166, 167, 168, 644, 645, 646, 647, 648, 649, 650, 651, 652, 653, 654, 655, 656, 657, 658, 659] (by decide +kernel) (by decide +kernel)
set_option maxRecDepth 20000 in
theorem gL_law_X7_clear : GoodIn wsL_law (wsV RL 80 RX7 yX7_clear wsX7_clear) := goodIn_app (goodIn_of _ (by decide +kernel)) ggL_law_X7_clear
set_option maxRecDepth 20000 in
theorem ggL_law_X6_rests : GoodIn wsL_law wsX6_rests := goodIn_r _ [369, 21, 78, 79, 2, 80, 370, 43, 44, 20, 45, 46, 40, 41, 639, 640, 641, 642, 643, 662, 663, 664] (by decide +kernel) (by decide +kernel)
set_option maxRecDepth 20000 in
theorem gL_law_X6_rests : GoodIn wsL_law (wsV RL 81 RX6 yX6_rests wsX6_rests) := goodIn_app (goodIn_of _ (by decide +kernel)) ggL_law_X6_rests
set_option maxRecDepth 20000 in
theorem ggL_law_X7_rests : GoodIn wsL_law wsX7_rests := goodIn_r _ [374, 66, 67, 68, 92, 93, 5, 94, 644, 645, 646, 647, 648, 649, 650, 651, 652, 653, 654, 655, 656, 657, 658, 659] (by decide +kernel) (by decide +kernel)
set_option maxRecDepth 20000 in
theorem gL_law_X7_rests : GoodIn wsL_law (wsV RL 84 RX7 yX7_rests wsX7_rests) := goodIn_app (goodIn_of _ (by decide +kernel)) ggL_law_X7_rests
set_option maxRecDepth 20000 in
theorem ggL_law_X6_rest : GoodIn wsL_law wsX6_rest := goodIn_r _ [378, 21, 379, 380, 381, 382, 383, 20, 384, 46, 79, 2, 80, 78, 639, 640, 641, 642, 643, 662, 663, 664] (by decide +kernel) (by decide +kernel)
set_option maxRecDepth 20000 in
theorem gL_law_X6_rest : GoodIn wsL_law (wsV RL 85 RX6 yX6_rest wsX6_rest) := goodIn_app (goodIn_of _ (by decide +kernel)) ggL_law_X6_rest
set_option maxRecDepth 20000 in
theorem ggL_law_X7_rest : GoodIn wsL_law wsX7_rest := goodIn_r _ [388, 67, 68, 389, 390, 391, 5, 392, 66, 92, 93, 94, 644, 645, 646, 647, 648, 649, 650, 651, 652, 653, 654, 655, 656, 657, 658, 659] (by decide +kernel) (by decide +kernel)
set_option maxRecDepth 20000 in
theorem gL_law_X7_rest : GoodIn wsL_law (wsV RL 88 RX7 yX7_rest wsX7_rest) := goodIn_app (goodIn_of _ (by decide +kernel)) ggL_law_X7_rest
set_option maxRecDepth 20000 in
theorem ggL_law_X6_read : GoodIn wsL_law wsX6_read := goodIn_r _ [396, 21, 379, 380, 381, 382, 383, 20, 384, 46, 79, 2, 80, 78, 639, 640, 641, 642, 643, 662, 663, 664] (by decide +kernel) (by decide +kernel)
set_option maxRecDepth 20000 in
theorem gL_law_X6_read : GoodIn wsL_law (wsV RL 89 RX6 yX6_read wsX6_read) := goodIn_app (goodIn_of _ (by decide +kernel)) ggL_law_X6_read
set_option maxRecDepth 20000 in
theorem ggL_law_X7_read : GoodIn wsL_law wsX7_read := goodIn_r _ [400, 67, 68, 389, 390, 391, 5, 392, 66, 92, 93, 94, 644, 645, 646, 647, 648, 649, 650, 651, 652, 653, 654, 655, 656, 657, 658, 659] (by decide +kernel) (by decide +kernel)
set_option maxRecDepth 20000 in
theorem gL_law_X7_read : GoodIn wsL_law (wsV RL 92 RX7 yX7_read wsX7_read) := goodIn_app (goodIn_of _ (by decide +kernel)) ggL_law_X7_read
set_option maxRecDepth 20000 in
theorem ggL_law_X6_fold : GoodIn wsL_law wsX6_fold := goodIn_r _ [404, 405, 21, 406, 78, 79, 2, 80, 407, 408, 409, 20, 410, 46, 41, 411, 412, 413, 414, 40, 639, 640, 641, 642, 643, 662, 663, 664] (by decide +kernel) (by decide +kernel)
set_option maxRecDepth 20000 in
theorem gL_law_X6_fold : GoodIn wsL_law (wsV RL 93 RX6 yX6_fold wsX6_fold) := goodIn_app (goodIn_of _ (by decide +kernel)) ggL_law_X6_fold
set_option maxRecDepth 20000 in
theorem ggL_law_X7_fold : GoodIn wsL_law wsX7_fold := goodIn_r _ [418, 365, 66, 68, 67, 92, 93, 5, 94, 644, 645, 646, 647, 648, 649, 650, 651, 652, 653, 654, 655, 656, 657, 658, 659] (by decide +kernel) (by decide +kernel)
set_option maxRecDepth 20000 in
theorem gL_law_X7_fold : GoodIn wsL_law (wsV RL 96 RX7 yX7_fold wsX7_fold) := goodIn_app (goodIn_of _ (by decide +kernel)) ggL_law_X7_fold
set_option maxRecDepth 20000 in
theorem ggL_law_X6_unfold : GoodIn wsL_law wsX6_unfold := goodIn_r _ [422, 21, 423, 424, 20, 425, 79, 2, 80, 426, 427, 428, 429, 430, 431, 432, 433, 46, 434, 435, 436, 437, 41, 438, 439, 179, 440, 40, 441, 442, 443, 411, 412, 413, 414, 639, 640, 641, 642, 643, 662, 663, 664] (by decide +kernel) (by decide +kernel)
set_option maxRecDepth 20000 in
theorem gL_law_X6_unfold : GoodIn wsL_law (wsV RL 97 RX6 yX6_unfold wsX6_unfold) := goodIn_app (goodIn_of _ (by decide +kernel)) ggL_law_X6_unfold
set_option maxRecDepth 20000 in
theorem ggL_law_X7_unfold : GoodIn wsL_law wsX7_unfold := goodIn_r _ [447, 448, 449, 5, 450, 92, 93, 94, 451, 452, 453, 454, 66, 68, 67, 644, 645, 646, 647, 648, 649, 650, 651, 652, 653, 654, 655, 656, 657, 658, 659] (by decide +kernel) (by decide +kernel)
set_option maxRecDepth 20000 in
theorem gL_law_X7_unfold : GoodIn wsL_law (wsV RL 100 RX7 yX7_unfold wsX7_unfold) := goodIn_app (goodIn_of _ (by decide +kernel)) ggL_law_X7_unfold
set_option maxRecDepth 20000 in
theorem ggL_law_X6_unfolded : GoodIn wsL_law wsX6_unfolded := goodIn_r _ [458, 21, 423, 424, 20, 425, 79, 2, 80, 459, 460, 461, 462, 430, 431, 432, 433, 46, 434, 435, 436, 437, 41, 438, 439, 179, 440, 40, 441, 442, 443, 411, 412, 413, 414, 639, 640, 641, 642, 643, 662, 663, 664] (by decide +kernel) (by decide +kernel)
set_option maxRecDepth 20000 in
theorem gL_law_X6_unfolded : GoodIn wsL_law (wsV RL 101 RX6 yX6_unfolded wsX6_unfolded) := goodIn_app (goodIn_of _ (by decide +kernel)) ggL_law_X6_unfolded
set_option maxRecDepth 20000 in
theorem ggL_law_X7_unfolded : GoodIn wsL_law wsX7_unfolded := goodIn_r _ [466, 448, 449, 5, 450, 92, 93, 94, 451, 452, 453, 454, 66, 68, 67, 644, 645, 646, 647, 648, 649, 650, 651, 652, 653, 654, 655, 656, 657, 658, 659] (by decide +kernel) (by decide +kernel)
set_option maxRecDepth 20000 in
theorem gL_law_X7_unfolded : GoodIn wsL_law (wsV RL 105 RX7 yX7_unfolded wsX7_unfolded) := goodIn_app (goodIn_of _ (by decide +kernel)) ggL_law_X7_unfolded
set_option maxRecDepth 20000 in
theorem ggL_law_X6_common : GoodIn wsL_law wsX6_common := goodIn_r _ [470, 21, 471, 472, 473, 20, 474, 46, 40, 475, 2, 476, 639, 640, 641, 642, 643, 662, 663, 664] (by decide +kernel) (by decide +kernel)
set_option maxRecDepth 20000 in
theorem gL_law_X6_common : GoodIn wsL_law (wsV RL 106 RX6 yX6_common wsX6_common) := goodIn_app (goodIn_of _ (by decide +kernel)) ggL_law_X6_common
set_option maxRecDepth 20000 in
theorem ggL_law_X7_common : GoodIn wsL_law wsX7_common := goodIn_r _ [480, 66, 67, 481, 482, 5, 483, 644, 645, 646, 647, 648, 649, 650, 651, 652, 653, 654, 655, 656, 657, 658, 659] (by decide +kernel) (by decide +kernel)
set_option maxRecDepth 20000 in
theorem gL_law_X7_common : GoodIn wsL_law (wsV RL 110 RX7 yX7_common wsX7_common) := goodIn_app (goodIn_of _ (by decide +kernel)) ggL_law_X7_common
set_option maxRecDepth 20000 in
theorem ggL_law_X6_blind : GoodIn wsL_law wsX6_blind := goodIn_r _ [487, 21, 406, 381, 382, 383, 20, 384, 46, 79, 2, 80, 78, 488, 489, 490, 491, 40, 475, 476, 639, 640, 641, 642, 643, 662, 663, 664] (by decide +kernel) (by decide +kernel)
set_option maxRecDepth 20000 in
theorem gL_law_X6_blind : GoodIn wsL_law (wsV RL 111 RX6 yX6_blind wsX6_blind) := goodIn_app (goodIn_of _ (by decide +kernel)) ggL_law_X6_blind
set_option maxRecDepth 20000 in
theorem ggL_law_X7_blind : GoodIn wsL_law wsX7_blind := goodIn_r _ [495, 66, 67, 389, 390, 391, 5, 392, 92, 93, 94, 644, 645, 646, 647, 648, 649, 650, 651, 652, 653, 654, 655, 656, 657, 658, 659] (by decide +kernel) (by decide +kernel)
set_option maxRecDepth 20000 in
theorem gL_law_X7_blind : GoodIn wsL_law (wsV RL 114 RX7 yX7_blind wsX7_blind) := goodIn_app (goodIn_of _ (by decide +kernel)) ggL_law_X7_blind
set_option maxRecDepth 20000 in
theorem ggL_law_X6_put : GoodIn wsL_law wsX6_put := goodIn_r _ [499, 25, 500, 78, 79, 2, 80, 501, 502, 503, 24, 504, 51, 50, 639, 640, 641, 642, 643, 665, 666, 667] (by decide +kernel) (by decide +kernel)
set_option maxRecDepth 20000 in
theorem gL_law_X6_put : GoodIn wsL_law (wsV RL 115 RX6 yX6_put wsX6_put) := goodIn_app (goodIn_of _ (by decide +kernel)) ggL_law_X6_put
set_option maxRecDepth 20000 in
theorem ggL_law_X7_put : GoodIn wsL_law wsX7_put := goodIn_r _ [508, 509, 69, 92, 93, 5, 94, 644, 645, 646, 647, 648, 649, 650, 651, 652, 653, 654, 655, 656, 657, 658, 659] (by decide +kernel) (by decide +kernel)
set_option maxRecDepth 20000 in
theorem gL_law_X7_put : GoodIn wsL_law (wsV RL 118 RX7 yX7_put wsX7_put) := goodIn_app (goodIn_of _ (by decide +kernel)) ggL_law_X7_put
set_option maxRecDepth 20000 in
theorem ggL_law_X6_empty : GoodIn wsL_law wsX6_empty := goodIn_r _ [513, 25, 500, 639, 640, 641, 642, 643, 665, 666, 667] (by decide +kernel) (by decide +kernel)
set_option maxRecDepth 20000 in
theorem gL_law_X6_empty : GoodIn wsL_law (wsV RL 119 RX6 yX6_empty wsX6_empty) := goodIn_app (goodIn_of _ (by decide +kernel)) ggL_law_X6_empty
set_option maxRecDepth 20000 in
theorem ggL_law_X7_empty : GoodIn wsL_law wsX7_empty := goodIn_r _ [517, 509, 644, 645, 646, 647, 648, 649, 650, 651, 652, 653, 654, 655, 656, 657, 658, 659] (by decide +kernel) (by decide +kernel)
set_option maxRecDepth 20000 in
theorem gL_law_X7_empty : GoodIn wsL_law (wsV RL 122 RX7 yX7_empty wsX7_empty) := goodIn_app (goodIn_of _ (by decide +kernel)) ggL_law_X7_empty
set_option maxRecDepth 20000 in
theorem ggL_law_X6_found : GoodIn wsL_law wsX6_found := goodIn_r _ [521, 25, 500, 78, 79, 2, 80, 522, 523, 24, 524, 525, 526, 527, 528, 50, 52, 529, 530, 531, 532, 51, 533, 534, 535, 536, 639, 640, 641, 642, 643, 665, 666, 667] (by decide +kernel) (by decide +kernel)
set_option maxRecDepth 20000 in
theorem gL_law_X6_found : GoodIn wsL_law (wsV RL 123 RX6 yX6_found wsX6_found) := goodIn_app (goodIn_of _ (by decide +kernel)) ggL_law_X6_found
set_option maxRecDepth 20000 in
theorem ggL_law_X7_found : GoodIn wsL_law wsX7_found := goodIn_r _ [540, 509, 92, 93, 5, 94, 541, 542, 543, 544, 545, 546, 547, 69, 548, 549, 550, 551, 552, 553, 554, 555, 644, 645, 646, 647, 648, 649, 650, 651, 652, 653, 654, 655, 656, 657, 658, 659] (by decide +kernel) (by decide +kernel)
set_option maxRecDepth 20000 in
theorem gL_law_X7_found : GoodIn wsL_law (wsV RL 126 RX7 yX7_found wsX7_found) := goodIn_app (goodIn_of _ (by decide +kernel)) ggL_law_X7_found
set_option maxRecDepth 20000 in
theorem ggL_law_X6_count : GoodIn wsL_law wsX6_count := goodIn_r _ [559, 25, 522, 523, 24, 524, 79, 2, 80, 560, 561, 562, 563, 51, 564, 526, 527, 528, 50, 52, 529, 530, 531, 532, 533, 534, 535, 536, 639, 640, 641, 642, 643, 665, 666, 667] (by decide +kernel) (by decide +kernel)
set_option maxRecDepth 20000 in
theorem gL_law_X6_count : GoodIn wsL_law (wsV RL 127 RX6 yX6_count wsX6_count) := goodIn_app (goodIn_of _ (by decide +kernel)) ggL_law_X6_count
set_option maxRecDepth 20000 in
theorem ggL_law_X7_count : GoodIn wsL_law wsX7_count := goodIn_r _ [568, 509, 541, 542, 5, 543, 92, 93, 94, 544, 545, 546, 547, 69, 548, 549, 550, 551, 552, 553, 554, 555, 644, 645, 646, 647, 648, 649, 650, 651, 652, 653, 654, 655, 656, 657, 658, 659] (by decide +kernel) (by decide +kernel)
set_option maxRecDepth 20000 in
theorem gL_law_X7_count : GoodIn wsL_law (wsV RL 130 RX7 yX7_count wsX7_count) := goodIn_app (goodIn_of _ (by decide +kernel)) ggL_law_X7_count
set_option maxRecDepth 20000 in
theorem ggL_law_X6_share : GoodIn wsL_law wsX6_share := goodIn_r _ [572, 573, 574, 575, 576, 577, 79, 2, 80, 78, 145, 146, 147, 578, 579, 580, 581, 475, 476] (by decide +kernel) (by decide +kernel)
set_option maxRecDepth 20000 in
theorem gL_law_X6_share : GoodIn wsL_law (wsV RL 131 RX6 yX6_share wsX6_share) := goodIn_app (goodIn_of _ (by decide +kernel)) ggL_law_X6_share
set_option maxRecDepth 20000 in
theorem ggL_law_X7_share : GoodIn wsL_law wsX7_share := goodIn_r _ [585, 586, 587, 588, 92, 93, 5, 94, 589, 590, 591, 592, 481, 482, 483, 644, 645, 646, 647, 648, 649, 650, 651, 652, 653, 654, 655, 656, 657, 658, 659] (by decide +kernel) (by decide +kernel)
set_option maxRecDepth 20000 in
theorem gL_law_X7_share : GoodIn wsL_law (wsV RL 135 RX7 yX7_share wsX7_share) := goodIn_app (goodIn_of _ (by decide +kernel)) ggL_law_X7_share
set_option maxRecDepth 20000 in
theorem ggL_law_X6_scale : GoodIn wsL_law wsX6_scale := goodIn_r _ [596, 597, 574, 575, 576, 577, 79, 2, 80, 78, 598, 599, 600, 601, 579, 580] (by decide +kernel) (by decide +kernel)
set_option maxRecDepth 20000 in
theorem gL_law_X6_scale : GoodIn wsL_law (wsV RL 136 RX6 yX6_scale wsX6_scale) := goodIn_app (goodIn_of _ (by decide +kernel)) ggL_law_X6_scale
set_option maxRecDepth 20000 in
theorem ggL_law_X7_scale : GoodIn wsL_law wsX7_scale := goodIn_r _ [605, 606, 587, 588, 92, 93, 5, 94, 589, 590, 591, 592, 644, 645, 646, 647, 648, 649, 650, 651, 652, 653, 654, 655, 656, 657, 658, 659] (by decide +kernel) (by decide +kernel)
set_option maxRecDepth 20000 in
theorem gL_law_X7_scale : GoodIn wsL_law (wsV RL 139 RX7 yX7_scale wsX7_scale) := goodIn_app (goodIn_of _ (by decide +kernel)) ggL_law_X7_scale
set_option maxRecDepth 20000 in
theorem ggL_law_X6_told : GoodIn wsL_law wsX6_told := goodIn_r _ [610, 17, 288, 21, 406, 25, 500, 26, 639, 640, 641, 642, 643, 660, 661, 662, 663, 664, 665, 666, 667] (by decide +kernel) (by decide +kernel)
set_option maxRecDepth 20000 in
theorem gL_law_X6_told : GoodIn wsL_law (wsV RL 140 RX6 yX6_told wsX6_told) := goodIn_app (goodIn_of _ (by decide +kernel)) ggL_law_X6_told
set_option maxRecDepth 20000 in
theorem ggL_law_X7_told : GoodIn wsL_law wsX7_told := goodIn_r _ [614, 64, 66, 509, 255, 644, 645, 646, 647, 648, 649, 650, 651, 652, 653, 654, 655, 656, 657, 658, 659] (by decide +kernel) (by decide +kernel)
set_option maxRecDepth 20000 in
theorem gL_law_X7_told : GoodIn wsL_law (wsV RL 143 RX7 yX7_told wsX7_told) := goodIn_app (goodIn_of _ (by decide +kernel)) ggL_law_X7_told
set_option maxRecDepth 20000 in
theorem ggL_law_X6_digest : GoodIn wsL_law wsX6_digest := goodIn_r _ [618, 619, 13, 120, 99, 17, 288, 289, 21, 406, 379, 380, 25, 620, 500, 26, 621, 622, 2, 623, 624, 625, 626, 627, 639, 640, 641, 642, 643, 668, 669, 660, 661, 662, 663, 664, 665, 666, 667] (by decide +kernel) (by decide +kernel)
set_option maxRecDepth 20000 in
theorem gL_law_X6_digest : GoodIn wsL_law (wsV RL 144 RX6 yX6_digest wsX6_digest) := goodIn_app (goodIn_of _ (by decide +kernel)) ggL_law_X6_digest
set_option maxRecDepth 20000 in
theorem ggL_law_X7_digest : GoodIn wsL_law wsX7_digest := goodIn_r _ [631, 632, 633, 62, 63, 64, 65, 66, 67, 68, 509, 69, 255, 634, 635, 636, 5, 637, 638, 644, 645, 646, 647, 648, 649, 650, 651, 652, 653, 654, 655, 656, 657, 658, 659] (by decide +kernel) (by decide +kernel)
set_option maxRecDepth 20000 in
theorem gL_law_X7_digest : GoodIn wsL_law (wsV RL 148 RX7 yX7_digest wsX7_digest) := goodIn_app (goodIn_of _ (by decide +kernel)) ggL_law_X7_digest
