theorem wsL_law_in : ∀ w ∈ wsL_law, w ∈ lw_tbl := fun w h => by
  unfold wsL_law at h
  rw [List.append_nil] at h
  refine (List.mem_append.mp h).elim (fun h => ?_) (fun h => inX4 w h)
  refine (List.mem_append.mp h).elim (fun h => ?_) (fun h => inX3 w h)
  refine (List.mem_append.mp h).elim (fun h => ?_) (fun h => inX6 w h)
  refine (List.mem_append.mp h).elim (fun h => ?_) (fun h => inX7 w h)
  refine (List.mem_append.mp h).elim (fun h => ?_) (fun h => inX5 w h)
  refine (List.mem_append.mp h).elim (fun h => ?_) (fun h => inX2 w h)
  refine (List.mem_append.mp h).elim (fun h => ?_) (fun h => inX1 w h)
  refine (List.mem_append.mp h).elim (fun h => ?_) (fun h => inX0 w h)
  refine (List.mem_append.mp h).elim (fun h => ?_) (fun h => inX9 w h)
  refine (List.mem_append.mp h).elim (fun h => ?_) (fun h => inX8 w h)
  refine (List.mem_append.mp h).elim (fun h => (wsL_g1 w h).1) (fun h => ?_)
  refine (List.mem_append.mp h).elim (fun h => (wsL_g2 w h).1) (fun h => ?_)
  refine (List.mem_append.mp h).elim (fun h => (wsL_g3 w h).1) (fun h => ?_)
  refine (List.mem_append.mp h).elim (fun h => (wsL_g4 w h).1) (fun h => ?_)
  refine (List.mem_append.mp h).elim (fun h => (wsL_g5 w h).1) (fun h => ?_)
  refine (List.mem_append.mp h).elim (fun h => (wsL_g6 w h).1) (fun h => ?_)
  refine (List.mem_append.mp h).elim (fun h => (wsL_g7 w h).1) (fun h => ?_)
  refine (List.mem_append.mp h).elim (fun h => (wsL_g8 w h).1) (fun h => ?_)
  refine (List.mem_append.mp h).elim (fun h => (wsL_g9 w h).1) (fun h => ?_)
  refine (List.mem_append.mp h).elim (fun h => (wsL_g10 w h).1) (fun h => ?_)
  refine (List.mem_append.mp h).elim (fun h => (wsL_g11 w h).1) (fun h => ?_)
  refine (List.mem_append.mp h).elim (fun h => (wsL_g12 w h).1) (fun h => ?_)
  refine (List.mem_append.mp h).elim (fun h => (wsL_g13 w h).1) (fun h => ?_)
  refine (List.mem_append.mp h).elim (fun h => (wsL_g14 w h).1) (fun h => ?_)
  refine (List.mem_append.mp h).elim (fun h => (wsL_g15 w h).1) (fun h => ?_)
  refine (List.mem_append.mp h).elim (fun h => (wsL_g16 w h).1) (fun h => ?_)
  refine (List.mem_append.mp h).elim (fun h => (wsL_g17 w h).1) (fun h => ?_)
  refine (List.mem_append.mp h).elim (fun h => (wsL_g18 w h).1) (fun h => ?_)
  refine (List.mem_append.mp h).elim (fun h => (wsL_g19 w h).1) (fun h => ?_)
  refine (List.mem_append.mp h).elim (fun h => (wsL_g20 w h).1) (fun h => ?_)
  refine (List.mem_append.mp h).elim (fun h => (wsL_g21 w h).1) (fun h => ?_)
  refine (List.mem_append.mp h).elim (fun h => (wsL_g22 w h).1) (fun h => ?_)
  refine (List.mem_append.mp h).elim (fun h => (wsL_g23 w h).1) (fun h => ?_)
  refine (List.mem_append.mp h).elim (fun h => (wsL_g24 w h).1) (fun h => ?_)
  refine (List.mem_append.mp h).elim (fun h => (wsL_g25 w h).1) (fun h => ?_)
  refine (List.mem_append.mp h).elim (fun h => (wsL_g26 w h).1) (fun h => ?_)
  refine (List.mem_append.mp h).elim (fun h => (wsL_g27 w h).1) (fun h => ?_)
  refine (List.mem_append.mp h).elim (fun h => (wsL_g28 w h).1) (fun h => ?_)
  refine (List.mem_append.mp h).elim (fun h => (wsL_g29 w h).1) (fun h => ?_)
  refine (List.mem_append.mp h).elim (fun h => (wsL_g30 w h).1) (fun h => ?_)
  refine (List.mem_append.mp h).elim (fun h => (wsL_g31 w h).1) (fun h => ?_)
  exact (wsL_g32 w h).1
theorem inlX0 : ∀ w ∈ wsX00, w ∈ wsL_law := fun _ h => List.mem_append_left _ (List.mem_append_left _ (List.mem_append_left _ (List.mem_append_left _ (List.mem_append_left _ (List.mem_append_left _ (List.mem_append_left _ (List.mem_append_left _ (List.mem_append_right _ h))))))))
theorem inlX1 : ∀ w ∈ wsX10, w ∈ wsL_law := fun _ h => List.mem_append_left _ (List.mem_append_left _ (List.mem_append_left _ (List.mem_append_left _ (List.mem_append_left _ (List.mem_append_left _ (List.mem_append_left _ (List.mem_append_right _ h)))))))
theorem inlX2 : ∀ w ∈ wsX20, w ∈ wsL_law := fun _ h => List.mem_append_left _ (List.mem_append_left _ (List.mem_append_left _ (List.mem_append_left _ (List.mem_append_left _ (List.mem_append_left _ (List.mem_append_right _ h))))))
theorem inlX3 : ∀ w ∈ wsX30, w ∈ wsL_law := fun _ h => List.mem_append_left _ (List.mem_append_left _ (List.mem_append_right _ h))
theorem inlX4 : ∀ w ∈ wsX40, w ∈ wsL_law := fun _ h => List.mem_append_left _ (List.mem_append_right _ h)
theorem inlX5 : ∀ w ∈ wsX50, w ∈ wsL_law := fun _ h => List.mem_append_left _ (List.mem_append_left _ (List.mem_append_left _ (List.mem_append_left _ (List.mem_append_left _ (List.mem_append_right _ h)))))
theorem inlX6 : ∀ w ∈ wsX60, w ∈ wsL_law := fun _ h => List.mem_append_left _ (List.mem_append_left _ (List.mem_append_left _ (List.mem_append_right _ h)))
theorem inlX7 : ∀ w ∈ wsX70, w ∈ wsL_law := fun _ h => List.mem_append_left _ (List.mem_append_left _ (List.mem_append_left _ (List.mem_append_left _ (List.mem_append_right _ h))))
theorem inlX8 : ∀ w ∈ wsX80, w ∈ wsL_law := fun _ h => List.mem_append_left _ (List.mem_append_left _ (List.mem_append_left _ (List.mem_append_left _ (List.mem_append_left _ (List.mem_append_left _ (List.mem_append_left _ (List.mem_append_left _ (List.mem_append_left _ (List.mem_append_left _ (List.mem_append_right _ h))))))))))
theorem inlX9 : ∀ w ∈ wsX90, w ∈ wsL_law := fun _ h => List.mem_append_left _ (List.mem_append_left _ (List.mem_append_left _ (List.mem_append_left _ (List.mem_append_left _ (List.mem_append_left _ (List.mem_append_left _ (List.mem_append_left _ (List.mem_append_left _ (List.mem_append_right _ h)))))))))
set_option maxRecDepth 20000 in
theorem ggL_law_X8_init : GoodIn wsL_law wsX8_init := goodIn_r _ [9, 10, 11, 12, 13, 14, 15, 16, 17, 18, 19, 20, 21, 22, 23, 24, 25, 26, 27, 28, 29, 30, 31, 32, 33, 34, 35, 36, 37, 38, 39, 40, 41, 42, 43, 44, 45, 46, 47, 48, 49, 50, 51, 52, 53, 54, 55, 56, 57, 58, 59, 60, 61, 62, 63, 64, 65, 66, 67, 68, 69, 70, 71, 72, 73, 74, 75, 76, 77, 78, 79, 80, 81, 82, 83, 84, 85, 86, 87, 88, 89, 90, 91, 92, 93, 94, 95, 96, 97, 98, 99, 100, 101, 102, 103, 104, 105, 106, 107, 108, 109, 110, 111, 112, 113, 114, 115, 116, 117, 118, 119, 120, 121, 122, 763, 764, 765, 766, 767, 768, 769, 770, 771, 772, 773, 774, 775, 776, 777, 778, 800, 801, 802, 803, 804, 805, 806, 807, 808, 809, 810, 811, 812, 813, 814, 815, 816, 817, 818, 819, 820, 821, 822, 823, 824, 825, 826, 827, 828, 829, 830] (by decide +kernel) (by decide +kernel)
set_option maxRecDepth 20000 in
theorem gL_law_X8_init : GoodIn wsL_law (wsX8_init) := ggL_law_X8_init
set_option maxRecDepth 20000 in
theorem ggL_law_X9_init : GoodIn wsL_law wsX9_init := goodIn_r _ [125, 126, 11, 12, 26, 127, 128, 129, 130, 131, 113, 132, 133, 134, 135, 136, 137, 138, 779, 780, 781, 782, 783, 784, 785, 786, 787, 788, 789, 790, 791, 792, 793, 794, 795, 796, 797, 798, 799] (by decide +kernel) (by decide +kernel)
set_option maxRecDepth 20000 in
theorem gL_law_X9_init : GoodIn wsL_law (wsX9_init) := ggL_law_X9_init
set_option maxRecDepth 20000 in
theorem ggL_law_X8_number : GoodIn wsL_law wsX8_number := goodIn_r _ [142, 143, 144, 145, 14, 146, 147, 2, 148, 149, 150, 151, 152, 153, 154, 155, 16, 156, 157, 57, 158, 159, 160, 763, 764, 765, 766, 767, 768, 769, 770, 771, 772, 773, 774, 775, 776, 777, 778, 800] (by decide +kernel) (by decide +kernel)
set_option maxRecDepth 20000 in
theorem gL_law_X8_number : GoodIn wsL_law (wsV RL 13 RX8 yX8_number wsX8_number) := goodIn_app (goodIn_of _ (by decide +kernel)) ggL_law_X8_number
set_option maxRecDepth 20000 in
theorem ggL_law_X9_number : GoodIn wsL_law wsX9_number := goodIn_r _ [164, 165, 166, 127, 167, 168, 5, 169, 170, 171, 172, 173, 174, 175, 176, 177, 178, 179, 180, 181, 779, 780, 781, 782, 783, 784, 785, 786, 787, 788, 789, 790, 791, 792, 793, 794, 795, 796, 797, 798, 799] (by decide +kernel) (by decide +kernel)
set_option maxRecDepth 20000 in
theorem gL_law_X9_number : GoodIn wsL_law (wsV RL 17 RX9 yX9_number wsX9_number) := goodIn_app (goodIn_of _ (by decide +kernel)) ggL_law_X9_number
set_option maxRecDepth 20000 in
theorem ggL_law_X8_has : GoodIn wsL_law wsX8_has := goodIn_r _ [185, 14, 145, 146, 147, 2, 148, 149, 150, 151, 152, 153, 154, 155, 16, 156, 157, 57, 763, 764, 765, 766, 767, 768, 769, 770, 771, 772, 773, 774, 775, 776, 777, 778, 800] (by decide +kernel) (by decide +kernel)
set_option maxRecDepth 20000 in
theorem gL_law_X8_has : GoodIn wsL_law (wsV RL 18 RX8 yX8_has wsX8_has) := goodIn_app (goodIn_of _ (by decide +kernel)) ggL_law_X8_has
set_option maxRecDepth 20000 in
theorem ggL_law_X9_has : GoodIn wsL_law wsX9_has := goodIn_r _ [189, 165, 127, 166, 167, 168, 5, 169, 170, 171, 172, 173, 174, 175, 779, 780, 781, 782, 783, 784, 785, 786, 787, 788, 789, 790, 791, 792, 793, 794, 795, 796, 797, 798, 799] (by decide +kernel) (by decide +kernel)
set_option maxRecDepth 20000 in
theorem gL_law_X9_has : GoodIn wsL_law (wsV RL 22 RX9 yX9_has wsX9_has) := goodIn_app (goodIn_of _ (by decide +kernel)) ggL_law_X9_has
set_option maxRecDepth 20000 in
theorem ggL_law_X8_sign : GoodIn wsL_law wsX8_sign := goodIn_r _ [193, 194, 14, 146, 147, 2, 148, 149, 150, 151, 195, 196, 197, 198, 199, 200, 201, 16, 202, 203, 204, 57, 205, 206, 207, 208, 209, 210, 211, 212, 213, 214, 763, 764, 765, 766, 767, 768, 769, 770, 771, 772, 773, 774, 775, 776, 777, 778, 800] (by decide +kernel) (by decide +kernel)
set_option maxRecDepth 20000 in
theorem gL_law_X8_sign : GoodIn wsL_law (wsV RL 23 RX8 yX8_sign wsX8_sign) := goodIn_app (goodIn_of _ (by decide +kernel)) ggL_law_X8_sign
set_option maxRecDepth 20000 in
theorem ggL_law_X9_sign : GoodIn wsL_law wsX9_sign := goodIn_r _ [218, 165, 219, 220, 221, 5, 222, 167, 168, 169, 170, 171, 172, 223, 224, 225, 226, 128, 127, 227, 228, 229, 230, 231, 232, 779, 780, 781, 782, 783, 784, 785, 786, 787, 788, 789, 790, 791, 792, 793, 794, 795, 796, 797, 798, 799] (by decide +kernel) (by decide +kernel)
set_option maxRecDepth 20000 in
theorem gL_law_X9_sign : GoodIn wsL_law (wsV RL 27 RX9 yX9_sign wsX9_sign) := goodIn_app (goodIn_of _ (by decide +kernel)) ggL_law_X9_sign
set_option maxRecDepth 20000 in
theorem ggL_law_X8_stays : GoodIn wsL_law wsX8_stays := goodIn_r _ [236, 14, 146, 147, 2, 148, 149, 150, 151, 195, 196, 197, 198, 199, 200, 237, 16, 238, 239, 204, 57, 240, 212, 213, 214, 208, 241, 205, 206, 207, 242, 209, 210, 211, 243, 201, 202, 203, 763, 764, 765, 766, 767, 768, 769, 770, 771, 772, 773, 774, 775, 776, 777, 778, 800] (by decide +kernel) (by decide +kernel)
set_option maxRecDepth 20000 in
theorem gL_law_X8_stays : GoodIn wsL_law (wsV RL 28 RX8 yX8_stays wsX8_stays) := goodIn_app (goodIn_of _ (by decide +kernel)) ggL_law_X8_stays
set_option maxRecDepth 20000 in
theorem ggL_law_X9_stays : GoodIn wsL_law wsX9_stays := goodIn_r _ [247, 165, 220, 221, 5, 222, 167, 168, 169, 170, 171, 172, 223, 224, 225, 226, 128, 127, 248, 249, 250, 251, 231, 227, 228, 229, 230, 232, 779, 780, 781, 782, 783, 784, 785, 786, 787, 788, 789, 790, 791, 792, 793, 794, 795, 796, 797, 798, 799] (by decide +kernel) (by decide +kernel)
set_option maxRecDepth 20000 in
theorem gL_law_X9_stays : GoodIn wsL_law (wsV RL 32 RX9 yX9_stays wsX9_stays) := goodIn_app (goodIn_of _ (by decide +kernel)) ggL_law_X9_stays
set_option maxRecDepth 20000 in
theorem ggL_law_X8_range : GoodIn wsL_law wsX8_range := goodIn_r _ [255, 14, 256, 146, 147, 2, 148, 149, 150, 151, 257, 16, 258, 259, 57, 243, 201, 202, 203, 204, 240, 212, 213, 214, 208, 260, 237, 238, 239, 241, 205, 206, 207, 242, 209, 210, 211, 763, 764, 765, 766, 767, 768, 769, 770, 771, 772, 773, 774, 775, 776, 777, 778, 800] (by decide +kernel) (by decide +kernel)
set_option maxRecDepth 20000 in
theorem gL_law_X8_range : GoodIn wsL_law (wsV RL 33 RX8 yX8_range wsX8_range) := goodIn_app (goodIn_of _ (by decide +kernel)) ggL_law_X8_range
set_option maxRecDepth 20000 in
theorem ggL_law_X9_range : GoodIn wsL_law wsX9_range := goodIn_r _ [264, 165, 265, 167, 168, 5, 169, 170, 171, 172, 223, 224, 225, 226, 128, 127, 266, 267, 268, 269, 248, 249, 250, 251, 231, 227, 228, 229, 230, 232, 779, 780, 781, 782, 783, 784, 785, 786, 787, 788, 789, 790, 791, 792, 793, 794, 795, 796, 797, 798, 799] (by decide +kernel) (by decide +kernel)
set_option maxRecDepth 20000 in
theorem gL_law_X9_range : GoodIn wsL_law (wsV RL 37 RX9 yX9_range wsX9_range) := goodIn_app (goodIn_of _ (by decide +kernel)) ggL_law_X9_range
set_option maxRecDepth 20000 in
theorem ggL_law_X8_without : GoodIn wsL_law wsX8_without := goodIn_r _ [273, 256, 14, 146, 147, 2, 148, 149, 150, 151, 274, 275, 276, 277, 278, 279, 280, 17, 281, 16, 282, 283, 57, 58, 59, 60, 61, 158, 159, 160, 153, 154, 257, 258, 259, 243, 201, 202, 203, 204, 240, 212, 213, 214, 208, 260, 237, 238, 239, 241, 205, 206, 207, 242, 209, 210, 211, 763, 764, 765, 766, 767, 768, 769, 770, 771, 772, 773, 774, 775, 776, 777, 778, 800] (by decide +kernel) (by decide +kernel)
set_option maxRecDepth 20000 in
theorem gL_law_X8_without : GoodIn wsL_law (wsV RL 38 RX8 yX8_without wsX8_without) := goodIn_app (goodIn_of _ (by decide +kernel)) ggL_law_X8_without
set_option maxRecDepth 20000 in
theorem ggL_law_X9_without : GoodIn wsL_law wsX9_without := goodIn_r _ [287, 165, 265, 167, 168, 5, 169, 170, 171, 172, 288, 289, 290, 291, 128, 223, 224, 225, 226, 127, 266, 267, 268, 269, 248, 249, 250, 251, 231, 227, 228, 229, 230, 232, 779, 780, 781, 782, 783, 784, 785, 786, 787, 788, 789, 790, 791, 792, 793, 794, 795, 796, 797, 798, 799] (by decide +kernel) (by decide +kernel)
set_option maxRecDepth 20000 in
theorem gL_law_X9_without : GoodIn wsL_law (wsV RL 42 RX9 yX9_without wsX9_without) := goodIn_app (goodIn_of _ (by decide +kernel)) ggL_law_X9_without
set_option maxRecDepth 20000 in
theorem ggL_law_X8_reason : GoodIn wsL_law wsX8_reason := goodIn_r _ [295, 145, 14, 21, 146, 147, 2, 148, 149, 150, 151, 274, 275, 276, 257, 16, 258, 259, 57, 243, 201, 202, 203, 204, 240, 212, 213, 214, 208, 260, 237, 238, 239, 241, 205, 206, 207, 242, 209, 210, 211, 277, 278, 279, 280, 17, 281, 282, 283, 58, 59, 60, 61, 158, 159, 160, 153, 154, 296, 20, 297, 298, 299, 300, 301, 302, 66, 303, 304, 305, 306, 307, 308, 309, 310, 311, 312, 155, 156, 157, 313, 314, 315, 763, 764, 765, 766, 767, 768, 769, 770, 771, 772, 773, 774, 775, 776, 777, 778, 800, 801] (by decide +kernel) (by decide +kernel)
set_option maxRecDepth 20000 in
theorem gL_law_X8_reason : GoodIn wsL_law (wsV RL 43 RX8 yX8_reason wsX8_reason) := goodIn_app (goodIn_of _ (by decide +kernel)) ggL_law_X8_reason
set_option maxRecDepth 20000 in
theorem ggL_law_X9_reason : GoodIn wsL_law wsX9_reason := goodIn_r _ [319, 165, 166, 138, 167, 168, 5, 169, 170, 171, 172, 223, 224, 225, 226, 128, 127, 266, 267, 268, 269, 248, 249, 250, 251, 231, 227, 228, 229, 230, 232, 288, 289, 290, 291, 320, 321, 322, 323, 324, 176, 177, 178, 179, 180, 181, 779, 780, 781, 782, 783, 784, 785, 786, 787, 788, 789, 790, 791, 792, 793, 794, 795, 796, 797, 798, 799] (by decide +kernel) (by decide +kernel)
set_option maxRecDepth 20000 in
theorem gL_law_X9_reason : GoodIn wsL_law (wsV RL 46 RX9 yX9_reason wsX9_reason) := goodIn_app (goodIn_of _ (by decide +kernel)) ggL_law_X9_reason
set_option maxRecDepth 20000 in
theorem ggL_law_X8_moves : GoodIn wsL_law wsX8_moves := goodIn_r _ [328, 145, 14, 143, 144, 146, 147, 2, 148, 149, 150, 151, 152, 153, 154, 329, 330, 331, 155, 16, 156, 157, 57, 277, 278, 279, 280, 17, 281, 282, 283, 58, 59, 60, 61, 158, 159, 160, 257, 258, 259, 243, 201, 202, 203, 204, 240, 212, 213, 214, 208, 260, 237, 238, 239, 241, 205, 206, 207, 242, 209, 210, 211, 332, 333, 334, 335, 336, 337, 338, 339, 340, 341, 342, 343, 763, 764, 765, 766, 767, 768, 769, 770, 771, 772, 773, 774, 775, 776, 777, 778, 800] (by decide +kernel) (by decide +kernel)
set_option maxRecDepth 20000 in
theorem gL_law_X8_moves : GoodIn wsL_law (wsV RL 47 RX8 yX8_moves wsX8_moves) := goodIn_app (goodIn_of _ (by decide +kernel)) ggL_law_X8_moves
set_option maxRecDepth 20000 in
theorem ggL_law_X9_moves : GoodIn wsL_law wsX9_moves := goodIn_r _ [347, 165, 166, 128, 167, 168, 5, 169, 170, 171, 172, 173, 174, 175, 223, 224, 225, 226, 127, 348, 349, 350, 351, 248, 249, 250, 251, 231, 227, 228, 229, 230, 232, 176, 177, 178, 179, 180, 181, 779, 780, 781, 782, 783, 784, 785, 786, 787, 788, 789, 790, 791, 792, 793, 794, 795, 796, 797, 798, 799] (by decide +kernel) (by decide +kernel)
set_option maxRecDepth 20000 in
theorem gL_law_X9_moves : GoodIn wsL_law (wsV RL 50 RX9 yX9_moves wsX9_moves) := goodIn_app (goodIn_of _ (by decide +kernel)) ggL_law_X9_moves
set_option maxRecDepth 20000 in
theorem ggL_law_X8_grid : GoodIn wsL_law wsX8_grid := goodIn_r _ [355, 145, 17, 14, 143, 144, 146, 147, 2, 148, 149, 150, 151, 152, 153, 154, 281, 16, 282, 283, 57, 58, 59, 60, 61, 158, 159, 160, 257, 258, 259, 243, 201, 202, 203, 204, 240, 212, 213, 214, 208, 260, 237, 238, 239, 241, 205, 206, 207, 242, 209, 210, 211, 763, 764, 765, 766, 767, 768, 769, 770, 771, 772, 773, 774, 775, 776, 777, 778, 800] (by decide +kernel) (by decide +kernel)
set_option maxRecDepth 20000 in
theorem gL_law_X8_grid : GoodIn wsL_law (wsV RL 51 RX8 yX8_grid wsX8_grid) := goodIn_app (goodIn_of _ (by decide +kernel)) ggL_law_X8_grid
set_option maxRecDepth 20000 in
theorem ggL_law_X9_grid : GoodIn wsL_law wsX9_grid := goodIn_r _ [359, 165, 166, 128, 167, 168, 5, 169, 170, 171, 172, 173, 174, 175, 223, 224, 225, 226, 127, 179, 180, 181, 266, 267, 268, 269, 248, 249, 250, 251, 231, 227, 228, 229, 230, 232, 779, 780, 781, 782, 783, 784, 785, 786, 787, 788, 789, 790, 791, 792, 793, 794, 795, 796, 797, 798, 799] (by decide +kernel) (by decide +kernel)
set_option maxRecDepth 20000 in
theorem gL_law_X9_grid : GoodIn wsL_law (wsV RL 54 RX9 yX9_grid wsX9_grid) := goodIn_app (goodIn_of _ (by decide +kernel)) ggL_law_X9_grid
set_option maxRecDepth 20000 in
theorem ggL_law_X8_least : GoodIn wsL_law wsX8_least := goodIn_r _ [363, 145, 14, 146, 147, 2, 148, 149, 150, 151, 195, 196, 197, 198, 199, 200, 237, 16, 238, 239, 204, 57, 240, 212, 213, 214, 208, 241, 205, 206, 207, 242, 209, 210, 211, 243, 201, 202, 203, 763, 764, 765, 766, 767, 768, 769, 770, 771, 772, 773, 774, 775, 776, 777, 778, 800] (by decide +kernel) (by decide +kernel)
set_option maxRecDepth 20000 in
theorem gL_law_X8_least : GoodIn wsL_law (wsV RL 55 RX8 yX8_least wsX8_least) := goodIn_app (goodIn_of _ (by decide +kernel)) ggL_law_X8_least
set_option maxRecDepth 20000 in
theorem ggL_law_X9_least : GoodIn wsL_law wsX9_least := goodIn_r _ [367, 165, 166, 220, 221, 5, 222, 167, 168, 169, 170, 171, 172, 223, 224, 225, 226, 128, 127, 248, 249, 250, 251, 231, 227, 228, 229, 230, 232, 779, 780, 781, 782, 783, 784, 785, 786, 787, 788, 789, 790, 791, 792, 793, 794, 795, 796, 797, 798, 799] (by decide +kernel) (by decide +kernel)
set_option maxRecDepth 20000 in
theorem gL_law_X9_least : GoodIn wsL_law (wsV RL 58 RX9 yX9_least wsX9_least) := goodIn_app (goodIn_of _ (by decide +kernel)) ggL_law_X9_least
set_option maxRecDepth 20000 in
theorem ggL_law_X8_spread : GoodIn wsL_law wsX8_spread := goodIn_r _ [371, 25, 14, 146, 147, 2, 148, 149, 150, 151, 372, 24, 373, 374, 72, 73, 71, 375, 376, 377, 378, 155, 16, 156, 157, 57, 153, 154, 158, 159, 160, 339, 340, 341, 342, 257, 258, 259, 243, 201, 202, 203, 204, 240, 212, 213, 214, 208, 260, 237, 238, 239, 241, 205, 206, 207, 242, 209, 210, 211, 343, 333, 334, 335, 336, 337, 338, 379, 380, 381, 382, 304, 305, 306, 383, 308, 309, 763, 764, 765, 766, 767, 768, 769, 770, 771, 772, 773, 774, 775, 776, 777, 778, 802, 803, 804, 800] (by decide +kernel) (by decide +kernel)
set_option maxRecDepth 20000 in
theorem gL_law_X8_spread : GoodIn wsL_law (wsV RL 59 RX8 yX8_spread wsX8_spread) := goodIn_app (goodIn_of _ (by decide +kernel)) ggL_law_X8_spread
set_option maxRecDepth 20000 in
theorem ggL_law_X9_spread : GoodIn wsL_law wsX9_spread := goodIn_r _ [387, 165, 167, 168, 5, 169, 170, 171, 172, 388, 389, 390, 391, 128, 127, 137, 176, 177, 178, 179, 180, 181, 348, 349, 350, 351, 248, 249, 250, 251, 231, 227, 228, 229, 230, 232, 392, 393, 394, 395, 779, 780, 781, 782, 783, 784, 785, 786, 787, 788, 789, 790, 791, 792, 793, 794, 795, 796, 797, 798, 799] (by decide +kernel) (by decide +kernel)
set_option maxRecDepth 20000 in
theorem gL_law_X9_spread : GoodIn wsL_law (wsV RL 62 RX9 yX9_spread wsX9_spread) := goodIn_app (goodIn_of _ (by decide +kernel)) ggL_law_X9_spread
set_option maxRecDepth 20000 in
theorem ggL_law_X8_fewest : GoodIn wsL_law wsX8_fewest := goodIn_r _ [399, 25, 14, 146, 147, 2, 148, 149, 150, 151, 329, 330, 331, 372, 24, 373, 374, 72, 73, 71, 375, 376, 377, 378, 155, 16, 156, 157, 57, 153, 154, 158, 159, 160, 339, 340, 341, 342, 257, 258, 259, 243, 201, 202, 203, 204, 240, 212, 213, 214, 208, 260, 237, 238, 239, 241, 205, 206, 207, 242, 209, 210, 211, 343, 333, 334, 335, 336, 337, 338, 400, 401, 402, 403, 404, 405, 406, 407, 408, 409, 410, 379, 380, 381, 382, 304, 305, 306, 383, 308, 309, 411, 763, 764, 765, 766, 767, 768, 769, 770, 771, 772, 773, 774, 775, 776, 777, 778, 802, 803, 804, 800] (by decide +kernel) (by decide +kernel)
set_option maxRecDepth 20000 in
theorem gL_law_X8_fewest : GoodIn wsL_law (wsV RL 63 RX8 yX8_fewest wsX8_fewest) := goodIn_app (goodIn_of _ (by decide +kernel)) ggL_law_X8_fewest
set_option maxRecDepth 20000 in
theorem ggL_law_X9_fewest : GoodIn wsL_law wsX9_fewest := goodIn_r _ [415, 165, 167, 168, 5, 169, 170, 171, 172, 388, 389, 390, 391, 128, 127, 137, 176, 177, 178, 179, 180, 181, 348, 349, 350, 351, 248, 249, 250, 251, 231, 227, 228, 229, 230, 232, 416, 417, 418, 392, 393, 394, 395, 779, 780, 781, 782, 783, 784, 785, 786, 787, 788, 789, 790, 791, 792, 793, 794, 795, 796, 797, 798, 799] (by decide +kernel) (by decide +kernel)
set_option maxRecDepth 20000 in
theorem gL_law_X9_fewest : GoodIn wsL_law (wsV RL 66 RX9 yX9_fewest wsX9_fewest) := goodIn_app (goodIn_of _ (by decide +kernel)) ggL_law_X9_fewest
set_option maxRecDepth 20000 in
theorem ggL_law_X8_type : GoodIn wsL_law wsX8_type := goodIn_r _ [422, 28, 27, 149, 150, 2, 151, 763, 764, 765, 766, 767, 768, 769, 770, 771, 772, 773, 774, 775, 776, 777, 778] (by decide +kernel) (by decide +kernel)
set_option maxRecDepth 20000 in
theorem gL_law_X8_type : GoodIn wsL_law (wsV RL 69 RX8 yX8_type wsX8_type) := goodIn_app (goodIn_of _ (by decide +kernel)) ggL_law_X8_type
set_option maxRecDepth 20000 in
theorem ggL_law_X9_type : GoodIn wsL_law wsX9_type := goodIn_r _ [426, 165, 427, 136, 428, 170, 171, 5, 172, 779, 780, 781, 782, 783, 784, 785, 786, 787, 788, 789, 790, 791, 792, 793, 794, 795, 796, 797, 798, 799] (by decide +kernel) (by decide +kernel)
set_option maxRecDepth 20000 in
theorem gL_law_X9_type : GoodIn wsL_law (wsV RL 73 RX9 yX9_type wsX9_type) := goodIn_app (goodIn_of _ (by decide +kernel)) ggL_law_X9_type
set_option maxRecDepth 20000 in
theorem ggL_law_X8_clear : GoodIn wsL_law wsX8_clear := goodIn_r _ [432, 28, 763, 764, 765, 766, 767, 768, 769, 770, 771, 772, 773, 774, 775, 776, 777, 778] (by decide +kernel) (by decide +kernel)
set_option maxRecDepth 20000 in
theorem gL_law_X8_clear : GoodIn wsL_law (wsV RL 74 RX8 yX8_clear wsX8_clear) := goodIn_app (goodIn_of _ (by decide +kernel)) ggL_law_X8_clear
set_option maxRecDepth 20000 in
theorem ggL_law_X9_clear : GoodIn wsL_law wsX9_clear := goodIn_r _ [436, 165, 427, 779, 780, 781, 782, 783, 784, 785, 786, 787, 788, 789, 790, 791, 792, 793, 794, 795, 796, 797, 798, 799] (by decide +kernel) (by decide +kernel)
set_option maxRecDepth 20000 in
theorem gL_law_X9_clear : GoodIn wsL_law (wsV RL 78 RX9 yX9_clear wsX9_clear) := goodIn_app (goodIn_of _ (by decide +kernel)) ggL_law_X9_clear
set_option maxRecDepth 20000 in
theorem ggL_law_X8_rider : GoodIn wsL_law wsX8_rider := goodIn_r _ [440, 32, 27, 28, 36, 37, 441, 31, 442, 443, 80, 444, 304, 305, 306, 81, 82, 84, 83, 445, 35, 446, 447, 91, 89, 92, 59, 60, 61, 90, 448, 449, 450, 451, 452, 453, 454, 150, 2, 151, 455, 456, 457, 458, 85, 459, 460, 461, 462, 463, 464, 465, 466, 467, 468, 469, 470, 471, 472, 473, 474, 475, 476, 477, 478, 479, 480, 481, 482, 483, 484, 485, 486, 487, 488, 489, 490, 491, 492, 493, 494, 495, 496, 497, 498, 499, 500, 501, 502, 503, 504, 505, 506, 507, 508, 509, 510, 511, 512, 513, 514, 515, 516, 517, 518, 519, 520, 521, 522, 523, 524, 525, 526, 527, 404, 405, 406, 407, 408, 409, 763, 764, 765, 766, 767, 768, 769, 770, 771, 772, 773, 774, 775, 776, 777, 778, 805, 806, 807, 808, 809, 810, 811, 812] (by decide +kernel) (by decide +kernel)
set_option maxRecDepth 20000 in
theorem gL_law_X8_rider : GoodIn wsL_law (wsV RL 79 RX8 yX8_rider wsX8_rider) := goodIn_app (goodIn_of _ (by decide +kernel)) ggL_law_X8_rider
set_option maxRecDepth 20000 in
theorem ggL_law_X9_rider : GoodIn wsL_law wsX9_rider := goodIn_r _ [531, 165, 532, 533, 133, 534, 535, 536, 427, 537, 538, 539, 5, 540, 541, 542, 543, 544, 545, 546, 136, 170, 171, 172, 547, 548, 549, 550, 551, 552, 553, 554, 555, 556, 557, 558, 559, 560, 561, 779, 780, 781, 782, 783, 784, 785, 786, 787, 788, 789, 790, 791, 792, 793, 794, 795, 796, 797, 798, 799] (by decide +kernel) (by decide +kernel)
set_option maxRecDepth 20000 in
theorem gL_law_X9_rider : GoodIn wsL_law (wsV RL 82 RX9 yX9_rider wsX9_rider) := goodIn_app (goodIn_of _ (by decide +kernel)) ggL_law_X9_rider
set_option maxRecDepth 20000 in
theorem ggL_law_X8_ride : GoodIn wsL_law wsX8_ride := goodIn_r _ [565, 41, 146, 147, 2, 148, 149, 150, 151, 195, 196, 197, 329, 330, 331, 566, 40, 567, 568, 96, 97, 98, 99, 100, 101, 102, 103, 104, 105, 763, 764, 765, 766, 767, 768, 769, 770, 771, 772, 773, 774, 775, 776, 777, 778, 813, 814, 815, 816, 817, 818, 819, 820, 821, 822, 823, 824, 825] (by decide +kernel) (by decide +kernel)
set_option maxRecDepth 20000 in
theorem gL_law_X8_ride : GoodIn wsL_law (wsV RL 83 RX8 yX8_ride wsX8_ride) := goodIn_app (goodIn_of _ (by decide +kernel)) ggL_law_X8_ride
set_option maxRecDepth 20000 in
theorem ggL_law_X9_ride : GoodIn wsL_law wsX9_ride := goodIn_r _ [572, 165, 129, 167, 168, 5, 169, 170, 171, 172, 573, 574, 575, 576, 779, 780, 781, 782, 783, 784, 785, 786, 787, 788, 789, 790, 791, 792, 793, 794, 795, 796, 797, 798, 799] (by decide +kernel) (by decide +kernel)
set_option maxRecDepth 20000 in
theorem gL_law_X9_ride : GoodIn wsL_law (wsV RL 86 RX9 yX9_ride wsX9_ride) := goodIn_app (goodIn_of _ (by decide +kernel)) ggL_law_X9_ride
set_option maxRecDepth 20000 in
theorem ggL_law_X8_push : GoodIn wsL_law wsX8_push := goodIn_r _ [580, 41, 145, 149, 150, 2, 151, 581, 40, 582, 583, 99, 584, 585, 586, 587, 105, 763, 764, 765, 766, 767, 768, 769, 770, 771, 772, 773, 774, 775, 776, 777, 778, 813, 814, 815, 816, 817, 818, 819, 820, 821, 822, 823, 824, 825] (by decide +kernel) (by decide +kernel)
set_option maxRecDepth 20000 in
theorem gL_law_X8_push : GoodIn wsL_law (wsV RL 87 RX8 yX8_push wsX8_push) := goodIn_app (goodIn_of _ (by decide +kernel)) ggL_law_X8_push
set_option maxRecDepth 20000 in
theorem ggL_law_X9_push : GoodIn wsL_law wsX9_push := goodIn_r _ [591, 165, 129, 166, 170, 171, 5, 172, 779, 780, 781, 782, 783, 784, 785, 786, 787, 788, 789, 790, 791, 792, 793, 794, 795, 796, 797, 798, 799] (by decide +kernel) (by decide +kernel)
set_option maxRecDepth 20000 in
theorem gL_law_X9_push : GoodIn wsL_law (wsV RL 91 RX9 yX9_push wsX9_push) := goodIn_app (goodIn_of _ (by decide +kernel)) ggL_law_X9_push
set_option maxRecDepth 20000 in
theorem ggL_law_X8_ticks : GoodIn wsL_law wsX8_ticks := goodIn_r _ [595, 41, 14, 37, 149, 150, 2, 151, 596, 40, 597, 598, 105, 599, 600, 601, 602, 103, 603, 308, 305, 309, 97, 99, 100, 102, 101, 604, 104, 605, 606, 607, 608, 106, 107, 108, 609, 610, 611, 612, 613, 614, 615, 616, 98, 617, 618, 619, 304, 306, 620, 584, 585, 586, 587, 763, 764, 765, 766, 767, 768, 769, 770, 771, 772, 773, 774, 775, 776, 777, 778, 813, 814, 815, 816, 817, 818, 819, 820, 821, 822, 823, 824, 825, 800, 811, 812] (by decide +kernel) (by decide +kernel)
set_option maxRecDepth 20000 in
theorem gL_law_X8_ticks : GoodIn wsL_law (wsV RL 92 RX8 yX8_ticks wsX8_ticks) := goodIn_app (goodIn_of _ (by decide +kernel)) ggL_law_X8_ticks
set_option maxRecDepth 20000 in
theorem ggL_law_X9_ticks : GoodIn wsL_law wsX9_ticks := goodIn_r _ [624, 165, 129, 170, 171, 5, 172, 625, 626, 627, 628, 133, 128, 629, 223, 224, 225, 226, 127, 630, 631, 632, 779, 780, 781, 782, 783, 784, 785, 786, 787, 788, 789, 790, 791, 792, 793, 794, 795, 796, 797, 798, 799] (by decide +kernel) (by decide +kernel)
set_option maxRecDepth 20000 in
theorem gL_law_X9_ticks : GoodIn wsL_law (wsV RL 95 RX9 yX9_ticks wsX9_ticks) := goodIn_app (goodIn_of _ (by decide +kernel)) ggL_law_X9_ticks
set_option maxRecDepth 20000 in
theorem ggL_law_X8_at : GoodIn wsL_law wsX8_at := goodIn_r _ [636, 41, 145, 763, 764, 765, 766, 767, 768, 769, 770, 771, 772, 773, 774, 775, 776, 777, 778, 813, 814, 815, 816, 817, 818, 819, 820, 821, 822, 823, 824, 825] (by decide +kernel) (by decide +kernel)
set_option maxRecDepth 20000 in
theorem gL_law_X8_at : GoodIn wsL_law (wsV RL 96 RX8 yX8_at wsX8_at) := goodIn_app (goodIn_of _ (by decide +kernel)) ggL_law_X8_at
set_option maxRecDepth 20000 in
theorem ggL_law_X9_at : GoodIn wsL_law wsX9_at := goodIn_r _ [640, 165, 166, 129, 170, 171, 5, 172, 779, 780, 781, 782, 783, 784, 785, 786, 787, 788, 789, 790, 791, 792, 793, 794, 795, 796, 797, 798, 799] (by decide +kernel) (by decide +kernel)
set_option maxRecDepth 20000 in
theorem gL_law_X9_at : GoodIn wsL_law (wsV RL 99 RX9 yX9_at wsX9_at) := goodIn_app (goodIn_of _ (by decide +kernel)) ggL_law_X9_at
set_option maxRecDepth 20000 in
theorem ggL_law_X8_bears : GoodIn wsL_law wsX8_bears := goodIn_r _ [644, 42, 41, 14, 37, 149, 150, 2, 151, 566, 40, 567, 568, 96, 97, 98, 99, 100, 101, 102, 103, 104, 105, 581, 582, 583, 584, 585, 586, 587, 596, 597, 598, 599, 600, 601, 602, 603, 308, 305, 309, 604, 605, 606, 607, 608, 106, 107, 108, 609, 610, 611, 612, 613, 614, 615, 616, 617, 618, 619, 304, 306, 620, 763, 764, 765, 766, 767, 768, 769, 770, 771, 772, 773, 774, 775, 776, 777, 778, 813, 814, 815, 816, 817, 818, 819, 820, 821, 822, 823, 824, 825, 800, 811, 812] (by decide +kernel) (by decide +kernel)
set_option maxRecDepth 20000 in
theorem gL_law_X8_bears : GoodIn wsL_law (wsV RL 100 RX8 yX8_bears wsX8_bears) := goodIn_app (goodIn_of _ (by decide +kernel)) ggL_law_X8_bears
set_option maxRecDepth 20000 in
theorem ggL_law_X9_bears : GoodIn wsL_law wsX9_bears := goodIn_r _ [648, 165, 131, 129, 170, 171, 5, 172, 573, 574, 575, 576, 625, 626, 627, 628, 133, 128, 629, 223, 224, 225, 226, 127, 630, 631, 632, 779, 780, 781, 782, 783, 784, 785, 786, 787, 788, 789, 790, 791, 792, 793, 794, 795, 796, 797, 798, 799] (by decide +kernel) (by decide +kernel)
set_option maxRecDepth 20000 in
theorem gL_law_X9_bears : GoodIn wsL_law (wsV RL 103 RX9 yX9_bears wsX9_bears) := goodIn_app (goodIn_of _ (by decide +kernel)) ggL_law_X9_bears
set_option maxRecDepth 20000 in
theorem ggL_law_X8_weeks : GoodIn wsL_law wsX8_weeks := goodIn_r _ [652, 46, 47, 48, 653, 654, 2, 655, 149, 150, 151, 656, 45, 657, 658, 112, 114, 659, 304, 305, 306, 660, 308, 309, 661, 662, 663, 763, 764, 765, 766, 767, 768, 769, 770, 771, 772, 773, 774, 775, 776, 777, 778, 826, 827] (by decide +kernel) (by decide +kernel)
set_option maxRecDepth 20000 in
theorem gL_law_X8_weeks : GoodIn wsL_law (wsV RL 104 RX8 yX8_weeks wsX8_weeks) := goodIn_app (goodIn_of _ (by decide +kernel)) ggL_law_X8_weeks
set_option maxRecDepth 20000 in
theorem ggL_law_X9_weeks : GoodIn wsL_law wsX9_weeks := goodIn_r _ [667, 165, 129, 134, 135, 170, 171, 5, 172, 779, 780, 781, 782, 783, 784, 785, 786, 787, 788, 789, 790, 791, 792, 793, 794, 795, 796, 797, 798, 799] (by decide +kernel) (by decide +kernel)
set_option maxRecDepth 20000 in
theorem gL_law_X9_weeks : GoodIn wsL_law (wsV RL 107 RX9 yX9_weeks wsX9_weeks) := goodIn_app (goodIn_of _ (by decide +kernel)) ggL_law_X9_weeks
set_option maxRecDepth 20000 in
theorem ggL_law_X8_tune : GoodIn wsL_law wsX8_tune := goodIn_r _ [671, 47, 48, 329, 330, 2, 331, 149, 150, 151, 763, 764, 765, 766, 767, 768, 769, 770, 771, 772, 773, 774, 775, 776, 777, 778] (by decide +kernel) (by decide +kernel)
set_option maxRecDepth 20000 in
theorem gL_law_X8_tune : GoodIn wsL_law (wsV RL 108 RX8 yX8_tune wsX8_tune) := goodIn_app (goodIn_of _ (by decide +kernel)) ggL_law_X8_tune
set_option maxRecDepth 20000 in
theorem ggL_law_X9_tune : GoodIn wsL_law wsX9_tune := goodIn_r _ [675, 165, 134, 135, 170, 171, 5, 172, 779, 780, 781, 782, 783, 784, 785, 786, 787, 788, 789, 790, 791, 792, 793, 794, 795, 796, 797, 798, 799] (by decide +kernel) (by decide +kernel)
set_option maxRecDepth 20000 in
theorem gL_law_X9_tune : GoodIn wsL_law (wsV RL 111 RX9 yX9_tune wsX9_tune) := goodIn_app (goodIn_of _ (by decide +kernel)) ggL_law_X9_tune
set_option maxRecDepth 20000 in
theorem ggL_law_X8_habit : GoodIn wsL_law wsX8_habit := goodIn_r _ [679, 46, 47, 653, 654, 2, 655, 149, 150, 151, 329, 330, 331, 661, 45, 662, 663, 112, 680, 681, 682, 114, 659, 304, 305, 306, 660, 308, 309, 763, 764, 765, 766, 767, 768, 769, 770, 771, 772, 773, 774, 775, 776, 777, 778, 826, 827] (by decide +kernel) (by decide +kernel)
set_option maxRecDepth 20000 in
theorem gL_law_X8_habit : GoodIn wsL_law (wsV RL 112 RX8 yX8_habit wsX8_habit) := goodIn_app (goodIn_of _ (by decide +kernel)) ggL_law_X8_habit
set_option maxRecDepth 20000 in
theorem ggL_law_X9_habit : GoodIn wsL_law wsX9_habit := goodIn_r _ [686, 165, 129, 134, 170, 171, 5, 172, 779, 780, 781, 782, 783, 784, 785, 786, 787, 788, 789, 790, 791, 792, 793, 794, 795, 796, 797, 798, 799] (by decide +kernel) (by decide +kernel)
set_option maxRecDepth 20000 in
theorem gL_law_X9_habit : GoodIn wsL_law (wsV RL 115 RX9 yX9_habit wsX9_habit) := goodIn_app (goodIn_of _ (by decide +kernel)) ggL_law_X9_habit
set_option maxRecDepth 20000 in
theorem ggL_law_X8_score : GoodIn wsL_law wsX8_score := goodIn_r _ [690, 145, 14, 149, 150, 2, 151, 146, 147, 148, 691, 692, 693, 694, 51, 695, 696, 46, 155, 16, 156, 157, 57, 153, 154, 277, 278, 279, 280, 17, 281, 282, 283, 58, 59, 60, 61, 158, 159, 160, 257, 258, 259, 243, 201, 202, 203, 204, 240, 212, 213, 214, 208, 260, 237, 238, 239, 241, 205, 206, 207, 242, 209, 210, 211, 332, 333, 334, 335, 336, 337, 338, 661, 45, 662, 663, 112, 654, 655, 339, 340, 341, 342, 343, 763, 764, 765, 766, 767, 768, 769, 770, 771, 772, 773, 774, 775, 776, 777, 778, 800, 826, 827] (by decide +kernel) (by decide +kernel)
set_option maxRecDepth 20000 in
theorem gL_law_X8_score : GoodIn wsL_law (wsV RL 116 RX8 yX8_score wsX8_score) := goodIn_app (goodIn_of _ (by decide +kernel)) ggL_law_X8_score
set_option maxRecDepth 20000 in
theorem ggL_law_X9_score : GoodIn wsL_law wsX9_score := goodIn_r _ [700, 165, 166, 701, 702, 703, 704, 705, 706, 707, 127, 129, 170, 171, 5, 172, 167, 168, 169, 223, 224, 225, 226, 128, 348, 349, 350, 351, 248, 249, 250, 251, 231, 227, 228, 229, 230, 232, 288, 289, 290, 291, 266, 267, 268, 269, 708, 709, 710, 779, 780, 781, 782, 783, 784, 785, 786, 787, 788, 789, 790, 791, 792, 793, 794, 795, 796, 797, 798, 799] (by decide +kernel) (by decide +kernel)
set_option maxRecDepth 20000 in
theorem gL_law_X9_score : GoodIn wsL_law (wsV RL 119 RX9 yX9_score wsX9_score) := goodIn_app (goodIn_of _ (by decide +kernel)) ggL_law_X9_score
set_option maxRecDepth 20000 in
theorem ggL_law_X8_keep : GoodIn wsL_law wsX8_keep := goodIn_r _ [714, 50, 41, 46, 715, 716, 2, 717, 149, 150, 151, 718, 53, 719, 720, 119, 121, 122, 721, 40, 722, 723, 96, 97, 98, 99, 100, 101, 102, 103, 104, 105, 106, 724, 59, 60, 61, 107, 108, 725, 45, 726, 727, 112, 114, 763, 764, 765, 766, 767, 768, 769, 770, 771, 772, 773, 774, 775, 776, 777, 778, 813, 814, 815, 816, 817, 818, 819, 820, 821, 822, 823, 824, 825, 828, 829, 830, 826, 827] (by decide +kernel) (by decide +kernel)
set_option maxRecDepth 20000 in
theorem gL_law_X8_keep : GoodIn wsL_law (wsV RL 120 RX8 yX8_keep wsX8_keep) := goodIn_app (goodIn_of _ (by decide +kernel)) ggL_law_X8_keep
set_option maxRecDepth 20000 in
theorem ggL_law_X9_keep : GoodIn wsL_law wsX9_keep := goodIn_r _ [731, 165, 130, 129, 132, 170, 171, 5, 172, 779, 780, 781, 782, 783, 784, 785, 786, 787, 788, 789, 790, 791, 792, 793, 794, 795, 796, 797, 798, 799] (by decide +kernel) (by decide +kernel)
set_option maxRecDepth 20000 in
theorem gL_law_X9_keep : GoodIn wsL_law (wsV RL 123 RX9 yX9_keep wsX9_keep) := goodIn_app (goodIn_of _ (by decide +kernel)) ggL_law_X9_keep
set_option maxRecDepth 20000 in
theorem ggL_law_X8_back : GoodIn wsL_law wsX8_back := goodIn_r _ [735, 50, 41, 46, 715, 716, 2, 717, 149, 150, 151, 736, 53, 737, 738, 119, 121, 721, 40, 722, 723, 96, 97, 98, 99, 100, 101, 102, 103, 104, 105, 106, 724, 59, 60, 61, 107, 108, 725, 45, 726, 727, 112, 114, 763, 764, 765, 766, 767, 768, 769, 770, 771, 772, 773, 774, 775, 776, 777, 778, 828, 829, 830, 813, 814, 815, 816, 817, 818, 819, 820, 821, 822, 823, 824, 825, 826, 827] (by decide +kernel) (by decide +kernel)
set_option maxRecDepth 20000 in
theorem gL_law_X8_back : GoodIn wsL_law (wsV RL 124 RX8 yX8_back wsX8_back) := goodIn_app (goodIn_of _ (by decide +kernel)) ggL_law_X8_back
set_option maxRecDepth 20000 in
theorem ggL_law_X9_back : GoodIn wsL_law wsX9_back := goodIn_r _ [742, 165, 132, 129, 130, 170, 171, 5, 172, 779, 780, 781, 782, 783, 784, 785, 786, 787, 788, 789, 790, 791, 792, 793, 794, 795, 796, 797, 798, 799] (by decide +kernel) (by decide +kernel)
set_option maxRecDepth 20000 in
theorem gL_law_X9_back : GoodIn wsL_law (wsV RL 127 RX9 yX9_back wsX9_back) := goodIn_app (goodIn_of _ (by decide +kernel)) ggL_law_X9_back
set_option maxRecDepth 20000 in
theorem ggL_law_X8_count : GoodIn wsL_law wsX8_count := goodIn_r _ [746, 37, 28, 524, 35, 525, 526, 90, 527, 404, 405, 406, 407, 408, 409, 747, 748, 749, 2, 750, 14, 339, 16, 340, 341, 342, 257, 258, 259, 57, 243, 201, 202, 203, 204, 240, 212, 213, 214, 208, 260, 237, 238, 239, 241, 205, 206, 207, 242, 209, 210, 211, 343, 333, 334, 335, 336, 337, 338, 763, 764, 765, 766, 767, 768, 769, 770, 771, 772, 773, 774, 775, 776, 777, 778, 811, 812, 800] (by decide +kernel) (by decide +kernel)
set_option maxRecDepth 20000 in
theorem gL_law_X8_count : GoodIn wsL_law (wsV RL 128 RX8 yX8_count wsX8_count) := goodIn_app (goodIn_of _ (by decide +kernel)) ggL_law_X8_count
set_option maxRecDepth 20000 in
theorem ggL_law_X9_count : GoodIn wsL_law wsX9_count := goodIn_r _ [754, 165, 536, 427, 223, 224, 225, 5, 226, 128, 127, 348, 349, 350, 351, 248, 249, 250, 251, 231, 227, 228, 229, 230, 232, 779, 780, 781, 782, 783, 784, 785, 786, 787, 788, 789, 790, 791, 792, 793, 794, 795, 796, 797, 798, 799] (by decide +kernel) (by decide +kernel)
set_option maxRecDepth 20000 in
theorem gL_law_X9_count : GoodIn wsL_law (wsV RL 131 RX9 yX9_count wsX9_count) := goodIn_app (goodIn_of _ (by decide +kernel)) ggL_law_X9_count
set_option maxRecDepth 20000 in
theorem ggL_law_X8_trace : GoodIn wsL_law wsX8_trace := goodIn_r _ [758, 51, 763, 764, 765, 766, 767, 768, 769, 770, 771, 772, 773, 774, 775, 776, 777, 778] (by decide +kernel) (by decide +kernel)
set_option maxRecDepth 20000 in
theorem gL_law_X8_trace : GoodIn wsL_law (wsV RL 132 RX8 yX8_trace wsX8_trace) := goodIn_app (goodIn_of _ (by decide +kernel)) ggL_law_X8_trace
set_option maxRecDepth 20000 in
theorem ggL_law_X9_trace : GoodIn wsL_law wsX9_trace := goodIn_r _ [762, 165, 701, 779, 780, 781, 782, 783, 784, 785, 786, 787, 788, 789, 790, 791, 792, 793, 794, 795, 796, 797, 798, 799] (by decide +kernel) (by decide +kernel)
set_option maxRecDepth 20000 in
theorem gL_law_X9_trace : GoodIn wsL_law (wsV RL 136 RX9 yX9_trace wsX9_trace) := goodIn_app (goodIn_of _ (by decide +kernel)) ggL_law_X9_trace
