/-! the law's callees: their words among the law's (by the kit's NAMES) -/
theorem inlX0 : ∀ w ∈ wsX00, w ∈ wsL_law := fun _ h => List.mem_append_left _ (List.mem_append_left _ (List.mem_append_left _ (List.mem_append_left _ (List.mem_append_right _ h))))
theorem inX0 : ∀ w ∈ wsX00, w ∈ lw_tbl := fun w h => wsL_law_in w (inlX0 w h)
theorem inlX1 : ∀ w ∈ wsX10, w ∈ wsL_law := fun _ h => List.mem_append_left _ (List.mem_append_left _ (List.mem_append_left _ (List.mem_append_left _ (List.mem_append_left _ (List.mem_append_right _ h)))))
theorem inX1 : ∀ w ∈ wsX10, w ∈ lw_tbl := fun w h => wsL_law_in w (inlX1 w h)
theorem inlX2 : ∀ w ∈ wsX20, w ∈ wsL_law := fun _ h => List.mem_append_left _ (List.mem_append_left _ (List.mem_append_left _ (List.mem_append_left _ (List.mem_append_left _ (List.mem_append_left _ (List.mem_append_right _ h))))))
theorem inX2 : ∀ w ∈ wsX20, w ∈ lw_tbl := fun w h => wsL_law_in w (inlX2 w h)
theorem inlX3 : ∀ w ∈ wsX30, w ∈ wsL_law := fun _ h => List.mem_append_left _ (List.mem_append_left _ (List.mem_append_left _ (List.mem_append_left _ (List.mem_append_left _ (List.mem_append_left _ (List.mem_append_left _ (List.mem_append_right _ h)))))))
theorem inX3 : ∀ w ∈ wsX30, w ∈ lw_tbl := fun w h => wsL_law_in w (inlX3 w h)
theorem inlX4 : ∀ w ∈ wsX40, w ∈ wsL_law := fun _ h => List.mem_append_left _ (List.mem_append_left _ (List.mem_append_left _ (List.mem_append_left _ (List.mem_append_left _ (List.mem_append_left _ (List.mem_append_left _ (List.mem_append_left _ (List.mem_append_left _ (List.mem_append_right _ h)))))))))
theorem inX4 : ∀ w ∈ wsX40, w ∈ lw_tbl := fun w h => wsL_law_in w (inlX4 w h)
theorem inlX5 : ∀ w ∈ wsX50, w ∈ wsL_law := fun _ h => List.mem_append_left _ (List.mem_append_left _ (List.mem_append_left _ (List.mem_append_left _ (List.mem_append_left _ (List.mem_append_left _ (List.mem_append_left _ (List.mem_append_left _ (List.mem_append_right _ h))))))))
theorem inX5 : ∀ w ∈ wsX50, w ∈ lw_tbl := fun w h => wsL_law_in w (inlX5 w h)
theorem inJ6 : ∀ w ∈ wsJ60, w ∈ lw_tbl := by decide +kernel
theorem inJ9 : ∀ w ∈ wsJ90, w ∈ lw_tbl := by decide +kernel
theorem inJ0 : ∀ w ∈ wsJ00, w ∈ lw_tbl := by decide +kernel
set_option maxRecDepth 20000 in
theorem ggL_law_X4_init : GoodIn wsL_law wsX4_init := goodIn_r _ [9, 10, 11, 12, 13, 14, 15, 16, 17, 18, 19, 20, 21, 22, 23, 24, 25, 26, 27, 28, 29, 660, 661, 662, 663, 664, 665, 666, 667, 668, 669, 703, 704, 705] (by decide +kernel) (by decide +kernel)
set_option maxRecDepth 20000 in
theorem gL_law_X4_init : GoodIn wsL_law (wsX4_init) := ggL_law_X4_init
set_option maxRecDepth 20000 in
theorem ggL_law_X5_init : GoodIn wsL_law wsX5_init := goodIn_r _ [32, 33, 11, 12, 21, 34, 35, 36, 37, 38, 39, 40, 41, 42, 43, 44, 45, 46, 47, 48, 49, 50, 51, 52, 53, 54, 55, 56, 57, 58, 59, 60, 61, 670, 671, 672, 673, 674, 675, 676, 677, 678, 679, 680, 681, 682, 683, 684, 685, 686, 687, 688, 689, 690, 691, 692, 693, 694, 695, 696, 697, 698, 699, 700, 701, 702] (by decide +kernel) (by decide +kernel)
set_option maxRecDepth 20000 in
theorem gL_law_X5_init : GoodIn wsL_law (wsX5_init) := ggL_law_X5_init
set_option maxRecDepth 20000 in
theorem ggL_law_L_room : GoodIn wsL_law wsL_room := goodIn_ca (goodIn_ca (goodIn_r _ [65, 66, 67, 68, 69, 70, 2, 71, 72, 73, 74, 75, 76, 14, 13, 77, 78, 79, 80, 81, 82, 83, 84, 85, 11, 12, 21, 86, 87, 88, 89, 90, 91, 92, 93, 660, 661, 662, 663, 664, 665, 666, 667, 668, 669, 706, 707, 708, 709, 710, 711, 712, 713, 714, 715, 716, 717, 718] (by decide +kernel) (by decide +kernel)) (goodIn_sub (fun _ h => List.mem_append_left _ (List.mem_append_left _ (List.mem_append_right _ h))) (by decide +kernel))) (goodIn_sub (fun _ h => List.mem_append_left _ (List.mem_append_right _ h)) (by decide +kernel))
set_option maxRecDepth 20000 in
theorem gL_law_L_room : GoodIn wsL_law (va_wsS RL 89 yL_room wsL_room) := goodIn_app (goodIn_of _ (by decide +kernel)) ggL_law_L_room
set_option maxRecDepth 20000 in
theorem ggL_law_X5_room : GoodIn wsL_law wsX5_room := goodIn_r _ [97, 98, 34, 39, 99, 100, 5, 101, 102, 103, 104, 105, 106, 670, 671, 672, 673, 674, 675, 676, 677, 678, 679, 680, 681, 682, 683, 684, 685, 686, 687, 688, 689, 690, 691, 692, 693, 694, 695, 696, 697, 698, 699, 700, 701, 702] (by decide +kernel) (by decide +kernel)
set_option maxRecDepth 20000 in
theorem gL_law_X5_room : GoodIn wsL_law (wsV RL 94 RX5 yX5_room wsX5_room) := goodIn_app (goodIn_of _ (by decide +kernel)) ggL_law_X5_room
set_option maxRecDepth 20000 in
theorem ggL_law_X5_thrown : GoodIn wsL_law wsX5_thrown := goodIn_r _ [110, 106, 670, 671, 672, 673, 674, 675, 676, 677, 678, 679, 680, 681, 682, 683, 684, 685, 686, 687, 688, 689, 690, 691, 692, 693, 694, 695, 696, 697, 698, 699, 700, 701, 702] (by decide +kernel) (by decide +kernel)
set_option maxRecDepth 20000 in
theorem gL_law_X5_thrown : GoodIn wsL_law (wsV RL 95 RX5 yX5_thrown wsX5_thrown) := goodIn_app (goodIn_of _ (by decide +kernel)) ggL_law_X5_thrown
set_option maxRecDepth 20000 in
theorem ggL_law_L_puzzle : GoodIn wsL_law wsL_puzzle := goodIn_ca (goodIn_ca (goodIn_ca (goodIn_r _ [113, 114, 66, 67, 115, 116, 117, 2, 118, 119, 120, 72, 73, 74, 75, 121, 122, 123, 124, 125, 126, 76, 14, 127, 128, 129, 79, 80, 81, 130, 131, 132, 78, 133, 134, 86, 87, 88, 89, 90, 706, 707, 708, 709, 710, 711, 712, 713, 714, 715, 716, 717, 718, 660, 661, 662, 663, 664, 665, 666, 667, 668, 669] (by decide +kernel) (by decide +kernel)) (goodIn_sub (fun _ h => List.mem_append_right _ h) (by decide +kernel))) (goodIn_sub (fun _ h => List.mem_append_left _ (List.mem_append_left _ (List.mem_append_right _ h))) (by decide +kernel))) (goodIn_sub (fun _ h => List.mem_append_left _ (List.mem_append_right _ h)) (by decide +kernel))
set_option maxRecDepth 20000 in
theorem gL_law_L_puzzle : GoodIn wsL_law (va_wsS RL 99 yL_puzzle wsL_puzzle) := goodIn_app (goodIn_of _ (by decide +kernel)) ggL_law_L_puzzle
set_option maxRecDepth 20000 in
theorem ggL_law_X5_puzzle : GoodIn wsL_law wsX5_puzzle := goodIn_r _ [138, 36, 35, 40, 41, 42, 43, 139, 140, 141, 5, 142, 98, 99, 100, 101, 102, 103, 104, 105, 106, 670, 671, 672, 673, 674, 675, 676, 677, 678, 679, 680, 681, 682, 683, 684, 685, 686, 687, 688, 689, 690, 691, 692, 693, 694, 695, 696, 697, 698, 699, 700, 701, 702] (by decide +kernel) (by decide +kernel)
set_option maxRecDepth 20000 in
theorem gL_law_X5_puzzle : GoodIn wsL_law (wsV RL 102 RX5 yX5_puzzle wsX5_puzzle) := goodIn_app (goodIn_of _ (by decide +kernel)) ggL_law_X5_puzzle
set_option maxRecDepth 20000 in
theorem ggL_law_L_prop : GoodIn wsL_law wsL_prop := goodIn_ca (goodIn_r _ [145, 114, 146, 147, 148, 2, 149, 119, 120, 150, 127, 128, 129, 151, 152, 153, 154, 155, 156, 157, 76, 14, 158, 159, 160, 161, 162, 78, 163, 134, 88, 164, 165, 166, 167, 168, 169, 87, 170, 171, 172, 173, 86, 174, 175, 176, 177, 178, 179, 180, 181, 121, 182, 183, 184, 185, 186, 660, 661, 662, 663, 664, 665, 666, 667, 668, 669, 706, 707, 708, 709, 710, 711, 712, 713, 714, 715, 716, 717, 718, 719, 720, 721, 722, 723, 724, 725, 726, 727] (by decide +kernel) (by decide +kernel)) (goodIn_sub (fun _ h => List.mem_append_right _ h) (by decide +kernel))
set_option maxRecDepth 20000 in
theorem gL_law_L_prop : GoodIn wsL_law (va_wsS RL 103 yL_prop wsL_prop) := goodIn_app (goodIn_of _ (by decide +kernel)) ggL_law_L_prop
set_option maxRecDepth 20000 in
theorem ggL_law_X5_prop : GoodIn wsL_law wsX5_prop := goodIn_r _ [190, 191, 98, 36, 46, 39, 99, 100, 5, 101, 102, 103, 104, 105, 106, 192, 193, 194, 195, 35, 40, 41, 196, 197, 198, 199, 42, 200, 201, 202, 203, 45, 44, 37, 47, 670, 671, 672, 673, 674, 675, 676, 677, 678, 679, 680, 681, 682, 683, 684, 685, 686, 687, 688, 689, 690, 691, 692, 693, 694, 695, 696, 697, 698, 699, 700, 701, 702] (by decide +kernel) (by decide +kernel)
set_option maxRecDepth 20000 in
theorem gL_law_X5_prop : GoodIn wsL_law (wsV RL 106 RX5 yX5_prop wsX5_prop) := goodIn_app (goodIn_of _ (by decide +kernel)) ggL_law_X5_prop
set_option maxRecDepth 20000 in
theorem ggL_law_L_had : GoodIn wsL_law wsL_had := goodIn_ca (goodIn_ca (goodIn_r _ [206, 114, 66, 207, 208, 209, 2, 210, 72, 73, 150, 123, 124, 125, 126, 119, 120, 76, 14, 79, 80, 81, 160, 161, 162, 78, 163, 134, 88, 164, 165, 152, 153, 166, 167, 168, 169, 87, 170, 171, 172, 173, 86, 174, 175, 660, 661, 662, 663, 664, 665, 666, 667, 668, 669, 706, 707, 708, 709, 710, 711, 712, 713, 714, 715, 716, 717, 718] (by decide +kernel) (by decide +kernel)) (goodIn_sub (fun _ h => List.mem_append_left _ (List.mem_append_left _ (List.mem_append_right _ h))) (by decide +kernel))) (goodIn_sub (fun _ h => List.mem_append_right _ h) (by decide +kernel))
set_option maxRecDepth 20000 in
theorem gL_law_L_had : GoodIn wsL_law (va_wsS RL 107 yL_had wsL_had) := goodIn_app (goodIn_of _ (by decide +kernel)) ggL_law_L_had
set_option maxRecDepth 20000 in
theorem ggL_law_X5_had : GoodIn wsL_law wsX5_had := goodIn_r _ [214, 139, 140, 141, 5, 142, 98, 99, 100, 101, 102, 103, 104, 105, 106, 192, 193, 194, 195, 35, 40, 41, 196, 197, 198, 199, 42, 191, 670, 671, 672, 673, 674, 675, 676, 677, 678, 679, 680, 681, 682, 683, 684, 685, 686, 687, 688, 689, 690, 691, 692, 693, 694, 695, 696, 697, 698, 699, 700, 701, 702] (by decide +kernel) (by decide +kernel)
set_option maxRecDepth 20000 in
theorem gL_law_X5_had : GoodIn wsL_law (wsV RL 110 RX5 yX5_had wsX5_had) := goodIn_app (goodIn_of _ (by decide +kernel)) ggL_law_X5_had
set_option maxRecDepth 20000 in
theorem ggL_law_L_canBeLeft : GoodIn wsL_law wsL_canBeLeft := goodIn_ca (goodIn_r _ [217, 114, 218, 219, 220, 2, 221, 123, 124, 125, 126, 119, 120, 76, 14, 222, 223, 224, 225, 122, 226, 150, 160, 161, 162, 78, 163, 134, 88, 164, 165, 152, 153, 166, 167, 168, 169, 87, 170, 171, 172, 173, 86, 174, 175, 176, 660, 661, 662, 663, 664, 665, 666, 667, 668, 669, 706, 707, 708, 709, 710, 711, 712, 713, 714, 715, 716, 717, 718] (by decide +kernel) (by decide +kernel)) (goodIn_sub (fun _ h => List.mem_append_right _ h) (by decide +kernel))
set_option maxRecDepth 20000 in
theorem gL_law_L_canBeLeft : GoodIn wsL_law (va_wsS RL 111 yL_canBeLeft wsL_canBeLeft) := goodIn_app (goodIn_of _ (by decide +kernel)) ggL_law_L_canBeLeft
set_option maxRecDepth 20000 in
theorem ggL_law_X5_canBeLeft : GoodIn wsL_law wsX5_canBeLeft := goodIn_r _ [230, 139, 140, 141, 5, 142, 98, 99, 100, 101, 102, 103, 104, 105, 106, 231, 232, 233, 234, 35, 34, 192, 193, 194, 195, 40, 41, 196, 197, 198, 199, 42, 191, 670, 671, 672, 673, 674, 675, 676, 677, 678, 679, 680, 681, 682, 683, 684, 685, 686, 687, 688, 689, 690, 691, 692, 693, 694, 695, 696, 697, 698, 699, 700, 701, 702] (by decide +kernel) (by decide +kernel)
set_option maxRecDepth 20000 in
theorem gL_law_X5_canBeLeft : GoodIn wsL_law (wsV RL 113 RX5 yX5_canBeLeft wsX5_canBeLeft) := goodIn_app (goodIn_of _ (by decide +kernel)) ggL_law_X5_canBeLeft
set_option maxRecDepth 20000 in
theorem ggL_law_L_orders : GoodIn wsL_law wsL_orders := goodIn_ca (goodIn_r _ [237, 114, 238, 239, 240, 2, 241, 123, 124, 125, 126, 119, 120, 76, 14, 242, 243, 244, 245, 150, 122, 22, 226, 160, 161, 162, 78, 163, 134, 88, 164, 165, 152, 153, 246, 247, 248, 249, 87, 176, 250, 251, 252, 253, 254, 171, 172, 173, 86, 174, 175, 151, 660, 661, 662, 663, 664, 665, 666, 667, 668, 669, 706, 707, 708, 709, 710, 711, 712, 713, 714, 715, 716, 717, 718] (by decide +kernel) (by decide +kernel)) (goodIn_sub (fun _ h => List.mem_append_right _ h) (by decide +kernel))
set_option maxRecDepth 20000 in
theorem gL_law_L_orders : GoodIn wsL_law (va_wsS RL 114 yL_orders wsL_orders) := goodIn_app (goodIn_of _ (by decide +kernel)) ggL_law_L_orders
set_option maxRecDepth 20000 in
theorem ggL_law_X5_orders : GoodIn wsL_law wsX5_orders := goodIn_r _ [258, 35, 34, 40, 61, 139, 140, 141, 5, 142, 98, 99, 100, 101, 102, 103, 104, 105, 106, 259, 260, 261, 262, 41, 196, 197, 198, 199, 42, 191, 670, 671, 672, 673, 674, 675, 676, 677, 678, 679, 680, 681, 682, 683, 684, 685, 686, 687, 688, 689, 690, 691, 692, 693, 694, 695, 696, 697, 698, 699, 700, 701, 702] (by decide +kernel) (by decide +kernel)
set_option maxRecDepth 20000 in
theorem gL_law_X5_orders : GoodIn wsL_law (wsV RL 116 RX5 yX5_orders wsX5_orders) := goodIn_app (goodIn_of _ (by decide +kernel)) ggL_law_X5_orders
set_option maxRecDepth 20000 in
theorem ggL_law_L_ordersAnew : GoodIn wsL_law wsL_ordersAnew := goodIn_ca (goodIn_r _ [265, 114, 266, 267, 268, 2, 269, 150, 226, 123, 124, 125, 126, 119, 120, 76, 14, 160, 161, 162, 78, 163, 134, 88, 164, 165, 152, 153, 166, 167, 168, 169, 87, 170, 171, 172, 173, 86, 174, 175, 176, 270, 271, 272, 122, 273, 254, 184, 185, 186, 660, 661, 662, 663, 664, 665, 666, 667, 668, 669, 706, 707, 708, 709, 710, 711, 712, 713, 714, 715, 716, 717, 718] (by decide +kernel) (by decide +kernel)) (goodIn_sub (fun _ h => List.mem_append_right _ h) (by decide +kernel))
set_option maxRecDepth 20000 in
theorem gL_law_L_ordersAnew : GoodIn wsL_law (va_wsS RL 117 yL_ordersAnew wsL_ordersAnew) := goodIn_app (goodIn_of _ (by decide +kernel)) ggL_law_L_ordersAnew
set_option maxRecDepth 20000 in
theorem ggL_law_X5_ordersAnew : GoodIn wsL_law wsX5_ordersAnew := goodIn_r _ [277, 278, 256, 257, 5, 258, 35, 34, 40, 61, 139, 140, 141, 142, 98, 99, 100, 101, 102, 103, 104, 105, 106, 259, 260, 261, 262, 41, 196, 197, 198, 199, 42, 191, 670, 671, 672, 673, 674, 675, 676, 677, 678, 679, 680, 681, 682, 683, 684, 685, 686, 687, 688, 689, 690, 691, 692, 693, 694, 695, 696, 697, 698, 699, 700, 701, 702] (by decide +kernel) (by decide +kernel)
set_option maxRecDepth 20000 in
theorem gL_law_X5_ordersAnew : GoodIn wsL_law (wsV RL 119 RX5 yX5_ordersAnew wsX5_ordersAnew) := goodIn_app (goodIn_of _ (by decide +kernel)) ggL_law_X5_ordersAnew
set_option maxRecDepth 20000 in
theorem ggL_law_L_come : GoodIn wsL_law wsL_come := goodIn_ca (goodIn_ca (goodIn_r _ [281, 114, 67, 282, 283, 284, 2, 285, 74, 75, 121, 286, 123, 124, 125, 126, 119, 120, 76, 14, 222, 223, 224, 225, 122, 226, 150, 160, 161, 162, 78, 163, 134, 88, 164, 165, 152, 153, 166, 167, 168, 169, 87, 170, 171, 172, 173, 86, 174, 175, 176, 287, 288, 289, 290, 291, 18, 292, 293, 294, 295, 296, 297, 298, 299, 300, 301, 302, 303, 304, 305, 306, 307, 308, 15, 309, 310, 16, 158, 311, 246, 247, 248, 249, 312, 313, 314, 315, 11, 12, 21, 316, 317, 318, 319, 320, 321, 322, 323, 324, 325, 159, 177, 178, 179, 180, 181, 182, 183, 706, 707, 708, 709, 710, 711, 712, 713, 714, 715, 716, 717, 718, 660, 661, 662, 663, 664, 665, 666, 667, 668, 669, 728, 729, 730, 731, 719, 720, 721, 722, 723, 724, 725, 726, 727] (by decide +kernel) (by decide +kernel)) (goodIn_sub (fun _ h => List.mem_append_left _ (List.mem_append_right _ h)) (by decide +kernel))) (goodIn_sub (fun _ h => List.mem_append_right _ h) (by decide +kernel))
set_option maxRecDepth 20000 in
theorem gL_law_L_come : GoodIn wsL_law (va_wsS RL 120 yL_come wsL_come) := goodIn_app (goodIn_of _ (by decide +kernel)) ggL_law_L_come
set_option maxRecDepth 20000 in
theorem ggL_law_X5_come : GoodIn wsL_law wsX5_come := goodIn_r _ [329, 36, 330, 44, 45, 47, 38, 46, 34, 48, 331, 59, 60, 39, 139, 140, 141, 5, 142, 98, 99, 100, 101, 332, 333, 334, 335, 336, 57, 58, 231, 232, 233, 234, 35, 192, 193, 194, 195, 40, 41, 196, 197, 198, 199, 42, 191, 337, 338, 339, 340, 341, 342, 343, 344, 43, 102, 103, 104, 105, 106, 259, 260, 261, 262, 200, 201, 202, 203, 37, 670, 671, 672, 673, 674, 675, 676, 677, 678, 679, 680, 681, 682, 683, 684, 685, 686, 687, 688, 689, 690, 691, 692, 693, 694, 695, 696, 697, 698, 699, 700, 701, 702] (by decide +kernel) (by decide +kernel)
set_option maxRecDepth 20000 in
theorem gL_law_X5_come : GoodIn wsL_law (wsV RL 122 RX5 yX5_come wsX5_come) := goodIn_app (goodIn_of _ (by decide +kernel)) ggL_law_X5_come
set_option maxRecDepth 20000 in
theorem ggL_law_L_solve : GoodIn wsL_law wsL_solve := goodIn_ca (goodIn_ca (goodIn_r _ [347, 114, 67, 348, 349, 350, 2, 351, 119, 120, 74, 75, 180, 122, 181, 159, 182, 273, 352, 353, 354, 355, 286, 16, 356, 357, 358, 359, 150, 160, 161, 162, 78, 163, 134, 88, 164, 165, 152, 153, 176, 254, 171, 172, 173, 86, 174, 175, 151, 323, 324, 325, 177, 178, 179, 121, 158, 183, 719, 720, 721, 722, 723, 724, 725, 726, 727, 706, 707, 708, 709, 710, 711, 712, 713, 714, 715, 716, 717, 718, 660, 661, 662, 663, 664, 665, 666, 667, 668, 669] (by decide +kernel) (by decide +kernel)) (goodIn_sub (fun _ h => List.mem_append_right _ h) (by decide +kernel))) (goodIn_sub (fun _ h => List.mem_append_left _ (List.mem_append_right _ h)) (by decide +kernel))
set_option maxRecDepth 20000 in
theorem gL_law_L_solve : GoodIn wsL_law (va_wsS RL 123 yL_solve wsL_solve) := goodIn_app (goodIn_of _ (by decide +kernel)) ggL_law_L_solve
set_option maxRecDepth 20000 in
theorem ggL_law_X5_solve : GoodIn wsL_law wsX5_solve := goodIn_r _ [363, 35, 45, 44, 47, 46, 41, 364, 365, 366, 5, 367, 330, 99, 100, 101, 368, 369, 370, 371, 40, 196, 197, 198, 199, 42, 191, 102, 103, 104, 105, 106, 200, 201, 202, 203, 36, 37, 39, 670, 671, 672, 673, 674, 675, 676, 677, 678, 679, 680, 681, 682, 683, 684, 685, 686, 687, 688, 689, 690, 691, 692, 693, 694, 695, 696, 697, 698, 699, 700, 701, 702] (by decide +kernel) (by decide +kernel)
set_option maxRecDepth 20000 in
theorem gL_law_X5_solve : GoodIn wsL_law (wsV RL 125 RX5 yX5_solve wsX5_solve) := goodIn_app (goodIn_of _ (by decide +kernel)) ggL_law_X5_solve
set_option maxRecDepth 20000 in
theorem ggL_law_L_hint : GoodIn wsL_law wsL_hint := goodIn_ca (goodIn_ca (goodIn_r _ [374, 114, 67, 375, 376, 377, 2, 378, 74, 75, 181, 180, 159, 352, 353, 354, 355, 119, 120, 286, 16, 379, 380, 381, 382, 356, 357, 358, 359, 150, 182, 160, 161, 162, 78, 163, 134, 88, 164, 165, 152, 153, 383, 384, 385, 386, 387, 388, 389, 390, 174, 175, 166, 167, 168, 169, 87, 170, 171, 172, 173, 86, 176, 391, 392, 393, 394, 395, 396, 397, 310, 398, 399, 316, 400, 401, 402, 403, 404, 295, 405, 406, 407, 408, 320, 177, 178, 179, 121, 158, 183, 719, 720, 721, 722, 723, 724, 725, 726, 727, 660, 661, 662, 663, 664, 665, 666, 667, 668, 669, 706, 707, 708, 709, 710, 711, 712, 713, 714, 715, 716, 717, 718] (by decide +kernel) (by decide +kernel)) (goodIn_sub (fun _ h => List.mem_append_left _ (List.mem_append_right _ h)) (by decide +kernel))) (goodIn_sub (fun _ h => List.mem_append_right _ h) (by decide +kernel))
set_option maxRecDepth 20000 in
theorem gL_law_L_hint : GoodIn wsL_law (va_wsS RL 126 yL_hint wsL_hint) := goodIn_app (goodIn_of _ (by decide +kernel)) ggL_law_L_hint
set_option maxRecDepth 20000 in
theorem ggL_law_X5_hint : GoodIn wsL_law wsX5_hint := goodIn_r _ [412, 44, 49, 51, 50, 364, 365, 366, 5, 367, 330, 99, 100, 101, 102, 103, 104, 105, 106, 413, 414, 415, 416, 35, 45, 417, 418, 419, 420, 421, 422, 423, 46, 47, 40, 259, 260, 261, 262, 41, 196, 197, 198, 199, 42, 191, 368, 369, 370, 371, 424, 425, 426, 427, 331, 48, 200, 201, 202, 203, 36, 37, 39, 670, 671, 672, 673, 674, 675, 676, 677, 678, 679, 680, 681, 682, 683, 684, 685, 686, 687, 688, 689, 690, 691, 692, 693, 694, 695, 696, 697, 698, 699, 700, 701, 702] (by decide +kernel) (by decide +kernel)
set_option maxRecDepth 20000 in
theorem gL_law_X5_hint : GoodIn wsL_law (wsV RL 128 RX5 yX5_hint wsX5_hint) := goodIn_app (goodIn_of _ (by decide +kernel)) ggL_law_X5_hint
set_option maxRecDepth 20000 in
theorem ggL_law_L_giveUp : GoodIn wsL_law wsL_giveUp := goodIn_ca (goodIn_ca (goodIn_r _ [430, 114, 67, 431, 432, 433, 2, 434, 74, 75, 181, 352, 353, 354, 355, 119, 120, 286, 16, 177, 178, 179, 180, 121, 158, 182, 183, 719, 720, 721, 722, 723, 724, 725, 726, 727, 660, 661, 662, 663, 664, 665, 666, 667, 668, 669, 706, 707, 708, 709, 710, 711, 712, 713, 714, 715, 716, 717, 718] (by decide +kernel) (by decide +kernel)) (goodIn_sub (fun _ h => List.mem_append_left _ (List.mem_append_right _ h)) (by decide +kernel))) (goodIn_sub (fun _ h => List.mem_append_right _ h) (by decide +kernel))
set_option maxRecDepth 20000 in
theorem gL_law_L_giveUp : GoodIn wsL_law (va_wsS RL 129 yL_giveUp wsL_giveUp) := goodIn_app (goodIn_of _ (by decide +kernel)) ggL_law_L_giveUp
set_option maxRecDepth 20000 in
theorem ggL_law_X5_giveUp : GoodIn wsL_law wsX5_giveUp := goodIn_r _ [438, 44, 364, 365, 366, 5, 367, 330, 99, 100, 101, 102, 103, 104, 105, 106, 200, 201, 202, 203, 45, 36, 37, 47, 39, 670, 671, 672, 673, 674, 675, 676, 677, 678, 679, 680, 681, 682, 683, 684, 685, 686, 687, 688, 689, 690, 691, 692, 693, 694, 695, 696, 697, 698, 699, 700, 701, 702] (by decide +kernel) (by decide +kernel)
set_option maxRecDepth 20000 in
theorem gL_law_X5_giveUp : GoodIn wsL_law (wsV RL 132 RX5 yX5_giveUp wsX5_giveUp) := goodIn_app (goodIn_of _ (by decide +kernel)) ggL_law_X5_giveUp
set_option maxRecDepth 20000 in
theorem ggL_law_L_reset : GoodIn wsL_law wsL_reset := goodIn_ca (goodIn_ca (goodIn_r _ [441, 114, 67, 442, 443, 444, 2, 445, 74, 75, 121, 446, 308, 447, 123, 124, 125, 126, 119, 120, 76, 14, 448, 449, 450, 451, 20, 452, 453, 454, 183, 455, 456, 457, 458, 78, 459, 134, 460, 164, 165, 461, 462, 463, 464, 87, 93, 86, 465, 466, 467, 24, 468, 469, 28, 29, 470, 471, 472, 473, 474, 475, 476, 706, 707, 708, 709, 710, 711, 712, 713, 714, 715, 716, 717, 718, 703, 704, 705, 660, 661, 662, 663, 664, 665, 666, 667, 668, 669] (by decide +kernel) (by decide +kernel)) (goodIn_sub (fun _ h => List.mem_append_left _ (List.mem_append_right _ h)) (by decide +kernel))) (goodIn_sub (fun _ h => List.mem_append_right _ h) (by decide +kernel))
set_option maxRecDepth 20000 in
theorem gL_law_L_reset : GoodIn wsL_law (va_wsS RL 133 yL_reset wsL_reset) := goodIn_app (goodIn_of _ (by decide +kernel)) ggL_law_L_reset
set_option maxRecDepth 20000 in
theorem ggL_law_X5_reset : GoodIn wsL_law wsX5_reset := goodIn_r _ [480, 36, 52, 38, 56, 139, 140, 141, 5, 142, 98, 99, 100, 101, 481, 482, 483, 102, 103, 104, 105, 106, 484, 485, 486, 487, 37, 53, 54, 43, 488, 489, 490, 491, 35, 41, 34, 40, 492, 493, 494, 495, 670, 671, 672, 673, 674, 675, 676, 677, 678, 679, 680, 681, 682, 683, 684, 685, 686, 687, 688, 689, 690, 691, 692, 693, 694, 695, 696, 697, 698, 699, 700, 701, 702] (by decide +kernel) (by decide +kernel)
set_option maxRecDepth 20000 in
theorem gL_law_X5_reset : GoodIn wsL_law (wsV RL 136 RX5 yX5_reset wsX5_reset) := goodIn_app (goodIn_of _ (by decide +kernel)) ggL_law_X5_reset
set_option maxRecDepth 20000 in
theorem ggL_law_L_forget : GoodIn wsL_law wsL_forget := goodIn_ca (goodIn_ca (goodIn_r _ [498, 114, 67, 499, 500, 501, 2, 502, 74, 75, 446, 503, 308, 183, 448, 449, 450, 451, 119, 120, 20, 151, 152, 153, 184, 185, 186, 452, 453, 454, 447, 455, 456, 457, 458, 78, 459, 134, 460, 164, 165, 461, 462, 463, 464, 87, 93, 86, 465, 466, 467, 24, 468, 469, 28, 29, 470, 471, 472, 121, 473, 474, 475, 476, 703, 704, 705, 706, 707, 708, 709, 710, 711, 712, 713, 714, 715, 716, 717, 718, 660, 661, 662, 663, 664, 665, 666, 667, 668, 669] (by decide +kernel) (by decide +kernel)) (goodIn_sub (fun _ h => List.mem_append_left _ (List.mem_append_right _ h)) (by decide +kernel))) (goodIn_sub (fun _ h => List.mem_append_right _ h) (by decide +kernel))
set_option maxRecDepth 20000 in
theorem gL_law_L_forget : GoodIn wsL_law (va_wsS RL 137 yL_forget wsL_forget) := goodIn_app (goodIn_of _ (by decide +kernel)) ggL_law_L_forget
set_option maxRecDepth 20000 in
theorem ggL_law_X5_forget : GoodIn wsL_law wsX5_forget := goodIn_r _ [507, 53, 52, 37, 38, 481, 482, 5, 483, 99, 100, 101, 102, 103, 104, 105, 106, 484, 485, 486, 487, 56, 54, 43, 488, 489, 490, 491, 35, 41, 34, 40, 492, 493, 494, 495, 36, 670, 671, 672, 673, 674, 675, 676, 677, 678, 679, 680, 681, 682, 683, 684, 685, 686, 687, 688, 689, 690, 691, 692, 693, 694, 695, 696, 697, 698, 699, 700, 701, 702] (by decide +kernel) (by decide +kernel)
set_option maxRecDepth 20000 in
theorem gL_law_X5_forget : GoodIn wsL_law (wsV RL 139 RX5 yX5_forget wsX5_forget) := goodIn_app (goodIn_of _ (by decide +kernel)) ggL_law_X5_forget
set_option maxRecDepth 20000 in
theorem ggL_law_L_book : GoodIn wsL_law wsL_book := goodIn_ca (goodIn_ca (goodIn_ca (goodIn_r _ [510, 114, 66, 67, 511, 512, 513, 2, 514, 72, 73, 74, 75, 295, 291, 18, 17, 515, 516, 123, 124, 125, 126, 119, 120, 76, 14, 517, 518, 519, 520, 292, 293, 294, 521, 522, 523, 524, 300, 301, 302, 303, 525, 526, 527, 528, 11, 12, 529, 530, 531, 532, 660, 661, 662, 663, 664, 665, 666, 667, 668, 669, 728, 729, 730, 731, 706, 707, 708, 709, 710, 711, 712, 713, 714, 715, 716, 717, 718] (by decide +kernel) (by decide +kernel)) (goodIn_sub (fun _ h => List.mem_append_left _ (List.mem_append_left _ (List.mem_append_right _ h))) (by decide +kernel))) (goodIn_sub (fun _ h => List.mem_append_left _ (List.mem_append_right _ h)) (by decide +kernel))) (goodIn_sub (fun _ h => List.mem_append_right _ h) (by decide +kernel))
set_option maxRecDepth 20000 in
theorem gL_law_L_book : GoodIn wsL_law (va_wsS RL 140 yL_book wsL_book) := goodIn_app (goodIn_of _ (by decide +kernel)) ggL_law_L_book
set_option maxRecDepth 20000 in
theorem ggL_law_X5_book : GoodIn wsL_law wsX5_book := goodIn_r _ [536, 331, 336, 57, 58, 59, 60, 139, 140, 141, 5, 142, 98, 99, 100, 101, 537, 538, 539, 540, 341, 342, 343, 344, 35, 43, 102, 103, 104, 105, 106, 670, 671, 672, 673, 674, 675, 676, 677, 678, 679, 680, 681, 682, 683, 684, 685, 686, 687, 688, 689, 690, 691, 692, 693, 694, 695, 696, 697, 698, 699, 700, 701, 702] (by decide +kernel) (by decide +kernel)
set_option maxRecDepth 20000 in
theorem gL_law_X5_book : GoodIn wsL_law (wsV RL 142 RX5 yX5_book wsX5_book) := goodIn_app (goodIn_of _ (by decide +kernel)) ggL_law_X5_book
set_option maxRecDepth 20000 in
theorem ggL_law_L_cancel : GoodIn wsL_law wsL_cancel := goodIn_ca (goodIn_ca (goodIn_r _ [543, 114, 67, 544, 545, 546, 2, 547, 74, 75, 293, 548, 549, 550, 551, 119, 120, 291, 18, 728, 729, 730, 731, 660, 661, 662, 663, 664, 665, 666, 667, 668, 669] (by decide +kernel) (by decide +kernel)) (goodIn_sub (fun _ h => List.mem_append_left _ (List.mem_append_right _ h)) (by decide +kernel))) (goodIn_sub (fun _ h => List.mem_append_right _ h) (by decide +kernel))
set_option maxRecDepth 20000 in
theorem gL_law_L_cancel : GoodIn wsL_law (va_wsS RL 143 yL_cancel wsL_cancel) := goodIn_app (goodIn_of _ (by decide +kernel)) ggL_law_L_cancel
set_option maxRecDepth 20000 in
theorem ggL_law_X5_cancel : GoodIn wsL_law wsX5_cancel := goodIn_r _ [555, 59, 556, 557, 558, 5, 559, 336, 99, 100, 101, 102, 103, 104, 105, 106, 670, 671, 672, 673, 674, 675, 676, 677, 678, 679, 680, 681, 682, 683, 684, 685, 686, 687, 688, 689, 690, 691, 692, 693, 694, 695, 696, 697, 698, 699, 700, 701, 702] (by decide +kernel) (by decide +kernel)
set_option maxRecDepth 20000 in
theorem gL_law_X5_cancel : GoodIn wsL_law (wsV RL 145 RX5 yX5_cancel wsX5_cancel) := goodIn_app (goodIn_of _ (by decide +kernel)) ggL_law_X5_cancel
set_option maxRecDepth 20000 in
theorem ggL_law_L_offer : GoodIn wsL_law wsL_offer := goodIn_ca (goodIn_ca (goodIn_r _ [562, 114, 66, 563, 564, 565, 2, 566, 72, 73, 295, 567, 568, 523, 569, 123, 124, 125, 126, 119, 120, 76, 14, 570, 571, 572, 573, 291, 294, 517, 518, 519, 520, 18, 292, 293, 521, 522, 524, 300, 301, 302, 303, 660, 661, 662, 663, 664, 665, 666, 667, 668, 669, 728, 729, 730, 731, 706, 707, 708, 709, 710, 711, 712, 713, 714, 715, 716, 717, 718] (by decide +kernel) (by decide +kernel)) (goodIn_sub (fun _ h => List.mem_append_left _ (List.mem_append_left _ (List.mem_append_right _ h))) (by decide +kernel))) (goodIn_sub (fun _ h => List.mem_append_right _ h) (by decide +kernel))
set_option maxRecDepth 20000 in
theorem gL_law_L_offer : GoodIn wsL_law (va_wsS RL 146 yL_offer wsL_offer) := goodIn_app (goodIn_of _ (by decide +kernel)) ggL_law_L_offer
set_option maxRecDepth 20000 in
theorem ggL_law_X5_offer : GoodIn wsL_law wsX5_offer := goodIn_r _ [577, 331, 139, 140, 141, 5, 142, 98, 99, 100, 101, 102, 103, 104, 105, 106, 537, 538, 539, 540, 336, 58, 57, 59, 341, 342, 343, 344, 35, 43, 670, 671, 672, 673, 674, 675, 676, 677, 678, 679, 680, 681, 682, 683, 684, 685, 686, 687, 688, 689, 690, 691, 692, 693, 694, 695, 696, 697, 698, 699, 700, 701, 702] (by decide +kernel) (by decide +kernel)
set_option maxRecDepth 20000 in
theorem gL_law_X5_offer : GoodIn wsL_law (wsV RL 148 RX5 yX5_offer wsX5_offer) := goodIn_app (goodIn_of _ (by decide +kernel)) ggL_law_X5_offer
set_option maxRecDepth 20000 in
theorem ggL_law_L_pass : GoodIn wsL_law wsL_pass := goodIn_ca (goodIn_ca (goodIn_r _ [580, 66, 67, 581, 582, 583, 2, 584, 72, 73, 74, 75, 295, 585, 586, 587, 588, 76, 14, 158, 20, 401, 402, 403, 404, 405, 406, 407, 310, 408, 399, 320, 177, 178, 179, 180, 181, 121, 182, 183, 589, 590, 591, 446, 592, 503, 470, 471, 472, 473, 474, 475, 24, 476, 469, 28, 29, 184, 185, 186, 452, 453, 454, 447, 308, 455, 456, 457, 458, 78, 459, 134, 460, 164, 165, 461, 462, 463, 464, 87, 93, 86, 465, 466, 467, 468, 593, 594, 595, 596, 291, 18, 293, 294, 660, 661, 662, 663, 664, 665, 666, 667, 668, 669, 706, 707, 708, 709, 710, 711, 712, 713, 714, 715, 716, 717, 718, 719, 720, 721, 722, 723, 724, 725, 726, 727, 703, 704, 705, 728, 729, 730, 731] (by decide +kernel) (by decide +kernel)) (goodIn_sub (fun _ h => List.mem_append_left _ (List.mem_append_left _ (List.mem_append_right _ h))) (by decide +kernel))) (goodIn_sub (fun _ h => List.mem_append_left _ (List.mem_append_right _ h)) (by decide +kernel))
set_option maxRecDepth 20000 in
theorem gL_law_L_pass : GoodIn wsL_law (va_wsS RL 149 yL_pass wsL_pass) := goodIn_app (goodIn_of _ (by decide +kernel)) ggL_law_L_pass
set_option maxRecDepth 20000 in
theorem ggL_law_X5_pass : GoodIn wsL_law wsX5_pass := goodIn_r _ [600, 331, 98, 36, 39, 336, 59, 58, 99, 100, 5, 101, 102, 103, 104, 105, 106, 424, 425, 426, 427, 49, 48, 200, 201, 202, 203, 45, 44, 37, 47, 601, 602, 603, 604, 52, 54, 53, 492, 493, 494, 495, 484, 485, 486, 487, 56, 38, 43, 488, 489, 490, 491, 35, 41, 34, 40, 670, 671, 672, 673, 674, 675, 676, 677, 678, 679, 680, 681, 682, 683, 684, 685, 686, 687, 688, 689, 690, 691, 692, 693, 694, 695, 696, 697, 698, 699, 700, 701, 702] (by decide +kernel) (by decide +kernel)
set_option maxRecDepth 20000 in
theorem gL_law_X5_pass : GoodIn wsL_law (wsV RL 151 RX5 yX5_pass wsX5_pass) := goodIn_app (goodIn_of _ (by decide +kernel)) ggL_law_X5_pass
set_option maxRecDepth 20000 in
theorem ggL_law_X4_minute : GoodIn wsL_law wsX4_minute := goodIn_r _ [608, 295, 660, 661, 662, 663, 664, 665, 666, 667, 668, 669] (by decide +kernel) (by decide +kernel)
set_option maxRecDepth 20000 in
theorem gL_law_X4_minute : GoodIn wsL_law (wsV RL 152 RX4 yX4_minute wsX4_minute) := goodIn_app (goodIn_of _ (by decide +kernel)) ggL_law_X4_minute
set_option maxRecDepth 20000 in
theorem ggL_law_X5_minute : GoodIn wsL_law wsX5_minute := goodIn_r _ [612, 106, 331, 670, 671, 672, 673, 674, 675, 676, 677, 678, 679, 680, 681, 682, 683, 684, 685, 686, 687, 688, 689, 690, 691, 692, 693, 694, 695, 696, 697, 698, 699, 700, 701, 702] (by decide +kernel) (by decide +kernel)
set_option maxRecDepth 20000 in
theorem gL_law_X5_minute : GoodIn wsL_law (wsV RL 155 RX5 yX5_minute wsX5_minute) := goodIn_app (goodIn_of _ (by decide +kernel)) ggL_law_X5_minute
set_option maxRecDepth 20000 in
theorem ggL_law_L_state : GoodIn wsL_law wsL_state := goodIn_ca (goodIn_ca (goodIn_r _ [615, 114, 66, 616, 617, 618, 2, 619, 72, 73, 121, 183, 308, 158, 620, 303, 123, 124, 125, 126, 119, 120, 76, 14, 706, 707, 708, 709, 710, 711, 712, 713, 714, 715, 716, 717, 718, 719, 720, 721, 722, 723, 724, 725, 726, 727, 660, 661, 662, 663, 664, 665, 666, 667, 668, 669] (by decide +kernel) (by decide +kernel)) (goodIn_sub (fun _ h => List.mem_append_left _ (List.mem_append_left _ (List.mem_append_right _ h))) (by decide +kernel))) (goodIn_sub (fun _ h => List.mem_append_right _ h) (by decide +kernel))
set_option maxRecDepth 20000 in
theorem gL_law_L_state : GoodIn wsL_law (va_wsS RL 156 yL_state wsL_state) := goodIn_app (goodIn_of _ (by decide +kernel)) ggL_law_L_state
set_option maxRecDepth 20000 in
theorem ggL_law_X5_state : GoodIn wsL_law wsX5_state := goodIn_r _ [624, 36, 37, 38, 39, 139, 140, 141, 5, 142, 98, 99, 100, 101, 102, 103, 104, 105, 106, 341, 342, 343, 344, 35, 43, 670, 671, 672, 673, 674, 675, 676, 677, 678, 679, 680, 681, 682, 683, 684, 685, 686, 687, 688, 689, 690, 691, 692, 693, 694, 695, 696, 697, 698, 699, 700, 701, 702] (by decide +kernel) (by decide +kernel)
set_option maxRecDepth 20000 in
theorem gL_law_X5_state : GoodIn wsL_law (wsV RL 158 RX5 yX5_state wsX5_state) := goodIn_app (goodIn_of _ (by decide +kernel)) ggL_law_X5_state
set_option maxRecDepth 20000 in
theorem ggL_law_L_group : GoodIn wsL_law wsL_group := goodIn_ca (goodIn_ca (goodIn_r _ [627, 114, 66, 628, 629, 630, 2, 631, 72, 73, 181, 180, 632, 159, 182, 295, 633, 352, 353, 354, 355, 119, 120, 286, 16, 405, 406, 407, 310, 408, 399, 320, 719, 720, 721, 722, 723, 724, 725, 726, 727, 706, 707, 708, 709, 710, 711, 712, 713, 714, 715, 716, 717, 718, 660, 661, 662, 663, 664, 665, 666, 667, 668, 669] (by decide +kernel) (by decide +kernel)) (goodIn_sub (fun _ h => List.mem_append_left _ (List.mem_append_left _ (List.mem_append_right _ h))) (by decide +kernel))) (goodIn_sub (fun _ h => List.mem_append_right _ h) (by decide +kernel))
set_option maxRecDepth 20000 in
theorem gL_law_L_group : GoodIn wsL_law (va_wsS RL 159 yL_group wsL_group) := goodIn_app (goodIn_of _ (by decide +kernel)) ggL_law_L_group
set_option maxRecDepth 20000 in
theorem ggL_law_X5_group : GoodIn wsL_law wsX5_group := goodIn_r _ [637, 44, 45, 46, 47, 50, 364, 365, 366, 5, 367, 330, 99, 100, 101, 102, 103, 104, 105, 106, 424, 425, 426, 427, 49, 331, 48, 670, 671, 672, 673, 674, 675, 676, 677, 678, 679, 680, 681, 682, 683, 684, 685, 686, 687, 688, 689, 690, 691, 692, 693, 694, 695, 696, 697, 698, 699, 700, 701, 702] (by decide +kernel) (by decide +kernel)
set_option maxRecDepth 20000 in
theorem gL_law_X5_group : GoodIn wsL_law (wsV RL 161 RX5 yX5_group wsX5_group) := goodIn_app (goodIn_of _ (by decide +kernel)) ggL_law_X5_group
set_option maxRecDepth 20000 in
theorem ggL_law_L_crew : GoodIn wsL_law wsL_crew := goodIn_ca (goodIn_ca (goodIn_r _ [640, 114, 66, 641, 642, 643, 2, 644, 72, 73, 446, 632, 503, 592, 448, 449, 450, 451, 119, 120, 20, 703, 704, 705, 706, 707, 708, 709, 710, 711, 712, 713, 714, 715, 716, 717, 718, 660, 661, 662, 663, 664, 665, 666, 667, 668, 669] (by decide +kernel) (by decide +kernel)) (goodIn_sub (fun _ h => List.mem_append_left _ (List.mem_append_left _ (List.mem_append_right _ h))) (by decide +kernel))) (goodIn_sub (fun _ h => List.mem_append_right _ h) (by decide +kernel))
set_option maxRecDepth 20000 in
theorem gL_law_L_crew : GoodIn wsL_law (va_wsS RL 162 yL_crew wsL_crew) := goodIn_app (goodIn_of _ (by decide +kernel)) ggL_law_L_crew
set_option maxRecDepth 20000 in
theorem ggL_law_X5_crew : GoodIn wsL_law wsX5_crew := goodIn_r _ [648, 52, 53, 54, 481, 482, 5, 483, 99, 100, 101, 102, 103, 104, 105, 106, 670, 671, 672, 673, 674, 675, 676, 677, 678, 679, 680, 681, 682, 683, 684, 685, 686, 687, 688, 689, 690, 691, 692, 693, 694, 695, 696, 697, 698, 699, 700, 701, 702] (by decide +kernel) (by decide +kernel)
set_option maxRecDepth 20000 in
theorem gL_law_X5_crew : GoodIn wsL_law (wsV RL 164 RX5 yX5_crew wsX5_crew) := goodIn_app (goodIn_of _ (by decide +kernel)) ggL_law_X5_crew
set_option maxRecDepth 20000 in
theorem ggL_law_L_booking : GoodIn wsL_law wsL_booking := goodIn_ca (goodIn_ca (goodIn_r _ [651, 114, 66, 652, 653, 654, 2, 655, 72, 73, 292, 632, 294, 293, 311, 548, 549, 550, 551, 119, 120, 291, 18, 728, 729, 730, 731, 706, 707, 708, 709, 710, 711, 712, 713, 714, 715, 716, 717, 718, 660, 661, 662, 663, 664, 665, 666, 667, 668, 669] (by decide +kernel) (by decide +kernel)) (goodIn_sub (fun _ h => List.mem_append_left _ (List.mem_append_left _ (List.mem_append_right _ h))) (by decide +kernel))) (goodIn_sub (fun _ h => List.mem_append_right _ h) (by decide +kernel))
set_option maxRecDepth 20000 in
theorem gL_law_L_booking : GoodIn wsL_law (va_wsS RL 165 yL_booking wsL_booking) := goodIn_app (goodIn_of _ (by decide +kernel)) ggL_law_L_booking
set_option maxRecDepth 20000 in
theorem ggL_law_X5_booking : GoodIn wsL_law wsX5_booking := goodIn_r _ [659, 57, 58, 59, 60, 556, 557, 558, 5, 559, 336, 99, 100, 101, 102, 103, 104, 105, 106, 670, 671, 672, 673, 674, 675, 676, 677, 678, 679, 680, 681, 682, 683, 684, 685, 686, 687, 688, 689, 690, 691, 692, 693, 694, 695, 696, 697, 698, 699, 700, 701, 702] (by decide +kernel) (by decide +kernel)
set_option maxRecDepth 20000 in
theorem gL_law_X5_booking : GoodIn wsL_law (wsV RL 167 RX5 yX5_booking wsX5_booking) := goodIn_app (goodIn_of _ (by decide +kernel)) ggL_law_X5_booking
