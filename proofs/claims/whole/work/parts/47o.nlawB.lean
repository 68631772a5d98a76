theorem inlX0 : ∀ w ∈ wsX00, w ∈ wsL_law := fun _ h => List.mem_append_left _ (List.mem_append_left _ (List.mem_append_left _ (List.mem_append_left _ (List.mem_append_right _ h))))
theorem inX0 : ∀ w ∈ wsX00, w ∈ lw_tbl := fun w h => wsL_law_in w (inlX0 w h)
theorem inlX1 : ∀ w ∈ wsX10, w ∈ wsL_law := fun _ h => List.mem_append_left _ (List.mem_append_left _ (List.mem_append_left _ (List.mem_append_left _ (List.mem_append_left _ (List.mem_append_left _ (List.mem_append_left _ (List.mem_append_right _ h)))))))
theorem inX1 : ∀ w ∈ wsX10, w ∈ lw_tbl := fun w h => wsL_law_in w (inlX1 w h)
theorem inlX2 : ∀ w ∈ wsX20, w ∈ wsL_law := fun _ h => List.mem_append_left _ (List.mem_append_left _ (List.mem_append_left _ (List.mem_append_left _ (List.mem_append_left _ (List.mem_append_right _ h)))))
theorem inX2 : ∀ w ∈ wsX20, w ∈ lw_tbl := fun w h => wsL_law_in w (inlX2 w h)
theorem inlX3 : ∀ w ∈ wsX30, w ∈ wsL_law := fun _ h => List.mem_append_left _ (List.mem_append_left _ (List.mem_append_left _ (List.mem_append_left _ (List.mem_append_left _ (List.mem_append_left _ (List.mem_append_right _ h))))))
theorem inX3 : ∀ w ∈ wsX30, w ∈ lw_tbl := fun w h => wsL_law_in w (inlX3 w h)
theorem inlX4 : ∀ w ∈ wsX40, w ∈ wsL_law := fun _ h => List.mem_append_left _ (List.mem_append_left _ (List.mem_append_right _ h))
theorem inX4 : ∀ w ∈ wsX40, w ∈ lw_tbl := fun w h => wsL_law_in w (inlX4 w h)
theorem inlX5 : ∀ w ∈ wsX50, w ∈ wsL_law := fun _ h => List.mem_append_left _ (List.mem_append_left _ (List.mem_append_left _ (List.mem_append_right _ h)))
theorem inX5 : ∀ w ∈ wsX50, w ∈ lw_tbl := fun w h => wsL_law_in w (inlX5 w h)
theorem inlX6 : ∀ w ∈ wsX60, w ∈ wsL_law := fun _ h => List.mem_append_left _ (List.mem_append_left _ (List.mem_append_left _ (List.mem_append_left _ (List.mem_append_left _ (List.mem_append_left _ (List.mem_append_left _ (List.mem_append_left _ (List.mem_append_left _ (List.mem_append_right _ h)))))))))
theorem inX6 : ∀ w ∈ wsX60, w ∈ lw_tbl := fun w h => wsL_law_in w (inlX6 w h)
theorem inlX7 : ∀ w ∈ wsX70, w ∈ wsL_law := fun _ h => List.mem_append_left _ (List.mem_append_left _ (List.mem_append_left _ (List.mem_append_left _ (List.mem_append_left _ (List.mem_append_left _ (List.mem_append_left _ (List.mem_append_left _ (List.mem_append_left _ (List.mem_append_left _ (List.mem_append_right _ h))))))))))
theorem inX7 : ∀ w ∈ wsX70, w ∈ lw_tbl := fun w h => wsL_law_in w (inlX7 w h)
theorem inlX8 : ∀ w ∈ wsX80, w ∈ wsL_law := fun _ h => List.mem_append_left _ (List.mem_append_left _ (List.mem_append_left _ (List.mem_append_left _ (List.mem_append_left _ (List.mem_append_left _ (List.mem_append_left _ (List.mem_append_left _ (List.mem_append_right _ h))))))))
theorem inX8 : ∀ w ∈ wsX80, w ∈ lw_tbl := fun w h => wsL_law_in w (inlX8 w h)
theorem inlX9 : ∀ w ∈ wsX90, w ∈ wsL_law := fun _ h => List.mem_append_left _ (List.mem_append_right _ h)
theorem inX9 : ∀ w ∈ wsX90, w ∈ lw_tbl := fun w h => wsL_law_in w (inlX9 w h)
theorem inlX10 : ∀ w ∈ wsX100, w ∈ wsL_law := fun _ h => List.mem_append_left _ (List.mem_append_left _ (List.mem_append_left _ (List.mem_append_left _ (List.mem_append_left _ (List.mem_append_left _ (List.mem_append_left _ (List.mem_append_left _ (List.mem_append_left _ (List.mem_append_left _ (List.mem_append_left _ (List.mem_append_left _ (List.mem_append_right _ h))))))))))))
theorem inX10 : ∀ w ∈ wsX100, w ∈ lw_tbl := fun w h => wsL_law_in w (inlX10 w h)
theorem inlX11 : ∀ w ∈ wsX110, w ∈ wsL_law := fun _ h => List.mem_append_left _ (List.mem_append_left _ (List.mem_append_left _ (List.mem_append_left _ (List.mem_append_left _ (List.mem_append_left _ (List.mem_append_left _ (List.mem_append_left _ (List.mem_append_left _ (List.mem_append_left _ (List.mem_append_left _ (List.mem_append_right _ h)))))))))))
theorem inX11 : ∀ w ∈ wsX110, w ∈ lw_tbl := fun w h => wsL_law_in w (inlX11 w h)
theorem inJ6 : ∀ w ∈ wsJ60, w ∈ lw_tbl := by decide +kernel
theorem inJ9 : ∀ w ∈ wsJ90, w ∈ lw_tbl := by decide +kernel
theorem inJ10 : ∀ w ∈ wsJ100, w ∈ lw_tbl := by decide +kernel
set_option maxRecDepth 20000 in
theorem ggL_law_X10_init : GoodIn wsL_law wsX10_init := goodIn_r _ [8, 9, 10, 11, 12, 13, 14, 15, 16, 17, 18, 19, 20, 21, 22, 23, 24, 25, 26, 27, 28, 29, 30, 31, 32, 33, 34, 35, 36, 37, 38, 39, 40, 41, 42, 43, 44, 45, 46, 47, 48, 49, 50, 51, 52, 53, 54, 55, 56, 57, 58, 59, 60, 61, 863, 864, 819, 820, 821, 822, 823, 824, 825, 826, 827, 828, 829, 830, 865, 866, 867, 868, 869, 870, 871, 872, 873, 874, 875, 876, 877, 878, 879, 880, 881, 882, 883, 884, 885] (by decide +kernel) (by decide +kernel)
set_option maxRecDepth 20000 in
theorem gL_law_X10_init : GoodIn wsL_law (wsX10_init) := ggL_law_X10_init
set_option maxRecDepth 20000 in
theorem ggL_law_X11_init : GoodIn wsL_law wsX11_init := goodIn_r _ [64, 65, 10, 11, 38, 66, 67, 68, 69, 70, 71, 72, 48, 73, 74, 75, 76, 77, 78, 79, 831, 832, 833, 834, 835, 836, 837, 838, 839, 840, 841, 842, 843, 844, 845, 846, 847, 848, 849, 850, 851, 852, 853, 854, 855, 856, 857, 858, 859, 860, 861, 862] (by decide +kernel) (by decide +kernel)
set_option maxRecDepth 20000 in
theorem gL_law_X11_init : GoodIn wsL_law (wsX11_init) := ggL_law_X11_init
set_option maxRecDepth 20000 in
theorem ggL_law_X10_letter : GoodIn wsL_law wsX10_letter := goodIn_r _ [83, 15, 84, 85, 86, 14, 87, 88, 89, 90, 91, 92, 39, 93, 819, 820, 821, 822, 823, 824, 825, 826, 827, 828, 829, 830, 863, 864] (by decide +kernel) (by decide +kernel)
set_option maxRecDepth 20000 in
theorem gL_law_X10_letter : GoodIn wsL_law (wsV RL 13 RX10 yX10_letter wsX10_letter) := goodIn_app (goodIn_of _ (by decide +kernel)) ggL_law_X10_letter
set_option maxRecDepth 20000 in
theorem ggL_law_X11_letter : GoodIn wsL_law wsX11_letter := goodIn_r _ [97, 98, 72, 99, 100, 5, 101, 831, 832, 833, 834, 835, 836, 837, 838, 839, 840, 841, 842, 843, 844, 845, 846, 847, 848, 849, 850, 851, 852, 853, 854, 855, 856, 857, 858, 859, 860, 861, 862] (by decide +kernel) (by decide +kernel)
set_option maxRecDepth 20000 in
theorem gL_law_X11_letter : GoodIn wsL_law (wsV RL 17 RX11 yX11_letter wsX11_letter) := goodIn_app (goodIn_of _ (by decide +kernel)) ggL_law_X11_letter
set_option maxRecDepth 20000 in
theorem ggL_law_X10_blank : GoodIn wsL_law wsX10_blank := goodIn_r _ [105, 15, 106, 107, 108, 14, 109, 88, 819, 820, 821, 822, 823, 824, 825, 826, 827, 828, 829, 830, 863, 864] (by decide +kernel) (by decide +kernel)
set_option maxRecDepth 20000 in
theorem gL_law_X10_blank : GoodIn wsL_law (wsV RL 18 RX10 yX10_blank wsX10_blank) := goodIn_app (goodIn_of _ (by decide +kernel)) ggL_law_X10_blank
set_option maxRecDepth 20000 in
theorem ggL_law_X11_blank : GoodIn wsL_law wsX11_blank := goodIn_r _ [113, 98, 831, 832, 833, 834, 835, 836, 837, 838, 839, 840, 841, 842, 843, 844, 845, 846, 847, 848, 849, 850, 851, 852, 853, 854, 855, 856, 857, 858, 859, 860, 861, 862] (by decide +kernel) (by decide +kernel)
set_option maxRecDepth 20000 in
theorem gL_law_X11_blank : GoodIn wsL_law (wsV RL 22 RX11 yX11_blank wsX11_blank) := goodIn_app (goodIn_of _ (by decide +kernel)) ggL_law_X11_blank
set_option maxRecDepth 20000 in
theorem ggL_law_X10_fault : GoodIn wsL_law wsX10_fault := goodIn_r _ [117, 15, 118, 119, 120, 14, 121, 88, 122, 123, 124, 125, 39, 126, 127, 128, 129, 130, 131, 132, 133, 819, 820, 821, 822, 823, 824, 825, 826, 827, 828, 829, 830, 863, 864] (by decide +kernel) (by decide +kernel)
set_option maxRecDepth 20000 in
theorem gL_law_X10_fault : GoodIn wsL_law (wsV RL 23 RX10 yX10_fault wsX10_fault) := goodIn_app (goodIn_of _ (by decide +kernel)) ggL_law_X10_fault
set_option maxRecDepth 20000 in
theorem ggL_law_X11_fault : GoodIn wsL_law wsX11_fault := goodIn_r _ [137, 138, 139, 140, 5, 141, 98, 142, 143, 144, 145, 72, 146, 147, 148, 149, 99, 100, 101, 831, 832, 833, 834, 835, 836, 837, 838, 839, 840, 841, 842, 843, 844, 845, 846, 847, 848, 849, 850, 851, 852, 853, 854, 855, 856, 857, 858, 859, 860, 861, 862] (by decide +kernel) (by decide +kernel)
set_option maxRecDepth 20000 in
theorem gL_law_X11_fault : GoodIn wsL_law (wsV RL 26 RX11 yX11_fault wsX11_fault) := goodIn_app (goodIn_of _ (by decide +kernel)) ggL_law_X11_fault
set_option maxRecDepth 20000 in
theorem ggL_law_X10_kitchen : GoodIn wsL_law wsX10_kitchen := goodIn_r _ [153, 15, 19, 23, 154, 155, 156, 157, 158, 159, 14, 160, 88, 130, 131, 132, 133, 39, 161, 119, 120, 121, 122, 123, 124, 125, 126, 127, 128, 129, 162, 163, 164, 18, 165, 166, 167, 168, 169, 170, 171, 172, 173, 174, 43, 175, 106, 107, 108, 109, 176, 177, 178, 22, 179, 180, 50, 51, 52, 181, 182, 183, 184, 185, 186, 187, 188, 189, 190, 191, 192, 193, 194, 195, 196, 197, 198, 2, 199, 200, 201, 202, 203, 47, 49, 819, 820, 821, 822, 823, 824, 825, 826, 827, 828, 829, 830, 865, 866, 867, 868, 869, 870, 863, 864, 871, 872, 873, 874, 875, 876, 877, 878] (by decide +kernel) (by decide +kernel)
set_option maxRecDepth 20000 in
theorem gL_law_X10_kitchen : GoodIn wsL_law (wsV RL 27 RX10 yX10_kitchen wsX10_kitchen) := goodIn_app (goodIn_of _ (by decide +kernel)) ggL_law_X10_kitchen
set_option maxRecDepth 20000 in
theorem ggL_law_X11_kitchen : GoodIn wsL_law wsX11_kitchen := goodIn_r _ [207, 98, 208, 209, 210, 211, 212, 66, 67, 68, 69, 213, 214, 215, 216, 138, 139, 140, 5, 141, 142, 143, 144, 145, 72, 146, 147, 148, 149, 99, 100, 101, 831, 832, 833, 834, 835, 836, 837, 838, 839, 840, 841, 842, 843, 844, 845, 846, 847, 848, 849, 850, 851, 852, 853, 854, 855, 856, 857, 858, 859, 860, 861, 862] (by decide +kernel) (by decide +kernel)
set_option maxRecDepth 20000 in
theorem gL_law_X11_kitchen : GoodIn wsL_law (wsV RL 30 RX11 yX11_kitchen wsX11_kitchen) := goodIn_app (goodIn_of _ (by decide +kernel)) ggL_law_X11_kitchen
set_option maxRecDepth 20000 in
theorem ggL_law_X10_egg : GoodIn wsL_law wsX10_egg := goodIn_r _ [220, 19, 23, 221, 222, 223, 2, 224, 225, 226, 227, 22, 228, 181, 198, 199, 819, 820, 821, 822, 823, 824, 825, 826, 827, 828, 829, 830, 865, 866, 867, 868, 869, 870, 871, 872, 873, 874, 875, 876, 877, 878] (by decide +kernel) (by decide +kernel)
set_option maxRecDepth 20000 in
theorem gL_law_X10_egg : GoodIn wsL_law (wsV RL 31 RX10 yX10_egg wsX10_egg) := goodIn_app (goodIn_of _ (by decide +kernel)) ggL_law_X10_egg
set_option maxRecDepth 20000 in
theorem ggL_law_X11_egg : GoodIn wsL_law wsX11_egg := goodIn_r _ [232, 233, 234, 235, 5, 236, 208, 99, 100, 101, 237, 238, 239, 240, 66, 213, 67, 68, 69, 831, 832, 833, 834, 835, 836, 837, 838, 839, 840, 841, 842, 843, 844, 845, 846, 847, 848, 849, 850, 851, 852, 853, 854, 855, 856, 857, 858, 859, 860, 861, 862] (by decide +kernel) (by decide +kernel)
set_option maxRecDepth 20000 in
theorem gL_law_X11_egg : GoodIn wsL_law (wsV RL 35 RX11 yX11_egg wsX11_egg) := goodIn_app (goodIn_of _ (by decide +kernel)) ggL_law_X11_egg
set_option maxRecDepth 20000 in
theorem ggL_law_X10_spin : GoodIn wsL_law wsX10_spin := goodIn_r _ [244, 19, 23, 221, 222, 223, 2, 224, 245, 246, 247, 18, 248, 172, 173, 225, 226, 227, 22, 228, 181, 198, 199, 249, 250, 251, 252, 253, 254, 255, 256, 180, 47, 49, 257, 258, 259, 260, 261, 262, 263, 264, 200, 201, 202, 203, 265, 266, 267, 268, 50, 51, 182, 819, 820, 821, 822, 823, 824, 825, 826, 827, 828, 829, 830, 871, 872, 873, 874, 875, 876, 877, 878, 865, 866, 867, 868, 869, 870] (by decide +kernel) (by decide +kernel)
set_option maxRecDepth 20000 in
theorem gL_law_X10_spin : GoodIn wsL_law (wsV RL 36 RX10 yX10_spin wsX10_spin) := goodIn_app (goodIn_of _ (by decide +kernel)) ggL_law_X10_spin
set_option maxRecDepth 20000 in
theorem ggL_law_X11_spin : GoodIn wsL_law wsX11_spin := goodIn_r _ [272, 67, 68, 214, 233, 234, 235, 5, 236, 208, 99, 100, 101, 273, 274, 275, 276, 213, 277, 278, 279, 280, 281, 282, 283, 284, 285, 286, 287, 209, 69, 210, 211, 66, 288, 289, 290, 291, 292, 293, 294, 295, 296, 297, 831, 832, 833, 834, 835, 836, 837, 838, 839, 840, 841, 842, 843, 844, 845, 846, 847, 848, 849, 850, 851, 852, 853, 854, 855, 856, 857, 858, 859, 860, 861, 862] (by decide +kernel) (by decide +kernel)
set_option maxRecDepth 20000 in
theorem gL_law_X11_spin : GoodIn wsL_law (wsV RL 40 RX11 yX11_spin wsX11_spin) := goodIn_app (goodIn_of _ (by decide +kernel)) ggL_law_X11_spin
set_option maxRecDepth 20000 in
theorem ggL_law_X10_stop : GoodIn wsL_law wsX10_stop := goodIn_r _ [301, 23, 19, 221, 222, 223, 2, 224, 225, 226, 227, 22, 228, 181, 198, 199, 302, 303, 304, 305, 306, 307, 308, 309, 310, 250, 251, 252, 253, 254, 255, 256, 180, 47, 49, 257, 258, 259, 260, 311, 312, 313, 314, 52, 315, 262, 263, 264, 200, 201, 202, 203, 316, 317, 318, 319, 187, 188, 189, 190, 191, 192, 193, 819, 820, 821, 822, 823, 824, 825, 826, 827, 828, 829, 830, 865, 866, 867, 868, 869, 870, 871, 872, 873, 874, 875, 876, 877, 878] (by decide +kernel) (by decide +kernel)
set_option maxRecDepth 20000 in
theorem gL_law_X10_stop : GoodIn wsL_law (wsV RL 41 RX10 yX10_stop wsX10_stop) := goodIn_app (goodIn_of _ (by decide +kernel)) ggL_law_X10_stop
set_option maxRecDepth 20000 in
theorem ggL_law_X11_stop : GoodIn wsL_law wsX11_stop := goodIn_r _ [323, 212, 213, 233, 234, 235, 5, 236, 208, 99, 100, 101, 273, 274, 275, 276, 277, 278, 279, 324, 325, 326, 327, 69, 280, 281, 282, 283, 284, 285, 286, 287, 209, 210, 211, 66, 288, 289, 290, 291, 292, 293, 294, 68, 67, 295, 296, 297, 831, 832, 833, 834, 835, 836, 837, 838, 839, 840, 841, 842, 843, 844, 845, 846, 847, 848, 849, 850, 851, 852, 853, 854, 855, 856, 857, 858, 859, 860, 861, 862] (by decide +kernel) (by decide +kernel)
set_option maxRecDepth 20000 in
theorem gL_law_X11_stop : GoodIn wsL_law (wsV RL 44 RX11 yX11_stop wsX11_stop) := goodIn_app (goodIn_of _ (by decide +kernel)) ggL_law_X11_stop
set_option maxRecDepth 20000 in
theorem ggL_law_X10_crack : GoodIn wsL_law wsX10_crack := goodIn_r _ [331, 23, 221, 222, 223, 2, 224, 19, 225, 226, 227, 22, 228, 181, 198, 199, 306, 307, 308, 309, 310, 250, 251, 252, 253, 254, 255, 256, 180, 47, 49, 257, 258, 259, 260, 311, 312, 313, 314, 52, 315, 262, 263, 264, 200, 201, 202, 203, 302, 303, 304, 305, 316, 317, 318, 319, 187, 188, 189, 190, 191, 192, 193, 819, 820, 821, 822, 823, 824, 825, 826, 827, 828, 829, 830, 865, 866, 867, 868, 869, 870, 871, 872, 873, 874, 875, 876, 877, 878] (by decide +kernel) (by decide +kernel)
set_option maxRecDepth 20000 in
theorem gL_law_X10_crack : GoodIn wsL_law (wsV RL 45 RX10 yX10_crack wsX10_crack) := goodIn_app (goodIn_of _ (by decide +kernel)) ggL_law_X10_crack
set_option maxRecDepth 20000 in
theorem ggL_law_X11_crack : GoodIn wsL_law wsX11_crack := goodIn_r _ [335, 213, 233, 234, 235, 5, 236, 208, 99, 100, 101, 273, 274, 275, 276, 277, 278, 279, 324, 325, 326, 327, 69, 280, 281, 282, 283, 284, 285, 286, 287, 209, 210, 211, 66, 288, 289, 290, 291, 292, 293, 294, 68, 67, 295, 296, 297, 831, 832, 833, 834, 835, 836, 837, 838, 839, 840, 841, 842, 843, 844, 845, 846, 847, 848, 849, 850, 851, 852, 853, 854, 855, 856, 857, 858, 859, 860, 861, 862] (by decide +kernel) (by decide +kernel)
set_option maxRecDepth 20000 in
theorem gL_law_X11_crack : GoodIn wsL_law (wsV RL 48 RX11 yX11_crack wsX11_crack) := goodIn_app (goodIn_of _ (by decide +kernel)) ggL_law_X11_crack
set_option maxRecDepth 20000 in
theorem ggL_law_X10_likely : GoodIn wsL_law wsX10_likely := goodIn_r _ [339, 340, 341, 23, 221, 222, 223, 2, 224, 19, 342, 343, 344, 345, 254, 255, 22, 256, 180, 47, 49, 198, 199, 346, 258, 259, 260, 347, 348, 349, 350, 351, 352, 819, 820, 821, 822, 823, 824, 825, 826, 827, 828, 829, 830, 865, 866, 867, 868, 869, 870, 871, 872, 873, 874, 875, 876, 877, 878] (by decide +kernel) (by decide +kernel)
set_option maxRecDepth 20000 in
theorem gL_law_X10_likely : GoodIn wsL_law (wsV RL 49 RX10 yX10_likely wsX10_likely) := goodIn_app (goodIn_of _ (by decide +kernel)) ggL_law_X10_likely
set_option maxRecDepth 20000 in
theorem ggL_law_X11_likely : GoodIn wsL_law wsX11_likely := goodIn_r _ [356, 357, 358, 233, 234, 235, 5, 236, 208, 99, 100, 101, 359, 360, 361, 362, 363, 364, 365, 366, 277, 278, 279, 284, 285, 286, 287, 209, 69, 210, 211, 66, 288, 289, 290, 291, 292, 293, 294, 68, 67, 295, 296, 297, 280, 281, 282, 283, 367, 368, 369, 831, 832, 833, 834, 835, 836, 837, 838, 839, 840, 841, 842, 843, 844, 845, 846, 847, 848, 849, 850, 851, 852, 853, 854, 855, 856, 857, 858, 859, 860, 861, 862] (by decide +kernel) (by decide +kernel)
set_option maxRecDepth 20000 in
theorem gL_law_X11_likely : GoodIn wsL_law (wsV RL 53 RX11 yX11_likely wsX11_likely) := goodIn_app (goodIn_of _ (by decide +kernel)) ggL_law_X11_likely
set_option maxRecDepth 20000 in
theorem ggL_law_X10_likeliest : GoodIn wsL_law wsX10_likeliest := goodIn_r _ [373, 23, 374, 375, 376, 2, 377, 19, 378, 379, 380, 22, 381, 180, 49, 47, 819, 820, 821, 822, 823, 824, 825, 826, 827, 828, 829, 830, 865, 866, 867, 868, 869, 870, 871, 872, 873, 874, 875, 876, 877, 878] (by decide +kernel) (by decide +kernel)
set_option maxRecDepth 20000 in
theorem gL_law_X10_likeliest : GoodIn wsL_law (wsV RL 54 RX10 yX10_likeliest wsX10_likeliest) := goodIn_app (goodIn_of _ (by decide +kernel)) ggL_law_X10_likeliest
set_option maxRecDepth 20000 in
theorem ggL_law_X11_likeliest : GoodIn wsL_law wsX11_likeliest := goodIn_r _ [385, 208, 386, 387, 388, 5, 389, 284, 285, 286, 287, 209, 69, 210, 211, 66, 288, 289, 290, 277, 278, 279, 291, 292, 293, 294, 68, 67, 295, 296, 297, 831, 832, 833, 834, 835, 836, 837, 838, 839, 840, 841, 842, 843, 844, 845, 846, 847, 848, 849, 850, 851, 852, 853, 854, 855, 856, 857, 858, 859, 860, 861, 862] (by decide +kernel) (by decide +kernel)
set_option maxRecDepth 20000 in
theorem gL_law_X11_likeliest : GoodIn wsL_law (wsV RL 57 RX11 yX11_likeliest wsX11_likeliest) := goodIn_app (goodIn_of _ (by decide +kernel)) ggL_law_X11_likeliest
set_option maxRecDepth 20000 in
theorem ggL_law_X10_turning : GoodIn wsL_law wsX10_turning := goodIn_r _ [393, 23, 394, 19, 221, 222, 223, 2, 224, 345, 254, 255, 22, 256, 180, 47, 49, 198, 199, 346, 258, 259, 260, 819, 820, 821, 822, 823, 824, 825, 826, 827, 828, 829, 830, 865, 866, 867, 868, 869, 870, 871, 872, 873, 874, 875, 876, 877, 878] (by decide +kernel) (by decide +kernel)
set_option maxRecDepth 20000 in
theorem gL_law_X10_turning : GoodIn wsL_law (wsV RL 58 RX10 yX10_turning wsX10_turning) := goodIn_app (goodIn_of _ (by decide +kernel)) ggL_law_X10_turning
set_option maxRecDepth 20000 in
theorem ggL_law_X11_turning : GoodIn wsL_law wsX11_turning := goodIn_r _ [398, 233, 234, 235, 5, 236, 208, 99, 100, 101, 399, 400, 401, 402, 403, 280, 281, 282, 283, 284, 285, 286, 287, 209, 69, 210, 211, 66, 288, 289, 290, 277, 278, 279, 291, 292, 293, 294, 68, 67, 295, 296, 297, 363, 364, 365, 366, 831, 832, 833, 834, 835, 836, 837, 838, 839, 840, 841, 842, 843, 844, 845, 846, 847, 848, 849, 850, 851, 852, 853, 854, 855, 856, 857, 858, 859, 860, 861, 862] (by decide +kernel) (by decide +kernel)
set_option maxRecDepth 20000 in
theorem gL_law_X11_turning : GoodIn wsL_law (wsV RL 61 RX11 yX11_turning wsX11_turning) := goodIn_app (goodIn_of _ (by decide +kernel)) ggL_law_X11_turning
set_option maxRecDepth 20000 in
theorem ggL_law_X10_worst : GoodIn wsL_law wsX10_worst := goodIn_r _ [407, 408, 23, 28, 409, 410, 2, 411, 412, 413, 414, 415, 374, 375, 376, 377, 19, 416, 417, 418, 22, 419, 180, 181, 47, 187, 188, 189, 190, 191, 192, 193, 420, 421, 422, 27, 423, 424, 425, 426, 317, 318, 319, 427, 428, 429, 430, 56, 431, 432, 433, 434, 435, 226, 227, 228, 198, 199, 436, 437, 438, 439, 57, 58, 440, 441, 442, 443, 444, 445, 446, 447, 448, 168, 449, 450, 167, 169, 451, 452, 453, 454, 455, 456, 457, 458, 459, 460, 461, 462, 463, 819, 820, 821, 822, 823, 824, 825, 826, 827, 828, 829, 830, 865, 866, 867, 868, 869, 870, 871, 872, 873, 874, 875, 876, 877, 878, 879, 880, 881, 882, 883, 884] (by decide +kernel) (by decide +kernel)
set_option maxRecDepth 20000 in
theorem gL_law_X10_worst : GoodIn wsL_law (wsV RL 62 RX10 yX10_worst wsX10_worst) := goodIn_app (goodIn_of _ (by decide +kernel)) ggL_law_X10_worst
set_option maxRecDepth 20000 in
theorem ggL_law_X11_worst : GoodIn wsL_law wsX11_worst := goodIn_r _ [467, 468, 74, 469, 99, 100, 5, 101, 470, 471, 472, 473, 208, 474, 475, 476, 477, 76, 213, 284, 285, 286, 287, 209, 69, 210, 211, 66, 288, 289, 290, 277, 278, 279, 291, 292, 293, 294, 68, 67, 295, 296, 297, 478, 479, 480, 481, 73, 482, 483, 484, 485, 486, 487, 488, 489, 490, 491, 492, 493, 494, 495, 75, 496, 273, 274, 275, 276, 497, 498, 499, 500, 831, 832, 833, 834, 835, 836, 837, 838, 839, 840, 841, 842, 843, 844, 845, 846, 847, 848, 849, 850, 851, 852, 853, 854, 855, 856, 857, 858, 859, 860, 861, 862] (by decide +kernel) (by decide +kernel)
set_option maxRecDepth 20000 in
theorem gL_law_X11_worst : GoodIn wsL_law (wsV RL 65 RX11 yX11_worst wsX11_worst) := goodIn_app (goodIn_of _ (by decide +kernel)) ggL_law_X11_worst
set_option maxRecDepth 20000 in
theorem ggL_law_X10_mean : GoodIn wsL_law wsX10_mean := goodIn_r _ [504, 341, 505, 408, 23, 506, 28, 409, 410, 2, 411, 342, 343, 344, 412, 413, 414, 415, 374, 375, 376, 377, 19, 416, 417, 418, 22, 419, 180, 181, 47, 187, 188, 189, 190, 191, 192, 193, 420, 421, 422, 27, 423, 424, 425, 426, 317, 318, 319, 427, 428, 429, 430, 56, 431, 432, 433, 434, 435, 226, 227, 228, 198, 199, 436, 437, 438, 439, 57, 58, 440, 441, 442, 443, 444, 445, 446, 447, 448, 168, 449, 450, 167, 169, 507, 508, 509, 510, 346, 258, 259, 260, 49, 347, 348, 349, 350, 351, 352, 819, 820, 821, 822, 823, 824, 825, 826, 827, 828, 829, 830, 865, 866, 867, 868, 869, 870, 871, 872, 873, 874, 875, 876, 877, 878, 879, 880, 881, 882, 883, 884] (by decide +kernel) (by decide +kernel)
set_option maxRecDepth 20000 in
theorem gL_law_X10_mean : GoodIn wsL_law (wsV RL 66 RX10 yX10_mean wsX10_mean) := goodIn_app (goodIn_of _ (by decide +kernel)) ggL_law_X10_mean
set_option maxRecDepth 20000 in
theorem ggL_law_X11_mean : GoodIn wsL_law wsX11_mean := goodIn_r _ [514, 358, 515, 468, 75, 73, 496, 99, 100, 5, 101, 470, 471, 472, 473, 208, 474, 475, 476, 477, 76, 213, 284, 285, 286, 287, 209, 69, 210, 211, 66, 288, 289, 290, 277, 278, 279, 291, 292, 293, 294, 68, 67, 295, 296, 297, 478, 479, 480, 481, 482, 483, 484, 485, 486, 487, 488, 489, 490, 491, 492, 493, 494, 495, 74, 469, 273, 274, 275, 276, 497, 498, 499, 500, 367, 368, 369, 831, 832, 833, 834, 835, 836, 837, 838, 839, 840, 841, 842, 843, 844, 845, 846, 847, 848, 849, 850, 851, 852, 853, 854, 855, 856, 857, 858, 859, 860, 861, 862] (by decide +kernel) (by decide +kernel)
set_option maxRecDepth 20000 in
theorem gL_law_X11_mean : GoodIn wsL_law (wsV RL 69 RX11 yX11_mean wsX11_mean) := goodIn_app (goodIn_of _ (by decide +kernel)) ggL_law_X11_mean
set_option maxRecDepth 20000 in
theorem ggL_law_X10_risk : GoodIn wsL_law wsX10_risk := goodIn_r _ [519, 340, 341, 23, 505, 19, 394, 221, 222, 223, 2, 224, 342, 343, 344, 225, 226, 227, 22, 228, 181, 198, 199, 346, 258, 259, 260, 180, 49, 345, 254, 255, 256, 47, 347, 348, 349, 350, 351, 352, 819, 820, 821, 822, 823, 824, 825, 826, 827, 828, 829, 830, 865, 866, 867, 868, 869, 870, 871, 872, 873, 874, 875, 876, 877, 878] (by decide +kernel) (by decide +kernel)
set_option maxRecDepth 20000 in
theorem gL_law_X10_risk : GoodIn wsL_law (wsV RL 70 RX10 yX10_risk wsX10_risk) := goodIn_app (goodIn_of _ (by decide +kernel)) ggL_law_X10_risk
set_option maxRecDepth 20000 in
theorem ggL_law_X11_risk : GoodIn wsL_law wsX11_risk := goodIn_r _ [523, 357, 358, 515, 233, 234, 235, 5, 236, 208, 99, 100, 101, 273, 274, 275, 276, 213, 277, 278, 279, 524, 525, 526, 527, 212, 403, 280, 281, 282, 283, 284, 285, 286, 287, 209, 69, 210, 211, 66, 288, 289, 290, 291, 292, 293, 294, 68, 67, 295, 296, 297, 363, 364, 365, 366, 367, 368, 369, 831, 832, 833, 834, 835, 836, 837, 838, 839, 840, 841, 842, 843, 844, 845, 846, 847, 848, 849, 850, 851, 852, 853, 854, 855, 856, 857, 858, 859, 860, 861, 862] (by decide +kernel) (by decide +kernel)
set_option maxRecDepth 20000 in
theorem gL_law_X11_risk : GoodIn wsL_law (wsV RL 73 RX11 yX11_risk wsX11_risk) := goodIn_app (goodIn_of _ (by decide +kernel)) ggL_law_X11_risk
set_option maxRecDepth 20000 in
theorem ggL_law_X10_trier : GoodIn wsL_law wsX10_trier := goodIn_r _ [531, 154, 34, 532, 533, 2, 534, 374, 375, 376, 377, 19, 535, 536, 537, 538, 539, 540, 541, 542, 543, 544, 545, 546, 547, 548, 549, 33, 550, 551, 552, 553, 554, 555, 556, 10, 11, 557, 558, 559, 560, 561, 562, 819, 820, 821, 822, 823, 824, 825, 826, 827, 828, 829, 830, 865, 866, 867, 868, 869, 870] (by decide +kernel) (by decide +kernel)
set_option maxRecDepth 20000 in
theorem gL_law_X10_trier : GoodIn wsL_law (wsV RL 74 RX10 yX10_trier wsX10_trier) := goodIn_app (goodIn_of _ (by decide +kernel)) ggL_law_X10_trier
set_option maxRecDepth 20000 in
theorem ggL_law_X11_trier : GoodIn wsL_law wsX11_trier := goodIn_r _ [566, 208, 215, 70, 99, 100, 5, 101, 831, 832, 833, 834, 835, 836, 837, 838, 839, 840, 841, 842, 843, 844, 845, 846, 847, 848, 849, 850, 851, 852, 853, 854, 855, 856, 857, 858, 859, 860, 861, 862] (by decide +kernel) (by decide +kernel)
set_option maxRecDepth 20000 in
theorem gL_law_X11_trier : GoodIn wsL_law (wsV RL 77 RX11 yX11_trier wsX11_trier) := goodIn_app (goodIn_of _ (by decide +kernel)) ggL_law_X11_trier
set_option maxRecDepth 20000 in
theorem ggL_law_X10_about : GoodIn wsL_law wsX10_about := goodIn_r _ [570, 23, 571, 572, 573, 2, 574, 154, 34, 575, 576, 577, 578, 579, 543, 580, 581, 582, 583, 540, 584, 585, 586, 549, 587, 588, 589, 546, 590, 591, 592, 593, 551, 594, 595, 596, 597, 598, 599, 226, 227, 22, 228, 181, 198, 199, 600, 601, 602, 603, 604, 605, 606, 254, 255, 256, 180, 47, 49, 607, 608, 609, 610, 611, 612, 613, 168, 614, 615, 616, 258, 259, 260, 617, 618, 619, 620, 621, 622, 623, 624, 625, 626, 627, 628, 629, 630, 631, 632, 633, 634, 635, 636, 637, 638, 639, 640, 641, 642, 819, 820, 821, 822, 823, 824, 825, 826, 827, 828, 829, 830, 871, 872, 873, 874, 875, 876, 877, 878] (by decide +kernel) (by decide +kernel)
set_option maxRecDepth 20000 in
theorem gL_law_X10_about : GoodIn wsL_law (wsV RL 78 RX10 yX10_about wsX10_about) := goodIn_app (goodIn_of _ (by decide +kernel)) ggL_law_X10_about
set_option maxRecDepth 20000 in
theorem ggL_law_X11_about : GoodIn wsL_law wsX11_about := goodIn_r _ [646, 647, 648, 649, 5, 650, 215, 99, 100, 101, 651, 652, 653, 654, 70, 655, 656, 657, 658, 208, 273, 274, 275, 276, 213, 277, 278, 279, 659, 660, 661, 662, 663, 280, 281, 282, 283, 284, 285, 286, 287, 209, 69, 210, 211, 66, 288, 289, 290, 291, 292, 293, 294, 68, 67, 295, 296, 297, 363, 364, 365, 366, 831, 832, 833, 834, 835, 836, 837, 838, 839, 840, 841, 842, 843, 844, 845, 846, 847, 848, 849, 850, 851, 852, 853, 854, 855, 856, 857, 858, 859, 860, 861, 862] (by decide +kernel) (by decide +kernel)
set_option maxRecDepth 20000 in
theorem gL_law_X11_about : GoodIn wsL_law (wsV RL 81 RX11 yX11_about wsX11_about) := goodIn_app (goodIn_of _ (by decide +kernel)) ggL_law_X11_about
set_option maxRecDepth 20000 in
theorem ggL_law_X10_as : GoodIn wsL_law wsX10_as := goodIn_r _ [667, 571, 572, 573, 2, 574, 154, 34, 532, 533, 534, 668, 669, 670, 671, 672, 673, 674, 819, 820, 821, 822, 823, 824, 825, 826, 827, 828, 829, 830] (by decide +kernel) (by decide +kernel)
set_option maxRecDepth 20000 in
theorem gL_law_X10_as : GoodIn wsL_law (wsV RL 82 RX10 yX10_as wsX10_as) := goodIn_app (goodIn_of _ (by decide +kernel)) ggL_law_X10_as
set_option maxRecDepth 20000 in
theorem ggL_law_X11_as : GoodIn wsL_law wsX11_as := goodIn_r _ [678, 70, 647, 648, 649, 5, 650, 215, 99, 100, 101, 831, 832, 833, 834, 835, 836, 837, 838, 839, 840, 841, 842, 843, 844, 845, 846, 847, 848, 849, 850, 851, 852, 853, 854, 855, 856, 857, 858, 859, 860, 861, 862] (by decide +kernel) (by decide +kernel)
set_option maxRecDepth 20000 in
theorem gL_law_X11_as : GoodIn wsL_law (wsV RL 85 RX11 yX11_as wsX11_as) := goodIn_app (goodIn_of _ (by decide +kernel)) ggL_law_X11_as
set_option maxRecDepth 20000 in
theorem ggL_law_X10_fits : GoodIn wsL_law wsX10_fits := goodIn_r _ [682, 23, 19, 374, 375, 376, 2, 377, 683, 184, 185, 18, 186, 170, 684, 685, 686, 22, 687, 180, 47, 688, 689, 690, 691, 819, 820, 821, 822, 823, 824, 825, 826, 827, 828, 829, 830, 871, 872, 873, 874, 875, 876, 877, 878, 865, 866, 867, 868, 869, 870] (by decide +kernel) (by decide +kernel)
set_option maxRecDepth 20000 in
theorem gL_law_X10_fits : GoodIn wsL_law (wsV RL 86 RX10 yX10_fits wsX10_fits) := goodIn_app (goodIn_of _ (by decide +kernel)) ggL_law_X10_fits
set_option maxRecDepth 20000 in
theorem ggL_law_X11_fits : GoodIn wsL_law wsX11_fits := goodIn_r _ [695, 208, 99, 100, 5, 101, 696, 697, 698, 699, 284, 285, 286, 287, 209, 69, 210, 211, 66, 288, 289, 290, 277, 278, 279, 291, 292, 293, 294, 68, 67, 295, 296, 297, 831, 832, 833, 834, 835, 836, 837, 838, 839, 840, 841, 842, 843, 844, 845, 846, 847, 848, 849, 850, 851, 852, 853, 854, 855, 856, 857, 858, 859, 860, 861, 862] (by decide +kernel) (by decide +kernel)
set_option maxRecDepth 20000 in
theorem gL_law_X11_fits : GoodIn wsL_law (wsV RL 89 RX11 yX11_fits wsX11_fits) := goodIn_app (goodIn_of _ (by decide +kernel)) ggL_law_X11_fits
set_option maxRecDepth 20000 in
theorem ggL_law_X10_mornings : GoodIn wsL_law wsX10_mornings := goodIn_r _ [703, 32, 23, 374, 375, 376, 2, 377, 19, 704, 705, 706, 31, 707, 708, 709, 710, 711, 712, 713, 714, 715, 716, 717, 718, 719, 22, 720, 180, 47, 721, 722, 723, 724, 725, 198, 199, 245, 246, 247, 18, 248, 172, 173, 819, 820, 821, 822, 823, 824, 825, 826, 827, 828, 829, 830, 871, 872, 873, 874, 875, 876, 877, 878, 885, 865, 866, 867, 868, 869, 870] (by decide +kernel) (by decide +kernel)
set_option maxRecDepth 20000 in
theorem gL_law_X10_mornings : GoodIn wsL_law (wsV RL 90 RX10 yX10_mornings wsX10_mornings) := goodIn_app (goodIn_of _ (by decide +kernel)) ggL_law_X10_mornings
set_option maxRecDepth 20000 in
theorem ggL_law_X11_mornings : GoodIn wsL_law wsX11_mornings := goodIn_r _ [729, 208, 99, 100, 5, 101, 730, 731, 732, 733, 734, 210, 211, 696, 697, 698, 699, 284, 285, 286, 287, 209, 69, 66, 288, 289, 290, 277, 278, 279, 291, 292, 293, 294, 68, 67, 295, 296, 297, 735, 736, 737, 738, 739, 740, 741, 742, 743, 744, 745, 746, 831, 832, 833, 834, 835, 836, 837, 838, 839, 840, 841, 842, 843, 844, 845, 846, 847, 848, 849, 850, 851, 852, 853, 854, 855, 856, 857, 858, 859, 860, 861, 862] (by decide +kernel) (by decide +kernel)
set_option maxRecDepth 20000 in
theorem gL_law_X11_mornings : GoodIn wsL_law (wsV RL 94 RX11 yX11_mornings wsX11_mornings) := goodIn_app (goodIn_of _ (by decide +kernel)) ggL_law_X11_mornings
set_option maxRecDepth 20000 in
theorem ggL_law_X10_image : GoodIn wsL_law wsX10_image := goodIn_r _ [750, 24, 23, 154, 751, 155, 374, 375, 376, 2, 377, 19, 752, 753, 754, 22, 755, 47, 756, 757, 758, 759, 49, 50, 51, 52, 180, 181, 182, 316, 317, 318, 319, 187, 188, 189, 190, 191, 192, 193, 819, 820, 821, 822, 823, 824, 825, 826, 827, 828, 829, 830, 865, 866, 867, 868, 869, 870, 871, 872, 873, 874, 875, 876, 877, 878] (by decide +kernel) (by decide +kernel)
set_option maxRecDepth 20000 in
theorem gL_law_X10_image : GoodIn wsL_law (wsV RL 95 RX10 yX10_image wsX10_image) := goodIn_app (goodIn_of _ (by decide +kernel)) ggL_law_X10_image
set_option maxRecDepth 20000 in
theorem ggL_law_X11_image : GoodIn wsL_law wsX11_image := goodIn_r _ [763, 208, 764, 216, 765, 213, 766, 214, 767, 215, 768, 77, 67, 78, 68, 79, 69, 288, 289, 5, 290, 831, 832, 833, 834, 835, 836, 837, 838, 839, 840, 841, 842, 843, 844, 845, 846, 847, 848, 849, 850, 851, 852, 853, 854, 855, 856, 857, 858, 859, 860, 861, 862] (by decide +kernel) (by decide +kernel)
set_option maxRecDepth 20000 in
theorem gL_law_X11_image : GoodIn wsL_law (wsV RL 98 RX11 yX11_image wsX11_image) := goodIn_app (goodIn_of _ (by decide +kernel)) ggL_law_X11_image
set_option maxRecDepth 20000 in
theorem ggL_law_X10_restore : GoodIn wsL_law wsX10_restore := goodIn_r _ [772, 155, 23, 24, 751, 154, 752, 753, 754, 22, 755, 47, 756, 757, 758, 759, 49, 50, 51, 52, 180, 181, 182, 316, 317, 318, 319, 187, 188, 189, 190, 191, 192, 193, 819, 820, 821, 822, 823, 824, 825, 826, 827, 828, 829, 830, 871, 872, 873, 874, 875, 876, 877, 878] (by decide +kernel) (by decide +kernel)
set_option maxRecDepth 20000 in
theorem gL_law_X10_restore : GoodIn wsL_law (wsV RL 99 RX10 yX10_restore wsX10_restore) := goodIn_app (goodIn_of _ (by decide +kernel)) ggL_law_X10_restore
set_option maxRecDepth 20000 in
theorem ggL_law_X11_restore : GoodIn wsL_law wsX11_restore := goodIn_r _ [776, 764, 765, 216, 766, 213, 767, 214, 768, 215, 67, 77, 68, 78, 69, 79, 288, 289, 5, 290, 831, 832, 833, 834, 835, 836, 837, 838, 839, 840, 841, 842, 843, 844, 845, 846, 847, 848, 849, 850, 851, 852, 853, 854, 855, 856, 857, 858, 859, 860, 861, 862] (by decide +kernel) (by decide +kernel)
set_option maxRecDepth 20000 in
theorem gL_law_X11_restore : GoodIn wsL_law (wsV RL 102 RX11 yX11_restore wsX11_restore) := goodIn_app (goodIn_of _ (by decide +kernel)) ggL_law_X11_restore
set_option maxRecDepth 20000 in
theorem ggL_law_X10_count : GoodIn wsL_law wsX10_count := goodIn_r _ [780, 19, 23, 154, 15, 156, 408, 316, 317, 318, 22, 319, 181, 187, 188, 189, 190, 191, 192, 193, 819, 820, 821, 822, 823, 824, 825, 826, 827, 828, 829, 830, 865, 866, 867, 868, 869, 870, 871, 872, 873, 874, 875, 876, 877, 878, 863, 864] (by decide +kernel) (by decide +kernel)
set_option maxRecDepth 20000 in
theorem gL_law_X10_count : GoodIn wsL_law (wsV RL 103 RX10 yX10_count wsX10_count) := goodIn_app (goodIn_of _ (by decide +kernel)) ggL_law_X10_count
set_option maxRecDepth 20000 in
theorem ggL_law_X11_count : GoodIn wsL_law wsX11_count := goodIn_r _ [784, 785, 786, 787, 5, 788, 208, 209, 210, 211, 212, 213, 214, 215, 98, 216, 468, 288, 289, 290, 831, 832, 833, 834, 835, 836, 837, 838, 839, 840, 841, 842, 843, 844, 845, 846, 847, 848, 849, 850, 851, 852, 853, 854, 855, 856, 857, 858, 859, 860, 861, 862] (by decide +kernel) (by decide +kernel)
set_option maxRecDepth 20000 in
theorem gL_law_X11_count : GoodIn wsL_law (wsV RL 106 RX11 yX11_count wsX11_count) := goodIn_app (goodIn_of _ (by decide +kernel)) ggL_law_X11_count
set_option maxRecDepth 20000 in
theorem ggL_law_X10_digest : GoodIn wsL_law wsX10_digest := goodIn_r _ [792, 793, 19, 154, 15, 794, 795, 796, 2, 797, 798, 218, 219, 220, 23, 221, 222, 223, 224, 225, 226, 227, 22, 228, 181, 198, 199, 799, 800, 801, 802, 803, 337, 338, 339, 340, 341, 342, 343, 344, 345, 254, 255, 256, 180, 47, 49, 346, 258, 259, 260, 347, 348, 349, 350, 351, 352, 804, 568, 569, 570, 571, 572, 573, 574, 34, 575, 576, 577, 578, 579, 543, 580, 581, 582, 583, 540, 584, 585, 586, 549, 587, 588, 589, 546, 590, 591, 592, 593, 551, 594, 595, 596, 597, 598, 599, 600, 601, 602, 603, 604, 605, 606, 607, 608, 609, 610, 611, 612, 613, 168, 614, 615, 616, 617, 618, 619, 620, 621, 622, 623, 624, 625, 626, 627, 628, 629, 630, 631, 632, 633, 634, 635, 636, 637, 638, 639, 640, 641, 642, 374, 375, 376, 377, 805, 371, 372, 373, 378, 379, 380, 381, 806, 680, 681, 682, 683, 184, 185, 18, 186, 170, 684, 685, 686, 687, 688, 689, 690, 691, 807, 778, 779, 780, 156, 408, 316, 317, 318, 319, 187, 188, 189, 190, 191, 192, 193, 819, 820, 821, 822, 823, 824, 825, 826, 827, 828, 829, 830, 865, 866, 867, 868, 869, 870, 863, 864, 871, 872, 873, 874, 875, 876, 877, 878] (by decide +kernel) (by decide +kernel)
set_option maxRecDepth 20000 in
theorem gL_law_X10_digest : GoodIn wsL_law (wsV RL 107 RX10 yX10_digest wsX10_digest) := goodIn_app (goodIn_of _ (by decide +kernel)) ggL_law_X10_digest
set_option maxRecDepth 20000 in
theorem ggL_law_X11_digest : GoodIn wsL_law wsX11_digest := goodIn_r _ [811, 812, 813, 208, 215, 98, 72, 237, 238, 239, 5, 240, 66, 213, 67, 68, 69, 814, 815, 816, 817, 818, 359, 360, 361, 362, 363, 364, 365, 366, 277, 278, 279, 284, 285, 286, 287, 209, 210, 211, 288, 289, 290, 291, 292, 293, 294, 295, 296, 297, 280, 281, 282, 283, 367, 368, 369, 651, 652, 653, 654, 70, 655, 656, 657, 658, 273, 274, 275, 276, 659, 660, 661, 662, 663, 386, 387, 388, 389, 696, 697, 698, 699, 785, 786, 787, 788, 212, 214, 216, 468, 831, 832, 833, 834, 835, 836, 837, 838, 839, 840, 841, 842, 843, 844, 845, 846, 847, 848, 849, 850, 851, 852, 853, 854, 855, 856, 857, 858, 859, 860, 861, 862] (by decide +kernel) (by decide +kernel)
set_option maxRecDepth 20000 in
theorem gL_law_X11_digest : GoodIn wsL_law (wsV RL 111 RX11 yX11_digest wsX11_digest) := goodIn_app (goodIn_of _ (by decide +kernel)) ggL_law_X11_digest
