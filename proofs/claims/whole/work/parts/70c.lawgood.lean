set_option maxRecDepth 20000 in
theorem ggL_law_L_carries : GoodIn wsL_law wsL_carries := goodIn_ca (goodIn_r _ [174, 175, 176, 177, 178, 2, 179, 180, 181, 16, 182, 183, 141, 142, 143, 123, 124, 125, 184, 185, 186, 831, 832, 833, 834, 835, 836, 837, 838, 839, 840, 841, 842, 843, 844, 887, 888, 889, 890] (by decide +kernel) (by decide +kernel)) (goodIn_sub (fun _ h => List.mem_append_left _ (List.mem_append_left _ (List.mem_append_left _ (List.mem_append_right _ h)))) (by decide +kernel))
set_option maxRecDepth 20000 in
theorem gL_law_L_carries : GoodIn wsL_law (va_wsS RL 40 yL_carries wsL_carries) := goodIn_app (goodIn_of _ (by decide +kernel)) ggL_law_L_carries
set_option maxRecDepth 20000 in
theorem ggL_law_X12_carries : GoodIn wsL_law wsX12_carries := goodIn_r _ [190, 191, 84, 85, 152, 153, 5, 154, 134, 135, 136, 192, 193, 194, 845, 846, 847, 848, 849, 850, 851, 852, 853, 854, 855, 856, 857, 858, 859, 860, 861, 862, 863, 864, 865, 866, 867, 868, 869, 870, 871, 872, 873, 874, 875, 876, 877, 878, 879, 880, 881, 882, 883, 884, 885, 886] (by decide +kernel) (by decide +kernel)
set_option maxRecDepth 20000 in
theorem gL_law_X12_carries : GoodIn wsL_law (wsV RL 45 RX12 yX12_carries wsX12_carries) := goodIn_app (goodIn_of _ (by decide +kernel)) ggL_law_X12_carries
set_option maxRecDepth 20000 in
theorem ggL_law_X12_thrown : GoodIn wsL_law wsX12_thrown := goodIn_r _ [198, 191, 845, 846, 847, 848, 849, 850, 851, 852, 853, 854, 855, 856, 857, 858, 859, 860, 861, 862, 863, 864, 865, 866, 867, 868, 869, 870, 871, 872, 873, 874, 875, 876, 877, 878, 879, 880, 881, 882, 883, 884, 885, 886] (by decide +kernel) (by decide +kernel)
set_option maxRecDepth 20000 in
theorem gL_law_X12_thrown : GoodIn wsL_law (wsV RL 46 RX12 yX12_thrown wsX12_thrown) := goodIn_app (goodIn_of _ (by decide +kernel)) ggL_law_X12_thrown
set_option maxRecDepth 20000 in
theorem ggL_law_X11_set : GoodIn wsL_law wsX11_set := goodIn_r _ [202, 20, 21, 123, 124, 2, 125, 831, 832, 833, 834, 835, 836, 837, 838, 839, 840, 841, 842, 843, 844] (by decide +kernel) (by decide +kernel)
set_option maxRecDepth 20000 in
theorem gL_law_X11_set : GoodIn wsL_law (wsV RL 50 RX11 yX11_set wsX11_set) := goodIn_app (goodIn_of _ (by decide +kernel)) ggL_law_X11_set
set_option maxRecDepth 20000 in
theorem ggL_law_X12_set : GoodIn wsL_law wsX12_set := goodIn_r _ [206, 86, 87, 134, 135, 5, 136, 845, 846, 847, 848, 849, 850, 851, 852, 853, 854, 855, 856, 857, 858, 859, 860, 861, 862, 863, 864, 865, 866, 867, 868, 869, 870, 871, 872, 873, 874, 875, 876, 877, 878, 879, 880, 881, 882, 883, 884, 885, 886] (by decide +kernel) (by decide +kernel)
set_option maxRecDepth 20000 in
theorem gL_law_X12_set : GoodIn wsL_law (wsV RL 53 RX12 yX12_set wsX12_set) := goodIn_app (goodIn_of _ (by decide +kernel)) ggL_law_X12_set
set_option maxRecDepth 20000 in
theorem ggL_law_X11_swimmer : GoodIn wsL_law wsX11_swimmer := goodIn_r _ [210, 19, 18, 123, 124, 2, 125, 211, 212, 213, 214, 215, 216, 217, 218, 219, 220, 221, 222, 17, 223, 224, 225, 226, 227, 228, 229, 230, 231, 11, 12, 232, 233, 234, 235, 236, 237, 238, 239, 240, 241, 242, 243, 244, 831, 832, 833, 834, 835, 836, 837, 838, 839, 840, 841, 842, 843, 844, 909, 910, 911, 912, 913, 914, 915, 916, 917, 918, 919, 920, 921, 922, 923, 924] (by decide +kernel) (by decide +kernel)
set_option maxRecDepth 20000 in
theorem gL_law_X11_swimmer : GoodIn wsL_law (wsV RL 54 RX11 yX11_swimmer wsX11_swimmer) := goodIn_app (goodIn_of _ (by decide +kernel)) ggL_law_X11_swimmer
set_option maxRecDepth 20000 in
theorem ggL_law_X12_swimmer : GoodIn wsL_law wsX12_swimmer := goodIn_r _ [248, 249, 88, 89, 90, 91, 106, 134, 135, 5, 136, 845, 846, 847, 848, 849, 850, 851, 852, 853, 854, 855, 856, 857, 858, 859, 860, 861, 862, 863, 864, 865, 866, 867, 868, 869, 870, 871, 872, 873, 874, 875, 876, 877, 878, 879, 880, 881, 882, 883, 884, 885, 886] (by decide +kernel) (by decide +kernel)
set_option maxRecDepth 20000 in
theorem gL_law_X12_swimmer : GoodIn wsL_law (wsV RL 58 RX12 yX12_swimmer wsX12_swimmer) := goodIn_app (goodIn_of _ (by decide +kernel)) ggL_law_X12_swimmer
set_option maxRecDepth 20000 in
theorem ggL_law_X11_feed : GoodIn wsL_law wsX11_feed := goodIn_r _ [253, 254, 255, 256, 257, 2, 258, 19, 18, 123, 124, 125, 909, 910, 911, 912, 921, 922, 923, 924, 913, 914, 915, 916, 917, 918, 919, 920, 831, 832, 833, 834, 835, 836, 837, 838, 839, 840, 841, 842, 843, 844] (by decide +kernel) (by decide +kernel)
set_option maxRecDepth 20000 in
theorem gL_law_X11_feed : GoodIn wsL_law (wsV RL 59 RX11 yX11_feed wsX11_feed) := goodIn_app (goodIn_of _ (by decide +kernel)) ggL_law_X11_feed
set_option maxRecDepth 20000 in
theorem ggL_law_X12_feed : GoodIn wsL_law wsX12_feed := goodIn_r _ [262, 91, 263, 264, 265, 5, 266, 249, 134, 135, 136, 845, 846, 847, 848, 849, 850, 851, 852, 853, 854, 855, 856, 857, 858, 859, 860, 861, 862, 863, 864, 865, 866, 867, 868, 869, 870, 871, 872, 873, 874, 875, 876, 877, 878, 879, 880, 881, 882, 883, 884, 885, 886] (by decide +kernel) (by decide +kernel)
set_option maxRecDepth 20000 in
theorem gL_law_X12_feed : GoodIn wsL_law (wsV RL 62 RX12 yX12_feed wsX12_feed) := goodIn_app (goodIn_of _ (by decide +kernel)) ggL_law_X12_feed
set_option maxRecDepth 20000 in
theorem ggL_law_X11_pace : GoodIn wsL_law wsX11_pace := goodIn_r _ [270, 20, 255, 256, 257, 2, 258, 19, 18, 123, 124, 125, 271, 272, 273, 274, 224, 275, 276, 277, 278, 279, 280, 232, 281, 282, 283, 284, 285, 286, 287, 288, 289, 234, 290, 291, 292, 293, 294, 295, 296, 297, 298, 219, 299, 300, 301, 302, 303, 304, 305, 306, 307, 308, 309, 310, 311, 312, 216, 313, 314, 315, 316, 317, 318, 319, 320, 321, 322, 323, 222, 324, 325, 326, 327, 328, 831, 832, 833, 834, 835, 836, 837, 838, 839, 840, 841, 842, 843, 844, 909, 910, 911, 912, 921, 922, 923, 924, 913, 914, 915, 916, 917, 918, 919, 920] (by decide +kernel) (by decide +kernel)
set_option maxRecDepth 20000 in
theorem gL_law_X11_pace : GoodIn wsL_law (wsV RL 63 RX11 yX11_pace wsX11_pace) := goodIn_app (goodIn_of _ (by decide +kernel)) ggL_law_X11_pace
