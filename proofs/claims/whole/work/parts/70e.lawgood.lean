set_option maxRecDepth 20000 in
theorem ggL_law_X12_ends : GoodIn wsL_law wsX12_ends := goodIn_r _ [430, 263, 264, 265, 5, 266, 249, 134, 135, 136, 152, 153, 154, 155, 156, 157, 158, 83, 380, 381, 382, 383, 92, 93, 95, 94, 84, 85, 90, 333, 334, 335, 336, 88, 89, 337, 338, 339, 340, 341, 342, 343, 91, 192, 193, 194, 384, 385, 386, 387, 388, 389, 344, 345, 346, 347, 86, 845, 846, 847, 848, 849, 850, 851, 852, 853, 854, 855, 856, 857, 858, 859, 860, 861, 862, 863, 864, 865, 866, 867, 868, 869, 870, 871, 872, 873, 874, 875, 876, 877, 878, 879, 880, 881, 882, 883, 884, 885, 886] (by decide +kernel) (by decide +kernel)
set_option maxRecDepth 20000 in
theorem gL_law_X12_ends : GoodIn wsL_law (wsV RL 88 RX12 yX12_ends wsX12_ends) := goodIn_app (goodIn_of _ (by decide +kernel)) ggL_law_X12_ends
set_option maxRecDepth 20000 in
theorem ggL_law_X11_ship : GoodIn wsL_law wsX11_ship := goodIn_r _ [434, 29, 28, 27, 435, 436, 141, 142, 2, 143, 123, 124, 125, 437, 438, 439, 440, 11, 12, 441, 442, 443, 444, 831, 832, 833, 834, 835, 836, 837, 838, 839, 840, 841, 842, 843, 844, 925, 926, 927, 928] (by decide +kernel) (by decide +kernel)
set_option maxRecDepth 20000 in
theorem gL_law_X11_ship : GoodIn wsL_law (wsV RL 89 RX11 yX11_ship wsX11_ship) := goodIn_app (goodIn_of _ (by decide +kernel)) ggL_law_X11_ship
set_option maxRecDepth 20000 in
theorem ggL_law_X12_ship : GoodIn wsL_law wsX12_ship := goodIn_r _ [448, 449, 97, 98, 99, 100, 152, 153, 5, 154, 134, 135, 136, 845, 846, 847, 848, 849, 850, 851, 852, 853, 854, 855, 856, 857, 858, 859, 860, 861, 862, 863, 864, 865, 866, 867, 868, 869, 870, 871, 872, 873, 874, 875, 876, 877, 878, 879, 880, 881, 882, 883, 884, 885, 886] (by decide +kernel) (by decide +kernel)
set_option maxRecDepth 20000 in
theorem gL_law_X12_ship : GoodIn wsL_law (wsV RL 92 RX12 yX12_ship wsX12_ship) := goodIn_app (goodIn_of _ (by decide +kernel)) ggL_law_X12_ship
set_option maxRecDepth 20000 in
theorem ggL_law_X11_near : GoodIn wsL_law wsX11_near := goodIn_r _ [453, 29, 25, 28, 123, 124, 2, 125, 399, 400, 401, 24, 402, 55, 454, 455, 456, 457, 395, 394, 396, 21, 458, 459, 460, 436, 461, 441, 443, 462, 463, 292, 464, 442, 444, 831, 832, 833, 834, 835, 836, 837, 838, 839, 840, 841, 842, 843, 844, 891, 892, 893, 894, 895, 896, 897, 898, 899, 925, 926, 927, 928] (by decide +kernel) (by decide +kernel)
set_option maxRecDepth 20000 in
theorem gL_law_X11_near : GoodIn wsL_law (wsV RL 93 RX11 yX11_near wsX11_near) := goodIn_app (goodIn_of _ (by decide +kernel)) ggL_law_X11_near
set_option maxRecDepth 20000 in
theorem ggL_law_X12_near : GoodIn wsL_law wsX12_near := goodIn_r _ [468, 449, 96, 134, 135, 5, 136, 469, 470, 471, 472, 94, 97, 99, 98, 100, 92, 87, 93, 473, 474, 475, 845, 846, 847, 848, 849, 850, 851, 852, 853, 854, 855, 856, 857, 858, 859, 860, 861, 862, 863, 864, 865, 866, 867, 868, 869, 870, 871, 872, 873, 874, 875, 876, 877, 878, 879, 880, 881, 882, 883, 884, 885, 886] (by decide +kernel) (by decide +kernel)
set_option maxRecDepth 20000 in
theorem gL_law_X12_near : GoodIn wsL_law (wsV RL 96 RX12 yX12_near wsX12_near) := goodIn_app (goodIn_of _ (by decide +kernel)) ggL_law_X12_near
set_option maxRecDepth 20000 in
theorem ggL_law_X11_lanes : GoodIn wsL_law wsX11_lanes := goodIn_r _ [479, 25, 29, 28, 399, 400, 401, 24, 402, 55, 454, 455, 456, 2, 457, 395, 394, 396, 21, 458, 459, 460, 436, 461, 441, 443, 462, 463, 292, 464, 442, 444, 831, 832, 833, 834, 835, 836, 837, 838, 839, 840, 841, 842, 843, 844, 891, 892, 893, 894, 895, 896, 897, 898, 899, 925, 926, 927, 928] (by decide +kernel) (by decide +kernel)
set_option maxRecDepth 20000 in
theorem gL_law_X11_lanes : GoodIn wsL_law (wsV RL 97 RX11 yX11_lanes wsX11_lanes) := goodIn_app (goodIn_of _ (by decide +kernel)) ggL_law_X11_lanes
set_option maxRecDepth 20000 in
theorem ggL_law_X12_lanes : GoodIn wsL_law wsX12_lanes := goodIn_r _ [483, 96, 449, 469, 470, 471, 5, 472, 94, 97, 99, 98, 100, 92, 87, 93, 473, 474, 475, 845, 846, 847, 848, 849, 850, 851, 852, 853, 854, 855, 856, 857, 858, 859, 860, 861, 862, 863, 864, 865, 866, 867, 868, 869, 870, 871, 872, 873, 874, 875, 876, 877, 878, 879, 880, 881, 882, 883, 884, 885, 886] (by decide +kernel) (by decide +kernel)
set_option maxRecDepth 20000 in
theorem gL_law_X12_lanes : GoodIn wsL_law (wsV RL 100 RX12 yX12_lanes wsX12_lanes) := goodIn_app (goodIn_of _ (by decide +kernel)) ggL_law_X12_lanes
set_option maxRecDepth 20000 in
theorem ggL_law_X11_stroke : GoodIn wsL_law wsX11_stroke := goodIn_r _ [487, 33, 488, 123, 124, 2, 125, 489, 490, 491, 32, 492, 67, 68, 493, 494, 495, 496, 497, 831, 832, 833, 834, 835, 836, 837, 838, 839, 840, 841, 842, 843, 844, 900, 901] (by decide +kernel) (by decide +kernel)
set_option maxRecDepth 20000 in
theorem gL_law_X11_stroke : GoodIn wsL_law (wsV RL 101 RX11 yX11_stroke wsX11_stroke) := goodIn_app (goodIn_of _ (by decide +kernel)) ggL_law_X11_stroke
set_option maxRecDepth 20000 in
theorem ggL_law_X12_stroke : GoodIn wsL_law wsX12_stroke := goodIn_r _ [501, 502, 101, 134, 135, 5, 136, 845, 846, 847, 848, 849, 850, 851, 852, 853, 854, 855, 856, 857, 858, 859, 860, 861, 862, 863, 864, 865, 866, 867, 868, 869, 870, 871, 872, 873, 874, 875, 876, 877, 878, 879, 880, 881, 882, 883, 884, 885, 886] (by decide +kernel) (by decide +kernel)
set_option maxRecDepth 20000 in
theorem gL_law_X12_stroke : GoodIn wsL_law (wsV RL 104 RX12 yX12_stroke wsX12_stroke) := goodIn_app (goodIn_of _ (by decide +kernel)) ggL_law_X12_stroke
set_option maxRecDepth 20000 in
theorem ggL_law_X11_strokes : GoodIn wsL_law wsX11_strokes := goodIn_r _ [506, 33, 488, 831, 832, 833, 834, 835, 836, 837, 838, 839, 840, 841, 842, 843, 844, 900, 901] (by decide +kernel) (by decide +kernel)
set_option maxRecDepth 20000 in
theorem gL_law_X11_strokes : GoodIn wsL_law (wsV RL 105 RX11 yX11_strokes wsX11_strokes) := goodIn_app (goodIn_of _ (by decide +kernel)) ggL_law_X11_strokes
