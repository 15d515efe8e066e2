set_option maxRecDepth 20000 in
theorem ggL_law_X12_strokes : GoodIn wsL_law wsX12_strokes := goodIn_r _ [510, 502, 845, 846, 847, 848, 849, 850, 851, 852, 853, 854, 855, 856, 857, 858, 859, 860, 861, 862, 863, 864, 865, 866, 867, 868, 869, 870, 871, 872, 873, 874, 875, 876, 877, 878, 879, 880, 881, 882, 883, 884, 885, 886] (by decide +kernel) (by decide +kernel)
set_option maxRecDepth 20000 in
theorem gL_law_X12_strokes : GoodIn wsL_law (wsV RL 108 RX12 yX12_strokes wsX12_strokes) := goodIn_app (goodIn_of _ (by decide +kernel)) ggL_law_X12_strokes
set_option maxRecDepth 20000 in
theorem ggL_law_X11_stop : GoodIn wsL_law wsX11_stop := goodIn_r _ [514, 123, 124, 2, 125, 515, 516, 517, 518, 33, 488, 519, 831, 832, 833, 834, 835, 836, 837, 838, 839, 840, 841, 842, 843, 844, 900, 901] (by decide +kernel) (by decide +kernel)
set_option maxRecDepth 20000 in
theorem gL_law_X11_stop : GoodIn wsL_law (wsV RL 109 RX11 yX11_stop wsX11_stop) := goodIn_app (goodIn_of _ (by decide +kernel)) ggL_law_X11_stop
set_option maxRecDepth 20000 in
theorem ggL_law_X12_stop : GoodIn wsL_law wsX12_stop := goodIn_r _ [523, 134, 135, 5, 136, 524, 525, 526, 527, 502, 101, 845, 846, 847, 848, 849, 850, 851, 852, 853, 854, 855, 856, 857, 858, 859, 860, 861, 862, 863, 864, 865, 866, 867, 868, 869, 870, 871, 872, 873, 874, 875, 876, 877, 878, 879, 880, 881, 882, 883, 884, 885, 886] (by decide +kernel) (by decide +kernel)
set_option maxRecDepth 20000 in
theorem gL_law_X12_stop : GoodIn wsL_law (wsV RL 112 RX12 yX12_stop wsX12_stop) := goodIn_app (goodIn_of _ (by decide +kernel)) ggL_law_X12_stop
set_option maxRecDepth 20000 in
theorem ggL_law_X11_floor : GoodIn wsL_law wsX11_floor := goodIn_r _ [531, 123, 124, 2, 125, 515, 516, 517, 518, 33, 488, 519, 831, 832, 833, 834, 835, 836, 837, 838, 839, 840, 841, 842, 843, 844, 900, 901] (by decide +kernel) (by decide +kernel)
set_option maxRecDepth 20000 in
theorem gL_law_X11_floor : GoodIn wsL_law (wsV RL 113 RX11 yX11_floor wsX11_floor) := goodIn_app (goodIn_of _ (by decide +kernel)) ggL_law_X11_floor
set_option maxRecDepth 20000 in
theorem ggL_law_X12_floor : GoodIn wsL_law wsX12_floor := goodIn_r _ [535, 134, 135, 5, 136, 524, 525, 526, 527, 502, 101, 845, 846, 847, 848, 849, 850, 851, 852, 853, 854, 855, 856, 857, 858, 859, 860, 861, 862, 863, 864, 865, 866, 867, 868, 869, 870, 871, 872, 873, 874, 875, 876, 877, 878, 879, 880, 881, 882, 883, 884, 885, 886] (by decide +kernel) (by decide +kernel)
set_option maxRecDepth 20000 in
theorem gL_law_X12_floor : GoodIn wsL_law (wsV RL 116 RX12 yX12_floor wsX12_floor) := goodIn_app (goodIn_of _ (by decide +kernel)) ggL_law_X12_floor
set_option maxRecDepth 20000 in
theorem ggL_law_X11_order : GoodIn wsL_law wsX11_order := goodIn_r _ [539, 34, 488, 35, 540, 541, 542, 2, 543, 544, 545, 546, 255, 256, 257, 258, 19, 18, 123, 124, 125, 493, 494, 495, 32, 496, 68, 67, 497, 490, 491, 492, 831, 832, 833, 834, 835, 836, 837, 838, 839, 840, 841, 842, 843, 844, 900, 901] (by decide +kernel) (by decide +kernel)
set_option maxRecDepth 20000 in
theorem gL_law_X11_order : GoodIn wsL_law (wsV RL 117 RX11 yX11_order wsX11_order) := goodIn_app (goodIn_of _ (by decide +kernel)) ggL_law_X11_order
set_option maxRecDepth 20000 in
theorem ggL_law_X12_order : GoodIn wsL_law wsX12_order := goodIn_r _ [550, 102, 551, 552, 263, 264, 265, 5, 266, 249, 134, 135, 136, 845, 846, 847, 848, 849, 850, 851, 852, 853, 854, 855, 856, 857, 858, 859, 860, 861, 862, 863, 864, 865, 866, 867, 868, 869, 870, 871, 872, 873, 874, 875, 876, 877, 878, 879, 880, 881, 882, 883, 884, 885, 886] (by decide +kernel) (by decide +kernel)
set_option maxRecDepth 20000 in
theorem gL_law_X12_order : GoodIn wsL_law (wsV RL 120 RX12 yX12_order wsX12_order) := goodIn_app (goodIn_of _ (by decide +kernel)) ggL_law_X12_order
set_option maxRecDepth 20000 in
theorem ggL_law_X11_turn : GoodIn wsL_law wsX11_turn := goodIn_r _ [556, 35, 34, 488, 255, 256, 257, 2, 258, 19, 18, 123, 124, 125, 489, 490, 491, 32, 492, 67, 68, 493, 494, 495, 496, 497, 831, 832, 833, 834, 835, 836, 837, 838, 839, 840, 841, 842, 843, 844, 900, 901] (by decide +kernel) (by decide +kernel)
set_option maxRecDepth 20000 in
theorem gL_law_X11_turn : GoodIn wsL_law (wsV RL 121 RX11 yX11_turn wsX11_turn) := goodIn_app (goodIn_of _ (by decide +kernel)) ggL_law_X11_turn
set_option maxRecDepth 20000 in
theorem ggL_law_X12_turn : GoodIn wsL_law wsX12_turn := goodIn_r _ [560, 552, 551, 103, 263, 264, 265, 5, 266, 249, 134, 135, 136, 845, 846, 847, 848, 849, 850, 851, 852, 853, 854, 855, 856, 857, 858, 859, 860, 861, 862, 863, 864, 865, 866, 867, 868, 869, 870, 871, 872, 873, 874, 875, 876, 877, 878, 879, 880, 881, 882, 883, 884, 885, 886] (by decide +kernel) (by decide +kernel)
set_option maxRecDepth 20000 in
theorem gL_law_X12_turn : GoodIn wsL_law (wsV RL 124 RX12 yX12_turn wsX12_turn) := goodIn_app (goodIn_of _ (by decide +kernel)) ggL_law_X12_turn
set_option maxRecDepth 20000 in
theorem ggL_law_X11_voided : GoodIn wsL_law wsX11_voided := goodIn_r _ [564, 34, 488, 35, 519, 831, 832, 833, 834, 835, 836, 837, 838, 839, 840, 841, 842, 843, 844, 900, 901] (by decide +kernel) (by decide +kernel)
set_option maxRecDepth 20000 in
theorem gL_law_X11_voided : GoodIn wsL_law (wsV RL 125 RX11 yX11_voided wsX11_voided) := goodIn_app (goodIn_of _ (by decide +kernel)) ggL_law_X11_voided
