set_option maxRecDepth 20000 in
theorem ggL_carries_X11_carries : GoodIn wsL_carries wsX11_carries := goodIn_ca (goodIn_r _ [6, 7, 8, 9, 10, 11, 12, 13, 5, 14, 15, 16, 17, 18, 19, 20, 21, 22, 23, 24, 25, 26, 27, 28, 29, 30, 31, 32, 33, 34, 35, 36, 37, 38] (by decide +kernel) (by decide +kernel)) (goodIn_sub (fun _ h => List.mem_cons_of_mem _ (List.mem_append_right _ h)) (by decide +kernel))
set_option maxRecDepth 20000 in
theorem gL_carries_X11_carries : GoodIn wsL_carries (wsV RL 7 RX11 yX11_carries wsX11_carries) := goodIn_app (goodIn_of _ (by decide +kernel)) ggL_carries_X11_carries
set_option maxRecDepth 20000 in
theorem ggL_element_X11_element : GoodIn wsL_element wsX11_element := goodIn_ca (goodIn_ca (goodIn_r _ [7, 8, 9, 10, 11, 12, 13, 14, 15, 16, 6, 17, 18, 19, 20, 21, 22, 23, 24, 25, 26, 27, 28, 29, 30, 31, 32, 33, 34, 35, 36] (by decide +kernel) (by decide +kernel)) (goodIn_sub (fun _ h => List.mem_cons_of_mem _ (List.mem_append_left _ (List.mem_append_right _ h))) (by decide +kernel))) (goodIn_sub (fun _ h => List.mem_cons_of_mem _ (List.mem_append_right _ h)) (by decide +kernel))
set_option maxRecDepth 20000 in
theorem gL_element_X11_element : GoodIn wsL_element (wsV RL 15 RX11 yX11_element wsX11_element) := goodIn_app (goodIn_of _ (by decide +kernel)) ggL_element_X11_element
set_option maxRecDepth 20000 in
theorem ggL_law_X11_init : GoodIn wsL_law wsX11_init := goodIn_r _ [9, 10, 11, 12, 13, 14, 15, 16, 17, 18, 19, 20, 21, 22, 23, 24, 25, 26, 27, 28, 29, 30, 31, 32, 33, 34, 35, 36, 37, 38, 39, 40, 41, 42, 43, 44, 45, 46, 47, 48, 49, 50, 51, 52, 53, 54, 55, 56, 57, 58, 59, 60, 61, 62, 63, 64, 65, 66, 67, 68, 69, 70, 71, 72, 73, 74, 75, 76, 77, 78, 887, 888, 889, 890, 831, 832, 833, 834, 835, 836, 837, 838, 839, 840, 841, 842, 843, 844, 891, 892, 893, 894, 895, 896, 897, 898, 899, 900, 901, 902, 903, 904, 905, 906, 907, 908] (by decide +kernel) (by decide +kernel)
set_option maxRecDepth 20000 in
theorem gL_law_X11_init : GoodIn wsL_law (wsX11_init) := ggL_law_X11_init
set_option maxRecDepth 20000 in
theorem ggL_law_X12_init : GoodIn wsL_law wsX12_init := goodIn_r _ [81, 82, 11, 12, 45, 83, 48, 84, 85, 86, 87, 88, 89, 90, 91, 92, 93, 94, 95, 96, 97, 98, 99, 100, 101, 102, 103, 104, 105, 106, 107, 108, 109, 110, 111, 112, 113, 114, 115, 116, 117, 118, 845, 846, 847, 848, 849, 850, 851, 852, 853, 854, 855, 856, 857, 858, 859, 860, 861, 862, 863, 864, 865, 866, 867, 868, 869, 870, 871, 872, 873, 874, 875, 876, 877, 878, 879, 880, 881, 882, 883, 884, 885, 886] (by decide +kernel) (by decide +kernel)
set_option maxRecDepth 20000 in
theorem gL_law_X12_init : GoodIn wsL_law (wsX12_init) := ggL_law_X12_init
set_option maxRecDepth 20000 in
theorem ggL_law_X11_land : GoodIn wsL_law wsX11_land := goodIn_r _ [122, 16, 123, 124, 2, 125, 126, 127, 128, 15, 129, 46, 47, 831, 832, 833, 834, 835, 836, 837, 838, 839, 840, 841, 842, 843, 844, 887, 888, 889, 890] (by decide +kernel) (by decide +kernel)
set_option maxRecDepth 20000 in
theorem gL_law_X11_land : GoodIn wsL_law (wsV RL 25 RX11 yX11_land wsX11_land) := goodIn_app (goodIn_of _ (by decide +kernel)) ggL_law_X11_land
set_option maxRecDepth 20000 in
theorem ggL_law_X12_land : GoodIn wsL_law wsX12_land := goodIn_r _ [133, 83, 134, 135, 5, 136, 845, 846, 847, 848, 849, 850, 851, 852, 853, 854, 855, 856, 857, 858, 859, 860, 861, 862, 863, 864, 865, 866, 867, 868, 869, 870, 871, 872, 873, 874, 875, 876, 877, 878, 879, 880, 881, 882, 883, 884, 885, 886] (by decide +kernel) (by decide +kernel)
set_option maxRecDepth 20000 in
theorem gL_law_X12_land : GoodIn wsL_law (wsV RL 29 RX12 yX12_land wsX12_land) := goodIn_app (goodIn_of _ (by decide +kernel)) ggL_law_X12_land
set_option maxRecDepth 20000 in
theorem ggL_law_X11_isLand : GoodIn wsL_law wsX11_isLand := goodIn_r _ [140, 16, 141, 142, 2, 143, 123, 124, 125, 144, 145, 146, 15, 147, 46, 831, 832, 833, 834, 835, 836, 837, 838, 839, 840, 841, 842, 843, 844, 887, 888, 889, 890] (by decide +kernel) (by decide +kernel)
set_option maxRecDepth 20000 in
theorem gL_law_X11_isLand : GoodIn wsL_law (wsV RL 30 RX11 yX11_isLand wsX11_isLand) := goodIn_app (goodIn_of _ (by decide +kernel)) ggL_law_X11_isLand
set_option maxRecDepth 20000 in
theorem ggL_law_X12_isLand : GoodIn wsL_law wsX12_isLand := goodIn_r _ [151, 152, 153, 5, 154, 134, 135, 136, 155, 156, 157, 158, 83, 845, 846, 847, 848, 849, 850, 851, 852, 853, 854, 855, 856, 857, 858, 859, 860, 861, 862, 863, 864, 865, 866, 867, 868, 869, 870, 871, 872, 873, 874, 875, 876, 877, 878, 879, 880, 881, 882, 883, 884, 885, 886] (by decide +kernel) (by decide +kernel)
set_option maxRecDepth 20000 in
theorem gL_law_X12_isLand : GoodIn wsL_law (wsV RL 34 RX12 yX12_isLand wsX12_isLand) := goodIn_app (goodIn_of _ (by decide +kernel)) ggL_law_X12_isLand
set_option maxRecDepth 20000 in
theorem ggL_law_X11_tide : GoodIn wsL_law wsX11_tide := goodIn_r _ [162, 16, 123, 124, 2, 125, 163, 164, 165, 15, 166, 49, 50, 831, 832, 833, 834, 835, 836, 837, 838, 839, 840, 841, 842, 843, 844, 887, 888, 889, 890] (by decide +kernel) (by decide +kernel)
set_option maxRecDepth 20000 in
theorem gL_law_X11_tide : GoodIn wsL_law (wsV RL 35 RX11 yX11_tide wsX11_tide) := goodIn_app (goodIn_of _ (by decide +kernel)) ggL_law_X11_tide
set_option maxRecDepth 20000 in
theorem ggL_law_X12_tide : GoodIn wsL_law wsX12_tide := goodIn_r _ [170, 84, 85, 134, 135, 5, 136, 845, 846, 847, 848, 849, 850, 851, 852, 853, 854, 855, 856, 857, 858, 859, 860, 861, 862, 863, 864, 865, 866, 867, 868, 869, 870, 871, 872, 873, 874, 875, 876, 877, 878, 879, 880, 881, 882, 883, 884, 885, 886] (by decide +kernel) (by decide +kernel)
set_option maxRecDepth 20000 in
theorem gL_law_X12_tide : GoodIn wsL_law (wsV RL 39 RX12 yX12_tide wsX12_tide) := goodIn_app (goodIn_of _ (by decide +kernel)) ggL_law_X12_tide
