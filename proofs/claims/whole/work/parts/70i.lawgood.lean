set_option maxRecDepth 20000 in
theorem ggL_law_X12_weight : GoodIn wsL_law wsX12_weight := goodIn_r _ [799, 116, 800, 801, 802, 5, 803, 113, 721, 722, 723, 134, 135, 136, 845, 846, 847, 848, 849, 850, 851, 852, 853, 854, 855, 856, 857, 858, 859, 860, 861, 862, 863, 864, 865, 866, 867, 868, 869, 870, 871, 872, 873, 874, 875, 876, 877, 878, 879, 880, 881, 882, 883, 884, 885, 886] (by decide +kernel) (by decide +kernel)
set_option maxRecDepth 20000 in
theorem gL_law_X12_weight : GoodIn wsL_law (wsV RL 169 RX12 yX12_weight wsX12_weight) := goodIn_app (goodIn_of _ (by decide +kernel)) ggL_law_X12_weight
set_option maxRecDepth 20000 in
theorem ggL_law_X11_toss : GoodIn wsL_law wsX11_toss := goodIn_ca (goodIn_ca (goodIn_r _ [807, 41, 772, 673, 674, 2, 675, 123, 124, 125, 808, 809, 810, 744, 679, 811, 812, 813, 814, 815, 216, 816, 817, 745, 818, 819, 820, 821, 224, 822, 823, 219, 824, 825, 826, 831, 832, 833, 834, 835, 836, 837, 838, 839, 840, 841, 842, 843, 844, 909, 910, 911, 912, 921, 922, 923, 924, 913, 914, 915, 916, 917, 918, 919, 920] (by decide +kernel) (by decide +kernel)) (goodIn_sub (fun _ h => List.mem_append_left _ (List.mem_append_right _ h)) (by decide +kernel))) (goodIn_sub (fun _ h => List.mem_append_right _ h) (by decide +kernel))
set_option maxRecDepth 20000 in
theorem gL_law_X11_toss : GoodIn wsL_law (wsV RL 170 RX11 yX11_toss wsX11_toss) := goodIn_app (goodIn_of _ (by decide +kernel)) ggL_law_X11_toss
set_option maxRecDepth 20000 in
theorem ggL_law_X12_toss : GoodIn wsL_law wsX12_toss := goodIn_r _ [830, 115, 114, 800, 801, 802, 5, 803, 113, 721, 722, 723, 134, 135, 136, 845, 846, 847, 848, 849, 850, 851, 852, 853, 854, 855, 856, 857, 858, 859, 860, 861, 862, 863, 864, 865, 866, 867, 868, 869, 870, 871, 872, 873, 874, 875, 876, 877, 878, 879, 880, 881, 882, 883, 884, 885, 886] (by decide +kernel) (by decide +kernel)
set_option maxRecDepth 20000 in
theorem gL_law_X12_toss : GoodIn wsL_law (wsV RL 173 RX12 yX12_toss wsX12_toss) := goodIn_app (goodIn_of _ (by decide +kernel)) ggL_law_X12_toss
