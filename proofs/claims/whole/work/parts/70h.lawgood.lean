set_option maxRecDepth 20000 in
theorem ggL_law_X12_count : GoodIn wsL_law wsX12_count := goodIn_r _ [668, 249, 83, 449, 502, 552, 104, 845, 846, 847, 848, 849, 850, 851, 852, 853, 854, 855, 856, 857, 858, 859, 860, 861, 862, 863, 864, 865, 866, 867, 868, 869, 870, 871, 872, 873, 874, 875, 876, 877, 878, 879, 880, 881, 882, 883, 884, 885, 886] (by decide +kernel) (by decide +kernel)
set_option maxRecDepth 20000 in
theorem gL_law_X12_count : GoodIn wsL_law (wsV RL 149 RX12 yX12_count wsX12_count) := goodIn_app (goodIn_of _ (by decide +kernel)) ggL_law_X12_count
set_option maxRecDepth 20000 in
theorem ggL_law_X11_keep : GoodIn wsL_law wsX11_keep := goodIn_r _ [672, 41, 673, 674, 2, 675, 123, 124, 125, 255, 256, 257, 258, 19, 18, 676, 677, 678, 679, 680, 681, 254, 682, 683, 684, 685, 686, 216, 687, 688, 689, 690, 691, 224, 692, 693, 219, 694, 695, 696, 222, 697, 211, 212, 213, 214, 215, 217, 218, 220, 221, 17, 223, 225, 226, 227, 228, 229, 230, 231, 11, 12, 232, 233, 234, 235, 236, 237, 238, 239, 240, 241, 242, 243, 244, 698, 699, 700, 701, 25, 395, 702, 703, 704, 705, 394, 396, 399, 400, 401, 24, 402, 55, 706, 707, 708, 709, 710, 711, 712, 713, 714, 715, 716, 33, 488, 519, 831, 832, 833, 834, 835, 836, 837, 838, 839, 840, 841, 842, 843, 844, 909, 910, 911, 912, 921, 922, 923, 924, 913, 914, 915, 916, 917, 918, 919, 920, 891, 892, 893, 894, 895, 896, 897, 898, 899, 929, 930, 900, 901] (by decide +kernel) (by decide +kernel)
set_option maxRecDepth 20000 in
theorem gL_law_X11_keep : GoodIn wsL_law (wsV RL 150 RX11 yX11_keep wsX11_keep) := goodIn_app (goodIn_of _ (by decide +kernel)) ggL_law_X11_keep
set_option maxRecDepth 20000 in
theorem ggL_law_X12_keep : GoodIn wsL_law wsX12_keep := goodIn_r _ [720, 113, 114, 115, 88, 116, 117, 96, 94, 118, 92, 93, 502, 101, 721, 722, 5, 723, 134, 135, 136, 263, 264, 265, 266, 249, 724, 725, 726, 727, 89, 91, 90, 845, 846, 847, 848, 849, 850, 851, 852, 853, 854, 855, 856, 857, 858, 859, 860, 861, 862, 863, 864, 865, 866, 867, 868, 869, 870, 871, 872, 873, 874, 875, 876, 877, 878, 879, 880, 881, 882, 883, 884, 885, 886] (by decide +kernel) (by decide +kernel)
set_option maxRecDepth 20000 in
theorem gL_law_X12_keep : GoodIn wsL_law (wsV RL 153 RX12 yX12_keep wsX12_keep) := goodIn_app (goodIn_of _ (by decide +kernel)) ggL_law_X12_keep
set_option maxRecDepth 20000 in
theorem ggL_law_X11_make : GoodIn wsL_law wsX11_make := goodIn_r _ [731, 41, 702, 703, 704, 673, 674, 2, 675, 123, 124, 125, 706, 707, 708, 709, 11, 12, 710, 711, 712, 831, 832, 833, 834, 835, 836, 837, 838, 839, 840, 841, 842, 843, 844, 929, 930] (by decide +kernel) (by decide +kernel)
set_option maxRecDepth 20000 in
theorem gL_law_X11_make : GoodIn wsL_law (wsV RL 154 RX11 yX11_make wsX11_make) := goodIn_app (goodIn_of _ (by decide +kernel)) ggL_law_X11_make
set_option maxRecDepth 20000 in
theorem ggL_law_X12_make : GoodIn wsL_law wsX12_make := goodIn_r _ [735, 113, 117, 118, 721, 722, 5, 723, 134, 135, 136, 845, 846, 847, 848, 849, 850, 851, 852, 853, 854, 855, 856, 857, 858, 859, 860, 861, 862, 863, 864, 865, 866, 867, 868, 869, 870, 871, 872, 873, 874, 875, 876, 877, 878, 879, 880, 881, 882, 883, 884, 885, 886] (by decide +kernel) (by decide +kernel)
set_option maxRecDepth 20000 in
theorem gL_law_X12_make : GoodIn wsL_law (wsV RL 157 RX12 yX12_make wsX12_make) := goodIn_app (goodIn_of _ (by decide +kernel)) ggL_law_X12_make
set_option maxRecDepth 20000 in
theorem ggL_law_L_element : GoodIn wsL_law wsL_element := goodIn_ca (goodIn_ca (goodIn_r _ [738, 175, 739, 740, 741, 742, 2, 743, 180, 181, 744, 745, 41, 746, 705, 673, 674, 675, 123, 124, 125, 831, 832, 833, 834, 835, 836, 837, 838, 839, 840, 841, 842, 843, 844, 929, 930] (by decide +kernel) (by decide +kernel)) (goodIn_sub (fun _ h => List.mem_append_left _ (List.mem_append_left _ (List.mem_append_left _ (List.mem_append_right _ h)))) (by decide +kernel))) (goodIn_sub (fun _ h => List.mem_append_left _ (List.mem_append_left _ (List.mem_append_right _ h))) (by decide +kernel))
set_option maxRecDepth 20000 in
theorem gL_law_L_element : GoodIn wsL_law (va_wsS RL 158 yL_element wsL_element) := goodIn_app (goodIn_of _ (by decide +kernel)) ggL_law_L_element
set_option maxRecDepth 20000 in
theorem ggL_law_X12_element : GoodIn wsL_law wsX12_element := goodIn_r _ [750, 113, 117, 191, 118, 721, 722, 5, 723, 134, 135, 136, 845, 846, 847, 848, 849, 850, 851, 852, 853, 854, 855, 856, 857, 858, 859, 860, 861, 862, 863, 864, 865, 866, 867, 868, 869, 870, 871, 872, 873, 874, 875, 876, 877, 878, 879, 880, 881, 882, 883, 884, 885, 886] (by decide +kernel) (by decide +kernel)
set_option maxRecDepth 20000 in
theorem gL_law_X12_element : GoodIn wsL_law (wsV RL 161 RX12 yX12_element wsX12_element) := goodIn_app (goodIn_of _ (by decide +kernel)) ggL_law_X12_element
set_option maxRecDepth 20000 in
theorem ggL_law_X11_copy : GoodIn wsL_law wsX11_copy := goodIn_r _ [754, 41, 746, 755, 705, 756, 757, 758, 759, 673, 674, 2, 675, 123, 124, 125, 760, 761, 762, 704, 763, 712, 831, 832, 833, 834, 835, 836, 837, 838, 839, 840, 841, 842, 843, 844, 929, 930] (by decide +kernel) (by decide +kernel)
set_option maxRecDepth 20000 in
theorem gL_law_X11_copy : GoodIn wsL_law (wsV RL 162 RX11 yX11_copy wsX11_copy) := goodIn_app (goodIn_of _ (by decide +kernel)) ggL_law_X11_copy
set_option maxRecDepth 20000 in
theorem ggL_law_X12_copy : GoodIn wsL_law wsX12_copy := goodIn_r _ [767, 113, 117, 118, 721, 722, 5, 723, 134, 135, 136, 845, 846, 847, 848, 849, 850, 851, 852, 853, 854, 855, 856, 857, 858, 859, 860, 861, 862, 863, 864, 865, 866, 867, 868, 869, 870, 871, 872, 873, 874, 875, 876, 877, 878, 879, 880, 881, 882, 883, 884, 885, 886] (by decide +kernel) (by decide +kernel)
set_option maxRecDepth 20000 in
theorem gL_law_X12_copy : GoodIn wsL_law (wsV RL 165 RX12 yX12_copy wsX12_copy) := goodIn_app (goodIn_of _ (by decide +kernel)) ggL_law_X12_copy
set_option maxRecDepth 20000 in
theorem ggL_law_X11_weight : GoodIn wsL_law wsX11_weight := goodIn_r _ [771, 41, 772, 673, 674, 2, 675, 123, 124, 125, 773, 774, 775, 776, 777, 216, 778, 779, 316, 780, 224, 781, 234, 232, 782, 783, 784, 785, 219, 786, 787, 788, 789, 790, 791, 792, 222, 793, 794, 795, 328, 831, 832, 833, 834, 835, 836, 837, 838, 839, 840, 841, 842, 843, 844, 909, 910, 911, 912, 921, 922, 923, 924, 913, 914, 915, 916, 917, 918, 919, 920] (by decide +kernel) (by decide +kernel)
set_option maxRecDepth 20000 in
theorem gL_law_X11_weight : GoodIn wsL_law (wsV RL 166 RX11 yX11_weight wsX11_weight) := goodIn_app (goodIn_of _ (by decide +kernel)) ggL_law_X11_weight
