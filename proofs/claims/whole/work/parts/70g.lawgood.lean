set_option maxRecDepth 20000 in
theorem ggL_law_X12_voided : GoodIn wsL_law wsX12_voided := goodIn_r _ [568, 551, 552, 103, 102, 845, 846, 847, 848, 849, 850, 851, 852, 853, 854, 855, 856, 857, 858, 859, 860, 861, 862, 863, 864, 865, 866, 867, 868, 869, 870, 871, 872, 873, 874, 875, 876, 877, 878, 879, 880, 881, 882, 883, 884, 885, 886] (by decide +kernel) (by decide +kernel)
set_option maxRecDepth 20000 in
theorem gL_law_X12_voided : GoodIn wsL_law (wsV RL 128 RX12 yX12_voided wsX12_voided) := goodIn_app (goodIn_of _ (by decide +kernel)) ggL_law_X12_voided
set_option maxRecDepth 20000 in
theorem ggL_law_X11_calm : GoodIn wsL_law wsX11_calm := goodIn_r _ [572, 39, 573, 123, 124, 2, 125, 831, 832, 833, 834, 835, 836, 837, 838, 839, 840, 841, 842, 843, 844, 902, 903, 904, 905, 906, 907, 908] (by decide +kernel) (by decide +kernel)
set_option maxRecDepth 20000 in
theorem gL_law_X11_calm : GoodIn wsL_law (wsV RL 129 RX11 yX11_calm wsX11_calm) := goodIn_app (goodIn_of _ (by decide +kernel)) ggL_law_X11_calm
set_option maxRecDepth 20000 in
theorem ggL_law_X12_calm : GoodIn wsL_law wsX12_calm := goodIn_r _ [577, 104, 134, 135, 5, 136, 845, 846, 847, 848, 849, 850, 851, 852, 853, 854, 855, 856, 857, 858, 859, 860, 861, 862, 863, 864, 865, 866, 867, 868, 869, 870, 871, 872, 873, 874, 875, 876, 877, 878, 879, 880, 881, 882, 883, 884, 885, 886] (by decide +kernel) (by decide +kernel)
set_option maxRecDepth 20000 in
theorem gL_law_X12_calm : GoodIn wsL_law (wsV RL 133 RX12 yX12_calm wsX12_calm) := goodIn_app (goodIn_of _ (by decide +kernel)) ggL_law_X12_calm
set_option maxRecDepth 20000 in
theorem ggL_law_X11_slot : GoodIn wsL_law wsX11_slot := goodIn_r _ [581, 582, 39, 255, 256, 257, 2, 258, 19, 18, 123, 124, 125, 583, 584, 585, 38, 586, 73, 74, 75, 76, 831, 832, 833, 834, 835, 836, 837, 838, 839, 840, 841, 842, 843, 844, 902, 903, 904, 905, 906, 907, 908] (by decide +kernel) (by decide +kernel)
set_option maxRecDepth 20000 in
theorem gL_law_X11_slot : GoodIn wsL_law (wsV RL 134 RX11 yX11_slot wsX11_slot) := goodIn_app (goodIn_of _ (by decide +kernel)) ggL_law_X11_slot
set_option maxRecDepth 20000 in
theorem ggL_law_X12_slot : GoodIn wsL_law wsX12_slot := goodIn_r _ [590, 591, 106, 105, 107, 263, 264, 265, 5, 266, 249, 134, 135, 136, 845, 846, 847, 848, 849, 850, 851, 852, 853, 854, 855, 856, 857, 858, 859, 860, 861, 862, 863, 864, 865, 866, 867, 868, 869, 870, 871, 872, 873, 874, 875, 876, 877, 878, 879, 880, 881, 882, 883, 884, 885, 886] (by decide +kernel) (by decide +kernel)
set_option maxRecDepth 20000 in
theorem gL_law_X12_slot : GoodIn wsL_law (wsV RL 137 RX12 yX12_slot wsX12_slot) := goodIn_app (goodIn_of _ (by decide +kernel)) ggL_law_X12_slot
set_option maxRecDepth 20000 in
theorem ggL_law_X11_done : GoodIn wsL_law wsX11_done := goodIn_r _ [595, 39, 596, 597, 598, 38, 599, 72, 77, 78, 600, 601, 602, 603, 604, 605, 606, 607, 73, 74, 608, 609, 610, 611, 76, 831, 832, 833, 834, 835, 836, 837, 838, 839, 840, 841, 842, 843, 844, 902, 903, 904, 905, 906, 907, 908] (by decide +kernel) (by decide +kernel)
set_option maxRecDepth 20000 in
theorem gL_law_X11_done : GoodIn wsL_law (wsV RL 138 RX11 yX11_done wsX11_done) := goodIn_app (goodIn_of _ (by decide +kernel)) ggL_law_X11_done
set_option maxRecDepth 20000 in
theorem ggL_law_X12_done : GoodIn wsL_law wsX12_done := goodIn_r _ [615, 616, 617, 618, 5, 619, 109, 620, 621, 622, 623, 108, 249, 106, 105, 624, 625, 626, 627, 110, 111, 112, 628, 629, 630, 631, 104, 107, 845, 846, 847, 848, 849, 850, 851, 852, 853, 854, 855, 856, 857, 858, 859, 860, 861, 862, 863, 864, 865, 866, 867, 868, 869, 870, 871, 872, 873, 874, 875, 876, 877, 878, 879, 880, 881, 882, 883, 884, 885, 886] (by decide +kernel) (by decide +kernel)
set_option maxRecDepth 20000 in
theorem gL_law_X12_done : GoodIn wsL_law (wsV RL 141 RX12 yX12_done wsX12_done) := goodIn_app (goodIn_of _ (by decide +kernel)) ggL_law_X12_done
set_option maxRecDepth 20000 in
theorem ggL_law_X11_goes : GoodIn wsL_law wsX11_goes := goodIn_r _ [635, 39, 123, 124, 2, 125, 636, 637, 638, 38, 639, 640, 641, 642, 643, 76, 72, 75, 644, 597, 598, 599, 77, 78, 600, 601, 602, 603, 604, 605, 606, 607, 73, 74, 608, 609, 610, 611, 831, 832, 833, 834, 835, 836, 837, 838, 839, 840, 841, 842, 843, 844, 902, 903, 904, 905, 906, 907, 908] (by decide +kernel) (by decide +kernel)
set_option maxRecDepth 20000 in
theorem gL_law_X11_goes : GoodIn wsL_law (wsV RL 142 RX11 yX11_goes wsX11_goes) := goodIn_app (goodIn_of _ (by decide +kernel)) ggL_law_X11_goes
set_option maxRecDepth 20000 in
theorem ggL_law_X12_goes : GoodIn wsL_law wsX12_goes := goodIn_r _ [648, 109, 134, 135, 5, 136, 616, 617, 618, 619, 620, 621, 622, 623, 108, 249, 106, 105, 624, 625, 626, 627, 110, 111, 112, 628, 629, 630, 631, 104, 107, 649, 650, 651, 652, 845, 846, 847, 848, 849, 850, 851, 852, 853, 854, 855, 856, 857, 858, 859, 860, 861, 862, 863, 864, 865, 866, 867, 868, 869, 870, 871, 872, 873, 874, 875, 876, 877, 878, 879, 880, 881, 882, 883, 884, 885, 886] (by decide +kernel) (by decide +kernel)
set_option maxRecDepth 20000 in
theorem gL_law_X12_goes : GoodIn wsL_law (wsV RL 145 RX12 yX12_goes wsX12_goes) := goodIn_app (goodIn_of _ (by decide +kernel)) ggL_law_X12_goes
set_option maxRecDepth 20000 in
theorem ggL_law_X11_count : GoodIn wsL_law wsX11_count := goodIn_r _ [656, 19, 16, 657, 29, 33, 488, 35, 39, 573, 658, 659, 660, 661, 662, 663, 664, 831, 832, 833, 834, 835, 836, 837, 838, 839, 840, 841, 842, 843, 844, 887, 888, 889, 890, 900, 901, 902, 903, 904, 905, 906, 907, 908] (by decide +kernel) (by decide +kernel)
set_option maxRecDepth 20000 in
theorem gL_law_X11_count : GoodIn wsL_law (wsV RL 146 RX11 yX11_count wsX11_count) := goodIn_app (goodIn_of _ (by decide +kernel)) ggL_law_X11_count
