set_option maxRecDepth 20000 in
theorem ggL_law_X12_pace : GoodIn wsL_law wsX12_pace := goodIn_r _ [332, 263, 264, 265, 5, 266, 249, 134, 135, 136, 333, 334, 335, 336, 88, 89, 337, 338, 339, 340, 341, 342, 343, 91, 344, 345, 346, 347, 86, 845, 846, 847, 848, 849, 850, 851, 852, 853, 854, 855, 856, 857, 858, 859, 860, 861, 862, 863, 864, 865, 866, 867, 868, 869, 870, 871, 872, 873, 874, 875, 876, 877, 878, 879, 880, 881, 882, 883, 884, 885, 886] (by decide +kernel) (by decide +kernel)
set_option maxRecDepth 20000 in
theorem gL_law_X12_pace : GoodIn wsL_law (wsV RL 66 RX12 yX12_pace wsX12_pace) := goodIn_app (goodIn_of _ (by decide +kernel)) ggL_law_X12_pace
set_option maxRecDepth 20000 in
theorem ggL_law_X11_swim : GoodIn wsL_law wsX11_swim := goodIn_r _ [351, 16, 25, 20, 255, 256, 257, 2, 258, 19, 18, 123, 124, 125, 141, 142, 143, 144, 145, 146, 15, 147, 46, 352, 353, 354, 24, 355, 356, 54, 61, 62, 59, 60, 357, 291, 292, 293, 358, 359, 272, 273, 274, 224, 275, 276, 277, 278, 279, 280, 232, 281, 282, 283, 284, 285, 286, 287, 288, 289, 234, 290, 294, 295, 296, 297, 298, 219, 299, 300, 301, 302, 303, 360, 305, 306, 307, 361, 309, 310, 311, 312, 216, 313, 314, 315, 316, 317, 318, 362, 320, 321, 322, 323, 222, 324, 325, 326, 327, 328, 363, 364, 365, 366, 367, 368, 55, 57, 58, 56, 369, 370, 371, 372, 373, 374, 185, 186, 375, 831, 832, 833, 834, 835, 836, 837, 838, 839, 840, 841, 842, 843, 844, 887, 888, 889, 890, 909, 910, 911, 912, 921, 922, 923, 924, 913, 914, 915, 916, 917, 918, 919, 920, 891, 892, 893, 894, 895, 896, 897, 898, 899] (by decide +kernel) (by decide +kernel)
set_option maxRecDepth 20000 in
theorem gL_law_X11_swim : GoodIn wsL_law (wsV RL 67 RX11 yX11_swim wsX11_swim) := goodIn_app (goodIn_of _ (by decide +kernel)) ggL_law_X11_swim
set_option maxRecDepth 20000 in
theorem ggL_law_X12_swim : GoodIn wsL_law wsX12_swim := goodIn_r _ [379, 96, 263, 264, 265, 5, 266, 249, 134, 135, 136, 152, 153, 154, 155, 156, 157, 158, 83, 380, 381, 382, 383, 92, 93, 95, 94, 84, 85, 90, 333, 334, 335, 336, 88, 89, 337, 338, 339, 340, 341, 342, 343, 91, 192, 193, 194, 384, 385, 386, 387, 388, 389, 344, 345, 346, 347, 86, 845, 846, 847, 848, 849, 850, 851, 852, 853, 854, 855, 856, 857, 858, 859, 860, 861, 862, 863, 864, 865, 866, 867, 868, 869, 870, 871, 872, 873, 874, 875, 876, 877, 878, 879, 880, 881, 882, 883, 884, 885, 886] (by decide +kernel) (by decide +kernel)
set_option maxRecDepth 20000 in
theorem gL_law_X12_swim : GoodIn wsL_law (wsV RL 71 RX12 yX12_swim wsX12_swim) := goodIn_app (goodIn_of _ (by decide +kernel)) ggL_law_X12_swim
set_option maxRecDepth 20000 in
theorem ggL_law_X11_ended : GoodIn wsL_law wsX11_ended := goodIn_r _ [393, 25, 394, 395, 396, 397, 398, 123, 124, 2, 125, 399, 400, 401, 24, 402, 55, 831, 832, 833, 834, 835, 836, 837, 838, 839, 840, 841, 842, 843, 844, 891, 892, 893, 894, 895, 896, 897, 898, 899] (by decide +kernel) (by decide +kernel)
set_option maxRecDepth 20000 in
theorem gL_law_X11_ended : GoodIn wsL_law (wsV RL 72 RX11 yX11_ended wsX11_ended) := goodIn_app (goodIn_of _ (by decide +kernel)) ggL_law_X11_ended
set_option maxRecDepth 20000 in
theorem ggL_law_X12_ended : GoodIn wsL_law wsX12_ended := goodIn_r _ [406, 96, 94, 92, 93, 95, 134, 135, 5, 136, 845, 846, 847, 848, 849, 850, 851, 852, 853, 854, 855, 856, 857, 858, 859, 860, 861, 862, 863, 864, 865, 866, 867, 868, 869, 870, 871, 872, 873, 874, 875, 876, 877, 878, 879, 880, 881, 882, 883, 884, 885, 886] (by decide +kernel) (by decide +kernel)
set_option maxRecDepth 20000 in
theorem gL_law_X12_ended : GoodIn wsL_law (wsV RL 76 RX12 yX12_ended wsX12_ended) := goodIn_app (goodIn_of _ (by decide +kernel)) ggL_law_X12_ended
set_option maxRecDepth 20000 in
theorem ggL_law_X11_where : GoodIn wsL_law wsX11_where := goodIn_r _ [410, 25, 395, 394, 396, 123, 124, 2, 125, 399, 400, 401, 24, 402, 55, 831, 832, 833, 834, 835, 836, 837, 838, 839, 840, 841, 842, 843, 844, 891, 892, 893, 894, 895, 896, 897, 898, 899] (by decide +kernel) (by decide +kernel)
set_option maxRecDepth 20000 in
theorem gL_law_X11_where : GoodIn wsL_law (wsV RL 77 RX11 yX11_where wsX11_where) := goodIn_app (goodIn_of _ (by decide +kernel)) ggL_law_X11_where
set_option maxRecDepth 20000 in
theorem ggL_law_X12_where : GoodIn wsL_law wsX12_where := goodIn_r _ [414, 96, 94, 92, 93, 134, 135, 5, 136, 845, 846, 847, 848, 849, 850, 851, 852, 853, 854, 855, 856, 857, 858, 859, 860, 861, 862, 863, 864, 865, 866, 867, 868, 869, 870, 871, 872, 873, 874, 875, 876, 877, 878, 879, 880, 881, 882, 883, 884, 885, 886] (by decide +kernel) (by decide +kernel)
set_option maxRecDepth 20000 in
theorem gL_law_X12_where : GoodIn wsL_law (wsV RL 80 RX12 yX12_where wsX12_where) := goodIn_app (goodIn_of _ (by decide +kernel)) ggL_law_X12_where
set_option maxRecDepth 20000 in
theorem ggL_law_X11_best : GoodIn wsL_law wsX11_best := goodIn_r _ [418, 16, 26, 20, 395, 255, 256, 257, 2, 258, 19, 18, 123, 124, 125, 141, 142, 143, 144, 145, 146, 15, 147, 46, 352, 353, 354, 24, 355, 356, 54, 61, 62, 59, 60, 357, 291, 292, 293, 358, 359, 272, 273, 274, 224, 275, 276, 277, 278, 279, 280, 232, 281, 282, 283, 284, 285, 286, 287, 288, 289, 234, 290, 294, 295, 296, 297, 298, 219, 299, 300, 301, 302, 303, 360, 305, 306, 307, 361, 309, 310, 311, 312, 216, 313, 314, 315, 316, 317, 318, 362, 320, 321, 322, 323, 222, 324, 325, 326, 327, 328, 363, 364, 365, 366, 367, 368, 55, 57, 58, 56, 369, 370, 371, 372, 373, 374, 185, 186, 375, 831, 832, 833, 834, 835, 836, 837, 838, 839, 840, 841, 842, 843, 844, 891, 892, 893, 894, 895, 896, 897, 898, 899, 887, 888, 889, 890, 909, 910, 911, 912, 921, 922, 923, 924, 913, 914, 915, 916, 917, 918, 919, 920] (by decide +kernel) (by decide +kernel)
set_option maxRecDepth 20000 in
theorem gL_law_X11_best : GoodIn wsL_law (wsV RL 81 RX11 yX11_best wsX11_best) := goodIn_app (goodIn_of _ (by decide +kernel)) ggL_law_X11_best
set_option maxRecDepth 20000 in
theorem ggL_law_X12_best : GoodIn wsL_law wsX12_best := goodIn_r _ [422, 94, 263, 264, 265, 5, 266, 249, 134, 135, 136, 152, 153, 154, 155, 156, 157, 158, 83, 380, 381, 382, 383, 92, 93, 95, 84, 85, 90, 333, 334, 335, 336, 88, 89, 337, 338, 339, 340, 341, 342, 343, 91, 192, 193, 194, 384, 385, 386, 387, 388, 389, 344, 345, 346, 347, 86, 845, 846, 847, 848, 849, 850, 851, 852, 853, 854, 855, 856, 857, 858, 859, 860, 861, 862, 863, 864, 865, 866, 867, 868, 869, 870, 871, 872, 873, 874, 875, 876, 877, 878, 879, 880, 881, 882, 883, 884, 885, 886] (by decide +kernel) (by decide +kernel)
set_option maxRecDepth 20000 in
theorem gL_law_X12_best : GoodIn wsL_law (wsV RL 84 RX12 yX12_best wsX12_best) := goodIn_app (goodIn_of _ (by decide +kernel)) ggL_law_X12_best
set_option maxRecDepth 20000 in
theorem ggL_law_X11_ends : GoodIn wsL_law wsX11_ends := goodIn_r _ [426, 16, 26, 20, 255, 256, 257, 2, 258, 19, 18, 123, 124, 125, 141, 142, 143, 144, 145, 146, 15, 147, 46, 352, 353, 354, 24, 355, 356, 54, 61, 62, 59, 60, 357, 291, 292, 293, 358, 359, 272, 273, 274, 224, 275, 276, 277, 278, 279, 280, 232, 281, 282, 283, 284, 285, 286, 287, 288, 289, 234, 290, 294, 295, 296, 297, 298, 219, 299, 300, 301, 302, 303, 360, 305, 306, 307, 361, 309, 310, 311, 312, 216, 313, 314, 315, 316, 317, 318, 362, 320, 321, 322, 323, 222, 324, 325, 326, 327, 328, 363, 364, 365, 366, 367, 368, 55, 57, 58, 56, 369, 370, 371, 372, 373, 374, 185, 186, 375, 831, 832, 833, 834, 835, 836, 837, 838, 839, 840, 841, 842, 843, 844, 887, 888, 889, 890, 909, 910, 911, 912, 921, 922, 923, 924, 913, 914, 915, 916, 917, 918, 919, 920, 891, 892, 893, 894, 895, 896, 897, 898, 899] (by decide +kernel) (by decide +kernel)
set_option maxRecDepth 20000 in
theorem gL_law_X11_ends : GoodIn wsL_law (wsV RL 85 RX11 yX11_ends wsX11_ends) := goodIn_app (goodIn_of _ (by decide +kernel)) ggL_law_X11_ends
