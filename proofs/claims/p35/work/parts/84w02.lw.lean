set_option maxRecDepth 20000 in
theorem lr_19 : ∀ w ∈ wsL_law0_r19, w ∈ lw_tbl := l_pos [811, 812, 813, 814, 815, 816, 817, 820, 821, 822, 823, 824, 826, 36, 827, 828, 67, 841, 842, 843, 844, 845, 846, 847] (by decide +kernel)
set_option maxRecDepth 20000 in
theorem lr_20 : ∀ w ∈ wsL_law0_r20, w ∈ lw_tbl := l_pos [848, 849, 851, 37, 852, 853, 854, 855, 856, 857, 858, 859, 860, 861, 862, 863, 864, 865, 866, 867, 868, 869, 870, 871] (by decide +kernel)
set_option maxRecDepth 20000 in
theorem lr_22 : ∀ w ∈ wsL_law0_r22, w ∈ lw_tbl := l_pos [892, 893, 894, 895, 896, 897, 898, 899, 900, 901, 902, 903, 71, 919, 920, 921, 922, 923, 925, 38, 926, 927, 929, 39] (by decide +kernel)
set_option maxRecDepth 20000 in
theorem lr_23 : ∀ w ∈ wsL_law0_r23, w ∈ lw_tbl := l_pos [930, 931, 933, 40, 934, 935, 937, 41, 938] (by decide +kernel)
set_option maxRecDepth 20000 in
theorem inX0 : ∀ w ∈ wsX00, w ∈ lw_tbl := l_pos [583, 585, 587, 589, 591, 593, 595, 597, 599] (by decide +kernel)
set_option maxRecDepth 20000 in
theorem inX1 : ∀ w ∈ wsX10, w ∈ lw_tbl := l_pos [554, 556, 558, 560] (by decide +kernel)
set_option maxRecDepth 20000 in
theorem inX2 : ∀ w ∈ wsX20, w ∈ lw_tbl := l_pos [498, 500, 502, 504, 506] (by decide +kernel)
set_option maxRecDepth 20000 in
theorem inX3 : ∀ w ∈ wsX30, w ∈ lw_tbl := l_pos [417, 419, 421, 423, 425, 427, 429, 431] (by decide +kernel)
