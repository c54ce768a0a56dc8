set_option maxRecDepth 20000 in
theorem lr_19 : ∀ w ∈ wsL_law0_r19, w ∈ lw_tbl := l_pos [630, 631, 632, 633, 634, 636, 31, 637, 640, 641, 642, 1209, 1210, 1211, 1212, 1213, 1215, 55, 1216, 644, 645, 646, 647, 648] (by decide +kernel)
set_option maxRecDepth 20000 in
theorem lr_20 : ∀ w ∈ wsL_law0_r20, w ∈ lw_tbl := l_pos [649, 650, 1217, 1218, 1219, 1220, 651, 652, 653, 654, 655, 656, 657, 658, 659, 83, 660, 661, 662, 663, 1221, 1222, 1223, 1224] (by decide +kernel)
set_option maxRecDepth 20000 in
theorem lr_21 : ∀ w ∈ wsL_law0_r21, w ∈ lw_tbl := l_pos [664, 665, 666, 667, 668, 669, 670, 1225, 1226, 1227, 1228, 672, 673, 674, 675, 676, 677, 678, 1229, 1230, 1231, 1232, 679, 680] (by decide +kernel)
set_option maxRecDepth 20000 in
theorem lr_22 : ∀ w ∈ wsL_law0_r22, w ∈ lw_tbl := l_pos [681, 682, 683, 684, 685, 1233, 1234, 1235, 1236, 1237, 1239, 56, 1240, 686, 687, 688, 689, 690, 691, 692, 1241, 1242, 1243, 1244] (by decide +kernel)
set_option maxRecDepth 20000 in
theorem lr_23 : ∀ w ∈ wsL_law0_r23, w ∈ lw_tbl := l_pos [694, 695, 696, 697, 698, 699, 700, 703, 210, 726, 727, 85, 705, 706, 707, 721, 723, 32, 724, 729, 730, 731, 732, 734] (by decide +kernel)
set_option maxRecDepth 20000 in
theorem lr_24 : ∀ w ∈ wsL_law0_r24, w ∈ lw_tbl := l_pos [1245, 1246, 1247, 1248, 1044, 747, 748, 749, 750, 751, 752, 753, 726, 1249, 1250, 1251, 1252, 756, 757, 758, 759, 760, 761, 762] (by decide +kernel)
set_option maxRecDepth 20000 in
theorem lr_25 : ∀ w ∈ wsL_law0_r25, w ∈ lw_tbl := l_pos [192, 200, 766, 767, 768, 779, 769, 773, 777, 1253, 1254, 1255, 1256, 804, 805, 806, 807, 831, 832, 833, 834, 835, 837, 33] (by decide +kernel)
set_option maxRecDepth 20000 in
theorem lr_26 : ∀ w ∈ wsL_law0_r26, w ∈ lw_tbl := l_pos [838, 839, 87, 1257, 1258, 1259, 1260, 1261, 1263, 57, 1264, 852, 853, 854, 855, 856, 857, 858, 1265, 1266, 1267, 1268, 859, 860] (by decide +kernel)
set_option maxRecDepth 20000 in
theorem lr_27 : ∀ w ∈ wsL_law0_r27, w ∈ lw_tbl := l_pos [861, 862, 863, 864, 865, 193, 195, 1, 196, 1269, 1270, 1271, 1272, 1273, 866, 867, 868, 869, 870, 871, 872, 1274, 1275, 1276] (by decide +kernel)
