set_option maxRecDepth 20000 in
theorem lr_10 : ∀ w ∈ wsL_law0_r10, w ∈ lw_tbl := l_pos [471, 474, 476, 478, 501, 503, 17, 504, 505, 507, 18, 508, 511, 19, 512, 513, 514, 516, 20, 517, 183, 521, 21, 522] (by decide +kernel)
set_option maxRecDepth 20000 in
theorem lr_11 : ∀ w ∈ wsL_law0_r11, w ∈ lw_tbl := l_pos [523, 525, 22, 526, 192, 527, 529, 23, 530, 199, 86, 2, 201, 775, 771, 204, 3, 206, 209, 84, 4, 211, 708, 709] (by decide +kernel)
set_option maxRecDepth 20000 in
theorem lr_12 : ∀ w ∈ wsL_law0_r12, w ∈ lw_tbl := l_pos [710, 711, 531, 533, 24, 534, 225, 229, 81, 536, 537, 538, 546, 539, 541, 559, 561, 25, 562, 228, 8, 230, 566, 26] (by decide +kernel)
set_option maxRecDepth 20000 in
theorem lr_13 : ∀ w ∈ wsL_law0_r13, w ∈ lw_tbl := l_pos [567, 544, 568, 569, 571, 27, 572, 573, 575, 28, 576, 577, 579, 29, 580, 1128, 1129, 1130, 1131, 1013, 1015, 1014, 1027, 1132] (by decide +kernel)
set_option maxRecDepth 20000 in
theorem lr_14 : ∀ w ∈ wsL_law0_r14, w ∈ lw_tbl := l_pos [1133, 1134, 1135, 1136, 1137, 1138, 1139, 1140, 1141, 1143, 42, 1144, 1145, 1147, 43, 1148, 1023, 1149, 1151, 44, 1152, 1153, 1155, 45] (by decide +kernel)
set_option maxRecDepth 20000 in
theorem lr_15 : ∀ w ∈ wsL_law0_r15, w ∈ lw_tbl := l_pos [1156, 1157, 1159, 46, 1160, 1161, 1163, 47, 1164, 1038, 1165, 1167, 48, 1168, 1169, 1171, 49, 1172, 1173, 1175, 50, 1176, 1177, 1179] (by decide +kernel)
set_option maxRecDepth 20000 in
theorem lr_16 : ∀ w ∈ wsL_law0_r16, w ∈ lw_tbl := l_pos [51, 1180, 1181, 1183, 52, 1184, 1185, 1187, 53, 1188, 1124, 1125, 1126, 1127, 149, 150, 151, 152, 1189, 1190, 1191, 1192, 581, 582] (by decide +kernel)
set_option maxRecDepth 20000 in
theorem lr_17 : ∀ w ∈ wsL_law0_r17, w ∈ lw_tbl := l_pos [583, 584, 585, 586, 587, 588, 589, 591, 30, 592, 593, 82, 1193, 1194, 1195, 1196, 1197, 1199, 54, 1200, 609, 610, 611, 612] (by decide +kernel)
set_option maxRecDepth 20000 in
theorem lr_18 : ∀ w ∈ wsL_law0_r18, w ∈ lw_tbl := l_pos [613, 614, 615, 1201, 1202, 1203, 1204, 616, 617, 618, 619, 620, 621, 622, 623, 624, 625, 1205, 1206, 1207, 1208, 627, 628, 629] (by decide +kernel)
