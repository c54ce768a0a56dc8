set_option maxRecDepth 20000 in
theorem lr_10 : ∀ w ∈ wsL_law0_r10, w ∈ lw_tbl := l_pos [459, 460, 461, 463, 14, 464, 467, 62, 15, 469, 573, 569, 472, 16, 473, 476, 63, 17, 478, 550, 551, 552, 553, 480] (by decide +kernel)
set_option maxRecDepth 20000 in
theorem lr_11 : ∀ w ∈ wsL_law0_r11, w ∈ lw_tbl := l_pos [482, 18, 483, 484, 485, 61, 487, 488, 489, 509, 497, 490, 492, 510, 512, 19, 513, 517, 20, 518, 521, 21, 522, 495] (by decide +kernel)
set_option maxRecDepth 20000 in
theorem lr_12 : ∀ w ∈ wsL_law0_r12, w ∈ lw_tbl := l_pos [523, 524, 526, 22, 527, 528, 530, 23, 531, 532, 534, 24, 535, 536, 537, 538, 539, 540, 541, 542, 460, 468, 545, 477] (by decide +kernel)
set_option maxRecDepth 20000 in
theorem lr_13 : ∀ w ∈ wsL_law0_r13, w ∈ lw_tbl := l_pos [547, 548, 549, 564, 565, 566, 577, 567, 571, 575, 602, 603, 604, 605, 606, 607, 608, 609, 610, 611, 612, 613, 614, 615] (by decide +kernel)
set_option maxRecDepth 20000 in
theorem lr_14 : ∀ w ∈ wsL_law0_r14, w ∈ lw_tbl := l_pos [616, 619, 620, 621, 622, 623, 625, 25, 626, 627, 64, 644, 645, 646, 647, 655, 656, 65, 650, 652, 26, 653, 658, 659] (by decide +kernel)
set_option maxRecDepth 20000 in
theorem lr_15 : ∀ w ∈ wsL_law0_r15, w ∈ lw_tbl := l_pos [660, 661, 663, 676, 677, 678, 679, 686, 66, 680, 682, 27, 683, 484, 702, 704, 28, 705, 708, 29, 709, 710, 712, 30] (by decide +kernel)
set_option maxRecDepth 20000 in
theorem lr_16 : ∀ w ∈ wsL_law0_r16, w ∈ lw_tbl := l_pos [713, 714, 715, 716, 717, 720, 722, 31, 723, 724, 726, 32, 727, 730, 33, 731, 580, 732, 734, 34, 735, 655, 736, 737] (by decide +kernel)
set_option maxRecDepth 20000 in
theorem lr_17 : ∀ w ∈ wsL_law0_r17, w ∈ lw_tbl := l_pos [738, 739, 763, 764, 765, 766, 767, 768, 769, 770, 771, 772, 773, 774, 775, 776, 777, 778, 779, 780, 781, 782, 784, 35] (by decide +kernel)
set_option maxRecDepth 20000 in
theorem lr_18 : ∀ w ∈ wsL_law0_r18, w ∈ lw_tbl := l_pos [785, 788, 789, 790, 792, 793, 794, 795, 796, 797, 798, 799, 800, 801, 70, 802, 803, 804, 805, 806, 807, 808, 809, 810] (by decide +kernel)
