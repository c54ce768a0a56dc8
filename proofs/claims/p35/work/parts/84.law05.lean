theorem dL_areAlerts_523 : decode cL_areAlerts 523 = .ok (.aload_n 0, 1) := by decide +kernel
theorem dL_areAlerts_524 : decode cL_areAlerts 524 = .ok (.invokevirtual 132, 3) := by decide +kernel
theorem dL_areAlerts_527 : decode cL_areAlerts 527 = .ok (.if_icmp .gt 21, 3) := by decide +kernel
theorem dL_areAlerts_530 : decode cL_areAlerts 530 = .ok (.aload_n 0, 1) := by decide +kernel
theorem dL_areAlerts_531 : decode cL_areAlerts 531 = .ok (.bipush 13, 2) := by decide +kernel
theorem dL_areAlerts_533 : decode cL_areAlerts 533 = .ok (.iload 7, 2) := by decide +kernel
theorem dL_areAlerts_535 : decode cL_areAlerts 535 = .ok (.iconst 0, 1) := by decide +kernel
theorem dL_areAlerts_536 : decode cL_areAlerts 536 = .ok (.invokestatic 120, 3) := by decide +kernel
theorem dL_areAlerts_539 : decode cL_areAlerts 539 = .ok (.iload 4, 2) := by decide +kernel
theorem dL_areAlerts_541 : decode cL_areAlerts 541 = .ok (.if_icmp .ge 7, 3) := by decide +kernel
theorem dL_areAlerts_544 : decode cL_areAlerts 544 = .ok (.iconst 1, 1) := by decide +kernel
theorem dL_areAlerts_545 : decode cL_areAlerts 545 = .ok (.goto 4, 3) := by decide +kernel
theorem dL_areAlerts_548 : decode cL_areAlerts 548 = .ok (.iconst 0, 1) := by decide +kernel
theorem dL_areAlerts_549 : decode cL_areAlerts 549 = .ok (.istore 5, 2) := by decide +kernel
theorem dL_areAlerts_551 : decode cL_areAlerts 551 = .ok (.iinc 7 1, 3) := by decide +kernel
theorem dL_areAlerts_554 : decode cL_areAlerts 554 = .ok (.goto (-164), 3) := by decide +kernel
theorem dL_areAlerts_557 : decode cL_areAlerts 557 = .ok (.iconst 0, 1) := by decide +kernel
theorem dL_areAlerts_558 : decode cL_areAlerts 558 = .ok (.istore 7, 2) := by decide +kernel
theorem dL_areAlerts_560 : decode cL_areAlerts 560 = .ok (.iload 7, 2) := by decide +kernel
theorem dL_areAlerts_562 : decode cL_areAlerts 562 = .ok (.iload_n 3, 1) := by decide +kernel
theorem dL_areAlerts_563 : decode cL_areAlerts 563 = .ok (.if_icmp .ge 62, 3) := by decide +kernel
theorem dL_areAlerts_566 : decode cL_areAlerts 566 = .ok (.iload 5, 2) := by decide +kernel
theorem dL_areAlerts_568 : decode cL_areAlerts 568 = .ok (.ifCond .eq 57, 3) := by decide +kernel
theorem dL_areAlerts_571 : decode cL_areAlerts 571 = .ok (.aload_n 0, 1) := by decide +kernel
theorem dL_areAlerts_572 : decode cL_areAlerts 572 = .ok (.bipush 17, 2) := by decide +kernel
theorem dL_areAlerts_574 : decode cL_areAlerts 574 = .ok (.iload 7, 2) := by decide +kernel
theorem dL_areAlerts_576 : decode cL_areAlerts 576 = .ok (.iconst 0, 1) := by decide +kernel
theorem dL_areAlerts_577 : decode cL_areAlerts 577 = .ok (.invokestatic 120, 3) := by decide +kernel
theorem dL_areAlerts_580 : decode cL_areAlerts 580 = .ok (.aload 6, 2) := by decide +kernel
theorem dL_areAlerts_582 : decode cL_areAlerts 582 = .ok (.iload 7, 2) := by decide +kernel
theorem dL_areAlerts_584 : decode cL_areAlerts 584 = .ok (.baload, 1) := by decide +kernel
theorem dL_areAlerts_585 : decode cL_areAlerts 585 = .ok (.ifCond .eq 20, 3) := by decide +kernel
theorem dL_areAlerts_588 : decode cL_areAlerts 588 = .ok (.aload_n 0, 1) := by decide +kernel
theorem dL_areAlerts_589 : decode cL_areAlerts 589 = .ok (.iconst 0, 1) := by decide +kernel
theorem dL_areAlerts_590 : decode cL_areAlerts 590 = .ok (.iload 7, 2) := by decide +kernel
theorem dL_areAlerts_592 : decode cL_areAlerts 592 = .ok (.iconst 0, 1) := by decide +kernel
theorem dL_areAlerts_593 : decode cL_areAlerts 593 = .ok (.invokestatic 120, 3) := by decide +kernel
theorem dL_areAlerts_596 : decode cL_areAlerts 596 = .ok (.bipush 100, 2) := by decide +kernel
theorem dL_areAlerts_598 : decode cL_areAlerts 598 = .ok (.if_icmp .eq 7, 3) := by decide +kernel
theorem dL_areAlerts_601 : decode cL_areAlerts 601 = .ok (.iconst 1, 1) := by decide +kernel
theorem dL_areAlerts_602 : decode cL_areAlerts 602 = .ok (.goto 4, 3) := by decide +kernel
theorem dL_areAlerts_605 : decode cL_areAlerts 605 = .ok (.iconst 0, 1) := by decide +kernel
theorem dL_areAlerts_606 : decode cL_areAlerts 606 = .ok (.invokestatic 107, 3) := by decide +kernel
theorem dL_areAlerts_609 : decode cL_areAlerts 609 = .ok (.if_icmp .ne 7, 3) := by decide +kernel
theorem dL_areAlerts_612 : decode cL_areAlerts 612 = .ok (.iconst 1, 1) := by decide +kernel
theorem dL_areAlerts_613 : decode cL_areAlerts 613 = .ok (.goto 4, 3) := by decide +kernel
theorem dL_areAlerts_616 : decode cL_areAlerts 616 = .ok (.iconst 0, 1) := by decide +kernel
theorem dL_areAlerts_617 : decode cL_areAlerts 617 = .ok (.istore 5, 2) := by decide +kernel
theorem dL_areAlerts_619 : decode cL_areAlerts 619 = .ok (.iinc 7 1, 3) := by decide +kernel
theorem dL_areAlerts_622 : decode cL_areAlerts 622 = .ok (.goto (-62), 3) := by decide +kernel
theorem dL_areAlerts_625 : decode cL_areAlerts 625 = .ok (.iload 5, 2) := by decide +kernel
theorem dL_areAlerts_627 : decode cL_areAlerts 627 = .ok (.ireturn, 1) := by decide +kernel
theorem dL_areBudgets_0 : decode cL_areBudgets 0 = .ok (.iconst 4, 1) := by decide +kernel
theorem dL_areBudgets_1 : decode cL_areBudgets 1 = .ok (.newarray .int, 2) := by decide +kernel
theorem dL_areBudgets_3 : decode cL_areBudgets 3 = .ok (.astore 4, 2) := by decide +kernel
theorem dL_areBudgets_5 : decode cL_areBudgets 5 = .ok (.iconst 4, 1) := by decide +kernel
theorem dL_areBudgets_6 : decode cL_areBudgets 6 = .ok (.newarray .int, 2) := by decide +kernel
theorem dL_areBudgets_8 : decode cL_areBudgets 8 = .ok (.astore 5, 2) := by decide +kernel
theorem dL_areBudgets_10 : decode cL_areBudgets 10 = .ok (.iconst 4, 1) := by decide +kernel
theorem dL_areBudgets_11 : decode cL_areBudgets 11 = .ok (.newarray .boolean, 2) := by decide +kernel
theorem dL_areBudgets_13 : decode cL_areBudgets 13 = .ok (.dup, 1) := by decide +kernel
theorem dL_areBudgets_14 : decode cL_areBudgets 14 = .ok (.iconst 0, 1) := by decide +kernel
theorem dL_areBudgets_15 : decode cL_areBudgets 15 = .ok (.iconst 1, 1) := by decide +kernel
theorem dL_areBudgets_16 : decode cL_areBudgets 16 = .ok (.bastore, 1) := by decide +kernel
theorem dL_areBudgets_17 : decode cL_areBudgets 17 = .ok (.dup, 1) := by decide +kernel
theorem dL_areBudgets_18 : decode cL_areBudgets 18 = .ok (.iconst 1, 1) := by decide +kernel
theorem dL_areBudgets_19 : decode cL_areBudgets 19 = .ok (.iconst 1, 1) := by decide +kernel
theorem dL_areBudgets_20 : decode cL_areBudgets 20 = .ok (.bastore, 1) := by decide +kernel
theorem dL_areBudgets_21 : decode cL_areBudgets 21 = .ok (.dup, 1) := by decide +kernel
theorem dL_areBudgets_22 : decode cL_areBudgets 22 = .ok (.iconst 2, 1) := by decide +kernel
theorem dL_areBudgets_23 : decode cL_areBudgets 23 = .ok (.iconst 1, 1) := by decide +kernel
theorem dL_areBudgets_24 : decode cL_areBudgets 24 = .ok (.bastore, 1) := by decide +kernel
theorem dL_areBudgets_25 : decode cL_areBudgets 25 = .ok (.dup, 1) := by decide +kernel
theorem dL_areBudgets_26 : decode cL_areBudgets 26 = .ok (.iconst 3, 1) := by decide +kernel
theorem dL_areBudgets_27 : decode cL_areBudgets 27 = .ok (.iconst 1, 1) := by decide +kernel
theorem dL_areBudgets_28 : decode cL_areBudgets 28 = .ok (.bastore, 1) := by decide +kernel
theorem dL_areBudgets_29 : decode cL_areBudgets 29 = .ok (.astore 6, 2) := by decide +kernel
theorem dL_areBudgets_31 : decode cL_areBudgets 31 = .ok (.lconst 0, 1) := by decide +kernel
theorem dL_areBudgets_32 : decode cL_areBudgets 32 = .ok (.lstore 7, 2) := by decide +kernel
theorem dL_areBudgets_34 : decode cL_areBudgets 34 = .ok (.iconst 0, 1) := by decide +kernel
theorem dL_areBudgets_35 : decode cL_areBudgets 35 = .ok (.istore 9, 2) := by decide +kernel
theorem dL_areBudgets_37 : decode cL_areBudgets 37 = .ok (.aload_n 0, 1) := by decide +kernel
theorem dL_areBudgets_38 : decode cL_areBudgets 38 = .ok (.iconst 0, 1) := by decide +kernel
theorem dL_areBudgets_39 : decode cL_areBudgets 39 = .ok (.iload_n 3, 1) := by decide +kernel
theorem dL_areBudgets_40 : decode cL_areBudgets 40 = .ok (.iconst 0, 1) := by decide +kernel
theorem dL_areBudgets_41 : decode cL_areBudgets 41 = .ok (.invokestatic 120, 3) := by decide +kernel
theorem dL_areBudgets_44 : decode cL_areBudgets 44 = .ok (.sipush (-2005), 3) := by decide +kernel
theorem dL_areBudgets_47 : decode cL_areBudgets 47 = .ok (.if_icmp .ne 21, 3) := by decide +kernel
theorem dL_areBudgets_50 : decode cL_areBudgets 50 = .ok (.aload_n 0, 1) := by decide +kernel
theorem dL_areBudgets_51 : decode cL_areBudgets 51 = .ok (.bipush 6, 2) := by decide +kernel
theorem dL_areBudgets_53 : decode cL_areBudgets 53 = .ok (.iconst (-1), 1) := by decide +kernel
theorem dL_areBudgets_54 : decode cL_areBudgets 54 = .ok (.iconst 0, 1) := by decide +kernel
theorem dL_areBudgets_55 : decode cL_areBudgets 55 = .ok (.invokestatic 120, 3) := by decide +kernel
theorem dL_areBudgets_58 : decode cL_areBudgets 58 = .ok (.sipush (-2002), 3) := by decide +kernel
theorem dL_areBudgets_61 : decode cL_areBudgets 61 = .ok (.if_icmp .ne 7, 3) := by decide +kernel
theorem dL_areBudgets_64 : decode cL_areBudgets 64 = .ok (.iconst 1, 1) := by decide +kernel
theorem dL_areBudgets_65 : decode cL_areBudgets 65 = .ok (.goto 4, 3) := by decide +kernel
theorem dL_areBudgets_68 : decode cL_areBudgets 68 = .ok (.iconst 0, 1) := by decide +kernel
theorem dL_areBudgets_69 : decode cL_areBudgets 69 = .ok (.istore 10, 2) := by decide +kernel
theorem dL_areBudgets_71 : decode cL_areBudgets 71 = .ok (.iconst 0, 1) := by decide +kernel
theorem dL_areBudgets_72 : decode cL_areBudgets 72 = .ok (.istore 11, 2) := by decide +kernel
theorem dL_areBudgets_74 : decode cL_areBudgets 74 = .ok (.iload 11, 2) := by decide +kernel
theorem dL_areBudgets_76 : decode cL_areBudgets 76 = .ok (.iload_n 3, 1) := by decide +kernel
theorem dL_areBudgets_77 : decode cL_areBudgets 77 = .ok (.if_icmp .ge 146, 3) := by decide +kernel
theorem dL_areBudgets_80 : decode cL_areBudgets 80 = .ok (.aload_n 0, 1) := by decide +kernel
theorem dL_areBudgets_81 : decode cL_areBudgets 81 = .ok (.iconst 0, 1) := by decide +kernel
theorem dL_areBudgets_82 : decode cL_areBudgets 82 = .ok (.iload 11, 2) := by decide +kernel
theorem dL_areBudgets_84 : decode cL_areBudgets 84 = .ok (.iconst 0, 1) := by decide +kernel
theorem dL_areBudgets_85 : decode cL_areBudgets 85 = .ok (.invokestatic 120, 3) := by decide +kernel
theorem dL_areBudgets_88 : decode cL_areBudgets 88 = .ok (.istore 12, 2) := by decide +kernel
theorem dL_areBudgets_90 : decode cL_areBudgets 90 = .ok (.aload_n 1, 1) := by decide +kernel
theorem dL_areBudgets_91 : decode cL_areBudgets 91 = .ok (.bipush 7, 2) := by decide +kernel
theorem dL_areBudgets_93 : decode cL_areBudgets 93 = .ok (.iload 11, 2) := by decide +kernel
theorem dL_areBudgets_95 : decode cL_areBudgets 95 = .ok (.imul, 1) := by decide +kernel
theorem dL_areBudgets_96 : decode cL_areBudgets 96 = .ok (.iaload, 1) := by decide +kernel
theorem dL_areBudgets_97 : decode cL_areBudgets 97 = .ok (.istore 13, 2) := by decide +kernel
theorem dL_areBudgets_99 : decode cL_areBudgets 99 = .ok (.lload 7, 2) := by decide +kernel
theorem dL_areBudgets_101 : decode cL_areBudgets 101 = .ok (.aload_n 1, 1) := by decide +kernel
theorem dL_areBudgets_102 : decode cL_areBudgets 102 = .ok (.bipush 7, 2) := by decide +kernel
theorem dL_areBudgets_104 : decode cL_areBudgets 104 = .ok (.iload 11, 2) := by decide +kernel
theorem dL_areBudgets_106 : decode cL_areBudgets 106 = .ok (.imul, 1) := by decide +kernel
theorem dL_areBudgets_107 : decode cL_areBudgets 107 = .ok (.iconst 5, 1) := by decide +kernel
theorem dL_areBudgets_108 : decode cL_areBudgets 108 = .ok (.iadd, 1) := by decide +kernel
theorem dL_areBudgets_109 : decode cL_areBudgets 109 = .ok (.iaload, 1) := by decide +kernel
theorem dL_areBudgets_110 : decode cL_areBudgets 110 = .ok (.i2l, 1) := by decide +kernel
theorem dL_areBudgets_111 : decode cL_areBudgets 111 = .ok (.ladd, 1) := by decide +kernel
theorem dL_areBudgets_112 : decode cL_areBudgets 112 = .ok (.lstore 7, 2) := by decide +kernel
theorem dL_areBudgets_114 : decode cL_areBudgets 114 = .ok (.aload 4, 2) := by decide +kernel
theorem dL_areBudgets_116 : decode cL_areBudgets 116 = .ok (.iload 13, 2) := by decide +kernel
theorem dL_areBudgets_118 : decode cL_areBudgets 118 = .ok (.dup2, 1) := by decide +kernel
theorem dL_areBudgets_119 : decode cL_areBudgets 119 = .ok (.iaload, 1) := by decide +kernel
theorem dL_areBudgets_120 : decode cL_areBudgets 120 = .ok (.iload 12, 2) := by decide +kernel
theorem dL_areBudgets_122 : decode cL_areBudgets 122 = .ok (.bipush 107, 2) := by decide +kernel
theorem dL_areBudgets_124 : decode cL_areBudgets 124 = .ok (.if_icmp .ne 15, 3) := by decide +kernel
theorem dL_areBudgets_127 : decode cL_areBudgets 127 = .ok (.aload_n 1, 1) := by decide +kernel
theorem dL_areBudgets_128 : decode cL_areBudgets 128 = .ok (.bipush 7, 2) := by decide +kernel
theorem dL_areBudgets_130 : decode cL_areBudgets 130 = .ok (.iload 11, 2) := by decide +kernel
theorem dL_areBudgets_132 : decode cL_areBudgets 132 = .ok (.imul, 1) := by decide +kernel
theorem dL_areBudgets_133 : decode cL_areBudgets 133 = .ok (.iconst 5, 1) := by decide +kernel
theorem dL_areBudgets_134 : decode cL_areBudgets 134 = .ok (.iadd, 1) := by decide +kernel
theorem dL_areBudgets_135 : decode cL_areBudgets 135 = .ok (.iaload, 1) := by decide +kernel
theorem dL_areBudgets_136 : decode cL_areBudgets 136 = .ok (.goto 4, 3) := by decide +kernel
theorem dL_areBudgets_139 : decode cL_areBudgets 139 = .ok (.iconst 0, 1) := by decide +kernel
theorem dL_areBudgets_140 : decode cL_areBudgets 140 = .ok (.iadd, 1) := by decide +kernel
theorem dL_areBudgets_141 : decode cL_areBudgets 141 = .ok (.iastore, 1) := by decide +kernel
theorem dL_areBudgets_142 : decode cL_areBudgets 142 = .ok (.aload 5, 2) := by decide +kernel
theorem dL_areBudgets_144 : decode cL_areBudgets 144 = .ok (.iload 13, 2) := by decide +kernel
theorem dL_areBudgets_146 : decode cL_areBudgets 146 = .ok (.dup2, 1) := by decide +kernel
theorem dL_areBudgets_147 : decode cL_areBudgets 147 = .ok (.iaload, 1) := by decide +kernel
theorem dL_areBudgets_148 : decode cL_areBudgets 148 = .ok (.iload 12, 2) := by decide +kernel
