theorem d_L_law_687 : decode code 687 = .ok (.invokestatic 96, 3) := by decide +kernel
theorem d_L_law_690 : decode code 690 = .ok (.istore 5, 2) := by decide +kernel
theorem d_L_law_692 : decode code 692 = .ok (.aload_n 2, 1) := by decide +kernel
theorem d_L_law_693 : decode code 693 = .ok (.aload_n 0, 1) := by decide +kernel
theorem d_L_law_694 : decode code 694 = .ok (.iload 4, 2) := by decide +kernel
theorem d_L_law_696 : decode code 696 = .ok (.iconst 1, 1) := by decide +kernel
theorem d_L_law_697 : decode code 697 = .ok (.iadd, 1) := by decide +kernel
theorem d_L_law_698 : decode code 698 = .ok (.iaload, 1) := by decide +kernel
theorem d_L_law_699 : decode code 699 = .ok (.i2l, 1) := by decide +kernel
theorem d_L_law_700 : decode code 700 = .ok (.bipush 32, 2) := by decide +kernel
theorem d_L_law_702 : decode code 702 = .ok (.lshl, 1) := by decide +kernel
theorem d_L_law_703 : decode code 703 = .ok (.aload_n 0, 1) := by decide +kernel
theorem d_L_law_704 : decode code 704 = .ok (.iload 4, 2) := by decide +kernel
theorem d_L_law_706 : decode code 706 = .ok (.iconst 2, 1) := by decide +kernel
theorem d_L_law_707 : decode code 707 = .ok (.iadd, 1) := by decide +kernel
theorem d_L_law_708 : decode code 708 = .ok (.iaload, 1) := by decide +kernel
theorem d_L_law_709 : decode code 709 = .ok (.i2l, 1) := by decide +kernel
theorem d_L_law_710 : decode code 710 = .ok (.ldc2_w 66, 3) := by decide +kernel
theorem d_L_law_713 : decode code 713 = .ok (.land, 1) := by decide +kernel
theorem d_L_law_714 : decode code 714 = .ok (.lor, 1) := by decide +kernel
theorem d_L_law_715 : decode code 715 = .ok (.aload_n 0, 1) := by decide +kernel
theorem d_L_law_716 : decode code 716 = .ok (.iload 4, 2) := by decide +kernel
theorem d_L_law_718 : decode code 718 = .ok (.iconst 3, 1) := by decide +kernel
theorem d_L_law_719 : decode code 719 = .ok (.iadd, 1) := by decide +kernel
theorem d_L_law_720 : decode code 720 = .ok (.iaload, 1) := by decide +kernel
theorem d_L_law_721 : decode code 721 = .ok (.i2l, 1) := by decide +kernel
theorem d_L_law_722 : decode code 722 = .ok (.bipush 32, 2) := by decide +kernel
theorem d_L_law_724 : decode code 724 = .ok (.lshl, 1) := by decide +kernel
theorem d_L_law_725 : decode code 725 = .ok (.aload_n 0, 1) := by decide +kernel
theorem d_L_law_726 : decode code 726 = .ok (.iload 4, 2) := by decide +kernel
theorem d_L_law_728 : decode code 728 = .ok (.iconst 4, 1) := by decide +kernel
theorem d_L_law_729 : decode code 729 = .ok (.iadd, 1) := by decide +kernel
theorem d_L_law_730 : decode code 730 = .ok (.iaload, 1) := by decide +kernel
theorem d_L_law_731 : decode code 731 = .ok (.i2l, 1) := by decide +kernel
theorem d_L_law_732 : decode code 732 = .ok (.ldc2_w 66, 3) := by decide +kernel
theorem d_L_law_735 : decode code 735 = .ok (.land, 1) := by decide +kernel
theorem d_L_law_736 : decode code 736 = .ok (.lor, 1) := by decide +kernel
theorem d_L_law_737 : decode code 737 = .ok (.invokevirtual 99, 3) := by decide +kernel
theorem d_L_law_740 : decode code 740 = .ok (.lstore 6, 2) := by decide +kernel
theorem d_L_law_742 : decode code 742 = .ok (.aload_n 2, 1) := by decide +kernel
theorem d_L_law_743 : decode code 743 = .ok (.invokevirtual 74, 3) := by decide +kernel
theorem d_L_law_746 : decode code 746 = .ok (.iload 5, 2) := by decide +kernel
theorem d_L_law_748 : decode code 748 = .ok (.if_icmp .eq 5, 3) := by decide +kernel
theorem d_L_law_751 : decode code 751 = .ok (.iconst 0, 1) := by decide +kernel
theorem d_L_law_752 : decode code 752 = .ok (.ireturn, 1) := by decide +kernel
theorem d_L_law_753 : decode code 753 = .ok (.iload 5, 2) := by decide +kernel
theorem d_L_law_755 : decode code 755 = .ok (.ifCond .ne 14, 3) := by decide +kernel
theorem d_L_law_758 : decode code 758 = .ok (.aload_n 3, 1) := by decide +kernel
theorem d_L_law_759 : decode code 759 = .ok (.iconst 0, 1) := by decide +kernel
theorem d_L_law_760 : decode code 760 = .ok (.laload, 1) := by decide +kernel
theorem d_L_law_761 : decode code 761 = .ok (.lload 6, 2) := by decide +kernel
theorem d_L_law_763 : decode code 763 = .ok (.lcmp, 1) := by decide +kernel
theorem d_L_law_764 : decode code 764 = .ok (.ifCond .eq 5, 3) := by decide +kernel
theorem d_L_law_767 : decode code 767 = .ok (.iconst 0, 1) := by decide +kernel
theorem d_L_law_768 : decode code 768 = .ok (.ireturn, 1) := by decide +kernel
theorem d_L_law_769 : decode code 769 = .ok (.goto 333, 3) := by decide +kernel
theorem d_L_law_772 : decode code 772 = .ok (.aload_n 1, 1) := by decide +kernel
theorem d_L_law_773 : decode code 773 = .ok (.aload_n 3, 1) := by decide +kernel
theorem d_L_law_774 : decode code 774 = .ok (.invokestatic 100, 3) := by decide +kernel
theorem d_L_law_777 : decode code 777 = .ok (.istore 5, 2) := by decide +kernel
