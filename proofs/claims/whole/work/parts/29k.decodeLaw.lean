theorem d_L_law_877 : decode code 877 = .ok (.iaload, 1) := by decide +kernel
theorem d_L_law_878 : decode code 878 = .ok (.aload_n 3, 1) := by decide +kernel
theorem d_L_law_879 : decode code 879 = .ok (.invokestatic 106, 3) := by decide +kernel
theorem d_L_law_882 : decode code 882 = .ok (.istore 5, 2) := by decide +kernel
theorem d_L_law_884 : decode code 884 = .ok (.aload_n 2, 1) := by decide +kernel
theorem d_L_law_885 : decode code 885 = .ok (.aload_n 0, 1) := by decide +kernel
theorem d_L_law_886 : decode code 886 = .ok (.iload 4, 2) := by decide +kernel
theorem d_L_law_888 : decode code 888 = .ok (.iconst 1, 1) := by decide +kernel
theorem d_L_law_889 : decode code 889 = .ok (.iadd, 1) := by decide +kernel
theorem d_L_law_890 : decode code 890 = .ok (.iaload, 1) := by decide +kernel
theorem d_L_law_891 : decode code 891 = .ok (.invokevirtual 108, 3) := by decide +kernel
theorem d_L_law_894 : decode code 894 = .ok (.istore 6, 2) := by decide +kernel
theorem d_L_law_896 : decode code 896 = .ok (.aload_n 2, 1) := by decide +kernel
theorem d_L_law_897 : decode code 897 = .ok (.invokevirtual 74, 3) := by decide +kernel
theorem d_L_law_900 : decode code 900 = .ok (.iload 5, 2) := by decide +kernel
theorem d_L_law_902 : decode code 902 = .ok (.if_icmp .eq 5, 3) := by decide +kernel
theorem d_L_law_905 : decode code 905 = .ok (.iconst 0, 1) := by decide +kernel
theorem d_L_law_906 : decode code 906 = .ok (.ireturn, 1) := by decide +kernel
theorem d_L_law_907 : decode code 907 = .ok (.iload 5, 2) := by decide +kernel
theorem d_L_law_909 : decode code 909 = .ok (.ifCond .ne 15, 3) := by decide +kernel
theorem d_L_law_912 : decode code 912 = .ok (.aload_n 3, 1) := by decide +kernel
theorem d_L_law_913 : decode code 913 = .ok (.iconst 0, 1) := by decide +kernel
theorem d_L_law_914 : decode code 914 = .ok (.laload, 1) := by decide +kernel
theorem d_L_law_915 : decode code 915 = .ok (.iload 6, 2) := by decide +kernel
theorem d_L_law_917 : decode code 917 = .ok (.i2l, 1) := by decide +kernel
theorem d_L_law_918 : decode code 918 = .ok (.lcmp, 1) := by decide +kernel
theorem d_L_law_919 : decode code 919 = .ok (.ifCond .eq 5, 3) := by decide +kernel
theorem d_L_law_922 : decode code 922 = .ok (.iconst 0, 1) := by decide +kernel
theorem d_L_law_923 : decode code 923 = .ok (.ireturn, 1) := by decide +kernel
theorem d_L_law_924 : decode code 924 = .ok (.goto 178, 3) := by decide +kernel
theorem d_L_law_927 : decode code 927 = .ok (.aload_n 1, 1) := by decide +kernel
theorem d_L_law_928 : decode code 928 = .ok (.aload_n 0, 1) := by decide +kernel
theorem d_L_law_929 : decode code 929 = .ok (.iload 4, 2) := by decide +kernel
theorem d_L_law_931 : decode code 931 = .ok (.iconst 1, 1) := by decide +kernel
theorem d_L_law_932 : decode code 932 = .ok (.iadd, 1) := by decide +kernel
theorem d_L_law_933 : decode code 933 = .ok (.iaload, 1) := by decide +kernel
theorem d_L_law_934 : decode code 934 = .ok (.aload_n 3, 1) := by decide +kernel
theorem d_L_law_935 : decode code 935 = .ok (.invokestatic 109, 3) := by decide +kernel
theorem d_L_law_938 : decode code 938 = .ok (.istore 5, 2) := by decide +kernel
theorem d_L_law_940 : decode code 940 = .ok (.aload_n 2, 1) := by decide +kernel
theorem d_L_law_941 : decode code 941 = .ok (.aload_n 0, 1) := by decide +kernel
theorem d_L_law_942 : decode code 942 = .ok (.iload 4, 2) := by decide +kernel
theorem d_L_law_944 : decode code 944 = .ok (.iconst 1, 1) := by decide +kernel
theorem d_L_law_945 : decode code 945 = .ok (.iadd, 1) := by decide +kernel
theorem d_L_law_946 : decode code 946 = .ok (.iaload, 1) := by decide +kernel
theorem d_L_law_947 : decode code 947 = .ok (.invokevirtual 111, 3) := by decide +kernel
theorem d_L_law_950 : decode code 950 = .ok (.istore 6, 2) := by decide +kernel
theorem d_L_law_952 : decode code 952 = .ok (.aload_n 2, 1) := by decide +kernel
theorem d_L_law_953 : decode code 953 = .ok (.invokevirtual 74, 3) := by decide +kernel
theorem d_L_law_956 : decode code 956 = .ok (.iload 5, 2) := by decide +kernel
theorem d_L_law_958 : decode code 958 = .ok (.if_icmp .eq 5, 3) := by decide +kernel
theorem d_L_law_961 : decode code 961 = .ok (.iconst 0, 1) := by decide +kernel
theorem d_L_law_962 : decode code 962 = .ok (.ireturn, 1) := by decide +kernel
theorem d_L_law_963 : decode code 963 = .ok (.iload 5, 2) := by decide +kernel
theorem d_L_law_965 : decode code 965 = .ok (.ifCond .ne 22, 3) := by decide +kernel
theorem d_L_law_968 : decode code 968 = .ok (.aload_n 3, 1) := by decide +kernel
theorem d_L_law_969 : decode code 969 = .ok (.iconst 0, 1) := by decide +kernel
theorem d_L_law_970 : decode code 970 = .ok (.laload, 1) := by decide +kernel
theorem d_L_law_971 : decode code 971 = .ok (.iload 6, 2) := by decide +kernel
theorem d_L_law_973 : decode code 973 = .ok (.ifCond .eq 7, 3) := by decide +kernel
