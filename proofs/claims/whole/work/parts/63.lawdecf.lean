theorem d_L_law_891 : decode code 891 = .ok (.aload_n 1, 1) := by decide +kernel
theorem d_L_law_892 : decode code 892 = .ok (.aload_n 0, 1) := by decide +kernel
theorem d_L_law_893 : decode code 893 = .ok (.iload_n 3, 1) := by decide +kernel
theorem d_L_law_894 : decode code 894 = .ok (.iconst 1, 1) := by decide +kernel
theorem d_L_law_895 : decode code 895 = .ok (.iadd, 1) := by decide +kernel
theorem d_L_law_896 : decode code 896 = .ok (.iaload, 1) := by decide +kernel
theorem d_L_law_897 : decode code 897 = .ok (.aload_n 0, 1) := by decide +kernel
theorem d_L_law_898 : decode code 898 = .ok (.iload_n 3, 1) := by decide +kernel
theorem d_L_law_899 : decode code 899 = .ok (.iconst 2, 1) := by decide +kernel
theorem d_L_law_900 : decode code 900 = .ok (.iadd, 1) := by decide +kernel
theorem d_L_law_901 : decode code 901 = .ok (.iaload, 1) := by decide +kernel
theorem d_L_law_902 : decode code 902 = .ok (.invokevirtual 127, 3) := by decide +kernel
theorem d_L_law_905 : decode code 905 = .ok (.aload_n 2, 1) := by decide +kernel
theorem d_L_law_906 : decode code 906 = .ok (.aload_n 0, 1) := by decide +kernel
theorem d_L_law_907 : decode code 907 = .ok (.iload_n 3, 1) := by decide +kernel
theorem d_L_law_908 : decode code 908 = .ok (.iconst 1, 1) := by decide +kernel
theorem d_L_law_909 : decode code 909 = .ok (.iadd, 1) := by decide +kernel
theorem d_L_law_910 : decode code 910 = .ok (.iaload, 1) := by decide +kernel
theorem d_L_law_911 : decode code 911 = .ok (.aload_n 0, 1) := by decide +kernel
theorem d_L_law_912 : decode code 912 = .ok (.iload_n 3, 1) := by decide +kernel
theorem d_L_law_913 : decode code 913 = .ok (.iconst 2, 1) := by decide +kernel
theorem d_L_law_914 : decode code 914 = .ok (.iadd, 1) := by decide +kernel
theorem d_L_law_915 : decode code 915 = .ok (.iaload, 1) := by decide +kernel
theorem d_L_law_916 : decode code 916 = .ok (.invokevirtual 130, 3) := by decide +kernel
theorem d_L_law_919 : decode code 919 = .ok (.if_icmp .eq 5, 3) := by decide +kernel
theorem d_L_law_922 : decode code 922 = .ok (.iconst 0, 1) := by decide +kernel
theorem d_L_law_923 : decode code 923 = .ok (.ireturn, 1) := by decide +kernel
theorem d_L_law_924 : decode code 924 = .ok (.iinc 3 5, 3) := by decide +kernel
theorem d_L_law_927 : decode code 927 = .ok (.goto (-899), 3) := by decide +kernel
theorem d_L_law_930 : decode code 930 = .ok (.iconst 1, 1) := by decide +kernel
theorem d_L_law_931 : decode code 931 = .ok (.ireturn, 1) := by decide +kernel
theorem d_L_law_42 : decode code 42 = .ok (.tableswitch 882 0 25 #[118, 131, 144, 187, 230, 253, 302, 335, 348, 371, 394, 417, 440, 473, 486, 509, 542, 575, 608, 641, 684, 737, 770, 813, 826, 849], 118) := by decide +kernel
