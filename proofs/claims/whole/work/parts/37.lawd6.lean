theorem dc_L_law_813 : decode bc_L_law 813 = .ok (.iadd, 1) := by decide +kernel
theorem dc_L_law_814 : decode bc_L_law 814 = .ok (.iaload, 1) := by decide +kernel
theorem dc_L_law_815 : decode bc_L_law 815 = .ok (.invokevirtual 121, 3) := by decide +kernel
theorem dc_L_law_818 : decode bc_L_law 818 = .ok (.istore 6, 2) := by decide +kernel
theorem dc_L_law_820 : decode bc_L_law 820 = .ok (.aload_n 2, 1) := by decide +kernel
theorem dc_L_law_821 : decode bc_L_law 821 = .ok (.invokevirtual 83, 3) := by decide +kernel
theorem dc_L_law_824 : decode bc_L_law 824 = .ok (.iload 5, 2) := by decide +kernel
theorem dc_L_law_826 : decode bc_L_law 826 = .ok (.if_icmp .eq 5, 3) := by decide +kernel
theorem dc_L_law_829 : decode bc_L_law 829 = .ok (.iconst 0, 1) := by decide +kernel
theorem dc_L_law_830 : decode bc_L_law 830 = .ok (.ireturn, 1) := by decide +kernel
theorem dc_L_law_831 : decode bc_L_law 831 = .ok (.iload 5, 2) := by decide +kernel
theorem dc_L_law_833 : decode bc_L_law 833 = .ok (.ifCond .ne 22, 3) := by decide +kernel
theorem dc_L_law_836 : decode bc_L_law 836 = .ok (.aload_n 3, 1) := by decide +kernel
theorem dc_L_law_837 : decode bc_L_law 837 = .ok (.iconst 0, 1) := by decide +kernel
theorem dc_L_law_838 : decode bc_L_law 838 = .ok (.laload, 1) := by decide +kernel
theorem dc_L_law_839 : decode bc_L_law 839 = .ok (.iload 6, 2) := by decide +kernel
theorem dc_L_law_841 : decode bc_L_law 841 = .ok (.ifCond .eq 7, 3) := by decide +kernel
theorem dc_L_law_844 : decode bc_L_law 844 = .ok (.lconst 1, 1) := by decide +kernel
theorem dc_L_law_845 : decode bc_L_law 845 = .ok (.goto 4, 3) := by decide +kernel
theorem dc_L_law_848 : decode bc_L_law 848 = .ok (.lconst 0, 1) := by decide +kernel
theorem dc_L_law_849 : decode bc_L_law 849 = .ok (.lcmp, 1) := by decide +kernel
theorem dc_L_law_850 : decode bc_L_law 850 = .ok (.ifCond .eq 5, 3) := by decide +kernel
theorem dc_L_law_853 : decode bc_L_law 853 = .ok (.iconst 0, 1) := by decide +kernel
theorem dc_L_law_854 : decode bc_L_law 854 = .ok (.ireturn, 1) := by decide +kernel
theorem dc_L_law_855 : decode bc_L_law 855 = .ok (.goto 394, 3) := by decide +kernel
theorem dc_L_law_858 : decode bc_L_law 858 = .ok (.aload_n 1, 1) := by decide +kernel
theorem dc_L_law_859 : decode bc_L_law 859 = .ok (.aload_n 0, 1) := by decide +kernel
theorem dc_L_law_860 : decode bc_L_law 860 = .ok (.iload 4, 2) := by decide +kernel
theorem dc_L_law_862 : decode bc_L_law 862 = .ok (.iconst 1, 1) := by decide +kernel
theorem dc_L_law_863 : decode bc_L_law 863 = .ok (.iadd, 1) := by decide +kernel
theorem dc_L_law_864 : decode bc_L_law 864 = .ok (.iaload, 1) := by decide +kernel
theorem dc_L_law_865 : decode bc_L_law 865 = .ok (.aload_n 0, 1) := by decide +kernel
theorem dc_L_law_866 : decode bc_L_law 866 = .ok (.iload 4, 2) := by decide +kernel
theorem dc_L_law_868 : decode bc_L_law 868 = .ok (.iconst 2, 1) := by decide +kernel
theorem dc_L_law_869 : decode bc_L_law 869 = .ok (.iadd, 1) := by decide +kernel
theorem dc_L_law_870 : decode bc_L_law 870 = .ok (.iaload, 1) := by decide +kernel
theorem dc_L_law_871 : decode bc_L_law 871 = .ok (.aload_n 3, 1) := by decide +kernel
theorem dc_L_law_872 : decode bc_L_law 872 = .ok (.invokestatic 122, 3) := by decide +kernel
theorem dc_L_law_875 : decode bc_L_law 875 = .ok (.istore 5, 2) := by decide +kernel
theorem dc_L_law_877 : decode bc_L_law 877 = .ok (.aload_n 2, 1) := by decide +kernel
theorem dc_L_law_878 : decode bc_L_law 878 = .ok (.aload_n 0, 1) := by decide +kernel
theorem dc_L_law_879 : decode bc_L_law 879 = .ok (.iload 4, 2) := by decide +kernel
theorem dc_L_law_881 : decode bc_L_law 881 = .ok (.iconst 1, 1) := by decide +kernel
theorem dc_L_law_882 : decode bc_L_law 882 = .ok (.iadd, 1) := by decide +kernel
theorem dc_L_law_883 : decode bc_L_law 883 = .ok (.iaload, 1) := by decide +kernel
theorem dc_L_law_884 : decode bc_L_law 884 = .ok (.aload_n 0, 1) := by decide +kernel
theorem dc_L_law_885 : decode bc_L_law 885 = .ok (.iload 4, 2) := by decide +kernel
theorem dc_L_law_887 : decode bc_L_law 887 = .ok (.iconst 2, 1) := by decide +kernel
theorem dc_L_law_888 : decode bc_L_law 888 = .ok (.iadd, 1) := by decide +kernel
theorem dc_L_law_889 : decode bc_L_law 889 = .ok (.iaload, 1) := by decide +kernel
theorem dc_L_law_890 : decode bc_L_law 890 = .ok (.invokevirtual 124, 3) := by decide +kernel
theorem dc_L_law_893 : decode bc_L_law 893 = .ok (.istore 6, 2) := by decide +kernel
theorem dc_L_law_895 : decode bc_L_law 895 = .ok (.aload_n 2, 1) := by decide +kernel
theorem dc_L_law_896 : decode bc_L_law 896 = .ok (.invokevirtual 83, 3) := by decide +kernel
theorem dc_L_law_899 : decode bc_L_law 899 = .ok (.iload 5, 2) := by decide +kernel
theorem dc_L_law_901 : decode bc_L_law 901 = .ok (.if_icmp .eq 5, 3) := by decide +kernel
theorem dc_L_law_904 : decode bc_L_law 904 = .ok (.iconst 0, 1) := by decide +kernel
theorem dc_L_law_905 : decode bc_L_law 905 = .ok (.ireturn, 1) := by decide +kernel
theorem dc_L_law_906 : decode bc_L_law 906 = .ok (.iload 5, 2) := by decide +kernel
theorem dc_L_law_908 : decode bc_L_law 908 = .ok (.ifCond .ne 22, 3) := by decide +kernel
theorem dc_L_law_911 : decode bc_L_law 911 = .ok (.aload_n 3, 1) := by decide +kernel
theorem dc_L_law_912 : decode bc_L_law 912 = .ok (.iconst 0, 1) := by decide +kernel
theorem dc_L_law_913 : decode bc_L_law 913 = .ok (.laload, 1) := by decide +kernel
theorem dc_L_law_914 : decode bc_L_law 914 = .ok (.iload 6, 2) := by decide +kernel
theorem dc_L_law_916 : decode bc_L_law 916 = .ok (.ifCond .eq 7, 3) := by decide +kernel
theorem dc_L_law_919 : decode bc_L_law 919 = .ok (.lconst 1, 1) := by decide +kernel
theorem dc_L_law_920 : decode bc_L_law 920 = .ok (.goto 4, 3) := by decide +kernel
theorem dc_L_law_923 : decode bc_L_law 923 = .ok (.lconst 0, 1) := by decide +kernel
theorem dc_L_law_924 : decode bc_L_law 924 = .ok (.lcmp, 1) := by decide +kernel
theorem dc_L_law_925 : decode bc_L_law 925 = .ok (.ifCond .eq 5, 3) := by decide +kernel
theorem dc_L_law_928 : decode bc_L_law 928 = .ok (.iconst 0, 1) := by decide +kernel
theorem dc_L_law_929 : decode bc_L_law 929 = .ok (.ireturn, 1) := by decide +kernel
theorem dc_L_law_930 : decode bc_L_law 930 = .ok (.goto 319, 3) := by decide +kernel
theorem dc_L_law_933 : decode bc_L_law 933 = .ok (.aload_n 1, 1) := by decide +kernel
theorem dc_L_law_934 : decode bc_L_law 934 = .ok (.aload_n 0, 1) := by decide +kernel
theorem dc_L_law_935 : decode bc_L_law 935 = .ok (.iload 4, 2) := by decide +kernel
theorem dc_L_law_937 : decode bc_L_law 937 = .ok (.iconst 1, 1) := by decide +kernel
theorem dc_L_law_938 : decode bc_L_law 938 = .ok (.iadd, 1) := by decide +kernel
theorem dc_L_law_939 : decode bc_L_law 939 = .ok (.iaload, 1) := by decide +kernel
theorem dc_L_law_940 : decode bc_L_law 940 = .ok (.aload_n 3, 1) := by decide +kernel
theorem dc_L_law_941 : decode bc_L_law 941 = .ok (.invokestatic 125, 3) := by decide +kernel
theorem dc_L_law_944 : decode bc_L_law 944 = .ok (.istore 5, 2) := by decide +kernel
theorem dc_L_law_946 : decode bc_L_law 946 = .ok (.aload_n 2, 1) := by decide +kernel
theorem dc_L_law_947 : decode bc_L_law 947 = .ok (.aload_n 0, 1) := by decide +kernel
theorem dc_L_law_948 : decode bc_L_law 948 = .ok (.iload 4, 2) := by decide +kernel
theorem dc_L_law_950 : decode bc_L_law 950 = .ok (.iconst 1, 1) := by decide +kernel
theorem dc_L_law_951 : decode bc_L_law 951 = .ok (.iadd, 1) := by decide +kernel
theorem dc_L_law_952 : decode bc_L_law 952 = .ok (.iaload, 1) := by decide +kernel
theorem dc_L_law_953 : decode bc_L_law 953 = .ok (.invokevirtual 127, 3) := by decide +kernel
theorem dc_L_law_956 : decode bc_L_law 956 = .ok (.istore 6, 2) := by decide +kernel
theorem dc_L_law_958 : decode bc_L_law 958 = .ok (.aload_n 2, 1) := by decide +kernel
theorem dc_L_law_959 : decode bc_L_law 959 = .ok (.invokevirtual 83, 3) := by decide +kernel
theorem dc_L_law_962 : decode bc_L_law 962 = .ok (.iload 5, 2) := by decide +kernel
theorem dc_L_law_964 : decode bc_L_law 964 = .ok (.if_icmp .eq 5, 3) := by decide +kernel
theorem dc_L_law_967 : decode bc_L_law 967 = .ok (.iconst 0, 1) := by decide +kernel
