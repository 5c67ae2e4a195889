/-! Printed by wip/whole/print_names.py: decode rows -/
theorem gd_L_law_813 : decode F_L_law.2.1 813 = .ok (.iaload, 1) := by decide +kernel
theorem gd_L_law_814 : decode F_L_law.2.1 814 = .ok (.invokevirtual 131, 3) := by decide +kernel
theorem gd_L_law_817 : decode F_L_law.2.1 817 = .ok (.istore 6, 2) := by decide +kernel
theorem gd_L_law_819 : decode F_L_law.2.1 819 = .ok (.aload_n 2, 1) := by decide +kernel
theorem gd_L_law_820 : decode F_L_law.2.1 820 = .ok (.invokevirtual 95, 3) := by decide +kernel
theorem gd_L_law_823 : decode F_L_law.2.1 823 = .ok (.iload 5, 2) := by decide +kernel
theorem gd_L_law_825 : decode F_L_law.2.1 825 = .ok (.if_icmp .eq 5, 3) := by decide +kernel
theorem gd_L_law_828 : decode F_L_law.2.1 828 = .ok (.iconst 0, 1) := by decide +kernel
theorem gd_L_law_829 : decode F_L_law.2.1 829 = .ok (.ireturn, 1) := by decide +kernel
theorem gd_L_law_830 : decode F_L_law.2.1 830 = .ok (.iload 5, 2) := by decide +kernel
theorem gd_L_law_832 : decode F_L_law.2.1 832 = .ok (.ifCond .ne 15, 3) := by decide +kernel
theorem gd_L_law_835 : decode F_L_law.2.1 835 = .ok (.aload_n 3, 1) := by decide +kernel
theorem gd_L_law_836 : decode F_L_law.2.1 836 = .ok (.iconst 0, 1) := by decide +kernel
theorem gd_L_law_837 : decode F_L_law.2.1 837 = .ok (.laload, 1) := by decide +kernel
theorem gd_L_law_838 : decode F_L_law.2.1 838 = .ok (.iload 6, 2) := by decide +kernel
theorem gd_L_law_840 : decode F_L_law.2.1 840 = .ok (.i2l, 1) := by decide +kernel
theorem gd_L_law_841 : decode F_L_law.2.1 841 = .ok (.lcmp, 1) := by decide +kernel
theorem gd_L_law_842 : decode F_L_law.2.1 842 = .ok (.ifCond .eq 5, 3) := by decide +kernel
theorem gd_L_law_845 : decode F_L_law.2.1 845 = .ok (.iconst 0, 1) := by decide +kernel
theorem gd_L_law_846 : decode F_L_law.2.1 846 = .ok (.ireturn, 1) := by decide +kernel
theorem gd_L_law_847 : decode F_L_law.2.1 847 = .ok (.goto 664, 3) := by decide +kernel
theorem gd_L_law_850 : decode F_L_law.2.1 850 = .ok (.aload_n 1, 1) := by decide +kernel
theorem gd_L_law_851 : decode F_L_law.2.1 851 = .ok (.invokevirtual 132, 3) := by decide +kernel
theorem gd_L_law_854 : decode F_L_law.2.1 854 = .ok (.aload_n 2, 1) := by decide +kernel
theorem gd_L_law_855 : decode F_L_law.2.1 855 = .ok (.invokevirtual 135, 3) := by decide +kernel
theorem gd_L_law_858 : decode F_L_law.2.1 858 = .ok (.if_icmp .eq 653, 3) := by decide +kernel
theorem gd_L_law_861 : decode F_L_law.2.1 861 = .ok (.iconst 0, 1) := by decide +kernel
theorem gd_L_law_862 : decode F_L_law.2.1 862 = .ok (.ireturn, 1) := by decide +kernel
theorem gd_L_law_863 : decode F_L_law.2.1 863 = .ok (.aload_n 1, 1) := by decide +kernel
theorem gd_L_law_864 : decode F_L_law.2.1 864 = .ok (.aload_n 0, 1) := by decide +kernel
theorem gd_L_law_865 : decode F_L_law.2.1 865 = .ok (.iload 4, 2) := by decide +kernel
theorem gd_L_law_867 : decode F_L_law.2.1 867 = .ok (.iconst 1, 1) := by decide +kernel
theorem gd_L_law_868 : decode F_L_law.2.1 868 = .ok (.iadd, 1) := by decide +kernel
theorem gd_L_law_869 : decode F_L_law.2.1 869 = .ok (.iaload, 1) := by decide +kernel
theorem gd_L_law_870 : decode F_L_law.2.1 870 = .ok (.aload_n 0, 1) := by decide +kernel
theorem gd_L_law_871 : decode F_L_law.2.1 871 = .ok (.iload 4, 2) := by decide +kernel
theorem gd_L_law_873 : decode F_L_law.2.1 873 = .ok (.iconst 2, 1) := by decide +kernel
theorem gd_L_law_874 : decode F_L_law.2.1 874 = .ok (.iadd, 1) := by decide +kernel
theorem gd_L_law_875 : decode F_L_law.2.1 875 = .ok (.iaload, 1) := by decide +kernel
theorem gd_L_law_876 : decode F_L_law.2.1 876 = .ok (.aload_n 3, 1) := by decide +kernel
theorem gd_L_law_877 : decode F_L_law.2.1 877 = .ok (.invokestatic 136, 3) := by decide +kernel
theorem gd_L_law_880 : decode F_L_law.2.1 880 = .ok (.istore 5, 2) := by decide +kernel
theorem gd_L_law_882 : decode F_L_law.2.1 882 = .ok (.aload_n 2, 1) := by decide +kernel
theorem gd_L_law_883 : decode F_L_law.2.1 883 = .ok (.aload_n 0, 1) := by decide +kernel
theorem gd_L_law_884 : decode F_L_law.2.1 884 = .ok (.iload 4, 2) := by decide +kernel
theorem gd_L_law_886 : decode F_L_law.2.1 886 = .ok (.iconst 1, 1) := by decide +kernel
theorem gd_L_law_887 : decode F_L_law.2.1 887 = .ok (.iadd, 1) := by decide +kernel
theorem gd_L_law_888 : decode F_L_law.2.1 888 = .ok (.iaload, 1) := by decide +kernel
theorem gd_L_law_889 : decode F_L_law.2.1 889 = .ok (.aload_n 0, 1) := by decide +kernel
theorem gd_L_law_890 : decode F_L_law.2.1 890 = .ok (.iload 4, 2) := by decide +kernel
theorem gd_L_law_892 : decode F_L_law.2.1 892 = .ok (.iconst 2, 1) := by decide +kernel
theorem gd_L_law_893 : decode F_L_law.2.1 893 = .ok (.iadd, 1) := by decide +kernel
theorem gd_L_law_894 : decode F_L_law.2.1 894 = .ok (.iaload, 1) := by decide +kernel
theorem gd_L_law_895 : decode F_L_law.2.1 895 = .ok (.invokevirtual 138, 3) := by decide +kernel
theorem gd_L_law_898 : decode F_L_law.2.1 898 = .ok (.istore 6, 2) := by decide +kernel
theorem gd_L_law_900 : decode F_L_law.2.1 900 = .ok (.aload_n 2, 1) := by decide +kernel
theorem gd_L_law_901 : decode F_L_law.2.1 901 = .ok (.invokevirtual 95, 3) := by decide +kernel
theorem gd_L_law_904 : decode F_L_law.2.1 904 = .ok (.iload 5, 2) := by decide +kernel
theorem gd_L_law_906 : decode F_L_law.2.1 906 = .ok (.if_icmp .eq 5, 3) := by decide +kernel
theorem gd_L_law_909 : decode F_L_law.2.1 909 = .ok (.iconst 0, 1) := by decide +kernel
theorem gd_L_law_910 : decode F_L_law.2.1 910 = .ok (.ireturn, 1) := by decide +kernel
theorem gd_L_law_911 : decode F_L_law.2.1 911 = .ok (.iload 5, 2) := by decide +kernel
theorem gd_L_law_913 : decode F_L_law.2.1 913 = .ok (.ifCond .ne 15, 3) := by decide +kernel
theorem gd_L_law_916 : decode F_L_law.2.1 916 = .ok (.aload_n 3, 1) := by decide +kernel
theorem gd_L_law_917 : decode F_L_law.2.1 917 = .ok (.iconst 0, 1) := by decide +kernel
theorem gd_L_law_918 : decode F_L_law.2.1 918 = .ok (.laload, 1) := by decide +kernel
theorem gd_L_law_919 : decode F_L_law.2.1 919 = .ok (.iload 6, 2) := by decide +kernel
theorem gd_L_law_921 : decode F_L_law.2.1 921 = .ok (.i2l, 1) := by decide +kernel
theorem gd_L_law_922 : decode F_L_law.2.1 922 = .ok (.lcmp, 1) := by decide +kernel
theorem gd_L_law_923 : decode F_L_law.2.1 923 = .ok (.ifCond .eq 5, 3) := by decide +kernel
theorem gd_L_law_926 : decode F_L_law.2.1 926 = .ok (.iconst 0, 1) := by decide +kernel
theorem gd_L_law_927 : decode F_L_law.2.1 927 = .ok (.ireturn, 1) := by decide +kernel
theorem gd_L_law_928 : decode F_L_law.2.1 928 = .ok (.goto 583, 3) := by decide +kernel
theorem gd_L_law_931 : decode F_L_law.2.1 931 = .ok (.aload_n 1, 1) := by decide +kernel
theorem gd_L_law_932 : decode F_L_law.2.1 932 = .ok (.aload_n 0, 1) := by decide +kernel
theorem gd_L_law_933 : decode F_L_law.2.1 933 = .ok (.iload 4, 2) := by decide +kernel
theorem gd_L_law_935 : decode F_L_law.2.1 935 = .ok (.iconst 1, 1) := by decide +kernel
theorem gd_L_law_936 : decode F_L_law.2.1 936 = .ok (.iadd, 1) := by decide +kernel
theorem gd_L_law_937 : decode F_L_law.2.1 937 = .ok (.iaload, 1) := by decide +kernel
theorem gd_L_law_938 : decode F_L_law.2.1 938 = .ok (.aload_n 0, 1) := by decide +kernel
theorem gd_L_law_939 : decode F_L_law.2.1 939 = .ok (.iload 4, 2) := by decide +kernel
theorem gd_L_law_941 : decode F_L_law.2.1 941 = .ok (.iconst 2, 1) := by decide +kernel
theorem gd_L_law_942 : decode F_L_law.2.1 942 = .ok (.iadd, 1) := by decide +kernel
theorem gd_L_law_943 : decode F_L_law.2.1 943 = .ok (.iaload, 1) := by decide +kernel
theorem gd_L_law_944 : decode F_L_law.2.1 944 = .ok (.aload_n 3, 1) := by decide +kernel
theorem gd_L_law_945 : decode F_L_law.2.1 945 = .ok (.invokestatic 139, 3) := by decide +kernel
theorem gd_L_law_948 : decode F_L_law.2.1 948 = .ok (.istore 5, 2) := by decide +kernel
theorem gd_L_law_950 : decode F_L_law.2.1 950 = .ok (.aload_n 2, 1) := by decide +kernel
theorem gd_L_law_951 : decode F_L_law.2.1 951 = .ok (.aload_n 0, 1) := by decide +kernel
theorem gd_L_law_952 : decode F_L_law.2.1 952 = .ok (.iload 4, 2) := by decide +kernel
theorem gd_L_law_954 : decode F_L_law.2.1 954 = .ok (.iconst 1, 1) := by decide +kernel
theorem gd_L_law_955 : decode F_L_law.2.1 955 = .ok (.iadd, 1) := by decide +kernel
theorem gd_L_law_956 : decode F_L_law.2.1 956 = .ok (.iaload, 1) := by decide +kernel
theorem gd_L_law_957 : decode F_L_law.2.1 957 = .ok (.aload_n 0, 1) := by decide +kernel
theorem gd_L_law_958 : decode F_L_law.2.1 958 = .ok (.iload 4, 2) := by decide +kernel
theorem gd_L_law_960 : decode F_L_law.2.1 960 = .ok (.iconst 2, 1) := by decide +kernel
theorem gd_L_law_961 : decode F_L_law.2.1 961 = .ok (.iadd, 1) := by decide +kernel
theorem gd_L_law_962 : decode F_L_law.2.1 962 = .ok (.iaload, 1) := by decide +kernel
theorem gd_L_law_963 : decode F_L_law.2.1 963 = .ok (.invokevirtual 141, 3) := by decide +kernel
theorem gd_L_law_966 : decode F_L_law.2.1 966 = .ok (.lstore 6, 2) := by decide +kernel
theorem gd_L_law_968 : decode F_L_law.2.1 968 = .ok (.aload_n 2, 1) := by decide +kernel
theorem gd_L_law_969 : decode F_L_law.2.1 969 = .ok (.invokevirtual 95, 3) := by decide +kernel
theorem gd_L_law_972 : decode F_L_law.2.1 972 = .ok (.iload 5, 2) := by decide +kernel
theorem gd_L_law_974 : decode F_L_law.2.1 974 = .ok (.if_icmp .eq 5, 3) := by decide +kernel
theorem gd_L_law_977 : decode F_L_law.2.1 977 = .ok (.iconst 0, 1) := by decide +kernel
theorem gd_L_law_978 : decode F_L_law.2.1 978 = .ok (.ireturn, 1) := by decide +kernel
theorem gd_L_law_979 : decode F_L_law.2.1 979 = .ok (.iload 5, 2) := by decide +kernel
theorem gd_L_law_981 : decode F_L_law.2.1 981 = .ok (.ifCond .ne 14, 3) := by decide +kernel
theorem gd_L_law_984 : decode F_L_law.2.1 984 = .ok (.aload_n 3, 1) := by decide +kernel
theorem gd_L_law_985 : decode F_L_law.2.1 985 = .ok (.iconst 0, 1) := by decide +kernel
theorem gd_L_law_986 : decode F_L_law.2.1 986 = .ok (.laload, 1) := by decide +kernel
theorem gd_L_law_987 : decode F_L_law.2.1 987 = .ok (.lload 6, 2) := by decide +kernel
theorem gd_L_law_989 : decode F_L_law.2.1 989 = .ok (.lcmp, 1) := by decide +kernel
theorem gd_L_law_990 : decode F_L_law.2.1 990 = .ok (.ifCond .eq 5, 3) := by decide +kernel
theorem gd_L_law_993 : decode F_L_law.2.1 993 = .ok (.iconst 0, 1) := by decide +kernel
theorem gd_L_law_994 : decode F_L_law.2.1 994 = .ok (.ireturn, 1) := by decide +kernel
theorem gd_L_law_995 : decode F_L_law.2.1 995 = .ok (.goto 516, 3) := by decide +kernel
theorem gd_L_law_998 : decode F_L_law.2.1 998 = .ok (.aload_n 1, 1) := by decide +kernel
theorem gd_L_law_999 : decode F_L_law.2.1 999 = .ok (.aload_n 0, 1) := by decide +kernel
theorem gd_L_law_1000 : decode F_L_law.2.1 1000 = .ok (.iload 4, 2) := by decide +kernel
theorem gd_L_law_1002 : decode F_L_law.2.1 1002 = .ok (.iconst 1, 1) := by decide +kernel
theorem gd_L_law_1003 : decode F_L_law.2.1 1003 = .ok (.iadd, 1) := by decide +kernel
theorem gd_L_law_1004 : decode F_L_law.2.1 1004 = .ok (.iaload, 1) := by decide +kernel
theorem gd_L_law_1005 : decode F_L_law.2.1 1005 = .ok (.aload_n 0, 1) := by decide +kernel
theorem gd_L_law_1006 : decode F_L_law.2.1 1006 = .ok (.iload 4, 2) := by decide +kernel
theorem gd_L_law_1008 : decode F_L_law.2.1 1008 = .ok (.iconst 2, 1) := by decide +kernel
theorem gd_L_law_1009 : decode F_L_law.2.1 1009 = .ok (.iadd, 1) := by decide +kernel
theorem gd_L_law_1010 : decode F_L_law.2.1 1010 = .ok (.iaload, 1) := by decide +kernel
theorem gd_L_law_1011 : decode F_L_law.2.1 1011 = .ok (.aload_n 3, 1) := by decide +kernel
theorem gd_L_law_1012 : decode F_L_law.2.1 1012 = .ok (.invokestatic 142, 3) := by decide +kernel
theorem gd_L_law_1015 : decode F_L_law.2.1 1015 = .ok (.istore 5, 2) := by decide +kernel
theorem gd_L_law_1017 : decode F_L_law.2.1 1017 = .ok (.aload_n 2, 1) := by decide +kernel
theorem gd_L_law_1018 : decode F_L_law.2.1 1018 = .ok (.aload_n 0, 1) := by decide +kernel
theorem gd_L_law_1019 : decode F_L_law.2.1 1019 = .ok (.iload 4, 2) := by decide +kernel
theorem gd_L_law_1021 : decode F_L_law.2.1 1021 = .ok (.iconst 1, 1) := by decide +kernel
theorem gd_L_law_1022 : decode F_L_law.2.1 1022 = .ok (.iadd, 1) := by decide +kernel
theorem gd_L_law_1023 : decode F_L_law.2.1 1023 = .ok (.iaload, 1) := by decide +kernel
theorem gd_L_law_1024 : decode F_L_law.2.1 1024 = .ok (.aload_n 0, 1) := by decide +kernel
theorem gd_L_law_1025 : decode F_L_law.2.1 1025 = .ok (.iload 4, 2) := by decide +kernel
theorem gd_L_law_1027 : decode F_L_law.2.1 1027 = .ok (.iconst 2, 1) := by decide +kernel
theorem gd_L_law_1028 : decode F_L_law.2.1 1028 = .ok (.iadd, 1) := by decide +kernel
theorem gd_L_law_1029 : decode F_L_law.2.1 1029 = .ok (.iaload, 1) := by decide +kernel
theorem gd_L_law_1030 : decode F_L_law.2.1 1030 = .ok (.invokevirtual 144, 3) := by decide +kernel
theorem gd_L_law_1033 : decode F_L_law.2.1 1033 = .ok (.istore 6, 2) := by decide +kernel
theorem gd_L_law_1035 : decode F_L_law.2.1 1035 = .ok (.aload_n 2, 1) := by decide +kernel
theorem gd_L_law_1036 : decode F_L_law.2.1 1036 = .ok (.invokevirtual 95, 3) := by decide +kernel
theorem gd_L_law_1039 : decode F_L_law.2.1 1039 = .ok (.iload 5, 2) := by decide +kernel
theorem gd_L_law_1041 : decode F_L_law.2.1 1041 = .ok (.if_icmp .eq 5, 3) := by decide +kernel
theorem gd_L_law_1044 : decode F_L_law.2.1 1044 = .ok (.iconst 0, 1) := by decide +kernel
theorem gd_L_law_1045 : decode F_L_law.2.1 1045 = .ok (.ireturn, 1) := by decide +kernel
theorem gd_L_law_1046 : decode F_L_law.2.1 1046 = .ok (.iload 5, 2) := by decide +kernel
theorem gd_L_law_1048 : decode F_L_law.2.1 1048 = .ok (.ifCond .ne 15, 3) := by decide +kernel
theorem gd_L_law_1051 : decode F_L_law.2.1 1051 = .ok (.aload_n 3, 1) := by decide +kernel
theorem gd_L_law_1052 : decode F_L_law.2.1 1052 = .ok (.iconst 0, 1) := by decide +kernel
theorem gd_L_law_1053 : decode F_L_law.2.1 1053 = .ok (.laload, 1) := by decide +kernel
theorem gd_L_law_1054 : decode F_L_law.2.1 1054 = .ok (.iload 6, 2) := by decide +kernel
theorem gd_L_law_1056 : decode F_L_law.2.1 1056 = .ok (.i2l, 1) := by decide +kernel
theorem gd_L_law_1057 : decode F_L_law.2.1 1057 = .ok (.lcmp, 1) := by decide +kernel
theorem gd_L_law_1058 : decode F_L_law.2.1 1058 = .ok (.ifCond .eq 5, 3) := by decide +kernel
theorem gd_L_law_1061 : decode F_L_law.2.1 1061 = .ok (.iconst 0, 1) := by decide +kernel
theorem gd_L_law_1062 : decode F_L_law.2.1 1062 = .ok (.ireturn, 1) := by decide +kernel
theorem gd_L_law_1063 : decode F_L_law.2.1 1063 = .ok (.goto 448, 3) := by decide +kernel
theorem gd_L_law_1066 : decode F_L_law.2.1 1066 = .ok (.aload_n 1, 1) := by decide +kernel
theorem gd_L_law_1067 : decode F_L_law.2.1 1067 = .ok (.aload_n 0, 1) := by decide +kernel
theorem gd_L_law_1068 : decode F_L_law.2.1 1068 = .ok (.iload 4, 2) := by decide +kernel
theorem gd_L_law_1070 : decode F_L_law.2.1 1070 = .ok (.iconst 1, 1) := by decide +kernel
theorem gd_L_law_1071 : decode F_L_law.2.1 1071 = .ok (.iadd, 1) := by decide +kernel
theorem gd_L_law_1072 : decode F_L_law.2.1 1072 = .ok (.iaload, 1) := by decide +kernel
theorem gd_L_law_1073 : decode F_L_law.2.1 1073 = .ok (.aload_n 0, 1) := by decide +kernel
theorem gd_L_law_1074 : decode F_L_law.2.1 1074 = .ok (.iload 4, 2) := by decide +kernel
theorem gd_L_law_1076 : decode F_L_law.2.1 1076 = .ok (.iconst 2, 1) := by decide +kernel
theorem gd_L_law_1077 : decode F_L_law.2.1 1077 = .ok (.iadd, 1) := by decide +kernel
theorem gd_L_law_1078 : decode F_L_law.2.1 1078 = .ok (.iaload, 1) := by decide +kernel
theorem gd_L_law_1079 : decode F_L_law.2.1 1079 = .ok (.aload_n 3, 1) := by decide +kernel
theorem gd_L_law_1080 : decode F_L_law.2.1 1080 = .ok (.invokestatic 145, 3) := by decide +kernel
theorem gd_L_law_1083 : decode F_L_law.2.1 1083 = .ok (.istore 5, 2) := by decide +kernel
theorem gd_L_law_1085 : decode F_L_law.2.1 1085 = .ok (.aload_n 2, 1) := by decide +kernel
theorem gd_L_law_1086 : decode F_L_law.2.1 1086 = .ok (.aload_n 0, 1) := by decide +kernel
theorem gd_L_law_1087 : decode F_L_law.2.1 1087 = .ok (.iload 4, 2) := by decide +kernel
theorem gd_L_law_1089 : decode F_L_law.2.1 1089 = .ok (.iconst 1, 1) := by decide +kernel
theorem gd_L_law_1090 : decode F_L_law.2.1 1090 = .ok (.iadd, 1) := by decide +kernel
theorem gd_L_law_1091 : decode F_L_law.2.1 1091 = .ok (.iaload, 1) := by decide +kernel
theorem gd_L_law_1092 : decode F_L_law.2.1 1092 = .ok (.aload_n 0, 1) := by decide +kernel
theorem gd_L_law_1093 : decode F_L_law.2.1 1093 = .ok (.iload 4, 2) := by decide +kernel
theorem gd_L_law_1095 : decode F_L_law.2.1 1095 = .ok (.iconst 2, 1) := by decide +kernel
theorem gd_L_law_1096 : decode F_L_law.2.1 1096 = .ok (.iadd, 1) := by decide +kernel
theorem gd_L_law_1097 : decode F_L_law.2.1 1097 = .ok (.iaload, 1) := by decide +kernel
theorem gd_L_law_1098 : decode F_L_law.2.1 1098 = .ok (.invokevirtual 147, 3) := by decide +kernel
theorem gd_L_law_1101 : decode F_L_law.2.1 1101 = .ok (.istore 6, 2) := by decide +kernel
theorem gd_L_law_1103 : decode F_L_law.2.1 1103 = .ok (.aload_n 2, 1) := by decide +kernel
theorem gd_L_law_1104 : decode F_L_law.2.1 1104 = .ok (.invokevirtual 95, 3) := by decide +kernel
theorem gd_L_law_1107 : decode F_L_law.2.1 1107 = .ok (.iload 5, 2) := by decide +kernel
theorem gd_L_law_1109 : decode F_L_law.2.1 1109 = .ok (.if_icmp .eq 5, 3) := by decide +kernel
theorem gd_L_law_1112 : decode F_L_law.2.1 1112 = .ok (.iconst 0, 1) := by decide +kernel
theorem gd_L_law_1113 : decode F_L_law.2.1 1113 = .ok (.ireturn, 1) := by decide +kernel
theorem gd_L_law_1114 : decode F_L_law.2.1 1114 = .ok (.iload 5, 2) := by decide +kernel
theorem gd_L_law_1116 : decode F_L_law.2.1 1116 = .ok (.ifCond .ne 15, 3) := by decide +kernel
theorem gd_L_law_1119 : decode F_L_law.2.1 1119 = .ok (.aload_n 3, 1) := by decide +kernel
theorem gd_L_law_1120 : decode F_L_law.2.1 1120 = .ok (.iconst 0, 1) := by decide +kernel
theorem gd_L_law_1121 : decode F_L_law.2.1 1121 = .ok (.laload, 1) := by decide +kernel
theorem gd_L_law_1122 : decode F_L_law.2.1 1122 = .ok (.iload 6, 2) := by decide +kernel
theorem gd_L_law_1124 : decode F_L_law.2.1 1124 = .ok (.i2l, 1) := by decide +kernel
theorem gd_L_law_1125 : decode F_L_law.2.1 1125 = .ok (.lcmp, 1) := by decide +kernel
theorem gd_L_law_1126 : decode F_L_law.2.1 1126 = .ok (.ifCond .eq 5, 3) := by decide +kernel
theorem gd_L_law_1129 : decode F_L_law.2.1 1129 = .ok (.iconst 0, 1) := by decide +kernel
theorem gd_L_law_1130 : decode F_L_law.2.1 1130 = .ok (.ireturn, 1) := by decide +kernel
theorem gd_L_law_1131 : decode F_L_law.2.1 1131 = .ok (.goto 380, 3) := by decide +kernel
theorem gd_L_law_1134 : decode F_L_law.2.1 1134 = .ok (.aload_n 1, 1) := by decide +kernel
theorem gd_L_law_1135 : decode F_L_law.2.1 1135 = .ok (.aload_n 0, 1) := by decide +kernel
theorem gd_L_law_1136 : decode F_L_law.2.1 1136 = .ok (.iload 4, 2) := by decide +kernel
theorem gd_L_law_1138 : decode F_L_law.2.1 1138 = .ok (.iconst 1, 1) := by decide +kernel
theorem gd_L_law_1139 : decode F_L_law.2.1 1139 = .ok (.iadd, 1) := by decide +kernel
theorem gd_L_law_1140 : decode F_L_law.2.1 1140 = .ok (.iaload, 1) := by decide +kernel
theorem gd_L_law_1141 : decode F_L_law.2.1 1141 = .ok (.aload_n 0, 1) := by decide +kernel
theorem gd_L_law_1142 : decode F_L_law.2.1 1142 = .ok (.iload 4, 2) := by decide +kernel
theorem gd_L_law_1144 : decode F_L_law.2.1 1144 = .ok (.iconst 2, 1) := by decide +kernel
theorem gd_L_law_1145 : decode F_L_law.2.1 1145 = .ok (.iadd, 1) := by decide +kernel
theorem gd_L_law_1146 : decode F_L_law.2.1 1146 = .ok (.iaload, 1) := by decide +kernel
theorem gd_L_law_1147 : decode F_L_law.2.1 1147 = .ok (.aload_n 0, 1) := by decide +kernel
theorem gd_L_law_1148 : decode F_L_law.2.1 1148 = .ok (.iload 4, 2) := by decide +kernel
theorem gd_L_law_1150 : decode F_L_law.2.1 1150 = .ok (.iconst 3, 1) := by decide +kernel
theorem gd_L_law_1151 : decode F_L_law.2.1 1151 = .ok (.iadd, 1) := by decide +kernel
theorem gd_L_law_1152 : decode F_L_law.2.1 1152 = .ok (.iaload, 1) := by decide +kernel
theorem gd_L_law_1153 : decode F_L_law.2.1 1153 = .ok (.aload_n 3, 1) := by decide +kernel
theorem gd_L_law_1154 : decode F_L_law.2.1 1154 = .ok (.invokestatic 148, 3) := by decide +kernel
theorem gd_L_law_1157 : decode F_L_law.2.1 1157 = .ok (.istore 5, 2) := by decide +kernel
theorem gd_L_law_1159 : decode F_L_law.2.1 1159 = .ok (.aload_n 2, 1) := by decide +kernel
theorem gd_L_law_1160 : decode F_L_law.2.1 1160 = .ok (.aload_n 0, 1) := by decide +kernel
theorem gd_L_law_1161 : decode F_L_law.2.1 1161 = .ok (.iload 4, 2) := by decide +kernel
theorem gd_L_law_1163 : decode F_L_law.2.1 1163 = .ok (.iconst 1, 1) := by decide +kernel
theorem gd_L_law_1164 : decode F_L_law.2.1 1164 = .ok (.iadd, 1) := by decide +kernel
