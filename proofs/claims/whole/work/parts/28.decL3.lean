theorem d_L_law_776 : decode b_L_law 776 = .ok (.aload_n 1, 1) := by decide +kernel
theorem d_L_law_777 : decode b_L_law 777 = .ok (.aload_n 0, 1) := by decide +kernel
theorem d_L_law_778 : decode b_L_law 778 = .ok (.iload 4, 2) := by decide +kernel
theorem d_L_law_780 : decode b_L_law 780 = .ok (.iconst 1, 1) := by decide +kernel
theorem d_L_law_781 : decode b_L_law 781 = .ok (.iadd, 1) := by decide +kernel
theorem d_L_law_782 : decode b_L_law 782 = .ok (.iaload, 1) := by decide +kernel
theorem d_L_law_783 : decode b_L_law 783 = .ok (.aload_n 0, 1) := by decide +kernel
theorem d_L_law_784 : decode b_L_law 784 = .ok (.iload 4, 2) := by decide +kernel
theorem d_L_law_786 : decode b_L_law 786 = .ok (.iconst 2, 1) := by decide +kernel
theorem d_L_law_787 : decode b_L_law 787 = .ok (.iadd, 1) := by decide +kernel
theorem d_L_law_788 : decode b_L_law 788 = .ok (.iaload, 1) := by decide +kernel
theorem d_L_law_789 : decode b_L_law 789 = .ok (.invokestatic 124, 3) := by decide +kernel
theorem d_L_law_792 : decode b_L_law 792 = .ok (.istore 5, 2) := by decide +kernel
theorem d_L_law_794 : decode b_L_law 794 = .ok (.aload_n 2, 1) := by decide +kernel
theorem d_L_law_795 : decode b_L_law 795 = .ok (.aload_n 0, 1) := by decide +kernel
theorem d_L_law_796 : decode b_L_law 796 = .ok (.iload 4, 2) := by decide +kernel
theorem d_L_law_798 : decode b_L_law 798 = .ok (.iconst 1, 1) := by decide +kernel
theorem d_L_law_799 : decode b_L_law 799 = .ok (.iadd, 1) := by decide +kernel
theorem d_L_law_800 : decode b_L_law 800 = .ok (.iaload, 1) := by decide +kernel
theorem d_L_law_801 : decode b_L_law 801 = .ok (.aload_n 0, 1) := by decide +kernel
theorem d_L_law_802 : decode b_L_law 802 = .ok (.iload 4, 2) := by decide +kernel
theorem d_L_law_804 : decode b_L_law 804 = .ok (.iconst 2, 1) := by decide +kernel
theorem d_L_law_805 : decode b_L_law 805 = .ok (.iadd, 1) := by decide +kernel
theorem d_L_law_806 : decode b_L_law 806 = .ok (.iaload, 1) := by decide +kernel
theorem d_L_law_807 : decode b_L_law 807 = .ok (.invokevirtual 126, 3) := by decide +kernel
theorem d_L_law_810 : decode b_L_law 810 = .ok (.aload_n 2, 1) := by decide +kernel
theorem d_L_law_811 : decode b_L_law 811 = .ok (.invokevirtual 85, 3) := by decide +kernel
theorem d_L_law_814 : decode b_L_law 814 = .ok (.iload 5, 2) := by decide +kernel
theorem d_L_law_816 : decode b_L_law 816 = .ok (.if_icmp .eq 5, 3) := by decide +kernel
theorem d_L_law_819 : decode b_L_law 819 = .ok (.iconst 0, 1) := by decide +kernel
theorem d_L_law_820 : decode b_L_law 820 = .ok (.ireturn, 1) := by decide +kernel
theorem d_L_law_821 : decode b_L_law 821 = .ok (.goto 299, 3) := by decide +kernel
theorem d_L_law_824 : decode b_L_law 824 = .ok (.aload_n 1, 1) := by decide +kernel
theorem d_L_law_825 : decode b_L_law 825 = .ok (.aload_n 0, 1) := by decide +kernel
theorem d_L_law_826 : decode b_L_law 826 = .ok (.iload 4, 2) := by decide +kernel
theorem d_L_law_828 : decode b_L_law 828 = .ok (.iconst 1, 1) := by decide +kernel
theorem d_L_law_829 : decode b_L_law 829 = .ok (.iadd, 1) := by decide +kernel
theorem d_L_law_830 : decode b_L_law 830 = .ok (.iaload, 1) := by decide +kernel
theorem d_L_law_831 : decode b_L_law 831 = .ok (.aload_n 0, 1) := by decide +kernel
theorem d_L_law_832 : decode b_L_law 832 = .ok (.iload 4, 2) := by decide +kernel
theorem d_L_law_834 : decode b_L_law 834 = .ok (.iconst 2, 1) := by decide +kernel
theorem d_L_law_835 : decode b_L_law 835 = .ok (.iadd, 1) := by decide +kernel
theorem d_L_law_836 : decode b_L_law 836 = .ok (.iaload, 1) := by decide +kernel
theorem d_L_law_837 : decode b_L_law 837 = .ok (.invokestatic 127, 3) := by decide +kernel
theorem d_L_law_840 : decode b_L_law 840 = .ok (.istore 5, 2) := by decide +kernel
theorem d_L_law_842 : decode b_L_law 842 = .ok (.aload_n 2, 1) := by decide +kernel
theorem d_L_law_843 : decode b_L_law 843 = .ok (.aload_n 0, 1) := by decide +kernel
theorem d_L_law_844 : decode b_L_law 844 = .ok (.iload 4, 2) := by decide +kernel
theorem d_L_law_846 : decode b_L_law 846 = .ok (.iconst 1, 1) := by decide +kernel
theorem d_L_law_847 : decode b_L_law 847 = .ok (.iadd, 1) := by decide +kernel
theorem d_L_law_848 : decode b_L_law 848 = .ok (.iaload, 1) := by decide +kernel
theorem d_L_law_849 : decode b_L_law 849 = .ok (.aload_n 0, 1) := by decide +kernel
theorem d_L_law_850 : decode b_L_law 850 = .ok (.iload 4, 2) := by decide +kernel
theorem d_L_law_852 : decode b_L_law 852 = .ok (.iconst 2, 1) := by decide +kernel
theorem d_L_law_853 : decode b_L_law 853 = .ok (.iadd, 1) := by decide +kernel
theorem d_L_law_854 : decode b_L_law 854 = .ok (.iaload, 1) := by decide +kernel
theorem d_L_law_855 : decode b_L_law 855 = .ok (.invokevirtual 129, 3) := by decide +kernel
theorem d_L_law_858 : decode b_L_law 858 = .ok (.aload_n 2, 1) := by decide +kernel
theorem d_L_law_859 : decode b_L_law 859 = .ok (.invokevirtual 85, 3) := by decide +kernel
theorem d_L_law_862 : decode b_L_law 862 = .ok (.iload 5, 2) := by decide +kernel
theorem d_L_law_864 : decode b_L_law 864 = .ok (.if_icmp .eq 5, 3) := by decide +kernel
theorem d_L_law_867 : decode b_L_law 867 = .ok (.iconst 0, 1) := by decide +kernel
theorem d_L_law_868 : decode b_L_law 868 = .ok (.ireturn, 1) := by decide +kernel
theorem d_L_law_869 : decode b_L_law 869 = .ok (.goto 251, 3) := by decide +kernel
theorem d_L_law_872 : decode b_L_law 872 = .ok (.aload_n 1, 1) := by decide +kernel
theorem d_L_law_873 : decode b_L_law 873 = .ok (.aload_n 0, 1) := by decide +kernel
theorem d_L_law_874 : decode b_L_law 874 = .ok (.iload 4, 2) := by decide +kernel
theorem d_L_law_876 : decode b_L_law 876 = .ok (.iconst 1, 1) := by decide +kernel
theorem d_L_law_877 : decode b_L_law 877 = .ok (.iadd, 1) := by decide +kernel
theorem d_L_law_878 : decode b_L_law 878 = .ok (.iaload, 1) := by decide +kernel
theorem d_L_law_879 : decode b_L_law 879 = .ok (.aload_n 3, 1) := by decide +kernel
theorem d_L_law_880 : decode b_L_law 880 = .ok (.invokestatic 130, 3) := by decide +kernel
theorem d_L_law_883 : decode b_L_law 883 = .ok (.istore 5, 2) := by decide +kernel
theorem d_L_law_885 : decode b_L_law 885 = .ok (.aload_n 2, 1) := by decide +kernel
theorem d_L_law_886 : decode b_L_law 886 = .ok (.aload_n 0, 1) := by decide +kernel
theorem d_L_law_887 : decode b_L_law 887 = .ok (.iload 4, 2) := by decide +kernel
theorem d_L_law_889 : decode b_L_law 889 = .ok (.iconst 1, 1) := by decide +kernel
theorem d_L_law_890 : decode b_L_law 890 = .ok (.iadd, 1) := by decide +kernel
theorem d_L_law_891 : decode b_L_law 891 = .ok (.iaload, 1) := by decide +kernel
theorem d_L_law_892 : decode b_L_law 892 = .ok (.invokevirtual 133, 3) := by decide +kernel
theorem d_L_law_895 : decode b_L_law 895 = .ok (.istore 6, 2) := by decide +kernel
theorem d_L_law_897 : decode b_L_law 897 = .ok (.aload_n 2, 1) := by decide +kernel
theorem d_L_law_898 : decode b_L_law 898 = .ok (.invokevirtual 85, 3) := by decide +kernel
theorem d_L_law_901 : decode b_L_law 901 = .ok (.iload 5, 2) := by decide +kernel
theorem d_L_law_903 : decode b_L_law 903 = .ok (.if_icmp .eq 5, 3) := by decide +kernel
theorem d_L_law_906 : decode b_L_law 906 = .ok (.iconst 0, 1) := by decide +kernel
theorem d_L_law_907 : decode b_L_law 907 = .ok (.ireturn, 1) := by decide +kernel
theorem d_L_law_908 : decode b_L_law 908 = .ok (.iload 5, 2) := by decide +kernel
theorem d_L_law_910 : decode b_L_law 910 = .ok (.ifCond .ne 15, 3) := by decide +kernel
theorem d_L_law_913 : decode b_L_law 913 = .ok (.aload_n 3, 1) := by decide +kernel
theorem d_L_law_914 : decode b_L_law 914 = .ok (.iconst 0, 1) := by decide +kernel
theorem d_L_law_915 : decode b_L_law 915 = .ok (.laload, 1) := by decide +kernel
theorem d_L_law_916 : decode b_L_law 916 = .ok (.iload 6, 2) := by decide +kernel
theorem d_L_law_918 : decode b_L_law 918 = .ok (.i2l, 1) := by decide +kernel
theorem d_L_law_919 : decode b_L_law 919 = .ok (.lcmp, 1) := by decide +kernel
theorem d_L_law_920 : decode b_L_law 920 = .ok (.ifCond .eq 5, 3) := by decide +kernel
theorem d_L_law_923 : decode b_L_law 923 = .ok (.iconst 0, 1) := by decide +kernel
theorem d_L_law_924 : decode b_L_law 924 = .ok (.ireturn, 1) := by decide +kernel
theorem d_L_law_925 : decode b_L_law 925 = .ok (.goto 195, 3) := by decide +kernel
theorem d_L_law_928 : decode b_L_law 928 = .ok (.aload_n 1, 1) := by decide +kernel
theorem d_L_law_929 : decode b_L_law 929 = .ok (.aload_n 0, 1) := by decide +kernel
theorem d_L_law_930 : decode b_L_law 930 = .ok (.iload 4, 2) := by decide +kernel
theorem d_L_law_932 : decode b_L_law 932 = .ok (.iconst 1, 1) := by decide +kernel
theorem d_L_law_933 : decode b_L_law 933 = .ok (.iadd, 1) := by decide +kernel
theorem d_L_law_934 : decode b_L_law 934 = .ok (.iaload, 1) := by decide +kernel
theorem d_L_law_935 : decode b_L_law 935 = .ok (.aload_n 0, 1) := by decide +kernel
theorem d_L_law_936 : decode b_L_law 936 = .ok (.iload 4, 2) := by decide +kernel
theorem d_L_law_938 : decode b_L_law 938 = .ok (.iconst 2, 1) := by decide +kernel
theorem d_L_law_939 : decode b_L_law 939 = .ok (.iadd, 1) := by decide +kernel
theorem d_L_law_940 : decode b_L_law 940 = .ok (.iaload, 1) := by decide +kernel
theorem d_L_law_941 : decode b_L_law 941 = .ok (.aload_n 3, 1) := by decide +kernel
theorem d_L_law_942 : decode b_L_law 942 = .ok (.invokestatic 134, 3) := by decide +kernel
theorem d_L_law_945 : decode b_L_law 945 = .ok (.istore 5, 2) := by decide +kernel
theorem d_L_law_947 : decode b_L_law 947 = .ok (.aload_n 2, 1) := by decide +kernel
theorem d_L_law_948 : decode b_L_law 948 = .ok (.aload_n 0, 1) := by decide +kernel
theorem d_L_law_949 : decode b_L_law 949 = .ok (.iload 4, 2) := by decide +kernel
theorem d_L_law_951 : decode b_L_law 951 = .ok (.iconst 1, 1) := by decide +kernel
theorem d_L_law_952 : decode b_L_law 952 = .ok (.iadd, 1) := by decide +kernel
theorem d_L_law_953 : decode b_L_law 953 = .ok (.iaload, 1) := by decide +kernel
theorem d_L_law_954 : decode b_L_law 954 = .ok (.aload_n 0, 1) := by decide +kernel
theorem d_L_law_955 : decode b_L_law 955 = .ok (.iload 4, 2) := by decide +kernel
theorem d_L_law_957 : decode b_L_law 957 = .ok (.iconst 2, 1) := by decide +kernel
theorem d_L_law_958 : decode b_L_law 958 = .ok (.iadd, 1) := by decide +kernel
theorem d_L_law_959 : decode b_L_law 959 = .ok (.iaload, 1) := by decide +kernel
theorem d_L_law_960 : decode b_L_law 960 = .ok (.invokevirtual 136, 3) := by decide +kernel
theorem d_L_law_963 : decode b_L_law 963 = .ok (.istore 6, 2) := by decide +kernel
theorem d_L_law_965 : decode b_L_law 965 = .ok (.aload_n 2, 1) := by decide +kernel
theorem d_L_law_966 : decode b_L_law 966 = .ok (.invokevirtual 85, 3) := by decide +kernel
theorem d_L_law_969 : decode b_L_law 969 = .ok (.iload 5, 2) := by decide +kernel
theorem d_L_law_971 : decode b_L_law 971 = .ok (.if_icmp .eq 5, 3) := by decide +kernel
theorem d_L_law_974 : decode b_L_law 974 = .ok (.iconst 0, 1) := by decide +kernel
theorem d_L_law_975 : decode b_L_law 975 = .ok (.ireturn, 1) := by decide +kernel
theorem d_L_law_976 : decode b_L_law 976 = .ok (.iload 5, 2) := by decide +kernel
theorem d_L_law_978 : decode b_L_law 978 = .ok (.ifCond .ne 15, 3) := by decide +kernel
theorem d_L_law_981 : decode b_L_law 981 = .ok (.aload_n 3, 1) := by decide +kernel
theorem d_L_law_982 : decode b_L_law 982 = .ok (.iconst 0, 1) := by decide +kernel
theorem d_L_law_983 : decode b_L_law 983 = .ok (.laload, 1) := by decide +kernel
theorem d_L_law_984 : decode b_L_law 984 = .ok (.iload 6, 2) := by decide +kernel
theorem d_L_law_986 : decode b_L_law 986 = .ok (.i2l, 1) := by decide +kernel
theorem d_L_law_987 : decode b_L_law 987 = .ok (.lcmp, 1) := by decide +kernel
theorem d_L_law_988 : decode b_L_law 988 = .ok (.ifCond .eq 5, 3) := by decide +kernel
theorem d_L_law_991 : decode b_L_law 991 = .ok (.iconst 0, 1) := by decide +kernel
theorem d_L_law_992 : decode b_L_law 992 = .ok (.ireturn, 1) := by decide +kernel
theorem d_L_law_993 : decode b_L_law 993 = .ok (.goto 127, 3) := by decide +kernel
theorem d_L_law_996 : decode b_L_law 996 = .ok (.aload_n 1, 1) := by decide +kernel
theorem d_L_law_997 : decode b_L_law 997 = .ok (.aload_n 0, 1) := by decide +kernel
theorem d_L_law_998 : decode b_L_law 998 = .ok (.iload 4, 2) := by decide +kernel
theorem d_L_law_1000 : decode b_L_law 1000 = .ok (.iconst 1, 1) := by decide +kernel
theorem d_L_law_1001 : decode b_L_law 1001 = .ok (.iadd, 1) := by decide +kernel
theorem d_L_law_1002 : decode b_L_law 1002 = .ok (.iaload, 1) := by decide +kernel
theorem d_L_law_1003 : decode b_L_law 1003 = .ok (.aload_n 0, 1) := by decide +kernel
theorem d_L_law_1004 : decode b_L_law 1004 = .ok (.iload 4, 2) := by decide +kernel
theorem d_L_law_1006 : decode b_L_law 1006 = .ok (.iconst 2, 1) := by decide +kernel
theorem d_L_law_1007 : decode b_L_law 1007 = .ok (.iadd, 1) := by decide +kernel
theorem d_L_law_1008 : decode b_L_law 1008 = .ok (.iaload, 1) := by decide +kernel
theorem d_L_law_1009 : decode b_L_law 1009 = .ok (.aload_n 3, 1) := by decide +kernel
theorem d_L_law_1010 : decode b_L_law 1010 = .ok (.invokestatic 137, 3) := by decide +kernel
theorem d_L_law_1013 : decode b_L_law 1013 = .ok (.istore 5, 2) := by decide +kernel
theorem d_L_law_1015 : decode b_L_law 1015 = .ok (.aload_n 2, 1) := by decide +kernel
theorem d_L_law_1016 : decode b_L_law 1016 = .ok (.aload_n 0, 1) := by decide +kernel
theorem d_L_law_1017 : decode b_L_law 1017 = .ok (.iload 4, 2) := by decide +kernel
theorem d_L_law_1019 : decode b_L_law 1019 = .ok (.iconst 1, 1) := by decide +kernel
theorem d_L_law_1020 : decode b_L_law 1020 = .ok (.iadd, 1) := by decide +kernel
theorem d_L_law_1021 : decode b_L_law 1021 = .ok (.iaload, 1) := by decide +kernel
theorem d_L_law_1022 : decode b_L_law 1022 = .ok (.aload_n 0, 1) := by decide +kernel
theorem d_L_law_1023 : decode b_L_law 1023 = .ok (.iload 4, 2) := by decide +kernel
theorem d_L_law_1025 : decode b_L_law 1025 = .ok (.iconst 2, 1) := by decide +kernel
theorem d_L_law_1026 : decode b_L_law 1026 = .ok (.iadd, 1) := by decide +kernel
theorem d_L_law_1027 : decode b_L_law 1027 = .ok (.iaload, 1) := by decide +kernel
theorem d_L_law_1028 : decode b_L_law 1028 = .ok (.invokevirtual 139, 3) := by decide +kernel
theorem d_L_law_1031 : decode b_L_law 1031 = .ok (.istore 6, 2) := by decide +kernel
theorem d_L_law_1033 : decode b_L_law 1033 = .ok (.aload_n 2, 1) := by decide +kernel
theorem d_L_law_1034 : decode b_L_law 1034 = .ok (.invokevirtual 85, 3) := by decide +kernel
theorem d_L_law_1037 : decode b_L_law 1037 = .ok (.iload 5, 2) := by decide +kernel
theorem d_L_law_1039 : decode b_L_law 1039 = .ok (.if_icmp .eq 5, 3) := by decide +kernel
theorem d_L_law_1042 : decode b_L_law 1042 = .ok (.iconst 0, 1) := by decide +kernel
theorem d_L_law_1043 : decode b_L_law 1043 = .ok (.ireturn, 1) := by decide +kernel
theorem d_L_law_1044 : decode b_L_law 1044 = .ok (.iload 5, 2) := by decide +kernel
theorem d_L_law_1046 : decode b_L_law 1046 = .ok (.ifCond .ne 15, 3) := by decide +kernel
theorem d_L_law_1049 : decode b_L_law 1049 = .ok (.aload_n 3, 1) := by decide +kernel
theorem d_L_law_1050 : decode b_L_law 1050 = .ok (.iconst 0, 1) := by decide +kernel
theorem d_L_law_1051 : decode b_L_law 1051 = .ok (.laload, 1) := by decide +kernel
theorem d_L_law_1052 : decode b_L_law 1052 = .ok (.iload 6, 2) := by decide +kernel
theorem d_L_law_1054 : decode b_L_law 1054 = .ok (.i2l, 1) := by decide +kernel
theorem d_L_law_1055 : decode b_L_law 1055 = .ok (.lcmp, 1) := by decide +kernel
theorem d_L_law_1056 : decode b_L_law 1056 = .ok (.ifCond .eq 5, 3) := by decide +kernel
theorem d_L_law_1059 : decode b_L_law 1059 = .ok (.iconst 0, 1) := by decide +kernel
theorem d_L_law_1060 : decode b_L_law 1060 = .ok (.ireturn, 1) := by decide +kernel
theorem d_L_law_1061 : decode b_L_law 1061 = .ok (.goto 59, 3) := by decide +kernel
theorem d_L_law_1064 : decode b_L_law 1064 = .ok (.aload_n 1, 1) := by decide +kernel
theorem d_L_law_1065 : decode b_L_law 1065 = .ok (.aload_n 0, 1) := by decide +kernel
theorem d_L_law_1066 : decode b_L_law 1066 = .ok (.iload 4, 2) := by decide +kernel
theorem d_L_law_1068 : decode b_L_law 1068 = .ok (.iconst 1, 1) := by decide +kernel
theorem d_L_law_1069 : decode b_L_law 1069 = .ok (.iadd, 1) := by decide +kernel
theorem d_L_law_1070 : decode b_L_law 1070 = .ok (.iaload, 1) := by decide +kernel
theorem d_L_law_1071 : decode b_L_law 1071 = .ok (.aload_n 3, 1) := by decide +kernel
theorem d_L_law_1072 : decode b_L_law 1072 = .ok (.invokestatic 140, 3) := by decide +kernel
theorem d_L_law_1075 : decode b_L_law 1075 = .ok (.istore 5, 2) := by decide +kernel
theorem d_L_law_1077 : decode b_L_law 1077 = .ok (.aload_n 2, 1) := by decide +kernel
theorem d_L_law_1078 : decode b_L_law 1078 = .ok (.aload_n 0, 1) := by decide +kernel
theorem d_L_law_1079 : decode b_L_law 1079 = .ok (.iload 4, 2) := by decide +kernel
theorem d_L_law_1081 : decode b_L_law 1081 = .ok (.iconst 1, 1) := by decide +kernel
theorem d_L_law_1082 : decode b_L_law 1082 = .ok (.iadd, 1) := by decide +kernel
theorem d_L_law_1083 : decode b_L_law 1083 = .ok (.iaload, 1) := by decide +kernel
theorem d_L_law_1084 : decode b_L_law 1084 = .ok (.invokevirtual 142, 3) := by decide +kernel
theorem d_L_law_1087 : decode b_L_law 1087 = .ok (.istore 6, 2) := by decide +kernel
theorem d_L_law_1089 : decode b_L_law 1089 = .ok (.aload_n 2, 1) := by decide +kernel
theorem d_L_law_1090 : decode b_L_law 1090 = .ok (.invokevirtual 85, 3) := by decide +kernel
theorem d_L_law_1093 : decode b_L_law 1093 = .ok (.iload 5, 2) := by decide +kernel
theorem d_L_law_1095 : decode b_L_law 1095 = .ok (.if_icmp .eq 5, 3) := by decide +kernel
theorem d_L_law_1098 : decode b_L_law 1098 = .ok (.iconst 0, 1) := by decide +kernel
theorem d_L_law_1099 : decode b_L_law 1099 = .ok (.ireturn, 1) := by decide +kernel
theorem d_L_law_1100 : decode b_L_law 1100 = .ok (.iload 5, 2) := by decide +kernel
theorem d_L_law_1102 : decode b_L_law 1102 = .ok (.ifCond .ne 15, 3) := by decide +kernel
theorem d_L_law_1105 : decode b_L_law 1105 = .ok (.aload_n 3, 1) := by decide +kernel
theorem d_L_law_1106 : decode b_L_law 1106 = .ok (.iconst 0, 1) := by decide +kernel
theorem d_L_law_1107 : decode b_L_law 1107 = .ok (.laload, 1) := by decide +kernel
theorem d_L_law_1108 : decode b_L_law 1108 = .ok (.iload 6, 2) := by decide +kernel
theorem d_L_law_1110 : decode b_L_law 1110 = .ok (.i2l, 1) := by decide +kernel
theorem d_L_law_1111 : decode b_L_law 1111 = .ok (.lcmp, 1) := by decide +kernel
theorem d_L_law_1112 : decode b_L_law 1112 = .ok (.ifCond .eq 5, 3) := by decide +kernel
theorem d_L_law_1115 : decode b_L_law 1115 = .ok (.iconst 0, 1) := by decide +kernel
theorem d_L_law_1116 : decode b_L_law 1116 = .ok (.ireturn, 1) := by decide +kernel
theorem d_L_law_1117 : decode b_L_law 1117 = .ok (.goto 3, 3) := by decide +kernel
theorem d_L_law_1120 : decode b_L_law 1120 = .ok (.iinc 4 5, 3) := by decide +kernel
theorem d_L_law_1123 : decode b_L_law 1123 = .ok (.goto (-1100), 3) := by decide +kernel
theorem d_L_law_1126 : decode b_L_law 1126 = .ok (.iconst 1, 1) := by decide +kernel
theorem d_L_law_1127 : decode b_L_law 1127 = .ok (.ireturn, 1) := by decide +kernel
