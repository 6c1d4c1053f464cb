/-! the instructions of the law, 2 -/
set_option maxRecDepth 20000 in
theorem f312_791 : FF 312 791 (.istore 5) 2 0 0 0 0 := rfl
set_option maxRecDepth 20000 in
theorem f312_793 : FF 312 793 (.aload_n 2) 1 0 0 0 0 := rfl
set_option maxRecDepth 20000 in
theorem f312_794 : FF 312 794 (.aload_n 0) 1 0 0 0 0 := rfl
set_option maxRecDepth 20000 in
theorem f312_795 : FF 312 795 (.iload 4) 2 0 0 0 0 := rfl
set_option maxRecDepth 20000 in
theorem f312_797 : FF 312 797 (.iconst 1) 1 0 0 0 0 := rfl
set_option maxRecDepth 20000 in
theorem f312_798 : FF 312 798 (.iadd) 1 0 0 0 0 := rfl
set_option maxRecDepth 20000 in
theorem f312_799 : FF 312 799 (.iaload) 1 0 0 0 0 := rfl
set_option maxRecDepth 20000 in
theorem f312_800 : FF 312 800 (.invokevirtual 177) 3 242 1 0 1755 := rfl
set_option maxRecDepth 20000 in
theorem f312_803 : FF 312 803 (.istore 6) 2 0 0 0 0 := rfl
set_option maxRecDepth 20000 in
theorem f312_805 : FF 312 805 (.aload_n 2) 1 0 0 0 0 := rfl
set_option maxRecDepth 20000 in
theorem f312_806 : FF 312 806 (.invokevirtual 158) 3 147 0 0 1411 := rfl
set_option maxRecDepth 20000 in
theorem f312_809 : FF 312 809 (.iload 5) 2 0 0 0 0 := rfl
set_option maxRecDepth 20000 in
theorem f312_811 : FF 312 811 (.if_icmp .eq 5) 3 0 0 0 0 := rfl
set_option maxRecDepth 20000 in
theorem f312_814 : FF 312 814 (.iconst 0) 1 0 0 0 0 := rfl
set_option maxRecDepth 20000 in
theorem f312_815 : FF 312 815 (.ireturn) 1 0 0 0 0 := rfl
set_option maxRecDepth 20000 in
theorem f312_816 : FF 312 816 (.iload 5) 2 0 0 0 0 := rfl
set_option maxRecDepth 20000 in
theorem f312_818 : FF 312 818 (.ifCond .ne 15) 3 0 0 0 0 := rfl
set_option maxRecDepth 20000 in
theorem f312_821 : FF 312 821 (.aload_n 3) 1 0 0 0 0 := rfl
set_option maxRecDepth 20000 in
theorem f312_822 : FF 312 822 (.iconst 0) 1 0 0 0 0 := rfl
set_option maxRecDepth 20000 in
theorem f312_823 : FF 312 823 (.laload) 1 0 0 0 0 := rfl
set_option maxRecDepth 20000 in
theorem f312_824 : FF 312 824 (.iload 6) 2 0 0 0 0 := rfl
set_option maxRecDepth 20000 in
theorem f312_826 : FF 312 826 (.i2l) 1 0 0 0 0 := rfl
set_option maxRecDepth 20000 in
theorem f312_827 : FF 312 827 (.lcmp) 1 0 0 0 0 := rfl
set_option maxRecDepth 20000 in
theorem f312_828 : FF 312 828 (.ifCond .eq 5) 3 0 0 0 0 := rfl
set_option maxRecDepth 20000 in
theorem f312_831 : FF 312 831 (.iconst 0) 1 0 0 0 0 := rfl
set_option maxRecDepth 20000 in
theorem f312_832 : FF 312 832 (.ireturn) 1 0 0 0 0 := rfl
set_option maxRecDepth 20000 in
theorem f312_833 : FF 312 833 (.goto 1666) 3 0 0 0 0 := rfl
set_option maxRecDepth 20000 in
theorem f312_836 : FF 312 836 (.aload_n 1) 1 0 0 0 0 := rfl
set_option maxRecDepth 20000 in
theorem f312_837 : FF 312 837 (.aload_n 0) 1 0 0 0 0 := rfl
set_option maxRecDepth 20000 in
theorem f312_838 : FF 312 838 (.iload 4) 2 0 0 0 0 := rfl
set_option maxRecDepth 20000 in
theorem f312_840 : FF 312 840 (.iconst 1) 1 0 0 0 0 := rfl
set_option maxRecDepth 20000 in
theorem f312_841 : FF 312 841 (.iadd) 1 0 0 0 0 := rfl
set_option maxRecDepth 20000 in
theorem f312_842 : FF 312 842 (.iaload) 1 0 0 0 0 := rfl
set_option maxRecDepth 20000 in
theorem f312_843 : FF 312 843 (.aload_n 3) 1 0 0 0 0 := rfl
set_option maxRecDepth 20000 in
theorem f312_844 : FF 312 844 (.invokestatic 178) 3 290 3 1 1057 := rfl
set_option maxRecDepth 20000 in
theorem f312_847 : FF 312 847 (.istore 5) 2 0 0 0 0 := rfl
set_option maxRecDepth 20000 in
theorem f312_849 : FF 312 849 (.aload_n 2) 1 0 0 0 0 := rfl
set_option maxRecDepth 20000 in
theorem f312_850 : FF 312 850 (.aload_n 0) 1 0 0 0 0 := rfl
set_option maxRecDepth 20000 in
theorem f312_851 : FF 312 851 (.iload 4) 2 0 0 0 0 := rfl
set_option maxRecDepth 20000 in
theorem f312_853 : FF 312 853 (.iconst 1) 1 0 0 0 0 := rfl
set_option maxRecDepth 20000 in
theorem f312_854 : FF 312 854 (.iadd) 1 0 0 0 0 := rfl
set_option maxRecDepth 20000 in
theorem f312_855 : FF 312 855 (.iaload) 1 0 0 0 0 := rfl
set_option maxRecDepth 20000 in
theorem f312_856 : FF 312 856 (.invokevirtual 180) 3 237 1 0 1735 := rfl
set_option maxRecDepth 20000 in
theorem f312_859 : FF 312 859 (.istore 6) 2 0 0 0 0 := rfl
set_option maxRecDepth 20000 in
theorem f312_861 : FF 312 861 (.aload_n 2) 1 0 0 0 0 := rfl
set_option maxRecDepth 20000 in
theorem f312_862 : FF 312 862 (.invokevirtual 158) 3 147 0 0 1411 := rfl
set_option maxRecDepth 20000 in
theorem f312_865 : FF 312 865 (.iload 5) 2 0 0 0 0 := rfl
set_option maxRecDepth 20000 in
theorem f312_867 : FF 312 867 (.if_icmp .eq 5) 3 0 0 0 0 := rfl
set_option maxRecDepth 20000 in
theorem f312_870 : FF 312 870 (.iconst 0) 1 0 0 0 0 := rfl
set_option maxRecDepth 20000 in
theorem f312_871 : FF 312 871 (.ireturn) 1 0 0 0 0 := rfl
set_option maxRecDepth 20000 in
theorem f312_872 : FF 312 872 (.iload 5) 2 0 0 0 0 := rfl
set_option maxRecDepth 20000 in
theorem f312_874 : FF 312 874 (.ifCond .ne 15) 3 0 0 0 0 := rfl
set_option maxRecDepth 20000 in
theorem f312_877 : FF 312 877 (.aload_n 3) 1 0 0 0 0 := rfl
set_option maxRecDepth 20000 in
theorem f312_878 : FF 312 878 (.iconst 0) 1 0 0 0 0 := rfl
set_option maxRecDepth 20000 in
theorem f312_879 : FF 312 879 (.laload) 1 0 0 0 0 := rfl
set_option maxRecDepth 20000 in
theorem f312_880 : FF 312 880 (.iload 6) 2 0 0 0 0 := rfl
set_option maxRecDepth 20000 in
theorem f312_882 : FF 312 882 (.i2l) 1 0 0 0 0 := rfl
set_option maxRecDepth 20000 in
theorem f312_883 : FF 312 883 (.lcmp) 1 0 0 0 0 := rfl
set_option maxRecDepth 20000 in
theorem f312_884 : FF 312 884 (.ifCond .eq 5) 3 0 0 0 0 := rfl
set_option maxRecDepth 20000 in
theorem f312_887 : FF 312 887 (.iconst 0) 1 0 0 0 0 := rfl
set_option maxRecDepth 20000 in
theorem f312_888 : FF 312 888 (.ireturn) 1 0 0 0 0 := rfl
set_option maxRecDepth 20000 in
theorem f312_889 : FF 312 889 (.goto 1610) 3 0 0 0 0 := rfl
set_option maxRecDepth 20000 in
theorem f312_892 : FF 312 892 (.aload_n 1) 1 0 0 0 0 := rfl
set_option maxRecDepth 20000 in
theorem f312_893 : FF 312 893 (.aload_n 0) 1 0 0 0 0 := rfl
set_option maxRecDepth 20000 in
theorem f312_894 : FF 312 894 (.iload 4) 2 0 0 0 0 := rfl
set_option maxRecDepth 20000 in
theorem f312_896 : FF 312 896 (.iconst 1) 1 0 0 0 0 := rfl
set_option maxRecDepth 20000 in
theorem f312_897 : FF 312 897 (.iadd) 1 0 0 0 0 := rfl
set_option maxRecDepth 20000 in
theorem f312_898 : FF 312 898 (.iaload) 1 0 0 0 0 := rfl
set_option maxRecDepth 20000 in
theorem f312_899 : FF 312 899 (.aload_n 3) 1 0 0 0 0 := rfl
set_option maxRecDepth 20000 in
theorem f312_900 : FF 312 900 (.invokestatic 181) 3 291 3 1 1064 := rfl
set_option maxRecDepth 20000 in
theorem f312_903 : FF 312 903 (.istore 5) 2 0 0 0 0 := rfl
set_option maxRecDepth 20000 in
theorem f312_905 : FF 312 905 (.aload_n 2) 1 0 0 0 0 := rfl
set_option maxRecDepth 20000 in
theorem f312_906 : FF 312 906 (.aload_n 0) 1 0 0 0 0 := rfl
set_option maxRecDepth 20000 in
theorem f312_907 : FF 312 907 (.iload 4) 2 0 0 0 0 := rfl
set_option maxRecDepth 20000 in
theorem f312_909 : FF 312 909 (.iconst 1) 1 0 0 0 0 := rfl
set_option maxRecDepth 20000 in
theorem f312_910 : FF 312 910 (.iadd) 1 0 0 0 0 := rfl
set_option maxRecDepth 20000 in
theorem f312_911 : FF 312 911 (.iaload) 1 0 0 0 0 := rfl
set_option maxRecDepth 20000 in
theorem f312_912 : FF 312 912 (.invokevirtual 183) 3 238 1 0 1739 := rfl
set_option maxRecDepth 20000 in
theorem f312_915 : FF 312 915 (.istore 6) 2 0 0 0 0 := rfl
set_option maxRecDepth 20000 in
theorem f312_917 : FF 312 917 (.aload_n 2) 1 0 0 0 0 := rfl
set_option maxRecDepth 20000 in
theorem f312_918 : FF 312 918 (.invokevirtual 158) 3 147 0 0 1411 := rfl
set_option maxRecDepth 20000 in
theorem f312_921 : FF 312 921 (.iload 5) 2 0 0 0 0 := rfl
set_option maxRecDepth 20000 in
theorem f312_923 : FF 312 923 (.if_icmp .eq 5) 3 0 0 0 0 := rfl
set_option maxRecDepth 20000 in
theorem f312_926 : FF 312 926 (.iconst 0) 1 0 0 0 0 := rfl
set_option maxRecDepth 20000 in
theorem f312_927 : FF 312 927 (.ireturn) 1 0 0 0 0 := rfl
set_option maxRecDepth 20000 in
theorem f312_928 : FF 312 928 (.iload 5) 2 0 0 0 0 := rfl
set_option maxRecDepth 20000 in
theorem f312_930 : FF 312 930 (.ifCond .ne 15) 3 0 0 0 0 := rfl
set_option maxRecDepth 20000 in
theorem f312_933 : FF 312 933 (.aload_n 3) 1 0 0 0 0 := rfl
set_option maxRecDepth 20000 in
theorem f312_934 : FF 312 934 (.iconst 0) 1 0 0 0 0 := rfl
set_option maxRecDepth 20000 in
theorem f312_935 : FF 312 935 (.laload) 1 0 0 0 0 := rfl
set_option maxRecDepth 20000 in
theorem f312_936 : FF 312 936 (.iload 6) 2 0 0 0 0 := rfl
set_option maxRecDepth 20000 in
theorem f312_938 : FF 312 938 (.i2l) 1 0 0 0 0 := rfl
set_option maxRecDepth 20000 in
theorem f312_939 : FF 312 939 (.lcmp) 1 0 0 0 0 := rfl
set_option maxRecDepth 20000 in
theorem f312_940 : FF 312 940 (.ifCond .eq 5) 3 0 0 0 0 := rfl
set_option maxRecDepth 20000 in
theorem f312_943 : FF 312 943 (.iconst 0) 1 0 0 0 0 := rfl
set_option maxRecDepth 20000 in
theorem f312_944 : FF 312 944 (.ireturn) 1 0 0 0 0 := rfl
set_option maxRecDepth 20000 in
theorem f312_945 : FF 312 945 (.goto 1554) 3 0 0 0 0 := rfl
set_option maxRecDepth 20000 in
theorem f312_948 : FF 312 948 (.aload_n 1) 1 0 0 0 0 := rfl
set_option maxRecDepth 20000 in
theorem f312_949 : FF 312 949 (.aload_n 0) 1 0 0 0 0 := rfl
set_option maxRecDepth 20000 in
theorem f312_950 : FF 312 950 (.iload 4) 2 0 0 0 0 := rfl
set_option maxRecDepth 20000 in
theorem f312_952 : FF 312 952 (.iconst 1) 1 0 0 0 0 := rfl
set_option maxRecDepth 20000 in
theorem f312_953 : FF 312 953 (.iadd) 1 0 0 0 0 := rfl
set_option maxRecDepth 20000 in
theorem f312_954 : FF 312 954 (.iaload) 1 0 0 0 0 := rfl
set_option maxRecDepth 20000 in
theorem f312_955 : FF 312 955 (.aload_n 3) 1 0 0 0 0 := rfl
set_option maxRecDepth 20000 in
theorem f312_956 : FF 312 956 (.invokestatic 184) 3 292 3 1 1071 := rfl
set_option maxRecDepth 20000 in
theorem f312_959 : FF 312 959 (.istore 5) 2 0 0 0 0 := rfl
set_option maxRecDepth 20000 in
theorem f312_961 : FF 312 961 (.aload_n 2) 1 0 0 0 0 := rfl
set_option maxRecDepth 20000 in
theorem f312_962 : FF 312 962 (.aload_n 0) 1 0 0 0 0 := rfl
set_option maxRecDepth 20000 in
theorem f312_963 : FF 312 963 (.iload 4) 2 0 0 0 0 := rfl
set_option maxRecDepth 20000 in
theorem f312_965 : FF 312 965 (.iconst 1) 1 0 0 0 0 := rfl
set_option maxRecDepth 20000 in
theorem f312_966 : FF 312 966 (.iadd) 1 0 0 0 0 := rfl
set_option maxRecDepth 20000 in
theorem f312_967 : FF 312 967 (.iaload) 1 0 0 0 0 := rfl
set_option maxRecDepth 20000 in
theorem f312_968 : FF 312 968 (.invokevirtual 186) 3 239 1 0 1743 := rfl
set_option maxRecDepth 20000 in
theorem f312_971 : FF 312 971 (.istore 6) 2 0 0 0 0 := rfl
set_option maxRecDepth 20000 in
theorem f312_973 : FF 312 973 (.aload_n 2) 1 0 0 0 0 := rfl
set_option maxRecDepth 20000 in
theorem f312_974 : FF 312 974 (.invokevirtual 158) 3 147 0 0 1411 := rfl
set_option maxRecDepth 20000 in
theorem f312_977 : FF 312 977 (.iload 5) 2 0 0 0 0 := rfl
set_option maxRecDepth 20000 in
theorem f312_979 : FF 312 979 (.if_icmp .eq 5) 3 0 0 0 0 := rfl
set_option maxRecDepth 20000 in
theorem f312_982 : FF 312 982 (.iconst 0) 1 0 0 0 0 := rfl
set_option maxRecDepth 20000 in
theorem f312_983 : FF 312 983 (.ireturn) 1 0 0 0 0 := rfl
set_option maxRecDepth 20000 in
theorem f312_984 : FF 312 984 (.iload 5) 2 0 0 0 0 := rfl
set_option maxRecDepth 20000 in
theorem f312_986 : FF 312 986 (.ifCond .ne 15) 3 0 0 0 0 := rfl
set_option maxRecDepth 20000 in
theorem f312_989 : FF 312 989 (.aload_n 3) 1 0 0 0 0 := rfl
set_option maxRecDepth 20000 in
theorem f312_990 : FF 312 990 (.iconst 0) 1 0 0 0 0 := rfl
set_option maxRecDepth 20000 in
theorem f312_991 : FF 312 991 (.laload) 1 0 0 0 0 := rfl
set_option maxRecDepth 20000 in
theorem f312_992 : FF 312 992 (.iload 6) 2 0 0 0 0 := rfl
set_option maxRecDepth 20000 in
theorem f312_994 : FF 312 994 (.i2l) 1 0 0 0 0 := rfl
set_option maxRecDepth 20000 in
theorem f312_995 : FF 312 995 (.lcmp) 1 0 0 0 0 := rfl
set_option maxRecDepth 20000 in
theorem f312_996 : FF 312 996 (.ifCond .eq 5) 3 0 0 0 0 := rfl
set_option maxRecDepth 20000 in
theorem f312_999 : FF 312 999 (.iconst 0) 1 0 0 0 0 := rfl
set_option maxRecDepth 20000 in
theorem f312_1000 : FF 312 1000 (.ireturn) 1 0 0 0 0 := rfl
set_option maxRecDepth 20000 in
theorem f312_1001 : FF 312 1001 (.goto 1498) 3 0 0 0 0 := rfl
set_option maxRecDepth 20000 in
theorem f312_1004 : FF 312 1004 (.aload_n 1) 1 0 0 0 0 := rfl
set_option maxRecDepth 20000 in
theorem f312_1005 : FF 312 1005 (.aload_n 0) 1 0 0 0 0 := rfl
set_option maxRecDepth 20000 in
theorem f312_1006 : FF 312 1006 (.iload 4) 2 0 0 0 0 := rfl
set_option maxRecDepth 20000 in
theorem f312_1008 : FF 312 1008 (.iconst 1) 1 0 0 0 0 := rfl
set_option maxRecDepth 20000 in
theorem f312_1009 : FF 312 1009 (.iadd) 1 0 0 0 0 := rfl
set_option maxRecDepth 20000 in
theorem f312_1010 : FF 312 1010 (.iaload) 1 0 0 0 0 := rfl
set_option maxRecDepth 20000 in
theorem f312_1011 : FF 312 1011 (.aload_n 3) 1 0 0 0 0 := rfl
set_option maxRecDepth 20000 in
theorem f312_1012 : FF 312 1012 (.invokestatic 187) 3 293 3 1 1078 := rfl
set_option maxRecDepth 20000 in
theorem f312_1015 : FF 312 1015 (.istore 5) 2 0 0 0 0 := rfl
set_option maxRecDepth 20000 in
theorem f312_1017 : FF 312 1017 (.aload_n 2) 1 0 0 0 0 := rfl
set_option maxRecDepth 20000 in
theorem f312_1018 : FF 312 1018 (.aload_n 0) 1 0 0 0 0 := rfl
set_option maxRecDepth 20000 in
theorem f312_1019 : FF 312 1019 (.iload 4) 2 0 0 0 0 := rfl
set_option maxRecDepth 20000 in
theorem f312_1021 : FF 312 1021 (.iconst 1) 1 0 0 0 0 := rfl
set_option maxRecDepth 20000 in
theorem f312_1022 : FF 312 1022 (.iadd) 1 0 0 0 0 := rfl
set_option maxRecDepth 20000 in
theorem f312_1023 : FF 312 1023 (.iaload) 1 0 0 0 0 := rfl
set_option maxRecDepth 20000 in
theorem f312_1024 : FF 312 1024 (.invokevirtual 189) 3 243 1 0 1759 := rfl
set_option maxRecDepth 20000 in
theorem f312_1027 : FF 312 1027 (.istore 6) 2 0 0 0 0 := rfl
set_option maxRecDepth 20000 in
theorem f312_1029 : FF 312 1029 (.aload_n 2) 1 0 0 0 0 := rfl
set_option maxRecDepth 20000 in
theorem f312_1030 : FF 312 1030 (.invokevirtual 158) 3 147 0 0 1411 := rfl
set_option maxRecDepth 20000 in
theorem f312_1033 : FF 312 1033 (.iload 5) 2 0 0 0 0 := rfl
set_option maxRecDepth 20000 in
theorem f312_1035 : FF 312 1035 (.if_icmp .eq 5) 3 0 0 0 0 := rfl
set_option maxRecDepth 20000 in
theorem f312_1038 : FF 312 1038 (.iconst 0) 1 0 0 0 0 := rfl
set_option maxRecDepth 20000 in
theorem f312_1039 : FF 312 1039 (.ireturn) 1 0 0 0 0 := rfl
set_option maxRecDepth 20000 in
theorem f312_1040 : FF 312 1040 (.iload 5) 2 0 0 0 0 := rfl
set_option maxRecDepth 20000 in
theorem f312_1042 : FF 312 1042 (.ifCond .ne 22) 3 0 0 0 0 := rfl
set_option maxRecDepth 20000 in
theorem f312_1045 : FF 312 1045 (.aload_n 3) 1 0 0 0 0 := rfl
set_option maxRecDepth 20000 in
theorem f312_1046 : FF 312 1046 (.iconst 0) 1 0 0 0 0 := rfl
set_option maxRecDepth 20000 in
theorem f312_1047 : FF 312 1047 (.laload) 1 0 0 0 0 := rfl
set_option maxRecDepth 20000 in
theorem f312_1048 : FF 312 1048 (.iload 6) 2 0 0 0 0 := rfl
set_option maxRecDepth 20000 in
theorem f312_1050 : FF 312 1050 (.ifCond .eq 7) 3 0 0 0 0 := rfl
set_option maxRecDepth 20000 in
theorem f312_1053 : FF 312 1053 (.lconst 1) 1 0 0 0 0 := rfl
set_option maxRecDepth 20000 in
theorem f312_1054 : FF 312 1054 (.goto 4) 3 0 0 0 0 := rfl
set_option maxRecDepth 20000 in
theorem f312_1057 : FF 312 1057 (.lconst 0) 1 0 0 0 0 := rfl
set_option maxRecDepth 20000 in
theorem f312_1058 : FF 312 1058 (.lcmp) 1 0 0 0 0 := rfl
set_option maxRecDepth 20000 in
theorem f312_1059 : FF 312 1059 (.ifCond .eq 5) 3 0 0 0 0 := rfl
set_option maxRecDepth 20000 in
theorem f312_1062 : FF 312 1062 (.iconst 0) 1 0 0 0 0 := rfl
set_option maxRecDepth 20000 in
theorem f312_1063 : FF 312 1063 (.ireturn) 1 0 0 0 0 := rfl
set_option maxRecDepth 20000 in
theorem f312_1064 : FF 312 1064 (.goto 1435) 3 0 0 0 0 := rfl
set_option maxRecDepth 20000 in
theorem f312_1067 : FF 312 1067 (.aload_n 1) 1 0 0 0 0 := rfl
set_option maxRecDepth 20000 in
theorem f312_1068 : FF 312 1068 (.aload_n 0) 1 0 0 0 0 := rfl
set_option maxRecDepth 20000 in
theorem f312_1069 : FF 312 1069 (.iload 4) 2 0 0 0 0 := rfl
set_option maxRecDepth 20000 in
theorem f312_1071 : FF 312 1071 (.iconst 1) 1 0 0 0 0 := rfl
set_option maxRecDepth 20000 in
theorem f312_1072 : FF 312 1072 (.iadd) 1 0 0 0 0 := rfl
set_option maxRecDepth 20000 in
theorem f312_1073 : FF 312 1073 (.iaload) 1 0 0 0 0 := rfl
set_option maxRecDepth 20000 in
theorem f312_1074 : FF 312 1074 (.aload_n 3) 1 0 0 0 0 := rfl
set_option maxRecDepth 20000 in
theorem f312_1075 : FF 312 1075 (.invokestatic 190) 3 294 3 1 1085 := rfl
set_option maxRecDepth 20000 in
theorem f312_1078 : FF 312 1078 (.istore 5) 2 0 0 0 0 := rfl
set_option maxRecDepth 20000 in
theorem f312_1080 : FF 312 1080 (.aload_n 2) 1 0 0 0 0 := rfl
set_option maxRecDepth 20000 in
theorem f312_1081 : FF 312 1081 (.aload_n 0) 1 0 0 0 0 := rfl
set_option maxRecDepth 20000 in
theorem f312_1082 : FF 312 1082 (.iload 4) 2 0 0 0 0 := rfl
set_option maxRecDepth 20000 in
theorem f312_1084 : FF 312 1084 (.iconst 1) 1 0 0 0 0 := rfl
set_option maxRecDepth 20000 in
theorem f312_1085 : FF 312 1085 (.iadd) 1 0 0 0 0 := rfl
set_option maxRecDepth 20000 in
theorem f312_1086 : FF 312 1086 (.iaload) 1 0 0 0 0 := rfl
set_option maxRecDepth 20000 in
theorem f312_1087 : FF 312 1087 (.invokevirtual 192) 3 244 1 0 1763 := rfl
set_option maxRecDepth 20000 in
theorem f312_1090 : FF 312 1090 (.istore 6) 2 0 0 0 0 := rfl
set_option maxRecDepth 20000 in
theorem f312_1092 : FF 312 1092 (.aload_n 2) 1 0 0 0 0 := rfl
set_option maxRecDepth 20000 in
theorem f312_1093 : FF 312 1093 (.invokevirtual 158) 3 147 0 0 1411 := rfl
set_option maxRecDepth 20000 in
theorem f312_1096 : FF 312 1096 (.iload 5) 2 0 0 0 0 := rfl
set_option maxRecDepth 20000 in
theorem f312_1098 : FF 312 1098 (.if_icmp .eq 5) 3 0 0 0 0 := rfl
set_option maxRecDepth 20000 in
theorem f312_1101 : FF 312 1101 (.iconst 0) 1 0 0 0 0 := rfl
set_option maxRecDepth 20000 in
theorem f312_1102 : FF 312 1102 (.ireturn) 1 0 0 0 0 := rfl
set_option maxRecDepth 20000 in
theorem f312_1103 : FF 312 1103 (.iload 5) 2 0 0 0 0 := rfl
set_option maxRecDepth 20000 in
theorem f312_1105 : FF 312 1105 (.ifCond .ne 22) 3 0 0 0 0 := rfl
set_option maxRecDepth 20000 in
theorem f312_1108 : FF 312 1108 (.aload_n 3) 1 0 0 0 0 := rfl
set_option maxRecDepth 20000 in
theorem f312_1109 : FF 312 1109 (.iconst 0) 1 0 0 0 0 := rfl
set_option maxRecDepth 20000 in
theorem f312_1110 : FF 312 1110 (.laload) 1 0 0 0 0 := rfl
set_option maxRecDepth 20000 in
theorem f312_1111 : FF 312 1111 (.iload 6) 2 0 0 0 0 := rfl
set_option maxRecDepth 20000 in
theorem f312_1113 : FF 312 1113 (.ifCond .eq 7) 3 0 0 0 0 := rfl
set_option maxRecDepth 20000 in
theorem f312_1116 : FF 312 1116 (.lconst 1) 1 0 0 0 0 := rfl
set_option maxRecDepth 20000 in
theorem f312_1117 : FF 312 1117 (.goto 4) 3 0 0 0 0 := rfl
set_option maxRecDepth 20000 in
theorem f312_1120 : FF 312 1120 (.lconst 0) 1 0 0 0 0 := rfl
set_option maxRecDepth 20000 in
theorem f312_1121 : FF 312 1121 (.lcmp) 1 0 0 0 0 := rfl
set_option maxRecDepth 20000 in
theorem f312_1122 : FF 312 1122 (.ifCond .eq 5) 3 0 0 0 0 := rfl
set_option maxRecDepth 20000 in
theorem f312_1125 : FF 312 1125 (.iconst 0) 1 0 0 0 0 := rfl
set_option maxRecDepth 20000 in
theorem f312_1126 : FF 312 1126 (.ireturn) 1 0 0 0 0 := rfl
set_option maxRecDepth 20000 in
theorem f312_1127 : FF 312 1127 (.goto 1372) 3 0 0 0 0 := rfl
set_option maxRecDepth 20000 in
theorem f312_1130 : FF 312 1130 (.aload_n 1) 1 0 0 0 0 := rfl
set_option maxRecDepth 20000 in
theorem f312_1131 : FF 312 1131 (.aload_n 0) 1 0 0 0 0 := rfl
set_option maxRecDepth 20000 in
theorem f312_1132 : FF 312 1132 (.iload 4) 2 0 0 0 0 := rfl
set_option maxRecDepth 20000 in
theorem f312_1134 : FF 312 1134 (.iconst 1) 1 0 0 0 0 := rfl
set_option maxRecDepth 20000 in
theorem f312_1135 : FF 312 1135 (.iadd) 1 0 0 0 0 := rfl
set_option maxRecDepth 20000 in
theorem f312_1136 : FF 312 1136 (.iaload) 1 0 0 0 0 := rfl
set_option maxRecDepth 20000 in
theorem f312_1137 : FF 312 1137 (.aload_n 3) 1 0 0 0 0 := rfl
set_option maxRecDepth 20000 in
theorem f312_1138 : FF 312 1138 (.invokestatic 193) 3 295 3 1 1093 := rfl
set_option maxRecDepth 20000 in
theorem f312_1141 : FF 312 1141 (.istore 5) 2 0 0 0 0 := rfl
set_option maxRecDepth 20000 in
theorem f312_1143 : FF 312 1143 (.aload_n 2) 1 0 0 0 0 := rfl
set_option maxRecDepth 20000 in
theorem f312_1144 : FF 312 1144 (.aload_n 0) 1 0 0 0 0 := rfl
set_option maxRecDepth 20000 in
theorem f312_1145 : FF 312 1145 (.iload 4) 2 0 0 0 0 := rfl
set_option maxRecDepth 20000 in
theorem f312_1147 : FF 312 1147 (.iconst 1) 1 0 0 0 0 := rfl
set_option maxRecDepth 20000 in
theorem f312_1148 : FF 312 1148 (.iadd) 1 0 0 0 0 := rfl
set_option maxRecDepth 20000 in
theorem f312_1149 : FF 312 1149 (.iaload) 1 0 0 0 0 := rfl
set_option maxRecDepth 20000 in
theorem f312_1150 : FF 312 1150 (.invokevirtual 195) 3 245 1 0 1767 := rfl
set_option maxRecDepth 20000 in
theorem f312_1153 : FF 312 1153 (.istore 6) 2 0 0 0 0 := rfl
set_option maxRecDepth 20000 in
theorem f312_1155 : FF 312 1155 (.aload_n 2) 1 0 0 0 0 := rfl
set_option maxRecDepth 20000 in
theorem f312_1156 : FF 312 1156 (.invokevirtual 158) 3 147 0 0 1411 := rfl
set_option maxRecDepth 20000 in
theorem f312_1159 : FF 312 1159 (.iload 5) 2 0 0 0 0 := rfl
set_option maxRecDepth 20000 in
theorem f312_1161 : FF 312 1161 (.if_icmp .eq 5) 3 0 0 0 0 := rfl
set_option maxRecDepth 20000 in
theorem f312_1164 : FF 312 1164 (.iconst 0) 1 0 0 0 0 := rfl
set_option maxRecDepth 20000 in
theorem f312_1165 : FF 312 1165 (.ireturn) 1 0 0 0 0 := rfl
set_option maxRecDepth 20000 in
theorem f312_1166 : FF 312 1166 (.iload 5) 2 0 0 0 0 := rfl
set_option maxRecDepth 20000 in
theorem f312_1168 : FF 312 1168 (.ifCond .ne 15) 3 0 0 0 0 := rfl
set_option maxRecDepth 20000 in
theorem f312_1171 : FF 312 1171 (.aload_n 3) 1 0 0 0 0 := rfl
set_option maxRecDepth 20000 in
theorem f312_1172 : FF 312 1172 (.iconst 0) 1 0 0 0 0 := rfl
set_option maxRecDepth 20000 in
theorem f312_1173 : FF 312 1173 (.laload) 1 0 0 0 0 := rfl
set_option maxRecDepth 20000 in
theorem f312_1174 : FF 312 1174 (.iload 6) 2 0 0 0 0 := rfl
set_option maxRecDepth 20000 in
theorem f312_1176 : FF 312 1176 (.i2l) 1 0 0 0 0 := rfl
set_option maxRecDepth 20000 in
theorem f312_1177 : FF 312 1177 (.lcmp) 1 0 0 0 0 := rfl
set_option maxRecDepth 20000 in
theorem f312_1178 : FF 312 1178 (.ifCond .eq 5) 3 0 0 0 0 := rfl
set_option maxRecDepth 20000 in
theorem f312_1181 : FF 312 1181 (.iconst 0) 1 0 0 0 0 := rfl
set_option maxRecDepth 20000 in
theorem f312_1182 : FF 312 1182 (.ireturn) 1 0 0 0 0 := rfl
set_option maxRecDepth 20000 in
theorem f312_1183 : FF 312 1183 (.goto 1316) 3 0 0 0 0 := rfl
set_option maxRecDepth 20000 in
theorem f312_1186 : FF 312 1186 (.aload_n 1) 1 0 0 0 0 := rfl
set_option maxRecDepth 20000 in
theorem f312_1187 : FF 312 1187 (.aload_n 0) 1 0 0 0 0 := rfl
set_option maxRecDepth 20000 in
theorem f312_1188 : FF 312 1188 (.iload 4) 2 0 0 0 0 := rfl
set_option maxRecDepth 20000 in
theorem f312_1190 : FF 312 1190 (.iconst 1) 1 0 0 0 0 := rfl
set_option maxRecDepth 20000 in
theorem f312_1191 : FF 312 1191 (.iadd) 1 0 0 0 0 := rfl
set_option maxRecDepth 20000 in
theorem f312_1192 : FF 312 1192 (.iaload) 1 0 0 0 0 := rfl
set_option maxRecDepth 20000 in
theorem f312_1193 : FF 312 1193 (.aload_n 3) 1 0 0 0 0 := rfl
set_option maxRecDepth 20000 in
theorem f312_1194 : FF 312 1194 (.invokestatic 196) 3 296 3 1 1100 := rfl
set_option maxRecDepth 20000 in
theorem f312_1197 : FF 312 1197 (.istore 5) 2 0 0 0 0 := rfl
set_option maxRecDepth 20000 in
theorem f312_1199 : FF 312 1199 (.aload_n 2) 1 0 0 0 0 := rfl
set_option maxRecDepth 20000 in
theorem f312_1200 : FF 312 1200 (.aload_n 0) 1 0 0 0 0 := rfl
set_option maxRecDepth 20000 in
theorem f312_1201 : FF 312 1201 (.iload 4) 2 0 0 0 0 := rfl
set_option maxRecDepth 20000 in
theorem f312_1203 : FF 312 1203 (.iconst 1) 1 0 0 0 0 := rfl
set_option maxRecDepth 20000 in
theorem f312_1204 : FF 312 1204 (.iadd) 1 0 0 0 0 := rfl
set_option maxRecDepth 20000 in
theorem f312_1205 : FF 312 1205 (.iaload) 1 0 0 0 0 := rfl
set_option maxRecDepth 20000 in
theorem f312_1206 : FF 312 1206 (.invokevirtual 198) 3 246 1 0 1771 := rfl
set_option maxRecDepth 20000 in
theorem f312_1209 : FF 312 1209 (.istore 6) 2 0 0 0 0 := rfl
set_option maxRecDepth 20000 in
theorem f312_1211 : FF 312 1211 (.aload_n 2) 1 0 0 0 0 := rfl
set_option maxRecDepth 20000 in
theorem f312_1212 : FF 312 1212 (.invokevirtual 158) 3 147 0 0 1411 := rfl
set_option maxRecDepth 20000 in
theorem f312_1215 : FF 312 1215 (.iload 5) 2 0 0 0 0 := rfl
set_option maxRecDepth 20000 in
theorem f312_1217 : FF 312 1217 (.if_icmp .eq 5) 3 0 0 0 0 := rfl
set_option maxRecDepth 20000 in
theorem f312_1220 : FF 312 1220 (.iconst 0) 1 0 0 0 0 := rfl
set_option maxRecDepth 20000 in
theorem f312_1221 : FF 312 1221 (.ireturn) 1 0 0 0 0 := rfl
set_option maxRecDepth 20000 in
theorem f312_1222 : FF 312 1222 (.iload 5) 2 0 0 0 0 := rfl
set_option maxRecDepth 20000 in
theorem f312_1224 : FF 312 1224 (.ifCond .ne 22) 3 0 0 0 0 := rfl
set_option maxRecDepth 20000 in
theorem f312_1227 : FF 312 1227 (.aload_n 3) 1 0 0 0 0 := rfl
set_option maxRecDepth 20000 in
theorem f312_1228 : FF 312 1228 (.iconst 0) 1 0 0 0 0 := rfl
set_option maxRecDepth 20000 in
theorem f312_1229 : FF 312 1229 (.laload) 1 0 0 0 0 := rfl
set_option maxRecDepth 20000 in
theorem f312_1230 : FF 312 1230 (.iload 6) 2 0 0 0 0 := rfl
set_option maxRecDepth 20000 in
theorem f312_1232 : FF 312 1232 (.ifCond .eq 7) 3 0 0 0 0 := rfl
set_option maxRecDepth 20000 in
theorem f312_1235 : FF 312 1235 (.lconst 1) 1 0 0 0 0 := rfl
set_option maxRecDepth 20000 in
theorem f312_1236 : FF 312 1236 (.goto 4) 3 0 0 0 0 := rfl
set_option maxRecDepth 20000 in
theorem f312_1239 : FF 312 1239 (.lconst 0) 1 0 0 0 0 := rfl
set_option maxRecDepth 20000 in
theorem f312_1240 : FF 312 1240 (.lcmp) 1 0 0 0 0 := rfl
set_option maxRecDepth 20000 in
theorem f312_1241 : FF 312 1241 (.ifCond .eq 5) 3 0 0 0 0 := rfl
set_option maxRecDepth 20000 in
theorem f312_1244 : FF 312 1244 (.iconst 0) 1 0 0 0 0 := rfl
set_option maxRecDepth 20000 in
theorem f312_1245 : FF 312 1245 (.ireturn) 1 0 0 0 0 := rfl
set_option maxRecDepth 20000 in
theorem f312_1246 : FF 312 1246 (.goto 1253) 3 0 0 0 0 := rfl
set_option maxRecDepth 20000 in
theorem f312_1249 : FF 312 1249 (.aload_n 1) 1 0 0 0 0 := rfl
set_option maxRecDepth 20000 in
theorem f312_1250 : FF 312 1250 (.aload_n 0) 1 0 0 0 0 := rfl
set_option maxRecDepth 20000 in
theorem f312_1251 : FF 312 1251 (.iload 4) 2 0 0 0 0 := rfl
set_option maxRecDepth 20000 in
theorem f312_1253 : FF 312 1253 (.iconst 1) 1 0 0 0 0 := rfl
set_option maxRecDepth 20000 in
theorem f312_1254 : FF 312 1254 (.iadd) 1 0 0 0 0 := rfl
set_option maxRecDepth 20000 in
theorem f312_1255 : FF 312 1255 (.iaload) 1 0 0 0 0 := rfl
set_option maxRecDepth 20000 in
theorem f312_1256 : FF 312 1256 (.aload_n 3) 1 0 0 0 0 := rfl
set_option maxRecDepth 20000 in
theorem f312_1257 : FF 312 1257 (.invokestatic 199) 3 297 3 1 1108 := rfl
set_option maxRecDepth 20000 in
theorem f312_1260 : FF 312 1260 (.istore 5) 2 0 0 0 0 := rfl
set_option maxRecDepth 20000 in
theorem f312_1262 : FF 312 1262 (.aload_n 2) 1 0 0 0 0 := rfl
set_option maxRecDepth 20000 in
theorem f312_1263 : FF 312 1263 (.aload_n 0) 1 0 0 0 0 := rfl
set_option maxRecDepth 20000 in
theorem f312_1264 : FF 312 1264 (.iload 4) 2 0 0 0 0 := rfl
set_option maxRecDepth 20000 in
theorem f312_1266 : FF 312 1266 (.iconst 1) 1 0 0 0 0 := rfl
set_option maxRecDepth 20000 in
theorem f312_1267 : FF 312 1267 (.iadd) 1 0 0 0 0 := rfl
set_option maxRecDepth 20000 in
theorem f312_1268 : FF 312 1268 (.iaload) 1 0 0 0 0 := rfl
set_option maxRecDepth 20000 in
theorem f312_1269 : FF 312 1269 (.invokevirtual 201) 3 247 1 0 1775 := rfl
set_option maxRecDepth 20000 in
theorem f312_1272 : FF 312 1272 (.istore 6) 2 0 0 0 0 := rfl
set_option maxRecDepth 20000 in
theorem f312_1274 : FF 312 1274 (.aload_n 2) 1 0 0 0 0 := rfl
set_option maxRecDepth 20000 in
theorem f312_1275 : FF 312 1275 (.invokevirtual 158) 3 147 0 0 1411 := rfl
set_option maxRecDepth 20000 in
theorem f312_1278 : FF 312 1278 (.iload 5) 2 0 0 0 0 := rfl
set_option maxRecDepth 20000 in
theorem f312_1280 : FF 312 1280 (.if_icmp .eq 5) 3 0 0 0 0 := rfl
set_option maxRecDepth 20000 in
theorem f312_1283 : FF 312 1283 (.iconst 0) 1 0 0 0 0 := rfl
set_option maxRecDepth 20000 in
theorem f312_1284 : FF 312 1284 (.ireturn) 1 0 0 0 0 := rfl
set_option maxRecDepth 20000 in
theorem f312_1285 : FF 312 1285 (.iload 5) 2 0 0 0 0 := rfl
set_option maxRecDepth 20000 in
theorem f312_1287 : FF 312 1287 (.ifCond .ne 15) 3 0 0 0 0 := rfl
set_option maxRecDepth 20000 in
theorem f312_1290 : FF 312 1290 (.aload_n 3) 1 0 0 0 0 := rfl
set_option maxRecDepth 20000 in
theorem f312_1291 : FF 312 1291 (.iconst 0) 1 0 0 0 0 := rfl
set_option maxRecDepth 20000 in
theorem f312_1292 : FF 312 1292 (.laload) 1 0 0 0 0 := rfl
set_option maxRecDepth 20000 in
theorem f312_1293 : FF 312 1293 (.iload 6) 2 0 0 0 0 := rfl
set_option maxRecDepth 20000 in
theorem f312_1295 : FF 312 1295 (.i2l) 1 0 0 0 0 := rfl
set_option maxRecDepth 20000 in
theorem f312_1296 : FF 312 1296 (.lcmp) 1 0 0 0 0 := rfl
set_option maxRecDepth 20000 in
theorem f312_1297 : FF 312 1297 (.ifCond .eq 5) 3 0 0 0 0 := rfl
set_option maxRecDepth 20000 in
theorem f312_1300 : FF 312 1300 (.iconst 0) 1 0 0 0 0 := rfl
set_option maxRecDepth 20000 in
theorem f312_1301 : FF 312 1301 (.ireturn) 1 0 0 0 0 := rfl
set_option maxRecDepth 20000 in
theorem f312_1302 : FF 312 1302 (.goto 1197) 3 0 0 0 0 := rfl
set_option maxRecDepth 20000 in
theorem f312_1305 : FF 312 1305 (.aload_n 1) 1 0 0 0 0 := rfl
set_option maxRecDepth 20000 in
theorem f312_1306 : FF 312 1306 (.aload_n 0) 1 0 0 0 0 := rfl
set_option maxRecDepth 20000 in
theorem f312_1307 : FF 312 1307 (.iload 4) 2 0 0 0 0 := rfl
set_option maxRecDepth 20000 in
theorem f312_1309 : FF 312 1309 (.iconst 1) 1 0 0 0 0 := rfl
set_option maxRecDepth 20000 in
theorem f312_1310 : FF 312 1310 (.iadd) 1 0 0 0 0 := rfl
set_option maxRecDepth 20000 in
theorem f312_1311 : FF 312 1311 (.iaload) 1 0 0 0 0 := rfl
set_option maxRecDepth 20000 in
theorem f312_1312 : FF 312 1312 (.aload_n 3) 1 0 0 0 0 := rfl
set_option maxRecDepth 20000 in
theorem f312_1313 : FF 312 1313 (.invokestatic 202) 3 298 3 1 1115 := rfl
set_option maxRecDepth 20000 in
theorem f312_1316 : FF 312 1316 (.istore 5) 2 0 0 0 0 := rfl
set_option maxRecDepth 20000 in
theorem f312_1318 : FF 312 1318 (.aload_n 2) 1 0 0 0 0 := rfl
set_option maxRecDepth 20000 in
theorem f312_1319 : FF 312 1319 (.aload_n 0) 1 0 0 0 0 := rfl
set_option maxRecDepth 20000 in
theorem f312_1320 : FF 312 1320 (.iload 4) 2 0 0 0 0 := rfl
set_option maxRecDepth 20000 in
theorem f312_1322 : FF 312 1322 (.iconst 1) 1 0 0 0 0 := rfl
set_option maxRecDepth 20000 in
theorem f312_1323 : FF 312 1323 (.iadd) 1 0 0 0 0 := rfl
set_option maxRecDepth 20000 in
theorem f312_1324 : FF 312 1324 (.iaload) 1 0 0 0 0 := rfl
set_option maxRecDepth 20000 in
theorem f312_1325 : FF 312 1325 (.invokevirtual 204) 3 248 1 0 1779 := rfl
set_option maxRecDepth 20000 in
theorem f312_1328 : FF 312 1328 (.istore 6) 2 0 0 0 0 := rfl
set_option maxRecDepth 20000 in
theorem f312_1330 : FF 312 1330 (.aload_n 2) 1 0 0 0 0 := rfl
set_option maxRecDepth 20000 in
theorem f312_1331 : FF 312 1331 (.invokevirtual 158) 3 147 0 0 1411 := rfl
set_option maxRecDepth 20000 in
theorem f312_1334 : FF 312 1334 (.iload 5) 2 0 0 0 0 := rfl
set_option maxRecDepth 20000 in
theorem f312_1336 : FF 312 1336 (.if_icmp .eq 5) 3 0 0 0 0 := rfl
set_option maxRecDepth 20000 in
theorem f312_1339 : FF 312 1339 (.iconst 0) 1 0 0 0 0 := rfl
set_option maxRecDepth 20000 in
theorem f312_1340 : FF 312 1340 (.ireturn) 1 0 0 0 0 := rfl
set_option maxRecDepth 20000 in
theorem f312_1341 : FF 312 1341 (.iload 5) 2 0 0 0 0 := rfl
set_option maxRecDepth 20000 in
theorem f312_1343 : FF 312 1343 (.ifCond .ne 15) 3 0 0 0 0 := rfl
set_option maxRecDepth 20000 in
theorem f312_1346 : FF 312 1346 (.aload_n 3) 1 0 0 0 0 := rfl
set_option maxRecDepth 20000 in
theorem f312_1347 : FF 312 1347 (.iconst 0) 1 0 0 0 0 := rfl
set_option maxRecDepth 20000 in
theorem f312_1348 : FF 312 1348 (.laload) 1 0 0 0 0 := rfl
set_option maxRecDepth 20000 in
theorem f312_1349 : FF 312 1349 (.iload 6) 2 0 0 0 0 := rfl
set_option maxRecDepth 20000 in
theorem f312_1351 : FF 312 1351 (.i2l) 1 0 0 0 0 := rfl
set_option maxRecDepth 20000 in
theorem f312_1352 : FF 312 1352 (.lcmp) 1 0 0 0 0 := rfl
