theorem d_L_law_818 : decode code 818 = .ok (.invokevirtual 100, 3) := by decide +kernel
theorem d_L_law_821 : decode code 821 = .ok (.iload 5, 2) := by decide +kernel
theorem d_L_law_823 : decode code 823 = .ok (.if_icmp .eq 5, 3) := by decide +kernel
theorem d_L_law_826 : decode code 826 = .ok (.iconst 0, 1) := by decide +kernel
theorem d_L_law_827 : decode code 827 = .ok (.ireturn, 1) := by decide +kernel
theorem d_L_law_828 : decode code 828 = .ok (.iload 5, 2) := by decide +kernel
theorem d_L_law_830 : decode code 830 = .ok (.ifCond .ne 15, 3) := by decide +kernel
theorem d_L_law_833 : decode code 833 = .ok (.aload_n 3, 1) := by decide +kernel
theorem d_L_law_834 : decode code 834 = .ok (.iconst 0, 1) := by decide +kernel
theorem d_L_law_835 : decode code 835 = .ok (.laload, 1) := by decide +kernel
theorem d_L_law_836 : decode code 836 = .ok (.iload 6, 2) := by decide +kernel
theorem d_L_law_838 : decode code 838 = .ok (.i2l, 1) := by decide +kernel
theorem d_L_law_839 : decode code 839 = .ok (.lcmp, 1) := by decide +kernel
theorem d_L_law_840 : decode code 840 = .ok (.ifCond .eq 5, 3) := by decide +kernel
theorem d_L_law_843 : decode code 843 = .ok (.iconst 0, 1) := by decide +kernel
theorem d_L_law_844 : decode code 844 = .ok (.ireturn, 1) := by decide +kernel
theorem d_L_law_845 : decode code 845 = .ok (.goto 666, 3) := by decide +kernel
theorem d_L_law_848 : decode code 848 = .ok (.aload_n 1, 1) := by decide +kernel
theorem d_L_law_849 : decode code 849 = .ok (.aload_n 0, 1) := by decide +kernel
theorem d_L_law_850 : decode code 850 = .ok (.iload 4, 2) := by decide +kernel
theorem d_L_law_852 : decode code 852 = .ok (.iconst 1, 1) := by decide +kernel
theorem d_L_law_853 : decode code 853 = .ok (.iadd, 1) := by decide +kernel
theorem d_L_law_854 : decode code 854 = .ok (.iaload, 1) := by decide +kernel
theorem d_L_law_855 : decode code 855 = .ok (.aload_n 0, 1) := by decide +kernel
theorem d_L_law_856 : decode code 856 = .ok (.iload 4, 2) := by decide +kernel
theorem d_L_law_858 : decode code 858 = .ok (.iconst 2, 1) := by decide +kernel
theorem d_L_law_859 : decode code 859 = .ok (.iadd, 1) := by decide +kernel
theorem d_L_law_860 : decode code 860 = .ok (.iaload, 1) := by decide +kernel
theorem d_L_law_861 : decode code 861 = .ok (.aload_n 0, 1) := by decide +kernel
theorem d_L_law_862 : decode code 862 = .ok (.iload 4, 2) := by decide +kernel
theorem d_L_law_864 : decode code 864 = .ok (.iconst 3, 1) := by decide +kernel
theorem d_L_law_865 : decode code 865 = .ok (.iadd, 1) := by decide +kernel
theorem d_L_law_866 : decode code 866 = .ok (.iaload, 1) := by decide +kernel
theorem d_L_law_867 : decode code 867 = .ok (.invokestatic 138, 3) := by decide +kernel
theorem d_L_law_870 : decode code 870 = .ok (.istore 5, 2) := by decide +kernel
theorem d_L_law_872 : decode code 872 = .ok (.aload_n 2, 1) := by decide +kernel
theorem d_L_law_873 : decode code 873 = .ok (.aload_n 0, 1) := by decide +kernel
theorem d_L_law_874 : decode code 874 = .ok (.iload 4, 2) := by decide +kernel
theorem d_L_law_876 : decode code 876 = .ok (.iconst 1, 1) := by decide +kernel
theorem d_L_law_877 : decode code 877 = .ok (.iadd, 1) := by decide +kernel
theorem d_L_law_878 : decode code 878 = .ok (.iaload, 1) := by decide +kernel
theorem d_L_law_879 : decode code 879 = .ok (.aload_n 0, 1) := by decide +kernel
theorem d_L_law_880 : decode code 880 = .ok (.iload 4, 2) := by decide +kernel
theorem d_L_law_882 : decode code 882 = .ok (.iconst 2, 1) := by decide +kernel
theorem d_L_law_883 : decode code 883 = .ok (.iadd, 1) := by decide +kernel
theorem d_L_law_884 : decode code 884 = .ok (.iaload, 1) := by decide +kernel
theorem d_L_law_885 : decode code 885 = .ok (.aload_n 0, 1) := by decide +kernel
theorem d_L_law_886 : decode code 886 = .ok (.iload 4, 2) := by decide +kernel
theorem d_L_law_888 : decode code 888 = .ok (.iconst 3, 1) := by decide +kernel
theorem d_L_law_889 : decode code 889 = .ok (.iadd, 1) := by decide +kernel
theorem d_L_law_890 : decode code 890 = .ok (.iaload, 1) := by decide +kernel
theorem d_L_law_891 : decode code 891 = .ok (.invokevirtual 140, 3) := by decide +kernel
theorem d_L_law_894 : decode code 894 = .ok (.aload_n 2, 1) := by decide +kernel
theorem d_L_law_895 : decode code 895 = .ok (.invokevirtual 100, 3) := by decide +kernel
theorem d_L_law_898 : decode code 898 = .ok (.iload 5, 2) := by decide +kernel
theorem d_L_law_900 : decode code 900 = .ok (.if_icmp .eq 5, 3) := by decide +kernel
theorem d_L_law_903 : decode code 903 = .ok (.iconst 0, 1) := by decide +kernel
theorem d_L_law_904 : decode code 904 = .ok (.ireturn, 1) := by decide +kernel
theorem d_L_law_905 : decode code 905 = .ok (.goto 606, 3) := by decide +kernel
theorem d_L_law_908 : decode code 908 = .ok (.aload_n 1, 1) := by decide +kernel
theorem d_L_law_909 : decode code 909 = .ok (.aload_n 0, 1) := by decide +kernel
theorem d_L_law_910 : decode code 910 = .ok (.iload 4, 2) := by decide +kernel
theorem d_L_law_912 : decode code 912 = .ok (.iconst 1, 1) := by decide +kernel
theorem d_L_law_913 : decode code 913 = .ok (.iadd, 1) := by decide +kernel
theorem d_L_law_914 : decode code 914 = .ok (.iaload, 1) := by decide +kernel
theorem d_L_law_915 : decode code 915 = .ok (.aload_n 3, 1) := by decide +kernel
theorem d_L_law_916 : decode code 916 = .ok (.invokestatic 141, 3) := by decide +kernel
theorem d_L_law_919 : decode code 919 = .ok (.istore 5, 2) := by decide +kernel
theorem d_L_law_921 : decode code 921 = .ok (.aload_n 2, 1) := by decide +kernel
theorem d_L_law_922 : decode code 922 = .ok (.aload_n 0, 1) := by decide +kernel
theorem d_L_law_923 : decode code 923 = .ok (.iload 4, 2) := by decide +kernel
theorem d_L_law_925 : decode code 925 = .ok (.iconst 1, 1) := by decide +kernel
theorem d_L_law_926 : decode code 926 = .ok (.iadd, 1) := by decide +kernel
theorem d_L_law_927 : decode code 927 = .ok (.iaload, 1) := by decide +kernel
theorem d_L_law_928 : decode code 928 = .ok (.invokevirtual 143, 3) := by decide +kernel
theorem d_L_law_931 : decode code 931 = .ok (.istore 6, 2) := by decide +kernel
theorem d_L_law_933 : decode code 933 = .ok (.aload_n 2, 1) := by decide +kernel
theorem d_L_law_934 : decode code 934 = .ok (.invokevirtual 100, 3) := by decide +kernel
theorem d_L_law_937 : decode code 937 = .ok (.iload 5, 2) := by decide +kernel
theorem d_L_law_939 : decode code 939 = .ok (.if_icmp .eq 5, 3) := by decide +kernel
theorem d_L_law_942 : decode code 942 = .ok (.iconst 0, 1) := by decide +kernel
theorem d_L_law_943 : decode code 943 = .ok (.ireturn, 1) := by decide +kernel
theorem d_L_law_944 : decode code 944 = .ok (.iload 5, 2) := by decide +kernel
theorem d_L_law_946 : decode code 946 = .ok (.ifCond .ne 15, 3) := by decide +kernel
theorem d_L_law_949 : decode code 949 = .ok (.aload_n 3, 1) := by decide +kernel
theorem d_L_law_950 : decode code 950 = .ok (.iconst 0, 1) := by decide +kernel
theorem d_L_law_951 : decode code 951 = .ok (.laload, 1) := by decide +kernel
theorem d_L_law_952 : decode code 952 = .ok (.iload 6, 2) := by decide +kernel
theorem d_L_law_954 : decode code 954 = .ok (.i2l, 1) := by decide +kernel
theorem d_L_law_955 : decode code 955 = .ok (.lcmp, 1) := by decide +kernel
theorem d_L_law_956 : decode code 956 = .ok (.ifCond .eq 5, 3) := by decide +kernel
theorem d_L_law_959 : decode code 959 = .ok (.iconst 0, 1) := by decide +kernel
theorem d_L_law_960 : decode code 960 = .ok (.ireturn, 1) := by decide +kernel
theorem d_L_law_961 : decode code 961 = .ok (.goto 550, 3) := by decide +kernel
theorem d_L_law_964 : decode code 964 = .ok (.aload_n 1, 1) := by decide +kernel
theorem d_L_law_965 : decode code 965 = .ok (.aload_n 0, 1) := by decide +kernel
theorem d_L_law_966 : decode code 966 = .ok (.iload 4, 2) := by decide +kernel
theorem d_L_law_968 : decode code 968 = .ok (.iconst 1, 1) := by decide +kernel
theorem d_L_law_969 : decode code 969 = .ok (.iadd, 1) := by decide +kernel
theorem d_L_law_970 : decode code 970 = .ok (.iaload, 1) := by decide +kernel
theorem d_L_law_971 : decode code 971 = .ok (.aload_n 0, 1) := by decide +kernel
theorem d_L_law_972 : decode code 972 = .ok (.iload 4, 2) := by decide +kernel
theorem d_L_law_974 : decode code 974 = .ok (.iconst 2, 1) := by decide +kernel
theorem d_L_law_975 : decode code 975 = .ok (.iadd, 1) := by decide +kernel
theorem d_L_law_976 : decode code 976 = .ok (.iaload, 1) := by decide +kernel
theorem d_L_law_977 : decode code 977 = .ok (.aload_n 0, 1) := by decide +kernel
theorem d_L_law_978 : decode code 978 = .ok (.iload 4, 2) := by decide +kernel
theorem d_L_law_980 : decode code 980 = .ok (.iconst 3, 1) := by decide +kernel
theorem d_L_law_981 : decode code 981 = .ok (.iadd, 1) := by decide +kernel
theorem d_L_law_982 : decode code 982 = .ok (.iaload, 1) := by decide +kernel
theorem d_L_law_983 : decode code 983 = .ok (.aload_n 3, 1) := by decide +kernel
theorem d_L_law_984 : decode code 984 = .ok (.invokestatic 144, 3) := by decide +kernel
theorem d_L_law_987 : decode code 987 = .ok (.istore 5, 2) := by decide +kernel
theorem d_L_law_989 : decode code 989 = .ok (.aload_n 2, 1) := by decide +kernel
theorem d_L_law_990 : decode code 990 = .ok (.aload_n 0, 1) := by decide +kernel
theorem d_L_law_991 : decode code 991 = .ok (.iload 4, 2) := by decide +kernel
theorem d_L_law_993 : decode code 993 = .ok (.iconst 1, 1) := by decide +kernel
theorem d_L_law_994 : decode code 994 = .ok (.iadd, 1) := by decide +kernel
theorem d_L_law_995 : decode code 995 = .ok (.iaload, 1) := by decide +kernel
theorem d_L_law_996 : decode code 996 = .ok (.aload_n 0, 1) := by decide +kernel
theorem d_L_law_997 : decode code 997 = .ok (.iload 4, 2) := by decide +kernel
theorem d_L_law_999 : decode code 999 = .ok (.iconst 2, 1) := by decide +kernel
theorem d_L_law_1000 : decode code 1000 = .ok (.iadd, 1) := by decide +kernel
theorem d_L_law_1001 : decode code 1001 = .ok (.iaload, 1) := by decide +kernel
theorem d_L_law_1002 : decode code 1002 = .ok (.aload_n 0, 1) := by decide +kernel
theorem d_L_law_1003 : decode code 1003 = .ok (.iload 4, 2) := by decide +kernel
theorem d_L_law_1005 : decode code 1005 = .ok (.iconst 3, 1) := by decide +kernel
theorem d_L_law_1006 : decode code 1006 = .ok (.iadd, 1) := by decide +kernel
theorem d_L_law_1007 : decode code 1007 = .ok (.iaload, 1) := by decide +kernel
theorem d_L_law_1008 : decode code 1008 = .ok (.invokevirtual 146, 3) := by decide +kernel
theorem d_L_law_1011 : decode code 1011 = .ok (.lstore 6, 2) := by decide +kernel
theorem d_L_law_1013 : decode code 1013 = .ok (.aload_n 2, 1) := by decide +kernel
theorem d_L_law_1014 : decode code 1014 = .ok (.invokevirtual 100, 3) := by decide +kernel
theorem d_L_law_1017 : decode code 1017 = .ok (.iload 5, 2) := by decide +kernel
theorem d_L_law_1019 : decode code 1019 = .ok (.if_icmp .eq 5, 3) := by decide +kernel
theorem d_L_law_1022 : decode code 1022 = .ok (.iconst 0, 1) := by decide +kernel
theorem d_L_law_1023 : decode code 1023 = .ok (.ireturn, 1) := by decide +kernel
theorem d_L_law_1024 : decode code 1024 = .ok (.iload 5, 2) := by decide +kernel
theorem d_L_law_1026 : decode code 1026 = .ok (.ifCond .ne 14, 3) := by decide +kernel
theorem d_L_law_1029 : decode code 1029 = .ok (.aload_n 3, 1) := by decide +kernel
theorem d_L_law_1030 : decode code 1030 = .ok (.iconst 0, 1) := by decide +kernel
theorem d_L_law_1031 : decode code 1031 = .ok (.laload, 1) := by decide +kernel
theorem d_L_law_1032 : decode code 1032 = .ok (.lload 6, 2) := by decide +kernel
theorem d_L_law_1034 : decode code 1034 = .ok (.lcmp, 1) := by decide +kernel
theorem d_L_law_1035 : decode code 1035 = .ok (.ifCond .eq 5, 3) := by decide +kernel
theorem d_L_law_1038 : decode code 1038 = .ok (.iconst 0, 1) := by decide +kernel
theorem d_L_law_1039 : decode code 1039 = .ok (.ireturn, 1) := by decide +kernel
theorem d_L_law_1040 : decode code 1040 = .ok (.goto 471, 3) := by decide +kernel
theorem d_L_law_1043 : decode code 1043 = .ok (.aload_n 1, 1) := by decide +kernel
theorem d_L_law_1044 : decode code 1044 = .ok (.aload_n 0, 1) := by decide +kernel
theorem d_L_law_1045 : decode code 1045 = .ok (.iload 4, 2) := by decide +kernel
theorem d_L_law_1047 : decode code 1047 = .ok (.iconst 1, 1) := by decide +kernel
theorem d_L_law_1048 : decode code 1048 = .ok (.iadd, 1) := by decide +kernel
theorem d_L_law_1049 : decode code 1049 = .ok (.iaload, 1) := by decide +kernel
theorem d_L_law_1050 : decode code 1050 = .ok (.aload_n 0, 1) := by decide +kernel
theorem d_L_law_1051 : decode code 1051 = .ok (.iload 4, 2) := by decide +kernel
theorem d_L_law_1053 : decode code 1053 = .ok (.iconst 2, 1) := by decide +kernel
theorem d_L_law_1054 : decode code 1054 = .ok (.iadd, 1) := by decide +kernel
theorem d_L_law_1055 : decode code 1055 = .ok (.iaload, 1) := by decide +kernel
theorem d_L_law_1056 : decode code 1056 = .ok (.aload_n 3, 1) := by decide +kernel
