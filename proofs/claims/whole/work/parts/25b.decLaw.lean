theorem d_law_732 : decode code 732 = .ok (.invokevirtual 96, 3) := by decide +kernel
theorem d_law_735 : decode code 735 = .ok (.if_icmp .eq 638, 3) := by decide +kernel
theorem d_law_738 : decode code 738 = .ok (.iconst 0, 1) := by decide +kernel
theorem d_law_739 : decode code 739 = .ok (.ireturn, 1) := by decide +kernel
theorem d_law_740 : decode code 740 = .ok (.aload_n 1, 1) := by decide +kernel
theorem d_law_741 : decode code 741 = .ok (.aload_n 0, 1) := by decide +kernel
theorem d_law_742 : decode code 742 = .ok (.iload 4, 2) := by decide +kernel
theorem d_law_744 : decode code 744 = .ok (.iconst 1, 1) := by decide +kernel
theorem d_law_745 : decode code 745 = .ok (.iadd, 1) := by decide +kernel
theorem d_law_746 : decode code 746 = .ok (.iaload, 1) := by decide +kernel
theorem d_law_747 : decode code 747 = .ok (.aload_n 0, 1) := by decide +kernel
theorem d_law_748 : decode code 748 = .ok (.iload 4, 2) := by decide +kernel
theorem d_law_750 : decode code 750 = .ok (.iconst 2, 1) := by decide +kernel
theorem d_law_751 : decode code 751 = .ok (.iadd, 1) := by decide +kernel
theorem d_law_752 : decode code 752 = .ok (.iaload, 1) := by decide +kernel
theorem d_law_753 : decode code 753 = .ok (.ifCond .eq 7, 3) := by decide +kernel
theorem d_law_756 : decode code 756 = .ok (.iconst 1, 1) := by decide +kernel
theorem d_law_757 : decode code 757 = .ok (.goto 4, 3) := by decide +kernel
theorem d_law_760 : decode code 760 = .ok (.iconst 0, 1) := by decide +kernel
theorem d_law_761 : decode code 761 = .ok (.invokestatic 97, 3) := by decide +kernel
theorem d_law_764 : decode code 764 = .ok (.istore 5, 2) := by decide +kernel
theorem d_law_766 : decode code 766 = .ok (.aload_n 2, 1) := by decide +kernel
theorem d_law_767 : decode code 767 = .ok (.aload_n 0, 1) := by decide +kernel
theorem d_law_768 : decode code 768 = .ok (.iload 4, 2) := by decide +kernel
theorem d_law_770 : decode code 770 = .ok (.iconst 1, 1) := by decide +kernel
theorem d_law_771 : decode code 771 = .ok (.iadd, 1) := by decide +kernel
theorem d_law_772 : decode code 772 = .ok (.iaload, 1) := by decide +kernel
theorem d_law_773 : decode code 773 = .ok (.aload_n 0, 1) := by decide +kernel
theorem d_law_774 : decode code 774 = .ok (.iload 4, 2) := by decide +kernel
theorem d_law_776 : decode code 776 = .ok (.iconst 2, 1) := by decide +kernel
theorem d_law_777 : decode code 777 = .ok (.iadd, 1) := by decide +kernel
theorem d_law_778 : decode code 778 = .ok (.iaload, 1) := by decide +kernel
theorem d_law_779 : decode code 779 = .ok (.ifCond .eq 7, 3) := by decide +kernel
theorem d_law_782 : decode code 782 = .ok (.iconst 1, 1) := by decide +kernel
theorem d_law_783 : decode code 783 = .ok (.goto 4, 3) := by decide +kernel
theorem d_law_786 : decode code 786 = .ok (.iconst 0, 1) := by decide +kernel
theorem d_law_787 : decode code 787 = .ok (.invokevirtual 100, 3) := by decide +kernel
theorem d_law_790 : decode code 790 = .ok (.aload_n 2, 1) := by decide +kernel
theorem d_law_791 : decode code 791 = .ok (.invokevirtual 71, 3) := by decide +kernel
theorem d_law_794 : decode code 794 = .ok (.iload 5, 2) := by decide +kernel
theorem d_law_796 : decode code 796 = .ok (.if_icmp .eq 5, 3) := by decide +kernel
theorem d_law_799 : decode code 799 = .ok (.iconst 0, 1) := by decide +kernel
theorem d_law_800 : decode code 800 = .ok (.ireturn, 1) := by decide +kernel
theorem d_law_801 : decode code 801 = .ok (.goto 572, 3) := by decide +kernel
theorem d_law_804 : decode code 804 = .ok (.aload_n 1, 1) := by decide +kernel
theorem d_law_805 : decode code 805 = .ok (.aload_n 0, 1) := by decide +kernel
theorem d_law_806 : decode code 806 = .ok (.iload 4, 2) := by decide +kernel
theorem d_law_808 : decode code 808 = .ok (.iconst 1, 1) := by decide +kernel
theorem d_law_809 : decode code 809 = .ok (.iadd, 1) := by decide +kernel
theorem d_law_810 : decode code 810 = .ok (.iaload, 1) := by decide +kernel
theorem d_law_811 : decode code 811 = .ok (.aload_n 0, 1) := by decide +kernel
theorem d_law_812 : decode code 812 = .ok (.iload 4, 2) := by decide +kernel
theorem d_law_814 : decode code 814 = .ok (.iconst 2, 1) := by decide +kernel
theorem d_law_815 : decode code 815 = .ok (.iadd, 1) := by decide +kernel
theorem d_law_816 : decode code 816 = .ok (.iaload, 1) := by decide +kernel
theorem d_law_817 : decode code 817 = .ok (.aload_n 0, 1) := by decide +kernel
theorem d_law_818 : decode code 818 = .ok (.iload 4, 2) := by decide +kernel
theorem d_law_820 : decode code 820 = .ok (.iconst 3, 1) := by decide +kernel
theorem d_law_821 : decode code 821 = .ok (.iadd, 1) := by decide +kernel
theorem d_law_822 : decode code 822 = .ok (.iaload, 1) := by decide +kernel
theorem d_law_823 : decode code 823 = .ok (.invokevirtual 101, 3) := by decide +kernel
theorem d_law_826 : decode code 826 = .ok (.aload_n 2, 1) := by decide +kernel
theorem d_law_827 : decode code 827 = .ok (.aload_n 0, 1) := by decide +kernel
theorem d_law_828 : decode code 828 = .ok (.iload 4, 2) := by decide +kernel
theorem d_law_830 : decode code 830 = .ok (.iconst 1, 1) := by decide +kernel
theorem d_law_831 : decode code 831 = .ok (.iadd, 1) := by decide +kernel
theorem d_law_832 : decode code 832 = .ok (.iaload, 1) := by decide +kernel
theorem d_law_833 : decode code 833 = .ok (.aload_n 0, 1) := by decide +kernel
theorem d_law_834 : decode code 834 = .ok (.iload 4, 2) := by decide +kernel
theorem d_law_836 : decode code 836 = .ok (.iconst 2, 1) := by decide +kernel
theorem d_law_837 : decode code 837 = .ok (.iadd, 1) := by decide +kernel
theorem d_law_838 : decode code 838 = .ok (.iaload, 1) := by decide +kernel
theorem d_law_839 : decode code 839 = .ok (.aload_n 0, 1) := by decide +kernel
theorem d_law_840 : decode code 840 = .ok (.iload 4, 2) := by decide +kernel
theorem d_law_842 : decode code 842 = .ok (.iconst 3, 1) := by decide +kernel
theorem d_law_843 : decode code 843 = .ok (.iadd, 1) := by decide +kernel
theorem d_law_844 : decode code 844 = .ok (.iaload, 1) := by decide +kernel
theorem d_law_845 : decode code 845 = .ok (.invokevirtual 105, 3) := by decide +kernel
theorem d_law_848 : decode code 848 = .ok (.if_icmp .eq 525, 3) := by decide +kernel
theorem d_law_851 : decode code 851 = .ok (.iconst 0, 1) := by decide +kernel
theorem d_law_852 : decode code 852 = .ok (.ireturn, 1) := by decide +kernel
theorem d_law_853 : decode code 853 = .ok (.aload_n 1, 1) := by decide +kernel
theorem d_law_854 : decode code 854 = .ok (.aload_n 0, 1) := by decide +kernel
theorem d_law_855 : decode code 855 = .ok (.iload 4, 2) := by decide +kernel
theorem d_law_857 : decode code 857 = .ok (.iconst 1, 1) := by decide +kernel
theorem d_law_858 : decode code 858 = .ok (.iadd, 1) := by decide +kernel
theorem d_law_859 : decode code 859 = .ok (.iaload, 1) := by decide +kernel
theorem d_law_860 : decode code 860 = .ok (.aload_n 0, 1) := by decide +kernel
theorem d_law_861 : decode code 861 = .ok (.iload 4, 2) := by decide +kernel
theorem d_law_863 : decode code 863 = .ok (.iconst 2, 1) := by decide +kernel
theorem d_law_864 : decode code 864 = .ok (.iadd, 1) := by decide +kernel
theorem d_law_865 : decode code 865 = .ok (.iaload, 1) := by decide +kernel
theorem d_law_866 : decode code 866 = .ok (.aload_n 3, 1) := by decide +kernel
theorem d_law_867 : decode code 867 = .ok (.invokestatic 106, 3) := by decide +kernel
theorem d_law_870 : decode code 870 = .ok (.istore 5, 2) := by decide +kernel
theorem d_law_872 : decode code 872 = .ok (.aload_n 2, 1) := by decide +kernel
theorem d_law_873 : decode code 873 = .ok (.aload_n 0, 1) := by decide +kernel
theorem d_law_874 : decode code 874 = .ok (.iload 4, 2) := by decide +kernel
theorem d_law_876 : decode code 876 = .ok (.iconst 1, 1) := by decide +kernel
theorem d_law_877 : decode code 877 = .ok (.iadd, 1) := by decide +kernel
theorem d_law_878 : decode code 878 = .ok (.iaload, 1) := by decide +kernel
theorem d_law_879 : decode code 879 = .ok (.aload_n 0, 1) := by decide +kernel
theorem d_law_880 : decode code 880 = .ok (.iload 4, 2) := by decide +kernel
theorem d_law_882 : decode code 882 = .ok (.iconst 2, 1) := by decide +kernel
theorem d_law_883 : decode code 883 = .ok (.iadd, 1) := by decide +kernel
theorem d_law_884 : decode code 884 = .ok (.iaload, 1) := by decide +kernel
theorem d_law_885 : decode code 885 = .ok (.invokevirtual 109, 3) := by decide +kernel
theorem d_law_888 : decode code 888 = .ok (.istore 6, 2) := by decide +kernel
theorem d_law_890 : decode code 890 = .ok (.aload_n 2, 1) := by decide +kernel
theorem d_law_891 : decode code 891 = .ok (.invokevirtual 71, 3) := by decide +kernel
theorem d_law_894 : decode code 894 = .ok (.iload 5, 2) := by decide +kernel
theorem d_law_896 : decode code 896 = .ok (.if_icmp .eq 5, 3) := by decide +kernel
theorem d_law_899 : decode code 899 = .ok (.iconst 0, 1) := by decide +kernel
theorem d_law_900 : decode code 900 = .ok (.ireturn, 1) := by decide +kernel
theorem d_law_901 : decode code 901 = .ok (.iload 5, 2) := by decide +kernel
theorem d_law_903 : decode code 903 = .ok (.ifCond .ne 15, 3) := by decide +kernel
theorem d_law_906 : decode code 906 = .ok (.aload_n 3, 1) := by decide +kernel
theorem d_law_907 : decode code 907 = .ok (.iconst 0, 1) := by decide +kernel
theorem d_law_908 : decode code 908 = .ok (.laload, 1) := by decide +kernel
theorem d_law_909 : decode code 909 = .ok (.iload 6, 2) := by decide +kernel
theorem d_law_911 : decode code 911 = .ok (.i2l, 1) := by decide +kernel
theorem d_law_912 : decode code 912 = .ok (.lcmp, 1) := by decide +kernel
theorem d_law_913 : decode code 913 = .ok (.ifCond .eq 5, 3) := by decide +kernel
theorem d_law_916 : decode code 916 = .ok (.iconst 0, 1) := by decide +kernel
theorem d_law_917 : decode code 917 = .ok (.ireturn, 1) := by decide +kernel
theorem d_law_918 : decode code 918 = .ok (.goto 455, 3) := by decide +kernel
theorem d_law_921 : decode code 921 = .ok (.aload_n 1, 1) := by decide +kernel
theorem d_law_922 : decode code 922 = .ok (.aload_n 0, 1) := by decide +kernel
theorem d_law_923 : decode code 923 = .ok (.iload 4, 2) := by decide +kernel
theorem d_law_925 : decode code 925 = .ok (.iconst 1, 1) := by decide +kernel
theorem d_law_926 : decode code 926 = .ok (.iadd, 1) := by decide +kernel
theorem d_law_927 : decode code 927 = .ok (.iaload, 1) := by decide +kernel
theorem d_law_928 : decode code 928 = .ok (.aload_n 0, 1) := by decide +kernel
theorem d_law_929 : decode code 929 = .ok (.iload 4, 2) := by decide +kernel
theorem d_law_931 : decode code 931 = .ok (.iconst 2, 1) := by decide +kernel
theorem d_law_932 : decode code 932 = .ok (.iadd, 1) := by decide +kernel
theorem d_law_933 : decode code 933 = .ok (.iaload, 1) := by decide +kernel
theorem d_law_934 : decode code 934 = .ok (.aload_n 0, 1) := by decide +kernel
theorem d_law_935 : decode code 935 = .ok (.iload 4, 2) := by decide +kernel
theorem d_law_937 : decode code 937 = .ok (.iconst 3, 1) := by decide +kernel
theorem d_law_938 : decode code 938 = .ok (.iadd, 1) := by decide +kernel
theorem d_law_939 : decode code 939 = .ok (.iaload, 1) := by decide +kernel
theorem d_law_940 : decode code 940 = .ok (.invokestatic 110, 3) := by decide +kernel
theorem d_law_943 : decode code 943 = .ok (.istore 5, 2) := by decide +kernel
theorem d_law_945 : decode code 945 = .ok (.aload_n 2, 1) := by decide +kernel
theorem d_law_946 : decode code 946 = .ok (.aload_n 0, 1) := by decide +kernel
theorem d_law_947 : decode code 947 = .ok (.iload 4, 2) := by decide +kernel
theorem d_law_949 : decode code 949 = .ok (.iconst 1, 1) := by decide +kernel
theorem d_law_950 : decode code 950 = .ok (.iadd, 1) := by decide +kernel
theorem d_law_951 : decode code 951 = .ok (.iaload, 1) := by decide +kernel
theorem d_law_952 : decode code 952 = .ok (.aload_n 0, 1) := by decide +kernel
theorem d_law_953 : decode code 953 = .ok (.iload 4, 2) := by decide +kernel
theorem d_law_955 : decode code 955 = .ok (.iconst 2, 1) := by decide +kernel
theorem d_law_956 : decode code 956 = .ok (.iadd, 1) := by decide +kernel
theorem d_law_957 : decode code 957 = .ok (.iaload, 1) := by decide +kernel
theorem d_law_958 : decode code 958 = .ok (.aload_n 0, 1) := by decide +kernel
theorem d_law_959 : decode code 959 = .ok (.iload 4, 2) := by decide +kernel
theorem d_law_961 : decode code 961 = .ok (.iconst 3, 1) := by decide +kernel
theorem d_law_962 : decode code 962 = .ok (.iadd, 1) := by decide +kernel
theorem d_law_963 : decode code 963 = .ok (.iaload, 1) := by decide +kernel
theorem d_law_964 : decode code 964 = .ok (.invokevirtual 113, 3) := by decide +kernel
theorem d_law_967 : decode code 967 = .ok (.aload_n 2, 1) := by decide +kernel
theorem d_law_968 : decode code 968 = .ok (.invokevirtual 71, 3) := by decide +kernel
theorem d_law_971 : decode code 971 = .ok (.iload 5, 2) := by decide +kernel
theorem d_law_973 : decode code 973 = .ok (.if_icmp .eq 5, 3) := by decide +kernel
theorem d_law_976 : decode code 976 = .ok (.iconst 0, 1) := by decide +kernel
theorem d_law_977 : decode code 977 = .ok (.ireturn, 1) := by decide +kernel
theorem d_law_978 : decode code 978 = .ok (.goto 395, 3) := by decide +kernel
theorem d_law_981 : decode code 981 = .ok (.aload_n 1, 1) := by decide +kernel
theorem d_law_982 : decode code 982 = .ok (.aload_n 0, 1) := by decide +kernel
theorem d_law_983 : decode code 983 = .ok (.iload 4, 2) := by decide +kernel
theorem d_law_985 : decode code 985 = .ok (.iconst 1, 1) := by decide +kernel
theorem d_law_986 : decode code 986 = .ok (.iadd, 1) := by decide +kernel
theorem d_law_987 : decode code 987 = .ok (.iaload, 1) := by decide +kernel
theorem d_law_988 : decode code 988 = .ok (.aload_n 0, 1) := by decide +kernel
theorem d_law_989 : decode code 989 = .ok (.iload 4, 2) := by decide +kernel
theorem d_law_991 : decode code 991 = .ok (.iconst 2, 1) := by decide +kernel
theorem d_law_992 : decode code 992 = .ok (.iadd, 1) := by decide +kernel
theorem d_law_993 : decode code 993 = .ok (.iaload, 1) := by decide +kernel
theorem d_law_994 : decode code 994 = .ok (.aload_n 0, 1) := by decide +kernel
theorem d_law_995 : decode code 995 = .ok (.iload 4, 2) := by decide +kernel
theorem d_law_997 : decode code 997 = .ok (.iconst 3, 1) := by decide +kernel
theorem d_law_998 : decode code 998 = .ok (.iadd, 1) := by decide +kernel
theorem d_law_999 : decode code 999 = .ok (.iaload, 1) := by decide +kernel
theorem d_law_1000 : decode code 1000 = .ok (.invokevirtual 114, 3) := by decide +kernel
theorem d_law_1003 : decode code 1003 = .ok (.aload_n 2, 1) := by decide +kernel
theorem d_law_1004 : decode code 1004 = .ok (.aload_n 0, 1) := by decide +kernel
theorem d_law_1005 : decode code 1005 = .ok (.iload 4, 2) := by decide +kernel
theorem d_law_1007 : decode code 1007 = .ok (.iconst 1, 1) := by decide +kernel
theorem d_law_1008 : decode code 1008 = .ok (.iadd, 1) := by decide +kernel
theorem d_law_1009 : decode code 1009 = .ok (.iaload, 1) := by decide +kernel
theorem d_law_1010 : decode code 1010 = .ok (.aload_n 0, 1) := by decide +kernel
theorem d_law_1011 : decode code 1011 = .ok (.iload 4, 2) := by decide +kernel
theorem d_law_1013 : decode code 1013 = .ok (.iconst 2, 1) := by decide +kernel
theorem d_law_1014 : decode code 1014 = .ok (.iadd, 1) := by decide +kernel
theorem d_law_1015 : decode code 1015 = .ok (.iaload, 1) := by decide +kernel
theorem d_law_1016 : decode code 1016 = .ok (.aload_n 0, 1) := by decide +kernel
theorem d_law_1017 : decode code 1017 = .ok (.iload 4, 2) := by decide +kernel
theorem d_law_1019 : decode code 1019 = .ok (.iconst 3, 1) := by decide +kernel
theorem d_law_1020 : decode code 1020 = .ok (.iadd, 1) := by decide +kernel
theorem d_law_1021 : decode code 1021 = .ok (.iaload, 1) := by decide +kernel
theorem d_law_1022 : decode code 1022 = .ok (.invokevirtual 117, 3) := by decide +kernel
theorem d_law_1025 : decode code 1025 = .ok (.if_icmp .eq 348, 3) := by decide +kernel
theorem d_law_1028 : decode code 1028 = .ok (.iconst 0, 1) := by decide +kernel
theorem d_law_1029 : decode code 1029 = .ok (.ireturn, 1) := by decide +kernel
theorem d_law_1030 : decode code 1030 = .ok (.aload_n 1, 1) := by decide +kernel
theorem d_law_1031 : decode code 1031 = .ok (.aload_n 0, 1) := by decide +kernel
theorem d_law_1032 : decode code 1032 = .ok (.iload 4, 2) := by decide +kernel
theorem d_law_1034 : decode code 1034 = .ok (.iconst 1, 1) := by decide +kernel
theorem d_law_1035 : decode code 1035 = .ok (.iadd, 1) := by decide +kernel
theorem d_law_1036 : decode code 1036 = .ok (.iaload, 1) := by decide +kernel
theorem d_law_1037 : decode code 1037 = .ok (.aload_n 0, 1) := by decide +kernel
theorem d_law_1038 : decode code 1038 = .ok (.iload 4, 2) := by decide +kernel
theorem d_law_1040 : decode code 1040 = .ok (.iconst 2, 1) := by decide +kernel
theorem d_law_1041 : decode code 1041 = .ok (.iadd, 1) := by decide +kernel
theorem d_law_1042 : decode code 1042 = .ok (.iaload, 1) := by decide +kernel
theorem d_law_1043 : decode code 1043 = .ok (.aload_n 0, 1) := by decide +kernel
theorem d_law_1044 : decode code 1044 = .ok (.iload 4, 2) := by decide +kernel
theorem d_law_1046 : decode code 1046 = .ok (.iconst 3, 1) := by decide +kernel
theorem d_law_1047 : decode code 1047 = .ok (.iadd, 1) := by decide +kernel
theorem d_law_1048 : decode code 1048 = .ok (.iaload, 1) := by decide +kernel
theorem d_law_1049 : decode code 1049 = .ok (.aload_n 0, 1) := by decide +kernel
theorem d_law_1050 : decode code 1050 = .ok (.iload 4, 2) := by decide +kernel
theorem d_law_1052 : decode code 1052 = .ok (.iconst 4, 1) := by decide +kernel
theorem d_law_1053 : decode code 1053 = .ok (.iadd, 1) := by decide +kernel
theorem d_law_1054 : decode code 1054 = .ok (.iaload, 1) := by decide +kernel
theorem d_law_1055 : decode code 1055 = .ok (.invokestatic 118, 3) := by decide +kernel
theorem d_law_1058 : decode code 1058 = .ok (.istore 5, 2) := by decide +kernel
theorem d_law_1060 : decode code 1060 = .ok (.aload_n 2, 1) := by decide +kernel
theorem d_law_1061 : decode code 1061 = .ok (.aload_n 0, 1) := by decide +kernel
theorem d_law_1062 : decode code 1062 = .ok (.iload 4, 2) := by decide +kernel
theorem d_law_1064 : decode code 1064 = .ok (.iconst 1, 1) := by decide +kernel
theorem d_law_1065 : decode code 1065 = .ok (.iadd, 1) := by decide +kernel
theorem d_law_1066 : decode code 1066 = .ok (.iaload, 1) := by decide +kernel
theorem d_law_1067 : decode code 1067 = .ok (.aload_n 0, 1) := by decide +kernel
theorem d_law_1068 : decode code 1068 = .ok (.iload 4, 2) := by decide +kernel
theorem d_law_1070 : decode code 1070 = .ok (.iconst 2, 1) := by decide +kernel
theorem d_law_1071 : decode code 1071 = .ok (.iadd, 1) := by decide +kernel
theorem d_law_1072 : decode code 1072 = .ok (.iaload, 1) := by decide +kernel
theorem d_law_1073 : decode code 1073 = .ok (.aload_n 0, 1) := by decide +kernel
theorem d_law_1074 : decode code 1074 = .ok (.iload 4, 2) := by decide +kernel
theorem d_law_1076 : decode code 1076 = .ok (.iconst 3, 1) := by decide +kernel
theorem d_law_1077 : decode code 1077 = .ok (.iadd, 1) := by decide +kernel
theorem d_law_1078 : decode code 1078 = .ok (.iaload, 1) := by decide +kernel
theorem d_law_1079 : decode code 1079 = .ok (.aload_n 0, 1) := by decide +kernel
theorem d_law_1080 : decode code 1080 = .ok (.iload 4, 2) := by decide +kernel
theorem d_law_1082 : decode code 1082 = .ok (.iconst 4, 1) := by decide +kernel
theorem d_law_1083 : decode code 1083 = .ok (.iadd, 1) := by decide +kernel
theorem d_law_1084 : decode code 1084 = .ok (.iaload, 1) := by decide +kernel
theorem d_law_1085 : decode code 1085 = .ok (.invokevirtual 120, 3) := by decide +kernel
theorem d_law_1088 : decode code 1088 = .ok (.aload_n 2, 1) := by decide +kernel
theorem d_law_1089 : decode code 1089 = .ok (.invokevirtual 71, 3) := by decide +kernel
theorem d_law_1092 : decode code 1092 = .ok (.iload 5, 2) := by decide +kernel
theorem d_law_1094 : decode code 1094 = .ok (.if_icmp .eq 5, 3) := by decide +kernel
theorem d_law_1097 : decode code 1097 = .ok (.iconst 0, 1) := by decide +kernel
theorem d_law_1098 : decode code 1098 = .ok (.ireturn, 1) := by decide +kernel
theorem d_law_1099 : decode code 1099 = .ok (.goto 274, 3) := by decide +kernel
theorem d_law_1102 : decode code 1102 = .ok (.aload_n 1, 1) := by decide +kernel
theorem d_law_1103 : decode code 1103 = .ok (.aload_n 0, 1) := by decide +kernel
theorem d_law_1104 : decode code 1104 = .ok (.iload 4, 2) := by decide +kernel
theorem d_law_1106 : decode code 1106 = .ok (.iconst 1, 1) := by decide +kernel
theorem d_law_1107 : decode code 1107 = .ok (.iadd, 1) := by decide +kernel
theorem d_law_1108 : decode code 1108 = .ok (.iaload, 1) := by decide +kernel
theorem d_law_1109 : decode code 1109 = .ok (.aload_n 0, 1) := by decide +kernel
theorem d_law_1110 : decode code 1110 = .ok (.iload 4, 2) := by decide +kernel
theorem d_law_1112 : decode code 1112 = .ok (.iconst 2, 1) := by decide +kernel
theorem d_law_1113 : decode code 1113 = .ok (.iadd, 1) := by decide +kernel
theorem d_law_1114 : decode code 1114 = .ok (.iaload, 1) := by decide +kernel
theorem d_law_1115 : decode code 1115 = .ok (.aload_n 0, 1) := by decide +kernel
theorem d_law_1116 : decode code 1116 = .ok (.iload 4, 2) := by decide +kernel
theorem d_law_1118 : decode code 1118 = .ok (.iconst 3, 1) := by decide +kernel
theorem d_law_1119 : decode code 1119 = .ok (.iadd, 1) := by decide +kernel
theorem d_law_1120 : decode code 1120 = .ok (.iaload, 1) := by decide +kernel
theorem d_law_1121 : decode code 1121 = .ok (.aload_n 0, 1) := by decide +kernel
theorem d_law_1122 : decode code 1122 = .ok (.iload 4, 2) := by decide +kernel
theorem d_law_1124 : decode code 1124 = .ok (.iconst 4, 1) := by decide +kernel
theorem d_law_1125 : decode code 1125 = .ok (.iadd, 1) := by decide +kernel
theorem d_law_1126 : decode code 1126 = .ok (.iaload, 1) := by decide +kernel
theorem d_law_1127 : decode code 1127 = .ok (.aload_n 0, 1) := by decide +kernel
theorem d_law_1128 : decode code 1128 = .ok (.iload 4, 2) := by decide +kernel
theorem d_law_1130 : decode code 1130 = .ok (.iconst 5, 1) := by decide +kernel
theorem d_law_1131 : decode code 1131 = .ok (.iadd, 1) := by decide +kernel
theorem d_law_1132 : decode code 1132 = .ok (.iaload, 1) := by decide +kernel
theorem d_law_1133 : decode code 1133 = .ok (.invokestatic 121, 3) := by decide +kernel
theorem d_law_1136 : decode code 1136 = .ok (.istore 5, 2) := by decide +kernel
theorem d_law_1138 : decode code 1138 = .ok (.aload_n 2, 1) := by decide +kernel
theorem d_law_1139 : decode code 1139 = .ok (.aload_n 0, 1) := by decide +kernel
theorem d_law_1140 : decode code 1140 = .ok (.iload 4, 2) := by decide +kernel
theorem d_law_1142 : decode code 1142 = .ok (.iconst 1, 1) := by decide +kernel
theorem d_law_1143 : decode code 1143 = .ok (.iadd, 1) := by decide +kernel
theorem d_law_1144 : decode code 1144 = .ok (.iaload, 1) := by decide +kernel
theorem d_law_1145 : decode code 1145 = .ok (.aload_n 0, 1) := by decide +kernel
theorem d_law_1146 : decode code 1146 = .ok (.iload 4, 2) := by decide +kernel
theorem d_law_1148 : decode code 1148 = .ok (.iconst 2, 1) := by decide +kernel
theorem d_law_1149 : decode code 1149 = .ok (.iadd, 1) := by decide +kernel
theorem d_law_1150 : decode code 1150 = .ok (.iaload, 1) := by decide +kernel
theorem d_law_1151 : decode code 1151 = .ok (.aload_n 0, 1) := by decide +kernel
theorem d_law_1152 : decode code 1152 = .ok (.iload 4, 2) := by decide +kernel
theorem d_law_1154 : decode code 1154 = .ok (.iconst 3, 1) := by decide +kernel
theorem d_law_1155 : decode code 1155 = .ok (.iadd, 1) := by decide +kernel
theorem d_law_1156 : decode code 1156 = .ok (.iaload, 1) := by decide +kernel
theorem d_law_1157 : decode code 1157 = .ok (.aload_n 0, 1) := by decide +kernel
theorem d_law_1158 : decode code 1158 = .ok (.iload 4, 2) := by decide +kernel
theorem d_law_1160 : decode code 1160 = .ok (.iconst 4, 1) := by decide +kernel
theorem d_law_1161 : decode code 1161 = .ok (.iadd, 1) := by decide +kernel
theorem d_law_1162 : decode code 1162 = .ok (.iaload, 1) := by decide +kernel
theorem d_law_1163 : decode code 1163 = .ok (.aload_n 0, 1) := by decide +kernel
theorem d_law_1164 : decode code 1164 = .ok (.iload 4, 2) := by decide +kernel
theorem d_law_1166 : decode code 1166 = .ok (.iconst 5, 1) := by decide +kernel
theorem d_law_1167 : decode code 1167 = .ok (.iadd, 1) := by decide +kernel
theorem d_law_1168 : decode code 1168 = .ok (.iaload, 1) := by decide +kernel
theorem d_law_1169 : decode code 1169 = .ok (.invokevirtual 123, 3) := by decide +kernel
theorem d_law_1172 : decode code 1172 = .ok (.aload_n 2, 1) := by decide +kernel
theorem d_law_1173 : decode code 1173 = .ok (.invokevirtual 71, 3) := by decide +kernel
theorem d_law_1176 : decode code 1176 = .ok (.iload 5, 2) := by decide +kernel
theorem d_law_1178 : decode code 1178 = .ok (.if_icmp .eq 5, 3) := by decide +kernel
theorem d_law_1181 : decode code 1181 = .ok (.iconst 0, 1) := by decide +kernel
theorem d_law_1182 : decode code 1182 = .ok (.ireturn, 1) := by decide +kernel
theorem d_law_1183 : decode code 1183 = .ok (.goto 190, 3) := by decide +kernel
theorem d_law_1186 : decode code 1186 = .ok (.aload_n 1, 1) := by decide +kernel
theorem d_law_1187 : decode code 1187 = .ok (.aload_n 0, 1) := by decide +kernel
theorem d_law_1188 : decode code 1188 = .ok (.iload 4, 2) := by decide +kernel
theorem d_law_1190 : decode code 1190 = .ok (.iconst 1, 1) := by decide +kernel
theorem d_law_1191 : decode code 1191 = .ok (.iadd, 1) := by decide +kernel
theorem d_law_1192 : decode code 1192 = .ok (.iaload, 1) := by decide +kernel
theorem d_law_1193 : decode code 1193 = .ok (.aload_n 0, 1) := by decide +kernel
theorem d_law_1194 : decode code 1194 = .ok (.iload 4, 2) := by decide +kernel
theorem d_law_1196 : decode code 1196 = .ok (.iconst 2, 1) := by decide +kernel
theorem d_law_1197 : decode code 1197 = .ok (.iadd, 1) := by decide +kernel
theorem d_law_1198 : decode code 1198 = .ok (.iaload, 1) := by decide +kernel
theorem d_law_1199 : decode code 1199 = .ok (.aload_n 0, 1) := by decide +kernel
theorem d_law_1200 : decode code 1200 = .ok (.iload 4, 2) := by decide +kernel
theorem d_law_1202 : decode code 1202 = .ok (.iconst 3, 1) := by decide +kernel
theorem d_law_1203 : decode code 1203 = .ok (.iadd, 1) := by decide +kernel
theorem d_law_1204 : decode code 1204 = .ok (.iaload, 1) := by decide +kernel
theorem d_law_1205 : decode code 1205 = .ok (.aload_n 0, 1) := by decide +kernel
theorem d_law_1206 : decode code 1206 = .ok (.iload 4, 2) := by decide +kernel
theorem d_law_1208 : decode code 1208 = .ok (.iconst 4, 1) := by decide +kernel
theorem d_law_1209 : decode code 1209 = .ok (.iadd, 1) := by decide +kernel
theorem d_law_1210 : decode code 1210 = .ok (.iaload, 1) := by decide +kernel
theorem d_law_1211 : decode code 1211 = .ok (.aload_n 0, 1) := by decide +kernel
theorem d_law_1212 : decode code 1212 = .ok (.iload 4, 2) := by decide +kernel
theorem d_law_1214 : decode code 1214 = .ok (.iconst 5, 1) := by decide +kernel
theorem d_law_1215 : decode code 1215 = .ok (.iadd, 1) := by decide +kernel
theorem d_law_1216 : decode code 1216 = .ok (.iaload, 1) := by decide +kernel
theorem d_law_1217 : decode code 1217 = .ok (.invokestatic 124, 3) := by decide +kernel
theorem d_law_1220 : decode code 1220 = .ok (.istore 5, 2) := by decide +kernel
theorem d_law_1222 : decode code 1222 = .ok (.aload_n 2, 1) := by decide +kernel
theorem d_law_1223 : decode code 1223 = .ok (.aload_n 0, 1) := by decide +kernel
theorem d_law_1224 : decode code 1224 = .ok (.iload 4, 2) := by decide +kernel
theorem d_law_1226 : decode code 1226 = .ok (.iconst 1, 1) := by decide +kernel
theorem d_law_1227 : decode code 1227 = .ok (.iadd, 1) := by decide +kernel
theorem d_law_1228 : decode code 1228 = .ok (.iaload, 1) := by decide +kernel
theorem d_law_1229 : decode code 1229 = .ok (.aload_n 0, 1) := by decide +kernel
theorem d_law_1230 : decode code 1230 = .ok (.iload 4, 2) := by decide +kernel
theorem d_law_1232 : decode code 1232 = .ok (.iconst 2, 1) := by decide +kernel
theorem d_law_1233 : decode code 1233 = .ok (.iadd, 1) := by decide +kernel
theorem d_law_1234 : decode code 1234 = .ok (.iaload, 1) := by decide +kernel
theorem d_law_1235 : decode code 1235 = .ok (.aload_n 0, 1) := by decide +kernel
theorem d_law_1236 : decode code 1236 = .ok (.iload 4, 2) := by decide +kernel
theorem d_law_1238 : decode code 1238 = .ok (.iconst 3, 1) := by decide +kernel
theorem d_law_1239 : decode code 1239 = .ok (.iadd, 1) := by decide +kernel
theorem d_law_1240 : decode code 1240 = .ok (.iaload, 1) := by decide +kernel
theorem d_law_1241 : decode code 1241 = .ok (.aload_n 0, 1) := by decide +kernel
theorem d_law_1242 : decode code 1242 = .ok (.iload 4, 2) := by decide +kernel
theorem d_law_1244 : decode code 1244 = .ok (.iconst 4, 1) := by decide +kernel
theorem d_law_1245 : decode code 1245 = .ok (.iadd, 1) := by decide +kernel
theorem d_law_1246 : decode code 1246 = .ok (.iaload, 1) := by decide +kernel
theorem d_law_1247 : decode code 1247 = .ok (.aload_n 0, 1) := by decide +kernel
theorem d_law_1248 : decode code 1248 = .ok (.iload 4, 2) := by decide +kernel
theorem d_law_1250 : decode code 1250 = .ok (.iconst 5, 1) := by decide +kernel
theorem d_law_1251 : decode code 1251 = .ok (.iadd, 1) := by decide +kernel
theorem d_law_1252 : decode code 1252 = .ok (.iaload, 1) := by decide +kernel
theorem d_law_1253 : decode code 1253 = .ok (.invokevirtual 126, 3) := by decide +kernel
theorem d_law_1256 : decode code 1256 = .ok (.aload_n 2, 1) := by decide +kernel
theorem d_law_1257 : decode code 1257 = .ok (.invokevirtual 71, 3) := by decide +kernel
theorem d_law_1260 : decode code 1260 = .ok (.iload 5, 2) := by decide +kernel
theorem d_law_1262 : decode code 1262 = .ok (.if_icmp .eq 5, 3) := by decide +kernel
theorem d_law_1265 : decode code 1265 = .ok (.iconst 0, 1) := by decide +kernel
theorem d_law_1266 : decode code 1266 = .ok (.ireturn, 1) := by decide +kernel
theorem d_law_1267 : decode code 1267 = .ok (.goto 106, 3) := by decide +kernel
theorem d_law_1270 : decode code 1270 = .ok (.aload_n 1, 1) := by decide +kernel
theorem d_law_1271 : decode code 1271 = .ok (.aload_n 0, 1) := by decide +kernel
theorem d_law_1272 : decode code 1272 = .ok (.iload 4, 2) := by decide +kernel
theorem d_law_1274 : decode code 1274 = .ok (.iconst 1, 1) := by decide +kernel
theorem d_law_1275 : decode code 1275 = .ok (.iadd, 1) := by decide +kernel
theorem d_law_1276 : decode code 1276 = .ok (.iaload, 1) := by decide +kernel
theorem d_law_1277 : decode code 1277 = .ok (.aload_n 0, 1) := by decide +kernel
theorem d_law_1278 : decode code 1278 = .ok (.iload 4, 2) := by decide +kernel
theorem d_law_1280 : decode code 1280 = .ok (.iconst 2, 1) := by decide +kernel
theorem d_law_1281 : decode code 1281 = .ok (.iadd, 1) := by decide +kernel
theorem d_law_1282 : decode code 1282 = .ok (.iaload, 1) := by decide +kernel
theorem d_law_1283 : decode code 1283 = .ok (.ifCond .eq 7, 3) := by decide +kernel
theorem d_law_1286 : decode code 1286 = .ok (.iconst 1, 1) := by decide +kernel
theorem d_law_1287 : decode code 1287 = .ok (.goto 4, 3) := by decide +kernel
theorem d_law_1290 : decode code 1290 = .ok (.iconst 0, 1) := by decide +kernel
theorem d_law_1291 : decode code 1291 = .ok (.invokevirtual 127, 3) := by decide +kernel
theorem d_law_1294 : decode code 1294 = .ok (.aload_n 2, 1) := by decide +kernel
theorem d_law_1295 : decode code 1295 = .ok (.aload_n 0, 1) := by decide +kernel
theorem d_law_1296 : decode code 1296 = .ok (.iload 4, 2) := by decide +kernel
theorem d_law_1298 : decode code 1298 = .ok (.iconst 1, 1) := by decide +kernel
theorem d_law_1299 : decode code 1299 = .ok (.iadd, 1) := by decide +kernel
theorem d_law_1300 : decode code 1300 = .ok (.iaload, 1) := by decide +kernel
theorem d_law_1301 : decode code 1301 = .ok (.aload_n 0, 1) := by decide +kernel
theorem d_law_1302 : decode code 1302 = .ok (.iload 4, 2) := by decide +kernel
theorem d_law_1304 : decode code 1304 = .ok (.iconst 2, 1) := by decide +kernel
theorem d_law_1305 : decode code 1305 = .ok (.iadd, 1) := by decide +kernel
theorem d_law_1306 : decode code 1306 = .ok (.iaload, 1) := by decide +kernel
theorem d_law_1307 : decode code 1307 = .ok (.ifCond .eq 7, 3) := by decide +kernel
theorem d_law_1310 : decode code 1310 = .ok (.iconst 1, 1) := by decide +kernel
theorem d_law_1311 : decode code 1311 = .ok (.goto 4, 3) := by decide +kernel
theorem d_law_1314 : decode code 1314 = .ok (.iconst 0, 1) := by decide +kernel
theorem d_law_1315 : decode code 1315 = .ok (.invokevirtual 131, 3) := by decide +kernel
theorem d_law_1318 : decode code 1318 = .ok (.if_icmp .eq 55, 3) := by decide +kernel
theorem d_law_1321 : decode code 1321 = .ok (.iconst 0, 1) := by decide +kernel
theorem d_law_1322 : decode code 1322 = .ok (.ireturn, 1) := by decide +kernel
theorem d_law_1323 : decode code 1323 = .ok (.aload_n 1, 1) := by decide +kernel
theorem d_law_1324 : decode code 1324 = .ok (.invokevirtual 132, 3) := by decide +kernel
theorem d_law_1327 : decode code 1327 = .ok (.aload_n 2, 1) := by decide +kernel
theorem d_law_1328 : decode code 1328 = .ok (.invokevirtual 135, 3) := by decide +kernel
theorem d_law_1331 : decode code 1331 = .ok (.if_icmp .eq 42, 3) := by decide +kernel
theorem d_law_1334 : decode code 1334 = .ok (.iconst 0, 1) := by decide +kernel
theorem d_law_1335 : decode code 1335 = .ok (.ireturn, 1) := by decide +kernel
theorem d_law_1336 : decode code 1336 = .ok (.aload_n 1, 1) := by decide +kernel
theorem d_law_1337 : decode code 1337 = .ok (.aload_n 0, 1) := by decide +kernel
theorem d_law_1338 : decode code 1338 = .ok (.iload 4, 2) := by decide +kernel
theorem d_law_1340 : decode code 1340 = .ok (.iconst 1, 1) := by decide +kernel
theorem d_law_1341 : decode code 1341 = .ok (.iadd, 1) := by decide +kernel
theorem d_law_1342 : decode code 1342 = .ok (.iaload, 1) := by decide +kernel
theorem d_law_1343 : decode code 1343 = .ok (.aload_n 0, 1) := by decide +kernel
theorem d_law_1344 : decode code 1344 = .ok (.iload 4, 2) := by decide +kernel
theorem d_law_1346 : decode code 1346 = .ok (.iconst 2, 1) := by decide +kernel
theorem d_law_1347 : decode code 1347 = .ok (.iadd, 1) := by decide +kernel
theorem d_law_1348 : decode code 1348 = .ok (.iaload, 1) := by decide +kernel
theorem d_law_1349 : decode code 1349 = .ok (.invokevirtual 136, 3) := by decide +kernel
theorem d_law_1352 : decode code 1352 = .ok (.aload_n 2, 1) := by decide +kernel
theorem d_law_1353 : decode code 1353 = .ok (.aload_n 0, 1) := by decide +kernel
theorem d_law_1354 : decode code 1354 = .ok (.iload 4, 2) := by decide +kernel
theorem d_law_1356 : decode code 1356 = .ok (.iconst 1, 1) := by decide +kernel
theorem d_law_1357 : decode code 1357 = .ok (.iadd, 1) := by decide +kernel
theorem d_law_1358 : decode code 1358 = .ok (.iaload, 1) := by decide +kernel
theorem d_law_1359 : decode code 1359 = .ok (.aload_n 0, 1) := by decide +kernel
theorem d_law_1360 : decode code 1360 = .ok (.iload 4, 2) := by decide +kernel
theorem d_law_1362 : decode code 1362 = .ok (.iconst 2, 1) := by decide +kernel
theorem d_law_1363 : decode code 1363 = .ok (.iadd, 1) := by decide +kernel
theorem d_law_1364 : decode code 1364 = .ok (.iaload, 1) := by decide +kernel
theorem d_law_1365 : decode code 1365 = .ok (.invokevirtual 139, 3) := by decide +kernel
theorem d_law_1368 : decode code 1368 = .ok (.if_icmp .eq 5, 3) := by decide +kernel
theorem d_law_1371 : decode code 1371 = .ok (.iconst 0, 1) := by decide +kernel
theorem d_law_1372 : decode code 1372 = .ok (.ireturn, 1) := by decide +kernel
theorem d_law_1373 : decode code 1373 = .ok (.iinc 4 7, 3) := by decide +kernel
theorem d_law_1376 : decode code 1376 = .ok (.goto (-1353), 3) := by decide +kernel
theorem d_law_1379 : decode code 1379 = .ok (.iconst 1, 1) := by decide +kernel
theorem d_law_1380 : decode code 1380 = .ok (.ireturn, 1) := by decide +kernel
