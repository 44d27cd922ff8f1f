
theorem dL_law_784 : decode cL_law 784 = .ok (.aload_n 1, 1) := by decide +kernel
theorem dL_law_785 : decode cL_law 785 = .ok (.aload_n 0, 1) := by decide +kernel
theorem dL_law_786 : decode cL_law 786 = .ok (.iload_n 3, 1) := by decide +kernel
theorem dL_law_787 : decode cL_law 787 = .ok (.iconst 1, 1) := by decide +kernel
theorem dL_law_788 : decode cL_law 788 = .ok (.iadd, 1) := by decide +kernel
theorem dL_law_789 : decode cL_law 789 = .ok (.iaload, 1) := by decide +kernel
theorem dL_law_790 : decode cL_law 790 = .ok (.invokevirtual 83, 3) := by decide +kernel
theorem dL_law_793 : decode cL_law 793 = .ok (.pop, 1) := by decide +kernel
theorem dL_law_794 : decode cL_law 794 = .ok (.aload_n 2, 1) := by decide +kernel
theorem dL_law_795 : decode cL_law 795 = .ok (.aload_n 0, 1) := by decide +kernel
theorem dL_law_796 : decode cL_law 796 = .ok (.iload_n 3, 1) := by decide +kernel
theorem dL_law_797 : decode cL_law 797 = .ok (.iconst 1, 1) := by decide +kernel
theorem dL_law_798 : decode cL_law 798 = .ok (.iadd, 1) := by decide +kernel
theorem dL_law_799 : decode cL_law 799 = .ok (.iaload, 1) := by decide +kernel
theorem dL_law_800 : decode cL_law 800 = .ok (.invokevirtual 86, 3) := by decide +kernel
theorem dL_law_803 : decode cL_law 803 = .ok (.pop, 1) := by decide +kernel
theorem dL_law_804 : decode cL_law 804 = .ok (.goto 873, 3) := by decide +kernel
theorem dL_law_807 : decode cL_law 807 = .ok (.aload_n 1, 1) := by decide +kernel
theorem dL_law_808 : decode cL_law 808 = .ok (.invokevirtual 87, 3) := by decide +kernel
theorem dL_law_811 : decode cL_law 811 = .ok (.pop, 1) := by decide +kernel
theorem dL_law_812 : decode cL_law 812 = .ok (.aload_n 2, 1) := by decide +kernel
theorem dL_law_813 : decode cL_law 813 = .ok (.invokevirtual 90, 3) := by decide +kernel
theorem dL_law_816 : decode cL_law 816 = .ok (.pop, 1) := by decide +kernel
theorem dL_law_817 : decode cL_law 817 = .ok (.goto 860, 3) := by decide +kernel
theorem dL_law_820 : decode cL_law 820 = .ok (.aload_n 1, 1) := by decide +kernel
theorem dL_law_821 : decode cL_law 821 = .ok (.aload_n 0, 1) := by decide +kernel
theorem dL_law_822 : decode cL_law 822 = .ok (.iload_n 3, 1) := by decide +kernel
theorem dL_law_823 : decode cL_law 823 = .ok (.iconst 1, 1) := by decide +kernel
theorem dL_law_824 : decode cL_law 824 = .ok (.iadd, 1) := by decide +kernel
theorem dL_law_825 : decode cL_law 825 = .ok (.iaload, 1) := by decide +kernel
theorem dL_law_826 : decode cL_law 826 = .ok (.aload_n 0, 1) := by decide +kernel
theorem dL_law_827 : decode cL_law 827 = .ok (.iload_n 3, 1) := by decide +kernel
theorem dL_law_828 : decode cL_law 828 = .ok (.iconst 2, 1) := by decide +kernel
theorem dL_law_829 : decode cL_law 829 = .ok (.iadd, 1) := by decide +kernel
theorem dL_law_830 : decode cL_law 830 = .ok (.iaload, 1) := by decide +kernel
theorem dL_law_831 : decode cL_law 831 = .ok (.aload_n 0, 1) := by decide +kernel
theorem dL_law_832 : decode cL_law 832 = .ok (.iload_n 3, 1) := by decide +kernel
theorem dL_law_833 : decode cL_law 833 = .ok (.iconst 3, 1) := by decide +kernel
theorem dL_law_834 : decode cL_law 834 = .ok (.iadd, 1) := by decide +kernel
theorem dL_law_835 : decode cL_law 835 = .ok (.iaload, 1) := by decide +kernel
theorem dL_law_836 : decode cL_law 836 = .ok (.invokevirtual 91, 3) := by decide +kernel
theorem dL_law_839 : decode cL_law 839 = .ok (.pop, 1) := by decide +kernel
theorem dL_law_840 : decode cL_law 840 = .ok (.aload_n 2, 1) := by decide +kernel
theorem dL_law_841 : decode cL_law 841 = .ok (.aload_n 0, 1) := by decide +kernel
theorem dL_law_842 : decode cL_law 842 = .ok (.iload_n 3, 1) := by decide +kernel
theorem dL_law_843 : decode cL_law 843 = .ok (.iconst 1, 1) := by decide +kernel
theorem dL_law_844 : decode cL_law 844 = .ok (.iadd, 1) := by decide +kernel
theorem dL_law_845 : decode cL_law 845 = .ok (.iaload, 1) := by decide +kernel
theorem dL_law_846 : decode cL_law 846 = .ok (.aload_n 0, 1) := by decide +kernel
theorem dL_law_847 : decode cL_law 847 = .ok (.iload_n 3, 1) := by decide +kernel
theorem dL_law_848 : decode cL_law 848 = .ok (.iconst 2, 1) := by decide +kernel
theorem dL_law_849 : decode cL_law 849 = .ok (.iadd, 1) := by decide +kernel
theorem dL_law_850 : decode cL_law 850 = .ok (.iaload, 1) := by decide +kernel
theorem dL_law_851 : decode cL_law 851 = .ok (.aload_n 0, 1) := by decide +kernel
theorem dL_law_852 : decode cL_law 852 = .ok (.iload_n 3, 1) := by decide +kernel
theorem dL_law_853 : decode cL_law 853 = .ok (.iconst 3, 1) := by decide +kernel
theorem dL_law_854 : decode cL_law 854 = .ok (.iadd, 1) := by decide +kernel
theorem dL_law_855 : decode cL_law 855 = .ok (.iaload, 1) := by decide +kernel
theorem dL_law_856 : decode cL_law 856 = .ok (.invokevirtual 94, 3) := by decide +kernel
theorem dL_law_859 : decode cL_law 859 = .ok (.pop, 1) := by decide +kernel
theorem dL_law_860 : decode cL_law 860 = .ok (.goto 817, 3) := by decide +kernel
theorem dL_law_863 : decode cL_law 863 = .ok (.aload_n 1, 1) := by decide +kernel
theorem dL_law_864 : decode cL_law 864 = .ok (.aload_n 0, 1) := by decide +kernel
theorem dL_law_865 : decode cL_law 865 = .ok (.iload_n 3, 1) := by decide +kernel
theorem dL_law_866 : decode cL_law 866 = .ok (.iconst 1, 1) := by decide +kernel
theorem dL_law_867 : decode cL_law 867 = .ok (.iadd, 1) := by decide +kernel
theorem dL_law_868 : decode cL_law 868 = .ok (.iaload, 1) := by decide +kernel
theorem dL_law_869 : decode cL_law 869 = .ok (.aload_n 0, 1) := by decide +kernel
theorem dL_law_870 : decode cL_law 870 = .ok (.iload_n 3, 1) := by decide +kernel
theorem dL_law_871 : decode cL_law 871 = .ok (.iconst 2, 1) := by decide +kernel
theorem dL_law_872 : decode cL_law 872 = .ok (.iadd, 1) := by decide +kernel
theorem dL_law_873 : decode cL_law 873 = .ok (.iaload, 1) := by decide +kernel
theorem dL_law_874 : decode cL_law 874 = .ok (.aload_n 0, 1) := by decide +kernel
theorem dL_law_875 : decode cL_law 875 = .ok (.iload_n 3, 1) := by decide +kernel
theorem dL_law_876 : decode cL_law 876 = .ok (.iconst 3, 1) := by decide +kernel
theorem dL_law_877 : decode cL_law 877 = .ok (.iadd, 1) := by decide +kernel
theorem dL_law_878 : decode cL_law 878 = .ok (.iaload, 1) := by decide +kernel
theorem dL_law_879 : decode cL_law 879 = .ok (.aload_n 0, 1) := by decide +kernel
theorem dL_law_880 : decode cL_law 880 = .ok (.iload_n 3, 1) := by decide +kernel
theorem dL_law_881 : decode cL_law 881 = .ok (.iconst 4, 1) := by decide +kernel
theorem dL_law_882 : decode cL_law 882 = .ok (.iadd, 1) := by decide +kernel
theorem dL_law_883 : decode cL_law 883 = .ok (.iaload, 1) := by decide +kernel
theorem dL_law_884 : decode cL_law 884 = .ok (.invokevirtual 95, 3) := by decide +kernel
theorem dL_law_887 : decode cL_law 887 = .ok (.pop, 1) := by decide +kernel
theorem dL_law_888 : decode cL_law 888 = .ok (.aload_n 2, 1) := by decide +kernel
theorem dL_law_889 : decode cL_law 889 = .ok (.aload_n 0, 1) := by decide +kernel
theorem dL_law_890 : decode cL_law 890 = .ok (.iload_n 3, 1) := by decide +kernel
theorem dL_law_891 : decode cL_law 891 = .ok (.iconst 1, 1) := by decide +kernel
theorem dL_law_892 : decode cL_law 892 = .ok (.iadd, 1) := by decide +kernel
theorem dL_law_893 : decode cL_law 893 = .ok (.iaload, 1) := by decide +kernel
theorem dL_law_894 : decode cL_law 894 = .ok (.aload_n 0, 1) := by decide +kernel
theorem dL_law_895 : decode cL_law 895 = .ok (.iload_n 3, 1) := by decide +kernel
theorem dL_law_896 : decode cL_law 896 = .ok (.iconst 2, 1) := by decide +kernel
theorem dL_law_897 : decode cL_law 897 = .ok (.iadd, 1) := by decide +kernel
theorem dL_law_898 : decode cL_law 898 = .ok (.iaload, 1) := by decide +kernel
theorem dL_law_899 : decode cL_law 899 = .ok (.aload_n 0, 1) := by decide +kernel
theorem dL_law_900 : decode cL_law 900 = .ok (.iload_n 3, 1) := by decide +kernel
theorem dL_law_901 : decode cL_law 901 = .ok (.iconst 3, 1) := by decide +kernel
theorem dL_law_902 : decode cL_law 902 = .ok (.iadd, 1) := by decide +kernel
theorem dL_law_903 : decode cL_law 903 = .ok (.iaload, 1) := by decide +kernel
theorem dL_law_904 : decode cL_law 904 = .ok (.aload_n 0, 1) := by decide +kernel
theorem dL_law_905 : decode cL_law 905 = .ok (.iload_n 3, 1) := by decide +kernel
theorem dL_law_906 : decode cL_law 906 = .ok (.iconst 4, 1) := by decide +kernel
theorem dL_law_907 : decode cL_law 907 = .ok (.iadd, 1) := by decide +kernel
theorem dL_law_908 : decode cL_law 908 = .ok (.iaload, 1) := by decide +kernel
theorem dL_law_909 : decode cL_law 909 = .ok (.invokevirtual 98, 3) := by decide +kernel
theorem dL_law_912 : decode cL_law 912 = .ok (.pop, 1) := by decide +kernel
theorem dL_law_913 : decode cL_law 913 = .ok (.goto 764, 3) := by decide +kernel
theorem dL_law_916 : decode cL_law 916 = .ok (.aload_n 1, 1) := by decide +kernel
theorem dL_law_917 : decode cL_law 917 = .ok (.aload_n 0, 1) := by decide +kernel
theorem dL_law_918 : decode cL_law 918 = .ok (.iload_n 3, 1) := by decide +kernel
theorem dL_law_919 : decode cL_law 919 = .ok (.iconst 1, 1) := by decide +kernel
theorem dL_law_920 : decode cL_law 920 = .ok (.iadd, 1) := by decide +kernel
theorem dL_law_921 : decode cL_law 921 = .ok (.iaload, 1) := by decide +kernel
theorem dL_law_922 : decode cL_law 922 = .ok (.invokevirtual 99, 3) := by decide +kernel
theorem dL_law_925 : decode cL_law 925 = .ok (.pop, 1) := by decide +kernel
theorem dL_law_926 : decode cL_law 926 = .ok (.aload_n 2, 1) := by decide +kernel
theorem dL_law_927 : decode cL_law 927 = .ok (.aload_n 0, 1) := by decide +kernel
theorem dL_law_928 : decode cL_law 928 = .ok (.iload_n 3, 1) := by decide +kernel
theorem dL_law_929 : decode cL_law 929 = .ok (.iconst 1, 1) := by decide +kernel
theorem dL_law_930 : decode cL_law 930 = .ok (.iadd, 1) := by decide +kernel
theorem dL_law_931 : decode cL_law 931 = .ok (.iaload, 1) := by decide +kernel
theorem dL_law_932 : decode cL_law 932 = .ok (.invokevirtual 102, 3) := by decide +kernel
theorem dL_law_935 : decode cL_law 935 = .ok (.pop, 1) := by decide +kernel
theorem dL_law_936 : decode cL_law 936 = .ok (.goto 741, 3) := by decide +kernel
theorem dL_law_939 : decode cL_law 939 = .ok (.aload_n 1, 1) := by decide +kernel
theorem dL_law_940 : decode cL_law 940 = .ok (.aload_n 0, 1) := by decide +kernel
theorem dL_law_941 : decode cL_law 941 = .ok (.iload_n 3, 1) := by decide +kernel
theorem dL_law_942 : decode cL_law 942 = .ok (.iconst 1, 1) := by decide +kernel
theorem dL_law_943 : decode cL_law 943 = .ok (.iadd, 1) := by decide +kernel
theorem dL_law_944 : decode cL_law 944 = .ok (.iaload, 1) := by decide +kernel
theorem dL_law_945 : decode cL_law 945 = .ok (.invokevirtual 103, 3) := by decide +kernel
theorem dL_law_948 : decode cL_law 948 = .ok (.pop, 1) := by decide +kernel
theorem dL_law_949 : decode cL_law 949 = .ok (.aload_n 2, 1) := by decide +kernel
theorem dL_law_950 : decode cL_law 950 = .ok (.aload_n 0, 1) := by decide +kernel
theorem dL_law_951 : decode cL_law 951 = .ok (.iload_n 3, 1) := by decide +kernel
theorem dL_law_952 : decode cL_law 952 = .ok (.iconst 1, 1) := by decide +kernel
theorem dL_law_953 : decode cL_law 953 = .ok (.iadd, 1) := by decide +kernel
theorem dL_law_954 : decode cL_law 954 = .ok (.iaload, 1) := by decide +kernel
theorem dL_law_955 : decode cL_law 955 = .ok (.invokevirtual 106, 3) := by decide +kernel
theorem dL_law_958 : decode cL_law 958 = .ok (.pop, 1) := by decide +kernel
theorem dL_law_959 : decode cL_law 959 = .ok (.goto 718, 3) := by decide +kernel
theorem dL_law_962 : decode cL_law 962 = .ok (.aload_n 1, 1) := by decide +kernel
theorem dL_law_963 : decode cL_law 963 = .ok (.aload_n 0, 1) := by decide +kernel
theorem dL_law_964 : decode cL_law 964 = .ok (.iload_n 3, 1) := by decide +kernel
theorem dL_law_965 : decode cL_law 965 = .ok (.iconst 1, 1) := by decide +kernel
theorem dL_law_966 : decode cL_law 966 = .ok (.iadd, 1) := by decide +kernel
theorem dL_law_967 : decode cL_law 967 = .ok (.iaload, 1) := by decide +kernel
theorem dL_law_968 : decode cL_law 968 = .ok (.aload_n 0, 1) := by decide +kernel
theorem dL_law_969 : decode cL_law 969 = .ok (.iload_n 3, 1) := by decide +kernel
theorem dL_law_970 : decode cL_law 970 = .ok (.iconst 2, 1) := by decide +kernel
theorem dL_law_971 : decode cL_law 971 = .ok (.iadd, 1) := by decide +kernel
theorem dL_law_972 : decode cL_law 972 = .ok (.iaload, 1) := by decide +kernel
theorem dL_law_973 : decode cL_law 973 = .ok (.aload_n 0, 1) := by decide +kernel
theorem dL_law_974 : decode cL_law 974 = .ok (.iload_n 3, 1) := by decide +kernel
theorem dL_law_975 : decode cL_law 975 = .ok (.iconst 3, 1) := by decide +kernel
theorem dL_law_976 : decode cL_law 976 = .ok (.iadd, 1) := by decide +kernel
theorem dL_law_977 : decode cL_law 977 = .ok (.iaload, 1) := by decide +kernel
theorem dL_law_978 : decode cL_law 978 = .ok (.invokevirtual 107, 3) := by decide +kernel
theorem dL_law_981 : decode cL_law 981 = .ok (.pop, 1) := by decide +kernel
theorem dL_law_982 : decode cL_law 982 = .ok (.aload_n 2, 1) := by decide +kernel
theorem dL_law_983 : decode cL_law 983 = .ok (.aload_n 0, 1) := by decide +kernel
theorem dL_law_984 : decode cL_law 984 = .ok (.iload_n 3, 1) := by decide +kernel
theorem dL_law_985 : decode cL_law 985 = .ok (.iconst 1, 1) := by decide +kernel
theorem dL_law_986 : decode cL_law 986 = .ok (.iadd, 1) := by decide +kernel
theorem dL_law_987 : decode cL_law 987 = .ok (.iaload, 1) := by decide +kernel
theorem dL_law_988 : decode cL_law 988 = .ok (.aload_n 0, 1) := by decide +kernel
theorem dL_law_989 : decode cL_law 989 = .ok (.iload_n 3, 1) := by decide +kernel
theorem dL_law_990 : decode cL_law 990 = .ok (.iconst 2, 1) := by decide +kernel
theorem dL_law_991 : decode cL_law 991 = .ok (.iadd, 1) := by decide +kernel
theorem dL_law_992 : decode cL_law 992 = .ok (.iaload, 1) := by decide +kernel
theorem dL_law_993 : decode cL_law 993 = .ok (.aload_n 0, 1) := by decide +kernel
theorem dL_law_994 : decode cL_law 994 = .ok (.iload_n 3, 1) := by decide +kernel
theorem dL_law_995 : decode cL_law 995 = .ok (.iconst 3, 1) := by decide +kernel
theorem dL_law_996 : decode cL_law 996 = .ok (.iadd, 1) := by decide +kernel
theorem dL_law_997 : decode cL_law 997 = .ok (.iaload, 1) := by decide +kernel
theorem dL_law_998 : decode cL_law 998 = .ok (.invokevirtual 110, 3) := by decide +kernel
theorem dL_law_1001 : decode cL_law 1001 = .ok (.pop, 1) := by decide +kernel
theorem dL_law_1002 : decode cL_law 1002 = .ok (.goto 675, 3) := by decide +kernel
theorem dL_law_1005 : decode cL_law 1005 = .ok (.aload_n 1, 1) := by decide +kernel
theorem dL_law_1006 : decode cL_law 1006 = .ok (.aload_n 0, 1) := by decide +kernel
theorem dL_law_1007 : decode cL_law 1007 = .ok (.iload_n 3, 1) := by decide +kernel
theorem dL_law_1008 : decode cL_law 1008 = .ok (.iconst 1, 1) := by decide +kernel
theorem dL_law_1009 : decode cL_law 1009 = .ok (.iadd, 1) := by decide +kernel
theorem dL_law_1010 : decode cL_law 1010 = .ok (.iaload, 1) := by decide +kernel
theorem dL_law_1011 : decode cL_law 1011 = .ok (.aload_n 0, 1) := by decide +kernel
theorem dL_law_1012 : decode cL_law 1012 = .ok (.iload_n 3, 1) := by decide +kernel
theorem dL_law_1013 : decode cL_law 1013 = .ok (.iconst 2, 1) := by decide +kernel
theorem dL_law_1014 : decode cL_law 1014 = .ok (.iadd, 1) := by decide +kernel
theorem dL_law_1015 : decode cL_law 1015 = .ok (.iaload, 1) := by decide +kernel
theorem dL_law_1016 : decode cL_law 1016 = .ok (.aload_n 0, 1) := by decide +kernel
theorem dL_law_1017 : decode cL_law 1017 = .ok (.iload_n 3, 1) := by decide +kernel
theorem dL_law_1018 : decode cL_law 1018 = .ok (.iconst 3, 1) := by decide +kernel
theorem dL_law_1019 : decode cL_law 1019 = .ok (.iadd, 1) := by decide +kernel
theorem dL_law_1020 : decode cL_law 1020 = .ok (.iaload, 1) := by decide +kernel
theorem dL_law_1021 : decode cL_law 1021 = .ok (.invokevirtual 111, 3) := by decide +kernel
theorem dL_law_1024 : decode cL_law 1024 = .ok (.pop, 1) := by decide +kernel
theorem dL_law_1025 : decode cL_law 1025 = .ok (.aload_n 2, 1) := by decide +kernel
theorem dL_law_1026 : decode cL_law 1026 = .ok (.aload_n 0, 1) := by decide +kernel
theorem dL_law_1027 : decode cL_law 1027 = .ok (.iload_n 3, 1) := by decide +kernel
theorem dL_law_1028 : decode cL_law 1028 = .ok (.iconst 1, 1) := by decide +kernel
theorem dL_law_1029 : decode cL_law 1029 = .ok (.iadd, 1) := by decide +kernel
theorem dL_law_1030 : decode cL_law 1030 = .ok (.iaload, 1) := by decide +kernel
theorem dL_law_1031 : decode cL_law 1031 = .ok (.aload_n 0, 1) := by decide +kernel
theorem dL_law_1032 : decode cL_law 1032 = .ok (.iload_n 3, 1) := by decide +kernel
theorem dL_law_1033 : decode cL_law 1033 = .ok (.iconst 2, 1) := by decide +kernel
theorem dL_law_1034 : decode cL_law 1034 = .ok (.iadd, 1) := by decide +kernel
theorem dL_law_1035 : decode cL_law 1035 = .ok (.iaload, 1) := by decide +kernel
theorem dL_law_1036 : decode cL_law 1036 = .ok (.aload_n 0, 1) := by decide +kernel
theorem dL_law_1037 : decode cL_law 1037 = .ok (.iload_n 3, 1) := by decide +kernel
theorem dL_law_1038 : decode cL_law 1038 = .ok (.iconst 3, 1) := by decide +kernel
theorem dL_law_1039 : decode cL_law 1039 = .ok (.iadd, 1) := by decide +kernel
theorem dL_law_1040 : decode cL_law 1040 = .ok (.iaload, 1) := by decide +kernel
theorem dL_law_1041 : decode cL_law 1041 = .ok (.invokevirtual 114, 3) := by decide +kernel
theorem dL_law_1044 : decode cL_law 1044 = .ok (.pop, 1) := by decide +kernel
theorem dL_law_1045 : decode cL_law 1045 = .ok (.goto 632, 3) := by decide +kernel
theorem dL_law_1048 : decode cL_law 1048 = .ok (.aload_n 1, 1) := by decide +kernel
theorem dL_law_1049 : decode cL_law 1049 = .ok (.aload_n 0, 1) := by decide +kernel
theorem dL_law_1050 : decode cL_law 1050 = .ok (.iload_n 3, 1) := by decide +kernel
theorem dL_law_1051 : decode cL_law 1051 = .ok (.iconst 1, 1) := by decide +kernel
theorem dL_law_1052 : decode cL_law 1052 = .ok (.iadd, 1) := by decide +kernel
theorem dL_law_1053 : decode cL_law 1053 = .ok (.iaload, 1) := by decide +kernel
theorem dL_law_1054 : decode cL_law 1054 = .ok (.invokevirtual 115, 3) := by decide +kernel
theorem dL_law_1057 : decode cL_law 1057 = .ok (.pop, 1) := by decide +kernel
theorem dL_law_1058 : decode cL_law 1058 = .ok (.aload_n 2, 1) := by decide +kernel
theorem dL_law_1059 : decode cL_law 1059 = .ok (.aload_n 0, 1) := by decide +kernel
theorem dL_law_1060 : decode cL_law 1060 = .ok (.iload_n 3, 1) := by decide +kernel
theorem dL_law_1061 : decode cL_law 1061 = .ok (.iconst 1, 1) := by decide +kernel
theorem dL_law_1062 : decode cL_law 1062 = .ok (.iadd, 1) := by decide +kernel
theorem dL_law_1063 : decode cL_law 1063 = .ok (.iaload, 1) := by decide +kernel
theorem dL_law_1064 : decode cL_law 1064 = .ok (.invokevirtual 118, 3) := by decide +kernel
theorem dL_law_1067 : decode cL_law 1067 = .ok (.pop, 1) := by decide +kernel
theorem dL_law_1068 : decode cL_law 1068 = .ok (.goto 609, 3) := by decide +kernel
theorem dL_law_1071 : decode cL_law 1071 = .ok (.aload_n 1, 1) := by decide +kernel
theorem dL_law_1072 : decode cL_law 1072 = .ok (.aload_n 0, 1) := by decide +kernel
theorem dL_law_1073 : decode cL_law 1073 = .ok (.iload_n 3, 1) := by decide +kernel
theorem dL_law_1074 : decode cL_law 1074 = .ok (.iconst 1, 1) := by decide +kernel
theorem dL_law_1075 : decode cL_law 1075 = .ok (.iadd, 1) := by decide +kernel
theorem dL_law_1076 : decode cL_law 1076 = .ok (.iaload, 1) := by decide +kernel
theorem dL_law_1077 : decode cL_law 1077 = .ok (.aload_n 0, 1) := by decide +kernel
theorem dL_law_1078 : decode cL_law 1078 = .ok (.iload_n 3, 1) := by decide +kernel
theorem dL_law_1079 : decode cL_law 1079 = .ok (.iconst 2, 1) := by decide +kernel
theorem dL_law_1080 : decode cL_law 1080 = .ok (.iadd, 1) := by decide +kernel
theorem dL_law_1081 : decode cL_law 1081 = .ok (.iaload, 1) := by decide +kernel
theorem dL_law_1082 : decode cL_law 1082 = .ok (.aload_n 0, 1) := by decide +kernel
theorem dL_law_1083 : decode cL_law 1083 = .ok (.iload_n 3, 1) := by decide +kernel
theorem dL_law_1084 : decode cL_law 1084 = .ok (.iconst 3, 1) := by decide +kernel
theorem dL_law_1085 : decode cL_law 1085 = .ok (.iadd, 1) := by decide +kernel
theorem dL_law_1086 : decode cL_law 1086 = .ok (.iaload, 1) := by decide +kernel
theorem dL_law_1087 : decode cL_law 1087 = .ok (.invokevirtual 119, 3) := by decide +kernel
theorem dL_law_1090 : decode cL_law 1090 = .ok (.pop, 1) := by decide +kernel
theorem dL_law_1091 : decode cL_law 1091 = .ok (.aload_n 2, 1) := by decide +kernel
theorem dL_law_1092 : decode cL_law 1092 = .ok (.aload_n 0, 1) := by decide +kernel
theorem dL_law_1093 : decode cL_law 1093 = .ok (.iload_n 3, 1) := by decide +kernel
theorem dL_law_1094 : decode cL_law 1094 = .ok (.iconst 1, 1) := by decide +kernel
theorem dL_law_1095 : decode cL_law 1095 = .ok (.iadd, 1) := by decide +kernel
theorem dL_law_1096 : decode cL_law 1096 = .ok (.iaload, 1) := by decide +kernel
theorem dL_law_1097 : decode cL_law 1097 = .ok (.aload_n 0, 1) := by decide +kernel
theorem dL_law_1098 : decode cL_law 1098 = .ok (.iload_n 3, 1) := by decide +kernel
theorem dL_law_1099 : decode cL_law 1099 = .ok (.iconst 2, 1) := by decide +kernel
theorem dL_law_1100 : decode cL_law 1100 = .ok (.iadd, 1) := by decide +kernel
theorem dL_law_1101 : decode cL_law 1101 = .ok (.iaload, 1) := by decide +kernel
theorem dL_law_1102 : decode cL_law 1102 = .ok (.aload_n 0, 1) := by decide +kernel
theorem dL_law_1103 : decode cL_law 1103 = .ok (.iload_n 3, 1) := by decide +kernel
theorem dL_law_1104 : decode cL_law 1104 = .ok (.iconst 3, 1) := by decide +kernel
theorem dL_law_1105 : decode cL_law 1105 = .ok (.iadd, 1) := by decide +kernel
theorem dL_law_1106 : decode cL_law 1106 = .ok (.iaload, 1) := by decide +kernel
theorem dL_law_1107 : decode cL_law 1107 = .ok (.invokevirtual 122, 3) := by decide +kernel
theorem dL_law_1110 : decode cL_law 1110 = .ok (.pop, 1) := by decide +kernel
theorem dL_law_1111 : decode cL_law 1111 = .ok (.goto 566, 3) := by decide +kernel
theorem dL_law_1114 : decode cL_law 1114 = .ok (.aload_n 1, 1) := by decide +kernel
theorem dL_law_1115 : decode cL_law 1115 = .ok (.aload_n 0, 1) := by decide +kernel
theorem dL_law_1116 : decode cL_law 1116 = .ok (.iload_n 3, 1) := by decide +kernel
theorem dL_law_1117 : decode cL_law 1117 = .ok (.iconst 1, 1) := by decide +kernel
theorem dL_law_1118 : decode cL_law 1118 = .ok (.iadd, 1) := by decide +kernel
theorem dL_law_1119 : decode cL_law 1119 = .ok (.iaload, 1) := by decide +kernel
theorem dL_law_1120 : decode cL_law 1120 = .ok (.invokevirtual 123, 3) := by decide +kernel
theorem dL_law_1123 : decode cL_law 1123 = .ok (.pop, 1) := by decide +kernel
theorem dL_law_1124 : decode cL_law 1124 = .ok (.aload_n 2, 1) := by decide +kernel
theorem dL_law_1125 : decode cL_law 1125 = .ok (.aload_n 0, 1) := by decide +kernel
theorem dL_law_1126 : decode cL_law 1126 = .ok (.iload_n 3, 1) := by decide +kernel
theorem dL_law_1127 : decode cL_law 1127 = .ok (.iconst 1, 1) := by decide +kernel
theorem dL_law_1128 : decode cL_law 1128 = .ok (.iadd, 1) := by decide +kernel
theorem dL_law_1129 : decode cL_law 1129 = .ok (.iaload, 1) := by decide +kernel
theorem dL_law_1130 : decode cL_law 1130 = .ok (.invokevirtual 126, 3) := by decide +kernel
theorem dL_law_1133 : decode cL_law 1133 = .ok (.pop, 1) := by decide +kernel
theorem dL_law_1134 : decode cL_law 1134 = .ok (.goto 543, 3) := by decide +kernel
theorem dL_law_1137 : decode cL_law 1137 = .ok (.aload_n 1, 1) := by decide +kernel
theorem dL_law_1138 : decode cL_law 1138 = .ok (.aload_n 0, 1) := by decide +kernel
theorem dL_law_1139 : decode cL_law 1139 = .ok (.iload_n 3, 1) := by decide +kernel
theorem dL_law_1140 : decode cL_law 1140 = .ok (.iconst 1, 1) := by decide +kernel
theorem dL_law_1141 : decode cL_law 1141 = .ok (.iadd, 1) := by decide +kernel
theorem dL_law_1142 : decode cL_law 1142 = .ok (.iaload, 1) := by decide +kernel
theorem dL_law_1143 : decode cL_law 1143 = .ok (.aload_n 0, 1) := by decide +kernel
theorem dL_law_1144 : decode cL_law 1144 = .ok (.iload_n 3, 1) := by decide +kernel
theorem dL_law_1145 : decode cL_law 1145 = .ok (.iconst 2, 1) := by decide +kernel
theorem dL_law_1146 : decode cL_law 1146 = .ok (.iadd, 1) := by decide +kernel
theorem dL_law_1147 : decode cL_law 1147 = .ok (.iaload, 1) := by decide +kernel
theorem dL_law_1148 : decode cL_law 1148 = .ok (.invokevirtual 127, 3) := by decide +kernel
theorem dL_law_1151 : decode cL_law 1151 = .ok (.pop, 1) := by decide +kernel
theorem dL_law_1152 : decode cL_law 1152 = .ok (.aload_n 2, 1) := by decide +kernel
theorem dL_law_1153 : decode cL_law 1153 = .ok (.aload_n 0, 1) := by decide +kernel
theorem dL_law_1154 : decode cL_law 1154 = .ok (.iload_n 3, 1) := by decide +kernel
theorem dL_law_1155 : decode cL_law 1155 = .ok (.iconst 1, 1) := by decide +kernel
theorem dL_law_1156 : decode cL_law 1156 = .ok (.iadd, 1) := by decide +kernel
theorem dL_law_1157 : decode cL_law 1157 = .ok (.iaload, 1) := by decide +kernel
theorem dL_law_1158 : decode cL_law 1158 = .ok (.aload_n 0, 1) := by decide +kernel
theorem dL_law_1159 : decode cL_law 1159 = .ok (.iload_n 3, 1) := by decide +kernel
theorem dL_law_1160 : decode cL_law 1160 = .ok (.iconst 2, 1) := by decide +kernel
theorem dL_law_1161 : decode cL_law 1161 = .ok (.iadd, 1) := by decide +kernel
theorem dL_law_1162 : decode cL_law 1162 = .ok (.iaload, 1) := by decide +kernel
theorem dL_law_1163 : decode cL_law 1163 = .ok (.invokevirtual 130, 3) := by decide +kernel
theorem dL_law_1166 : decode cL_law 1166 = .ok (.pop, 1) := by decide +kernel
theorem dL_law_1167 : decode cL_law 1167 = .ok (.goto 510, 3) := by decide +kernel
theorem dL_law_1170 : decode cL_law 1170 = .ok (.aload_n 1, 1) := by decide +kernel
theorem dL_law_1171 : decode cL_law 1171 = .ok (.aload_n 0, 1) := by decide +kernel
theorem dL_law_1172 : decode cL_law 1172 = .ok (.iload_n 3, 1) := by decide +kernel
theorem dL_law_1173 : decode cL_law 1173 = .ok (.iconst 1, 1) := by decide +kernel
theorem dL_law_1174 : decode cL_law 1174 = .ok (.iadd, 1) := by decide +kernel
theorem dL_law_1175 : decode cL_law 1175 = .ok (.iaload, 1) := by decide +kernel
theorem dL_law_1176 : decode cL_law 1176 = .ok (.aload_n 0, 1) := by decide +kernel
theorem dL_law_1177 : decode cL_law 1177 = .ok (.iload_n 3, 1) := by decide +kernel
theorem dL_law_1178 : decode cL_law 1178 = .ok (.iconst 2, 1) := by decide +kernel
theorem dL_law_1179 : decode cL_law 1179 = .ok (.iadd, 1) := by decide +kernel
theorem dL_law_1180 : decode cL_law 1180 = .ok (.iaload, 1) := by decide +kernel
theorem dL_law_1181 : decode cL_law 1181 = .ok (.aload_n 0, 1) := by decide +kernel
theorem dL_law_1182 : decode cL_law 1182 = .ok (.iload_n 3, 1) := by decide +kernel
theorem dL_law_1183 : decode cL_law 1183 = .ok (.iconst 3, 1) := by decide +kernel
theorem dL_law_1184 : decode cL_law 1184 = .ok (.iadd, 1) := by decide +kernel
theorem dL_law_1185 : decode cL_law 1185 = .ok (.iaload, 1) := by decide +kernel
theorem dL_law_1186 : decode cL_law 1186 = .ok (.aload_n 0, 1) := by decide +kernel
theorem dL_law_1187 : decode cL_law 1187 = .ok (.iload_n 3, 1) := by decide +kernel
theorem dL_law_1188 : decode cL_law 1188 = .ok (.iconst 4, 1) := by decide +kernel
theorem dL_law_1189 : decode cL_law 1189 = .ok (.iadd, 1) := by decide +kernel
theorem dL_law_1190 : decode cL_law 1190 = .ok (.iaload, 1) := by decide +kernel
theorem dL_law_1191 : decode cL_law 1191 = .ok (.invokevirtual 131, 3) := by decide +kernel
theorem dL_law_1194 : decode cL_law 1194 = .ok (.pop, 1) := by decide +kernel
theorem dL_law_1195 : decode cL_law 1195 = .ok (.aload_n 2, 1) := by decide +kernel
theorem dL_law_1196 : decode cL_law 1196 = .ok (.aload_n 0, 1) := by decide +kernel
theorem dL_law_1197 : decode cL_law 1197 = .ok (.iload_n 3, 1) := by decide +kernel
theorem dL_law_1198 : decode cL_law 1198 = .ok (.iconst 1, 1) := by decide +kernel
theorem dL_law_1199 : decode cL_law 1199 = .ok (.iadd, 1) := by decide +kernel
theorem dL_law_1200 : decode cL_law 1200 = .ok (.iaload, 1) := by decide +kernel
theorem dL_law_1201 : decode cL_law 1201 = .ok (.aload_n 0, 1) := by decide +kernel
theorem dL_law_1202 : decode cL_law 1202 = .ok (.iload_n 3, 1) := by decide +kernel
theorem dL_law_1203 : decode cL_law 1203 = .ok (.iconst 2, 1) := by decide +kernel
theorem dL_law_1204 : decode cL_law 1204 = .ok (.iadd, 1) := by decide +kernel
theorem dL_law_1205 : decode cL_law 1205 = .ok (.iaload, 1) := by decide +kernel
theorem dL_law_1206 : decode cL_law 1206 = .ok (.aload_n 0, 1) := by decide +kernel
theorem dL_law_1207 : decode cL_law 1207 = .ok (.iload_n 3, 1) := by decide +kernel
theorem dL_law_1208 : decode cL_law 1208 = .ok (.iconst 3, 1) := by decide +kernel
theorem dL_law_1209 : decode cL_law 1209 = .ok (.iadd, 1) := by decide +kernel
theorem dL_law_1210 : decode cL_law 1210 = .ok (.iaload, 1) := by decide +kernel
theorem dL_law_1211 : decode cL_law 1211 = .ok (.aload_n 0, 1) := by decide +kernel
theorem dL_law_1212 : decode cL_law 1212 = .ok (.iload_n 3, 1) := by decide +kernel
theorem dL_law_1213 : decode cL_law 1213 = .ok (.iconst 4, 1) := by decide +kernel
theorem dL_law_1214 : decode cL_law 1214 = .ok (.iadd, 1) := by decide +kernel
theorem dL_law_1215 : decode cL_law 1215 = .ok (.iaload, 1) := by decide +kernel
theorem dL_law_1216 : decode cL_law 1216 = .ok (.invokevirtual 134, 3) := by decide +kernel
theorem dL_law_1219 : decode cL_law 1219 = .ok (.pop, 1) := by decide +kernel
theorem dL_law_1220 : decode cL_law 1220 = .ok (.goto 457, 3) := by decide +kernel
theorem dL_law_1223 : decode cL_law 1223 = .ok (.aload_n 1, 1) := by decide +kernel
theorem dL_law_1224 : decode cL_law 1224 = .ok (.aload_n 0, 1) := by decide +kernel
theorem dL_law_1225 : decode cL_law 1225 = .ok (.iload_n 3, 1) := by decide +kernel
theorem dL_law_1226 : decode cL_law 1226 = .ok (.iconst 1, 1) := by decide +kernel
theorem dL_law_1227 : decode cL_law 1227 = .ok (.iadd, 1) := by decide +kernel
theorem dL_law_1228 : decode cL_law 1228 = .ok (.iaload, 1) := by decide +kernel
theorem dL_law_1229 : decode cL_law 1229 = .ok (.aload_n 0, 1) := by decide +kernel
theorem dL_law_1230 : decode cL_law 1230 = .ok (.iload_n 3, 1) := by decide +kernel
theorem dL_law_1231 : decode cL_law 1231 = .ok (.iconst 2, 1) := by decide +kernel
theorem dL_law_1232 : decode cL_law 1232 = .ok (.iadd, 1) := by decide +kernel
theorem dL_law_1233 : decode cL_law 1233 = .ok (.iaload, 1) := by decide +kernel
theorem dL_law_1234 : decode cL_law 1234 = .ok (.aload_n 0, 1) := by decide +kernel
theorem dL_law_1235 : decode cL_law 1235 = .ok (.iload_n 3, 1) := by decide +kernel
theorem dL_law_1236 : decode cL_law 1236 = .ok (.iconst 3, 1) := by decide +kernel
theorem dL_law_1237 : decode cL_law 1237 = .ok (.iadd, 1) := by decide +kernel
theorem dL_law_1238 : decode cL_law 1238 = .ok (.iaload, 1) := by decide +kernel
theorem dL_law_1239 : decode cL_law 1239 = .ok (.invokevirtual 135, 3) := by decide +kernel
theorem dL_law_1242 : decode cL_law 1242 = .ok (.pop, 1) := by decide +kernel
theorem dL_law_1243 : decode cL_law 1243 = .ok (.aload_n 2, 1) := by decide +kernel
theorem dL_law_1244 : decode cL_law 1244 = .ok (.aload_n 0, 1) := by decide +kernel
theorem dL_law_1245 : decode cL_law 1245 = .ok (.iload_n 3, 1) := by decide +kernel
theorem dL_law_1246 : decode cL_law 1246 = .ok (.iconst 1, 1) := by decide +kernel
theorem dL_law_1247 : decode cL_law 1247 = .ok (.iadd, 1) := by decide +kernel
theorem dL_law_1248 : decode cL_law 1248 = .ok (.iaload, 1) := by decide +kernel
theorem dL_law_1249 : decode cL_law 1249 = .ok (.aload_n 0, 1) := by decide +kernel
theorem dL_law_1250 : decode cL_law 1250 = .ok (.iload_n 3, 1) := by decide +kernel
theorem dL_law_1251 : decode cL_law 1251 = .ok (.iconst 2, 1) := by decide +kernel
theorem dL_law_1252 : decode cL_law 1252 = .ok (.iadd, 1) := by decide +kernel
theorem dL_law_1253 : decode cL_law 1253 = .ok (.iaload, 1) := by decide +kernel
theorem dL_law_1254 : decode cL_law 1254 = .ok (.aload_n 0, 1) := by decide +kernel
theorem dL_law_1255 : decode cL_law 1255 = .ok (.iload_n 3, 1) := by decide +kernel
theorem dL_law_1256 : decode cL_law 1256 = .ok (.iconst 3, 1) := by decide +kernel
theorem dL_law_1257 : decode cL_law 1257 = .ok (.iadd, 1) := by decide +kernel
theorem dL_law_1258 : decode cL_law 1258 = .ok (.iaload, 1) := by decide +kernel
theorem dL_law_1259 : decode cL_law 1259 = .ok (.invokevirtual 138, 3) := by decide +kernel
theorem dL_law_1262 : decode cL_law 1262 = .ok (.pop, 1) := by decide +kernel
theorem dL_law_1263 : decode cL_law 1263 = .ok (.goto 414, 3) := by decide +kernel
theorem dL_law_1266 : decode cL_law 1266 = .ok (.aload_n 1, 1) := by decide +kernel
theorem dL_law_1267 : decode cL_law 1267 = .ok (.aload_n 0, 1) := by decide +kernel
theorem dL_law_1268 : decode cL_law 1268 = .ok (.iload_n 3, 1) := by decide +kernel
theorem dL_law_1269 : decode cL_law 1269 = .ok (.iconst 1, 1) := by decide +kernel
theorem dL_law_1270 : decode cL_law 1270 = .ok (.iadd, 1) := by decide +kernel
theorem dL_law_1271 : decode cL_law 1271 = .ok (.iaload, 1) := by decide +kernel
theorem dL_law_1272 : decode cL_law 1272 = .ok (.aload_n 0, 1) := by decide +kernel
theorem dL_law_1273 : decode cL_law 1273 = .ok (.iload_n 3, 1) := by decide +kernel
theorem dL_law_1274 : decode cL_law 1274 = .ok (.iconst 2, 1) := by decide +kernel
theorem dL_law_1275 : decode cL_law 1275 = .ok (.iadd, 1) := by decide +kernel
theorem dL_law_1276 : decode cL_law 1276 = .ok (.iaload, 1) := by decide +kernel
theorem dL_law_1277 : decode cL_law 1277 = .ok (.invokevirtual 139, 3) := by decide +kernel
theorem dL_law_1280 : decode cL_law 1280 = .ok (.pop, 1) := by decide +kernel
theorem dL_law_1281 : decode cL_law 1281 = .ok (.aload_n 2, 1) := by decide +kernel
theorem dL_law_1282 : decode cL_law 1282 = .ok (.aload_n 0, 1) := by decide +kernel
theorem dL_law_1283 : decode cL_law 1283 = .ok (.iload_n 3, 1) := by decide +kernel
theorem dL_law_1284 : decode cL_law 1284 = .ok (.iconst 1, 1) := by decide +kernel
theorem dL_law_1285 : decode cL_law 1285 = .ok (.iadd, 1) := by decide +kernel
theorem dL_law_1286 : decode cL_law 1286 = .ok (.iaload, 1) := by decide +kernel
theorem dL_law_1287 : decode cL_law 1287 = .ok (.aload_n 0, 1) := by decide +kernel
theorem dL_law_1288 : decode cL_law 1288 = .ok (.iload_n 3, 1) := by decide +kernel
theorem dL_law_1289 : decode cL_law 1289 = .ok (.iconst 2, 1) := by decide +kernel
theorem dL_law_1290 : decode cL_law 1290 = .ok (.iadd, 1) := by decide +kernel
theorem dL_law_1291 : decode cL_law 1291 = .ok (.iaload, 1) := by decide +kernel
theorem dL_law_1292 : decode cL_law 1292 = .ok (.invokevirtual 142, 3) := by decide +kernel
theorem dL_law_1295 : decode cL_law 1295 = .ok (.pop, 1) := by decide +kernel
theorem dL_law_1296 : decode cL_law 1296 = .ok (.goto 381, 3) := by decide +kernel
theorem dL_law_1299 : decode cL_law 1299 = .ok (.aload_n 1, 1) := by decide +kernel
theorem dL_law_1300 : decode cL_law 1300 = .ok (.aload_n 0, 1) := by decide +kernel
theorem dL_law_1301 : decode cL_law 1301 = .ok (.iload_n 3, 1) := by decide +kernel
theorem dL_law_1302 : decode cL_law 1302 = .ok (.iconst 1, 1) := by decide +kernel
theorem dL_law_1303 : decode cL_law 1303 = .ok (.iadd, 1) := by decide +kernel
theorem dL_law_1304 : decode cL_law 1304 = .ok (.iaload, 1) := by decide +kernel
theorem dL_law_1305 : decode cL_law 1305 = .ok (.aload_n 0, 1) := by decide +kernel
theorem dL_law_1306 : decode cL_law 1306 = .ok (.iload_n 3, 1) := by decide +kernel
theorem dL_law_1307 : decode cL_law 1307 = .ok (.iconst 2, 1) := by decide +kernel
theorem dL_law_1308 : decode cL_law 1308 = .ok (.iadd, 1) := by decide +kernel
theorem dL_law_1309 : decode cL_law 1309 = .ok (.iaload, 1) := by decide +kernel
theorem dL_law_1310 : decode cL_law 1310 = .ok (.invokevirtual 143, 3) := by decide +kernel
theorem dL_law_1313 : decode cL_law 1313 = .ok (.pop, 1) := by decide +kernel
theorem dL_law_1314 : decode cL_law 1314 = .ok (.aload_n 2, 1) := by decide +kernel
theorem dL_law_1315 : decode cL_law 1315 = .ok (.aload_n 0, 1) := by decide +kernel
theorem dL_law_1316 : decode cL_law 1316 = .ok (.iload_n 3, 1) := by decide +kernel
theorem dL_law_1317 : decode cL_law 1317 = .ok (.iconst 1, 1) := by decide +kernel
theorem dL_law_1318 : decode cL_law 1318 = .ok (.iadd, 1) := by decide +kernel
theorem dL_law_1319 : decode cL_law 1319 = .ok (.iaload, 1) := by decide +kernel
theorem dL_law_1320 : decode cL_law 1320 = .ok (.aload_n 0, 1) := by decide +kernel
theorem dL_law_1321 : decode cL_law 1321 = .ok (.iload_n 3, 1) := by decide +kernel
theorem dL_law_1322 : decode cL_law 1322 = .ok (.iconst 2, 1) := by decide +kernel
theorem dL_law_1323 : decode cL_law 1323 = .ok (.iadd, 1) := by decide +kernel
theorem dL_law_1324 : decode cL_law 1324 = .ok (.iaload, 1) := by decide +kernel
theorem dL_law_1325 : decode cL_law 1325 = .ok (.invokevirtual 146, 3) := by decide +kernel
theorem dL_law_1328 : decode cL_law 1328 = .ok (.pop, 1) := by decide +kernel
theorem dL_law_1329 : decode cL_law 1329 = .ok (.goto 348, 3) := by decide +kernel
set_option maxHeartbeats 4000000 in
set_option maxRecDepth 100000 in
theorem law_case_16 (l : Launch) (G : va_G) (cI cJ cZ cD cR cT : ClassId) (σ : SE) (x k b Ls : Nat) (xs : Nat → Int32) (p : Program) (e : Env) (s : State) (m : MethodId) (below : List Frame) (meth : Method) (c : Code) (A : Nat → Prop) (Q : State → Prop) (i : Int32) (E : EV G cI cJ cZ cD cR cT A cL_law ret 4 RL p s m ([.ref b] : List Value).toArray meth c) (hSX : SX σ A s s.heap) (hCA : CA s) (hX : va_X b Ls xs s s.heap) (hbl : b < s.heap.size) (hbA : ¬ A b) (hi : 0 ≤ i.toInt ∧ i.toInt + 6 ≤ (Ls : Int) ∧ Ls ≤ 3072) (cells slots : Nat) (hc : cells + 8 ≤ room_1.cells) (hs : slots + 2810 ≤ room_1.slots) (kp : Nat → Nat) (L : List Nat) (f : Nat → va_E) (S : State) (ls : Array Slot) (H : Heap) (locs : List Loc) (hI : LWS G cI cJ cZ cD cR cT A kp L f x k s S H locs) (hl : lv_has ls 4 [(3, .int i), (2, .ref k), (1, .ref x), (0, .ref b)])
  (hend : ∀ (kp : Nat → Nat) (L : List Nat) (f : Nat → va_E) (S : State) (ls : Array Slot) (H : Heap) (locs : List Loc), LWS G cI cJ cZ cD cR cT A kp L f x k s S H locs → lv_has ls 4 [(3, .int i), (2, .ref k), (1, .ref x), (0, .ref b)] → W p l e room_1 S m ([.ref b] : List Value).toArray below meth c H locs (cells + 8) (slots + 2810) Q (F0 m 1677 ls [])) : W p l e room_1 S m ([.ref b] : List Value).toArray below meth c H locs cells slots Q (F0 m 784 ls []) := by
  obtain ⟨hdr, hW, rx, rk, hT⟩ := hI
  have hq := hs_S hdr
  have ES := ev_S E hdr
  have hXS := xx_S hdr hX
  have hTH := hW.2.2.2
  obtain ⟨hx, hb, -, hml, hown, hts, -, -, -⟩ := id ES
  refine lv_aload_n hx hb dL_law_784 rfl (lv_at hl 2 rfl) ?_
  refine law_arg (k := 1) hx hb hl hXS (by rw [hq]; exact hbl) hbA hW.2.2.1 hi rfl (by decide) dL_law_785 dL_law_786 dL_law_787 dL_law_788 dL_law_789 ?_
  refine t_callVSC (As := [.int (ag xs i 1)]) (rest := []) ES (sx_S hdr hSX) (ca_S hdr hCA) hW (c_X11_text l G cI cJ cZ cD cR cT kp L f hW.2.2.2 _ σ x (ag xs i 1) rx) rx (by decide) rfl wk_X11_text tw_859 rfl ⟨Nat.le_of_ble_eq_true rfl, Nat.le_of_ble_eq_true rfl⟩ ⟨rfl, rfl⟩ hl.1 rfl (Nat.le_of_ble_eq_true rfl) dL_law_790 ⟨by omega, by omega⟩ (fun v kp1 L1 f1 H locs hE q hW1 => ?_)
  obtain ⟨⟨r1, rfl⟩, g1⟩ := q
  have hT1 := txi_fm hTH hT g1 rk rfl rfl rfl rfl
  have rx := hE _ _ rx
  have rk := hE _ _ rk
  refine lv_pop hx hb dL_law_793 rfl ?_
  have hW := hW1
  refine lv_aload_n hx hb dL_law_794 rfl (lv_at hl 1 rfl) ?_
  refine law_arg (k := 1) hx hb hl hXS (by rw [hq]; exact hbl) hbA hW.2.2.1 hi rfl (by decide) dL_law_795 dL_law_796 dL_law_797 dL_law_798 dL_law_799 ?_
  refine t_callV (As := [.int (ag xs i 1)]) (rest := []) ES hW1 (c_X12_text l G cI cJ cZ cD cR cT kp1 L1 f1 hW1.2.2.2 _ k (ag xs i 1) rk hT1.1) rk (by decide) rfl wk_X12_text tw_1761 rfl ⟨Nat.le_of_ble_eq_true rfl, Nat.le_of_ble_eq_true rfl⟩ ⟨rfl, rfl⟩ hl.1 rfl (Nat.le_of_ble_eq_true rfl) dL_law_800 ⟨by omega, by omega⟩ (fun v f2 H locs q hW2 => ?_)
  obtain ⟨⟨r2, rfl, -⟩, g2, hY, -⟩ := q
  have hT2 := txi_tx hW1.2.2.2 hT1 g2 rk rfl rfl rfl hY
  refine lv_pop hx hb dL_law_803 rfl ?_
  refine lv_goto (tgt := 1677) hx hb dL_law_804 (by decide) ?_
  refine W.more (c2 := cells + 8) (s2 := slots + 2810) (by omega) (by omega) ?_
  exact hend kp1 L1 f2 S ls H locs ⟨hdr, hW2, rx, rk, hT2⟩ hl
set_option maxHeartbeats 4000000 in
set_option maxRecDepth 100000 in
theorem law_case_17 (l : Launch) (G : va_G) (cI cJ cZ cD cR cT : ClassId) (σ : SE) (x k b Ls : Nat) (xs : Nat → Int32) (p : Program) (e : Env) (s : State) (m : MethodId) (below : List Frame) (meth : Method) (c : Code) (A : Nat → Prop) (Q : State → Prop) (i : Int32) (E : EV G cI cJ cZ cD cR cT A cL_law ret 4 RL p s m ([.ref b] : List Value).toArray meth c) (hSX : SX σ A s s.heap) (hCA : CA s) (hX : va_X b Ls xs s s.heap) (hbl : b < s.heap.size) (hbA : ¬ A b) (hi : 0 ≤ i.toInt ∧ i.toInt + 6 ≤ (Ls : Int) ∧ Ls ≤ 3072) (cells slots : Nat) (hc : cells + 8 ≤ room_1.cells) (hs : slots + 2810 ≤ room_1.slots) (kp : Nat → Nat) (L : List Nat) (f : Nat → va_E) (S : State) (ls : Array Slot) (H : Heap) (locs : List Loc) (hI : LWS G cI cJ cZ cD cR cT A kp L f x k s S H locs) (hl : lv_has ls 4 [(3, .int i), (2, .ref k), (1, .ref x), (0, .ref b)])
  (hend : ∀ (kp : Nat → Nat) (L : List Nat) (f : Nat → va_E) (S : State) (ls : Array Slot) (H : Heap) (locs : List Loc), LWS G cI cJ cZ cD cR cT A kp L f x k s S H locs → lv_has ls 4 [(3, .int i), (2, .ref k), (1, .ref x), (0, .ref b)] → W p l e room_1 S m ([.ref b] : List Value).toArray below meth c H locs (cells + 8) (slots + 2810) Q (F0 m 1677 ls [])) : W p l e room_1 S m ([.ref b] : List Value).toArray below meth c H locs cells slots Q (F0 m 807 ls []) := by
  obtain ⟨hdr, hW, rx, rk, hT⟩ := hI
  have hq := hs_S hdr
  have ES := ev_S E hdr
  have hXS := xx_S hdr hX
  have hTH := hW.2.2.2
  obtain ⟨hx, hb, -, hml, hown, hts, -, -, -⟩ := id ES
  refine lv_aload_n hx hb dL_law_807 rfl (lv_at hl 2 rfl) ?_
  refine t_callV (As := []) (rest := []) ES hW (c_X11_fault l G cI cJ cZ cD cR cT kp L f hW.2.2.2 _ x  rx) rx (by decide) rfl wk_X11_fault tw_1054 rfl ⟨Nat.le_of_ble_eq_true rfl, Nat.le_of_ble_eq_true rfl⟩ ⟨rfl, rfl⟩ hl.1 rfl (Nat.le_of_ble_eq_true rfl) dL_law_808 ⟨by omega, by omega⟩ (fun v f1 H locs q hW1 => ?_)
  obtain ⟨⟨r1, rfl, p1⟩, g1⟩ := q
  have hT1 := txi_fm hTH hT g1 rk rfl rfl rfl rfl
  refine lv_pop hx hb dL_law_811 rfl ?_
  have hW := hW1
  refine lv_aload_n hx hb dL_law_812 rfl (lv_at hl 1 rfl) ?_
  refine t_callV (As := []) (rest := []) ES hW1 (c_X12_fault l G cI cJ cZ cD cR cT kp L f1 hW1.2.2.2 _ k  rk) rk (by decide) rfl wk_X12_fault tw_1757 rfl ⟨Nat.le_of_ble_eq_true rfl, Nat.le_of_ble_eq_true rfl⟩ ⟨rfl, rfl⟩ hl.1 rfl (Nat.le_of_ble_eq_true rfl) dL_law_813 ⟨by omega, by omega⟩ (fun v f2 H locs q hW2 => ?_)
  obtain ⟨⟨r2, rfl, p2⟩, g2⟩ := q
  have hT2 := txi_fm hW1.2.2.2 hT1 g2 rk rfl rfl rfl rfl
  refine lv_pop hx hb dL_law_816 rfl ?_
  refine lv_goto (tgt := 1677) hx hb dL_law_817 (by decide) ?_
  refine W.more (c2 := cells + 8) (s2 := slots + 2810) (by omega) (by omega) ?_
  exact hend kp L f2 S ls H locs ⟨hdr, hW2, rx, rk, hT2⟩ hl
set_option maxHeartbeats 4000000 in
set_option maxRecDepth 100000 in
theorem law_case_18 (l : Launch) (G : va_G) (cI cJ cZ cD cR cT : ClassId) (σ : SE) (x k b Ls : Nat) (xs : Nat → Int32) (p : Program) (e : Env) (s : State) (m : MethodId) (below : List Frame) (meth : Method) (c : Code) (A : Nat → Prop) (Q : State → Prop) (i : Int32) (E : EV G cI cJ cZ cD cR cT A cL_law ret 4 RL p s m ([.ref b] : List Value).toArray meth c) (hSX : SX σ A s s.heap) (hCA : CA s) (hX : va_X b Ls xs s s.heap) (hbl : b < s.heap.size) (hbA : ¬ A b) (hi : 0 ≤ i.toInt ∧ i.toInt + 6 ≤ (Ls : Int) ∧ Ls ≤ 3072) (cells slots : Nat) (hc : cells + 8 ≤ room_1.cells) (hs : slots + 2810 ≤ room_1.slots) (kp : Nat → Nat) (L : List Nat) (f : Nat → va_E) (S : State) (ls : Array Slot) (H : Heap) (locs : List Loc) (hI : LWS G cI cJ cZ cD cR cT A kp L f x k s S H locs) (hl : lv_has ls 4 [(3, .int i), (2, .ref k), (1, .ref x), (0, .ref b)])
  (hend : ∀ (kp : Nat → Nat) (L : List Nat) (f : Nat → va_E) (S : State) (ls : Array Slot) (H : Heap) (locs : List Loc), LWS G cI cJ cZ cD cR cT A kp L f x k s S H locs → lv_has ls 4 [(3, .int i), (2, .ref k), (1, .ref x), (0, .ref b)] → W p l e room_1 S m ([.ref b] : List Value).toArray below meth c H locs (cells + 8) (slots + 2810) Q (F0 m 1677 ls [])) : W p l e room_1 S m ([.ref b] : List Value).toArray below meth c H locs cells slots Q (F0 m 820 ls []) := by
  obtain ⟨hdr, hW, rx, rk, hT⟩ := hI
  have hq := hs_S hdr
  have ES := ev_S E hdr
  have hXS := xx_S hdr hX
  have hTH := hW.2.2.2
  obtain ⟨hx, hb, -, hml, hown, hts, -, -, -⟩ := id ES
  refine lv_aload_n hx hb dL_law_820 rfl (lv_at hl 2 rfl) ?_
  refine law_arg (k := 1) hx hb hl hXS (by rw [hq]; exact hbl) hbA hW.2.2.1 hi rfl (by decide) dL_law_821 dL_law_822 dL_law_823 dL_law_824 dL_law_825 ?_
  refine law_arg (k := 2) hx hb hl hXS (by rw [hq]; exact hbl) hbA hW.2.2.1 hi rfl (by decide) dL_law_826 dL_law_827 dL_law_828 dL_law_829 dL_law_830 ?_
  refine law_arg (k := 3) hx hb hl hXS (by rw [hq]; exact hbl) hbA hW.2.2.1 hi rfl (by decide) dL_law_831 dL_law_832 dL_law_833 dL_law_834 dL_law_835 ?_
  refine t_callV (As := [.int (ag xs i 1), .int (ag xs i 2), .int (ag xs i 3)]) (rest := []) ES hW (c_X11_force l G cI cJ cZ cD cR cT kp L f hW.2.2.2 _ x (ag xs i 1) (ag xs i 2) (ag xs i 3) rx) rx (by decide) rfl wk_X11_force tw_1058 rfl ⟨Nat.le_of_ble_eq_true rfl, Nat.le_of_ble_eq_true rfl⟩ ⟨rfl, rfl⟩ hl.1 rfl (Nat.le_of_ble_eq_true rfl) dL_law_836 ⟨by omega, by omega⟩ (fun v f1 H locs q hW1 => ?_)
  obtain ⟨⟨r1, rfl, p1⟩, g1⟩ := q
  have hT1 := txi_fm hTH hT g1 rk rfl rfl rfl rfl
  refine lv_pop hx hb dL_law_839 rfl ?_
  have hW := hW1
  refine lv_aload_n hx hb dL_law_840 rfl (lv_at hl 1 rfl) ?_
  refine law_arg (k := 1) hx hb hl hXS (by rw [hq]; exact hbl) hbA hW.2.2.1 hi rfl (by decide) dL_law_841 dL_law_842 dL_law_843 dL_law_844 dL_law_845 ?_
  refine law_arg (k := 2) hx hb hl hXS (by rw [hq]; exact hbl) hbA hW.2.2.1 hi rfl (by decide) dL_law_846 dL_law_847 dL_law_848 dL_law_849 dL_law_850 ?_
  refine law_arg (k := 3) hx hb hl hXS (by rw [hq]; exact hbl) hbA hW.2.2.1 hi rfl (by decide) dL_law_851 dL_law_852 dL_law_853 dL_law_854 dL_law_855 ?_
  refine t_callV (As := [.int (ag xs i 1), .int (ag xs i 2), .int (ag xs i 3)]) (rest := []) ES hW1 (c_X12_force l G cI cJ cZ cD cR cT kp L f1 hW1.2.2.2 _ k (ag xs i 1) (ag xs i 2) (ag xs i 3) rk hT1.1) rk (by decide) rfl wk_X12_force tw_1905 rfl ⟨Nat.le_of_ble_eq_true rfl, Nat.le_of_ble_eq_true rfl⟩ ⟨rfl, rfl⟩ hl.1 rfl (Nat.le_of_ble_eq_true rfl) dL_law_856 ⟨by omega, by omega⟩ (fun v f2 H locs q hW2 => ?_)
  obtain ⟨⟨r2, rfl, p2⟩, g2⟩ := q
  have hT2 := txi_fm hW1.2.2.2 hT1 g2 rk rfl rfl rfl rfl
  refine lv_pop hx hb dL_law_859 rfl ?_
  refine lv_goto (tgt := 1677) hx hb dL_law_860 (by decide) ?_
  refine W.more (c2 := cells + 8) (s2 := slots + 2810) (by omega) (by omega) ?_
  exact hend kp L f2 S ls H locs ⟨hdr, hW2, rx, rk, hT2⟩ hl
set_option maxHeartbeats 4000000 in
set_option maxRecDepth 100000 in
theorem law_case_19 (l : Launch) (G : va_G) (cI cJ cZ cD cR cT : ClassId) (σ : SE) (x k b Ls : Nat) (xs : Nat → Int32) (p : Program) (e : Env) (s : State) (m : MethodId) (below : List Frame) (meth : Method) (c : Code) (A : Nat → Prop) (Q : State → Prop) (i : Int32) (E : EV G cI cJ cZ cD cR cT A cL_law ret 4 RL p s m ([.ref b] : List Value).toArray meth c) (hSX : SX σ A s s.heap) (hCA : CA s) (hX : va_X b Ls xs s s.heap) (hbl : b < s.heap.size) (hbA : ¬ A b) (hi : 0 ≤ i.toInt ∧ i.toInt + 6 ≤ (Ls : Int) ∧ Ls ≤ 3072) (cells slots : Nat) (hc : cells + 8 ≤ room_1.cells) (hs : slots + 2810 ≤ room_1.slots) (kp : Nat → Nat) (L : List Nat) (f : Nat → va_E) (S : State) (ls : Array Slot) (H : Heap) (locs : List Loc) (hI : LWS G cI cJ cZ cD cR cT A kp L f x k s S H locs) (hl : lv_has ls 4 [(3, .int i), (2, .ref k), (1, .ref x), (0, .ref b)])
  (hend : ∀ (kp : Nat → Nat) (L : List Nat) (f : Nat → va_E) (S : State) (ls : Array Slot) (H : Heap) (locs : List Loc), LWS G cI cJ cZ cD cR cT A kp L f x k s S H locs → lv_has ls 4 [(3, .int i), (2, .ref k), (1, .ref x), (0, .ref b)] → W p l e room_1 S m ([.ref b] : List Value).toArray below meth c H locs (cells + 8) (slots + 2810) Q (F0 m 1677 ls [])) : W p l e room_1 S m ([.ref b] : List Value).toArray below meth c H locs cells slots Q (F0 m 863 ls []) := by
  obtain ⟨hdr, hW, rx, rk, hT⟩ := hI
  have hq := hs_S hdr
  have ES := ev_S E hdr
  have hXS := xx_S hdr hX
  have hTH := hW.2.2.2
  obtain ⟨hx, hb, -, hml, hown, hts, -, -, -⟩ := id ES
  refine lv_aload_n hx hb dL_law_863 rfl (lv_at hl 2 rfl) ?_
  refine law_arg (k := 1) hx hb hl hXS (by rw [hq]; exact hbl) hbA hW.2.2.1 hi rfl (by decide) dL_law_864 dL_law_865 dL_law_866 dL_law_867 dL_law_868 ?_
  refine law_arg (k := 2) hx hb hl hXS (by rw [hq]; exact hbl) hbA hW.2.2.1 hi rfl (by decide) dL_law_869 dL_law_870 dL_law_871 dL_law_872 dL_law_873 ?_
  refine law_arg (k := 3) hx hb hl hXS (by rw [hq]; exact hbl) hbA hW.2.2.1 hi rfl (by decide) dL_law_874 dL_law_875 dL_law_876 dL_law_877 dL_law_878 ?_
  refine law_arg (k := 4) hx hb hl hXS (by rw [hq]; exact hbl) hbA hW.2.2.1 hi rfl (by decide) dL_law_879 dL_law_880 dL_law_881 dL_law_882 dL_law_883 ?_
  refine t_callV (As := [.int (ag xs i 1), .int (ag xs i 2), .int (ag xs i 3), .int (ag xs i 4)]) (rest := []) ES hW (c_X11_holds l G cI cJ cZ cD cR cT kp L f hW.2.2.2 _ x (ag xs i 1) (ag xs i 2) (ag xs i 3) (ag xs i 4) rx) rx (by decide) rfl wk_X11_holds tw_1068 rfl ⟨Nat.le_of_ble_eq_true rfl, Nat.le_of_ble_eq_true rfl⟩ ⟨rfl, rfl⟩ hl.1 rfl (Nat.le_of_ble_eq_true rfl) dL_law_884 ⟨by omega, by omega⟩ (fun v f1 H locs q hW1 => ?_)
  obtain ⟨⟨r1, rfl, p1⟩, g1⟩ := q
  have hT1 := txi_fm hTH hT g1 rk rfl rfl rfl rfl
  refine lv_pop hx hb dL_law_887 rfl ?_
  have hW := hW1
  refine lv_aload_n hx hb dL_law_888 rfl (lv_at hl 1 rfl) ?_
  refine law_arg (k := 1) hx hb hl hXS (by rw [hq]; exact hbl) hbA hW.2.2.1 hi rfl (by decide) dL_law_889 dL_law_890 dL_law_891 dL_law_892 dL_law_893 ?_
  refine law_arg (k := 2) hx hb hl hXS (by rw [hq]; exact hbl) hbA hW.2.2.1 hi rfl (by decide) dL_law_894 dL_law_895 dL_law_896 dL_law_897 dL_law_898 ?_
  refine law_arg (k := 3) hx hb hl hXS (by rw [hq]; exact hbl) hbA hW.2.2.1 hi rfl (by decide) dL_law_899 dL_law_900 dL_law_901 dL_law_902 dL_law_903 ?_
  refine law_arg (k := 4) hx hb hl hXS (by rw [hq]; exact hbl) hbA hW.2.2.1 hi rfl (by decide) dL_law_904 dL_law_905 dL_law_906 dL_law_907 dL_law_908 ?_
  refine t_callV (As := [.int (ag xs i 1), .int (ag xs i 2), .int (ag xs i 3), .int (ag xs i 4)]) (rest := []) ES hW1 (c_X12_holds l G cI cJ cZ cD cR cT kp L f1 hW1.2.2.2 _ k (ag xs i 1) (ag xs i 2) (ag xs i 3) (ag xs i 4) rk hT1.1) rk (by decide) rfl wk_X12_holds tw_1909 rfl ⟨Nat.le_of_ble_eq_true rfl, Nat.le_of_ble_eq_true rfl⟩ ⟨rfl, rfl⟩ hl.1 rfl (Nat.le_of_ble_eq_true rfl) dL_law_909 ⟨by omega, by omega⟩ (fun v f2 H locs q hW2 => ?_)
  obtain ⟨⟨r2, rfl, p2⟩, g2⟩ := q
  have hT2 := txi_fm hW1.2.2.2 hT1 g2 rk rfl rfl rfl rfl
  refine lv_pop hx hb dL_law_912 rfl ?_
  refine lv_goto (tgt := 1677) hx hb dL_law_913 (by decide) ?_
  refine W.more (c2 := cells + 8) (s2 := slots + 2810) (by omega) (by omega) ?_
  exact hend kp L f2 S ls H locs ⟨hdr, hW2, rx, rk, hT2⟩ hl
set_option maxHeartbeats 4000000 in
set_option maxRecDepth 100000 in
theorem law_case_20 (l : Launch) (G : va_G) (cI cJ cZ cD cR cT : ClassId) (σ : SE) (x k b Ls : Nat) (xs : Nat → Int32) (p : Program) (e : Env) (s : State) (m : MethodId) (below : List Frame) (meth : Method) (c : Code) (A : Nat → Prop) (Q : State → Prop) (i : Int32) (E : EV G cI cJ cZ cD cR cT A cL_law ret 4 RL p s m ([.ref b] : List Value).toArray meth c) (hSX : SX σ A s s.heap) (hCA : CA s) (hX : va_X b Ls xs s s.heap) (hbl : b < s.heap.size) (hbA : ¬ A b) (hi : 0 ≤ i.toInt ∧ i.toInt + 6 ≤ (Ls : Int) ∧ Ls ≤ 3072) (cells slots : Nat) (hc : cells + 8 ≤ room_1.cells) (hs : slots + 2810 ≤ room_1.slots) (kp : Nat → Nat) (L : List Nat) (f : Nat → va_E) (S : State) (ls : Array Slot) (H : Heap) (locs : List Loc) (hI : LWS G cI cJ cZ cD cR cT A kp L f x k s S H locs) (hl : lv_has ls 4 [(3, .int i), (2, .ref k), (1, .ref x), (0, .ref b)])
  (hend : ∀ (kp : Nat → Nat) (L : List Nat) (f : Nat → va_E) (S : State) (ls : Array Slot) (H : Heap) (locs : List Loc), LWS G cI cJ cZ cD cR cT A kp L f x k s S H locs → lv_has ls 4 [(3, .int i), (2, .ref k), (1, .ref x), (0, .ref b)] → W p l e room_1 S m ([.ref b] : List Value).toArray below meth c H locs (cells + 8) (slots + 2810) Q (F0 m 1677 ls [])) : W p l e room_1 S m ([.ref b] : List Value).toArray below meth c H locs cells slots Q (F0 m 916 ls []) := by
  obtain ⟨hdr, hW, rx, rk, hT⟩ := hI
  have hq := hs_S hdr
  have ES := ev_S E hdr
  have hXS := xx_S hdr hX
  have hTH := hW.2.2.2
  obtain ⟨hx, hb, -, hml, hown, hts, -, -, -⟩ := id ES
  refine lv_aload_n hx hb dL_law_916 rfl (lv_at hl 2 rfl) ?_
  refine law_arg (k := 1) hx hb hl hXS (by rw [hq]; exact hbl) hbA hW.2.2.1 hi rfl (by decide) dL_law_917 dL_law_918 dL_law_919 dL_law_920 dL_law_921 ?_
  refine t_callV (As := [.int (ag xs i 1)]) (rest := []) ES hW (c_X11_writ l G cI cJ cZ cD cR cT kp L f hW.2.2.2 _ x (ag xs i 1) rx) rx (by decide) rfl wk_X11_writ tw_1076 rfl ⟨Nat.le_of_ble_eq_true rfl, Nat.le_of_ble_eq_true rfl⟩ ⟨rfl, rfl⟩ hl.1 rfl (Nat.le_of_ble_eq_true rfl) dL_law_922 ⟨by omega, by omega⟩ (fun v f1 H locs q hW1 => ?_)
  obtain ⟨⟨r1, rfl, p1⟩, g1⟩ := q
  have hT1 := txi_fm hTH hT g1 rk rfl rfl rfl rfl
  refine lv_pop hx hb dL_law_925 rfl ?_
  have hW := hW1
  refine lv_aload_n hx hb dL_law_926 rfl (lv_at hl 1 rfl) ?_
  refine law_arg (k := 1) hx hb hl hXS (by rw [hq]; exact hbl) hbA hW.2.2.1 hi rfl (by decide) dL_law_927 dL_law_928 dL_law_929 dL_law_930 dL_law_931 ?_
  refine t_callV (As := [.int (ag xs i 1)]) (rest := []) ES hW1 (c_X12_writ l G cI cJ cZ cD cR cT kp L f1 hW1.2.2.2 _ k (ag xs i 1) rk hT1.1) rk (by decide) rfl wk_X12_writ tw_1950 rfl ⟨Nat.le_of_ble_eq_true rfl, Nat.le_of_ble_eq_true rfl⟩ ⟨rfl, rfl⟩ hl.1 rfl (Nat.le_of_ble_eq_true rfl) dL_law_932 ⟨by omega, by omega⟩ (fun v f2 H locs q hW2 => ?_)
  obtain ⟨⟨r2, rfl, p2⟩, g2, hR⟩ := q
  have hT2 := txi_rf hW1.2.2.2 hT1 g2 rk rfl rfl rfl hR (by decide) (by decide)
  refine lv_pop hx hb dL_law_935 rfl ?_
  refine lv_goto (tgt := 1677) hx hb dL_law_936 (by decide) ?_
  refine W.more (c2 := cells + 8) (s2 := slots + 2810) (by omega) (by omega) ?_
  exact hend kp L f2 S ls H locs ⟨hdr, hW2, rx, rk, hT2⟩ hl
set_option maxHeartbeats 4000000 in
set_option maxRecDepth 100000 in
theorem law_case_21 (l : Launch) (G : va_G) (cI cJ cZ cD cR cT : ClassId) (σ : SE) (x k b Ls : Nat) (xs : Nat → Int32) (p : Program) (e : Env) (s : State) (m : MethodId) (below : List Frame) (meth : Method) (c : Code) (A : Nat → Prop) (Q : State → Prop) (i : Int32) (E : EV G cI cJ cZ cD cR cT A cL_law ret 4 RL p s m ([.ref b] : List Value).toArray meth c) (hSX : SX σ A s s.heap) (hCA : CA s) (hX : va_X b Ls xs s s.heap) (hbl : b < s.heap.size) (hbA : ¬ A b) (hi : 0 ≤ i.toInt ∧ i.toInt + 6 ≤ (Ls : Int) ∧ Ls ≤ 3072) (cells slots : Nat) (hc : cells + 8 ≤ room_1.cells) (hs : slots + 2810 ≤ room_1.slots) (kp : Nat → Nat) (L : List Nat) (f : Nat → va_E) (S : State) (ls : Array Slot) (H : Heap) (locs : List Loc) (hI : LWS G cI cJ cZ cD cR cT A kp L f x k s S H locs) (hl : lv_has ls 4 [(3, .int i), (2, .ref k), (1, .ref x), (0, .ref b)])
  (hend : ∀ (kp : Nat → Nat) (L : List Nat) (f : Nat → va_E) (S : State) (ls : Array Slot) (H : Heap) (locs : List Loc), LWS G cI cJ cZ cD cR cT A kp L f x k s S H locs → lv_has ls 4 [(3, .int i), (2, .ref k), (1, .ref x), (0, .ref b)] → W p l e room_1 S m ([.ref b] : List Value).toArray below meth c H locs (cells + 8) (slots + 2810) Q (F0 m 1677 ls [])) : W p l e room_1 S m ([.ref b] : List Value).toArray below meth c H locs cells slots Q (F0 m 939 ls []) := by
  obtain ⟨hdr, hW, rx, rk, hT⟩ := hI
  have hq := hs_S hdr
  have ES := ev_S E hdr
  have hXS := xx_S hdr hX
  have hTH := hW.2.2.2
  obtain ⟨hx, hb, -, hml, hown, hts, -, -, -⟩ := id ES
  refine lv_aload_n hx hb dL_law_939 rfl (lv_at hl 2 rfl) ?_
  refine law_arg (k := 1) hx hb hl hXS (by rw [hq]; exact hbl) hbA hW.2.2.1 hi rfl (by decide) dL_law_940 dL_law_941 dL_law_942 dL_law_943 dL_law_944 ?_
  refine t_callV (As := [.int (ag xs i 1)]) (rest := []) ES hW (c_X11_avoid l G cI cJ cZ cD cR cT kp L f hW.2.2.2 _ x (ag xs i 1) rx) rx (by decide) rfl wk_X11_avoid tw_1089 rfl ⟨Nat.le_of_ble_eq_true rfl, Nat.le_of_ble_eq_true rfl⟩ ⟨rfl, rfl⟩ hl.1 rfl (Nat.le_of_ble_eq_true rfl) dL_law_945 ⟨by omega, by omega⟩ (fun v f1 H locs q hW1 => ?_)
  obtain ⟨⟨r1, rfl, p1⟩, g1⟩ := q
  have hT1 := txi_fm hTH hT g1 rk rfl rfl rfl rfl
  refine lv_pop hx hb dL_law_948 rfl ?_
  have hW := hW1
  refine lv_aload_n hx hb dL_law_949 rfl (lv_at hl 1 rfl) ?_
  refine law_arg (k := 1) hx hb hl hXS (by rw [hq]; exact hbl) hbA hW.2.2.1 hi rfl (by decide) dL_law_950 dL_law_951 dL_law_952 dL_law_953 dL_law_954 ?_
  refine t_callV (As := [.int (ag xs i 1)]) (rest := []) ES hW1 (c_X12_avoid l G cI cJ cZ cD cR cT kp L f1 hW1.2.2.2 _ k (ag xs i 1) rk) rk (by decide) rfl wk_X12_avoid tw_1954 rfl ⟨Nat.le_of_ble_eq_true rfl, Nat.le_of_ble_eq_true rfl⟩ ⟨rfl, rfl⟩ hl.1 rfl (Nat.le_of_ble_eq_true rfl) dL_law_955 ⟨by omega, by omega⟩ (fun v f2 H locs q hW2 => ?_)
  obtain ⟨⟨r2, rfl, p2⟩, g2, hR⟩ := q
  have hT2 := txi_rf hW1.2.2.2 hT1 g2 rk rfl rfl rfl hR (by decide) (by decide)
  refine lv_pop hx hb dL_law_958 rfl ?_
  refine lv_goto (tgt := 1677) hx hb dL_law_959 (by decide) ?_
  refine W.more (c2 := cells + 8) (s2 := slots + 2810) (by omega) (by omega) ?_
  exact hend kp L f2 S ls H locs ⟨hdr, hW2, rx, rk, hT2⟩ hl
set_option maxHeartbeats 4000000 in
set_option maxRecDepth 100000 in
theorem law_case_22 (l : Launch) (G : va_G) (cI cJ cZ cD cR cT : ClassId) (σ : SE) (x k b Ls : Nat) (xs : Nat → Int32) (p : Program) (e : Env) (s : State) (m : MethodId) (below : List Frame) (meth : Method) (c : Code) (A : Nat → Prop) (Q : State → Prop) (i : Int32) (E : EV G cI cJ cZ cD cR cT A cL_law ret 4 RL p s m ([.ref b] : List Value).toArray meth c) (hSX : SX σ A s s.heap) (hCA : CA s) (hX : va_X b Ls xs s s.heap) (hbl : b < s.heap.size) (hbA : ¬ A b) (hi : 0 ≤ i.toInt ∧ i.toInt + 6 ≤ (Ls : Int) ∧ Ls ≤ 3072) (cells slots : Nat) (hc : cells + 8 ≤ room_1.cells) (hs : slots + 2810 ≤ room_1.slots) (kp : Nat → Nat) (L : List Nat) (f : Nat → va_E) (S : State) (ls : Array Slot) (H : Heap) (locs : List Loc) (hI : LWS G cI cJ cZ cD cR cT A kp L f x k s S H locs) (hl : lv_has ls 4 [(3, .int i), (2, .ref k), (1, .ref x), (0, .ref b)])
  (hend : ∀ (kp : Nat → Nat) (L : List Nat) (f : Nat → va_E) (S : State) (ls : Array Slot) (H : Heap) (locs : List Loc), LWS G cI cJ cZ cD cR cT A kp L f x k s S H locs → lv_has ls 4 [(3, .int i), (2, .ref k), (1, .ref x), (0, .ref b)] → W p l e room_1 S m ([.ref b] : List Value).toArray below meth c H locs (cells + 8) (slots + 2810) Q (F0 m 1677 ls [])) : W p l e room_1 S m ([.ref b] : List Value).toArray below meth c H locs cells slots Q (F0 m 962 ls []) := by
  obtain ⟨hdr, hW, rx, rk, hT⟩ := hI
  have hq := hs_S hdr
  have ES := ev_S E hdr
  have hXS := xx_S hdr hX
  have hTH := hW.2.2.2
  obtain ⟨hx, hb, -, hml, hown, hts, -, -, -⟩ := id ES
  refine lv_aload_n hx hb dL_law_962 rfl (lv_at hl 2 rfl) ?_
  refine law_arg (k := 1) hx hb hl hXS (by rw [hq]; exact hbl) hbA hW.2.2.1 hi rfl (by decide) dL_law_963 dL_law_964 dL_law_965 dL_law_966 dL_law_967 ?_
  refine law_arg (k := 2) hx hb hl hXS (by rw [hq]; exact hbl) hbA hW.2.2.1 hi rfl (by decide) dL_law_968 dL_law_969 dL_law_970 dL_law_971 dL_law_972 ?_
  refine law_arg (k := 3) hx hb hl hXS (by rw [hq]; exact hbl) hbA hW.2.2.1 hi rfl (by decide) dL_law_973 dL_law_974 dL_law_975 dL_law_976 dL_law_977 ?_
  refine t_callV (As := [.int (ag xs i 1), .int (ag xs i 2), .int (ag xs i 3)]) (rest := []) ES hW (c_X11_guard l G cI cJ cZ cD cR cT kp L f hW.2.2.2 _ x (ag xs i 1) (ag xs i 2) (ag xs i 3) rx) rx (by decide) rfl wk_X11_guard tw_1093 rfl ⟨Nat.le_of_ble_eq_true rfl, Nat.le_of_ble_eq_true rfl⟩ ⟨rfl, rfl⟩ hl.1 rfl (Nat.le_of_ble_eq_true rfl) dL_law_978 ⟨by omega, by omega⟩ (fun v f1 H locs q hW1 => ?_)
  obtain ⟨⟨r1, rfl, p1⟩, g1⟩ := q
  have hT1 := txi_fm hTH hT g1 rk rfl rfl rfl rfl
  refine lv_pop hx hb dL_law_981 rfl ?_
  have hW := hW1
  refine lv_aload_n hx hb dL_law_982 rfl (lv_at hl 1 rfl) ?_
  refine law_arg (k := 1) hx hb hl hXS (by rw [hq]; exact hbl) hbA hW.2.2.1 hi rfl (by decide) dL_law_983 dL_law_984 dL_law_985 dL_law_986 dL_law_987 ?_
  refine law_arg (k := 2) hx hb hl hXS (by rw [hq]; exact hbl) hbA hW.2.2.1 hi rfl (by decide) dL_law_988 dL_law_989 dL_law_990 dL_law_991 dL_law_992 ?_
  refine law_arg (k := 3) hx hb hl hXS (by rw [hq]; exact hbl) hbA hW.2.2.1 hi rfl (by decide) dL_law_993 dL_law_994 dL_law_995 dL_law_996 dL_law_997 ?_
  refine t_callV (As := [.int (ag xs i 1), .int (ag xs i 2), .int (ag xs i 3)]) (rest := []) ES hW1 (c_X12_guard l G cI cJ cZ cD cR cT kp L f1 hW1.2.2.2 _ k (ag xs i 1) (ag xs i 2) (ag xs i 3) rk) rk (by decide) rfl wk_X12_guard tw_1958 rfl ⟨Nat.le_of_ble_eq_true rfl, Nat.le_of_ble_eq_true rfl⟩ ⟨rfl, rfl⟩ hl.1 rfl (Nat.le_of_ble_eq_true rfl) dL_law_998 ⟨by omega, by omega⟩ (fun v f2 H locs q hW2 => ?_)
  obtain ⟨⟨r2, rfl, p2⟩, g2, hR⟩ := q
  have hT2 := txi_rf hW1.2.2.2 hT1 g2 rk rfl rfl rfl hR (by decide) (by decide)
  refine lv_pop hx hb dL_law_1001 rfl ?_
  refine lv_goto (tgt := 1677) hx hb dL_law_1002 (by decide) ?_
  refine W.more (c2 := cells + 8) (s2 := slots + 2810) (by omega) (by omega) ?_
  exact hend kp L f2 S ls H locs ⟨hdr, hW2, rx, rk, hT2⟩ hl
set_option maxHeartbeats 4000000 in
set_option maxRecDepth 100000 in
theorem law_case_23 (l : Launch) (G : va_G) (cI cJ cZ cD cR cT : ClassId) (σ : SE) (x k b Ls : Nat) (xs : Nat → Int32) (p : Program) (e : Env) (s : State) (m : MethodId) (below : List Frame) (meth : Method) (c : Code) (A : Nat → Prop) (Q : State → Prop) (i : Int32) (E : EV G cI cJ cZ cD cR cT A cL_law ret 4 RL p s m ([.ref b] : List Value).toArray meth c) (hSX : SX σ A s s.heap) (hCA : CA s) (hX : va_X b Ls xs s s.heap) (hbl : b < s.heap.size) (hbA : ¬ A b) (hi : 0 ≤ i.toInt ∧ i.toInt + 6 ≤ (Ls : Int) ∧ Ls ≤ 3072) (cells slots : Nat) (hc : cells + 8 ≤ room_1.cells) (hs : slots + 2810 ≤ room_1.slots) (kp : Nat → Nat) (L : List Nat) (f : Nat → va_E) (S : State) (ls : Array Slot) (H : Heap) (locs : List Loc) (hI : LWS G cI cJ cZ cD cR cT A kp L f x k s S H locs) (hl : lv_has ls 4 [(3, .int i), (2, .ref k), (1, .ref x), (0, .ref b)])
  (hend : ∀ (kp : Nat → Nat) (L : List Nat) (f : Nat → va_E) (S : State) (ls : Array Slot) (H : Heap) (locs : List Loc), LWS G cI cJ cZ cD cR cT A kp L f x k s S H locs → lv_has ls 4 [(3, .int i), (2, .ref k), (1, .ref x), (0, .ref b)] → W p l e room_1 S m ([.ref b] : List Value).toArray below meth c H locs (cells + 8) (slots + 2810) Q (F0 m 1677 ls [])) : W p l e room_1 S m ([.ref b] : List Value).toArray below meth c H locs cells slots Q (F0 m 1005 ls []) := by
  obtain ⟨hdr, hW, rx, rk, hT⟩ := hI
  have hq := hs_S hdr
  have ES := ev_S E hdr
  have hXS := xx_S hdr hX
  have hTH := hW.2.2.2
  obtain ⟨hx, hb, -, hml, hown, hts, -, -, -⟩ := id ES
  refine lv_aload_n hx hb dL_law_1005 rfl (lv_at hl 2 rfl) ?_
  refine law_arg (k := 1) hx hb hl hXS (by rw [hq]; exact hbl) hbA hW.2.2.1 hi rfl (by decide) dL_law_1006 dL_law_1007 dL_law_1008 dL_law_1009 dL_law_1010 ?_
  refine law_arg (k := 2) hx hb hl hXS (by rw [hq]; exact hbl) hbA hW.2.2.1 hi rfl (by decide) dL_law_1011 dL_law_1012 dL_law_1013 dL_law_1014 dL_law_1015 ?_
  refine law_arg (k := 3) hx hb hl hXS (by rw [hq]; exact hbl) hbA hW.2.2.1 hi rfl (by decide) dL_law_1016 dL_law_1017 dL_law_1018 dL_law_1019 dL_law_1020 ?_
  refine t_callV (As := [.int (ag xs i 1), .int (ag xs i 2), .int (ag xs i 3)]) (rest := []) ES hW (c_X11_take l G cI cJ cZ cD cR cT kp L f hW.2.2.2 _ x (ag xs i 1) (ag xs i 2) (ag xs i 3) rx) rx (by decide) rfl wk_X11_take tw_1101 rfl ⟨Nat.le_of_ble_eq_true rfl, Nat.le_of_ble_eq_true rfl⟩ ⟨rfl, rfl⟩ hl.1 rfl (Nat.le_of_ble_eq_true rfl) dL_law_1021 ⟨by omega, by omega⟩ (fun v f1 H locs q hW1 => ?_)
  obtain ⟨⟨r1, rfl, p1⟩, g1⟩ := q
  have hT1 := txi_fm hTH hT g1 rk rfl rfl rfl rfl
  refine lv_pop hx hb dL_law_1024 rfl ?_
  have hW := hW1
  refine lv_aload_n hx hb dL_law_1025 rfl (lv_at hl 1 rfl) ?_
  refine law_arg (k := 1) hx hb hl hXS (by rw [hq]; exact hbl) hbA hW.2.2.1 hi rfl (by decide) dL_law_1026 dL_law_1027 dL_law_1028 dL_law_1029 dL_law_1030 ?_
  refine law_arg (k := 2) hx hb hl hXS (by rw [hq]; exact hbl) hbA hW.2.2.1 hi rfl (by decide) dL_law_1031 dL_law_1032 dL_law_1033 dL_law_1034 dL_law_1035 ?_
  refine law_arg (k := 3) hx hb hl hXS (by rw [hq]; exact hbl) hbA hW.2.2.1 hi rfl (by decide) dL_law_1036 dL_law_1037 dL_law_1038 dL_law_1039 dL_law_1040 ?_
  refine t_callV (As := [.int (ag xs i 1), .int (ag xs i 2), .int (ag xs i 3)]) (rest := []) ES hW1 (c_X12_take l G cI cJ cZ cD cR cT kp L f1 hW1.2.2.2 _ k (ag xs i 1) (ag xs i 2) (ag xs i 3) rk hT1.1) rk (by decide) rfl wk_X12_take tw_1962 rfl ⟨Nat.le_of_ble_eq_true rfl, Nat.le_of_ble_eq_true rfl⟩ ⟨rfl, rfl⟩ hl.1 rfl (Nat.le_of_ble_eq_true rfl) dL_law_1041 ⟨by omega, by omega⟩ (fun v f2 H locs q hW2 => ?_)
  obtain ⟨⟨r2, rfl, p2⟩, g2, hR⟩ := q
  have hT2 := txi_rf hW1.2.2.2 hT1 g2 rk rfl rfl rfl hR (by decide) (by decide)
  refine lv_pop hx hb dL_law_1044 rfl ?_
  refine lv_goto (tgt := 1677) hx hb dL_law_1045 (by decide) ?_
  refine W.more (c2 := cells + 8) (s2 := slots + 2810) (by omega) (by omega) ?_
  exact hend kp L f2 S ls H locs ⟨hdr, hW2, rx, rk, hT2⟩ hl
set_option maxHeartbeats 4000000 in
set_option maxRecDepth 100000 in
theorem law_case_24 (l : Launch) (G : va_G) (cI cJ cZ cD cR cT : ClassId) (σ : SE) (x k b Ls : Nat) (xs : Nat → Int32) (p : Program) (e : Env) (s : State) (m : MethodId) (below : List Frame) (meth : Method) (c : Code) (A : Nat → Prop) (Q : State → Prop) (i : Int32) (E : EV G cI cJ cZ cD cR cT A cL_law ret 4 RL p s m ([.ref b] : List Value).toArray meth c) (hSX : SX σ A s s.heap) (hCA : CA s) (hX : va_X b Ls xs s s.heap) (hbl : b < s.heap.size) (hbA : ¬ A b) (hi : 0 ≤ i.toInt ∧ i.toInt + 6 ≤ (Ls : Int) ∧ Ls ≤ 3072) (cells slots : Nat) (hc : cells + 8 ≤ room_1.cells) (hs : slots + 2810 ≤ room_1.slots) (kp : Nat → Nat) (L : List Nat) (f : Nat → va_E) (S : State) (ls : Array Slot) (H : Heap) (locs : List Loc) (hI : LWS G cI cJ cZ cD cR cT A kp L f x k s S H locs) (hl : lv_has ls 4 [(3, .int i), (2, .ref k), (1, .ref x), (0, .ref b)])
  (hend : ∀ (kp : Nat → Nat) (L : List Nat) (f : Nat → va_E) (S : State) (ls : Array Slot) (H : Heap) (locs : List Loc), LWS G cI cJ cZ cD cR cT A kp L f x k s S H locs → lv_has ls 4 [(3, .int i), (2, .ref k), (1, .ref x), (0, .ref b)] → W p l e room_1 S m ([.ref b] : List Value).toArray below meth c H locs (cells + 8) (slots + 2810) Q (F0 m 1677 ls [])) : W p l e room_1 S m ([.ref b] : List Value).toArray below meth c H locs cells slots Q (F0 m 1048 ls []) := by
  obtain ⟨hdr, hW, rx, rk, hT⟩ := hI
  have hq := hs_S hdr
  have ES := ev_S E hdr
  have hXS := xx_S hdr hX
  have hTH := hW.2.2.2
  obtain ⟨hx, hb, -, hml, hown, hts, -, -, -⟩ := id ES
  refine lv_aload_n hx hb dL_law_1048 rfl (lv_at hl 2 rfl) ?_
  refine law_arg (k := 1) hx hb hl hXS (by rw [hq]; exact hbl) hbA hW.2.2.1 hi rfl (by decide) dL_law_1049 dL_law_1050 dL_law_1051 dL_law_1052 dL_law_1053 ?_
  refine t_callV (As := [.int (ag xs i 1)]) (rest := []) ES hW (c_X11_go l G cI cJ cZ cD cR cT kp L f hW.2.2.2 _ x (ag xs i 1) rx) rx (by decide) rfl wk_X11_go tw_1106 rfl ⟨Nat.le_of_ble_eq_true rfl, Nat.le_of_ble_eq_true rfl⟩ ⟨rfl, rfl⟩ hl.1 rfl (Nat.le_of_ble_eq_true rfl) dL_law_1054 ⟨by omega, by omega⟩ (fun v f1 H locs q hW1 => ?_)
  obtain ⟨⟨r1, rfl, p1⟩, g1⟩ := q
  have hT1 := txi_fm hTH hT g1 rk rfl rfl rfl rfl
  refine lv_pop hx hb dL_law_1057 rfl ?_
  have hW := hW1
  refine lv_aload_n hx hb dL_law_1058 rfl (lv_at hl 1 rfl) ?_
  refine law_arg (k := 1) hx hb hl hXS (by rw [hq]; exact hbl) hbA hW.2.2.1 hi rfl (by decide) dL_law_1059 dL_law_1060 dL_law_1061 dL_law_1062 dL_law_1063 ?_
  refine t_callV (As := [.int (ag xs i 1)]) (rest := []) ES hW1 (c_X12_go l G cI cJ cZ cD cR cT kp L f1 hW1.2.2.2 _ k (ag xs i 1) rk hT1.1) rk (by decide) rfl wk_X12_go tw_1913 rfl ⟨Nat.le_of_ble_eq_true rfl, Nat.le_of_ble_eq_true rfl⟩ ⟨rfl, rfl⟩ hl.1 rfl (Nat.le_of_ble_eq_true rfl) dL_law_1064 ⟨by omega, by omega⟩ (fun v f2 H locs q hW2 => ?_)
  obtain ⟨⟨r2, rfl, p2⟩, g2, hR⟩ := q
  have hT2 := txi_rf hW1.2.2.2 hT1 g2 rk rfl rfl rfl hR (by decide) (by decide)
  refine lv_pop hx hb dL_law_1067 rfl ?_
  refine lv_goto (tgt := 1677) hx hb dL_law_1068 (by decide) ?_
  refine W.more (c2 := cells + 8) (s2 := slots + 2810) (by omega) (by omega) ?_
  exact hend kp L f2 S ls H locs ⟨hdr, hW2, rx, rk, hT2⟩ hl
set_option maxHeartbeats 4000000 in
set_option maxRecDepth 100000 in
theorem law_case_25 (l : Launch) (G : va_G) (cI cJ cZ cD cR cT : ClassId) (σ : SE) (x k b Ls : Nat) (xs : Nat → Int32) (p : Program) (e : Env) (s : State) (m : MethodId) (below : List Frame) (meth : Method) (c : Code) (A : Nat → Prop) (Q : State → Prop) (i : Int32) (E : EV G cI cJ cZ cD cR cT A cL_law ret 4 RL p s m ([.ref b] : List Value).toArray meth c) (hSX : SX σ A s s.heap) (hCA : CA s) (hX : va_X b Ls xs s s.heap) (hbl : b < s.heap.size) (hbA : ¬ A b) (hi : 0 ≤ i.toInt ∧ i.toInt + 6 ≤ (Ls : Int) ∧ Ls ≤ 3072) (cells slots : Nat) (hc : cells + 8 ≤ room_1.cells) (hs : slots + 2810 ≤ room_1.slots) (kp : Nat → Nat) (L : List Nat) (f : Nat → va_E) (S : State) (ls : Array Slot) (H : Heap) (locs : List Loc) (hI : LWS G cI cJ cZ cD cR cT A kp L f x k s S H locs) (hl : lv_has ls 4 [(3, .int i), (2, .ref k), (1, .ref x), (0, .ref b)])
  (hend : ∀ (kp : Nat → Nat) (L : List Nat) (f : Nat → va_E) (S : State) (ls : Array Slot) (H : Heap) (locs : List Loc), LWS G cI cJ cZ cD cR cT A kp L f x k s S H locs → lv_has ls 4 [(3, .int i), (2, .ref k), (1, .ref x), (0, .ref b)] → W p l e room_1 S m ([.ref b] : List Value).toArray below meth c H locs (cells + 8) (slots + 2810) Q (F0 m 1677 ls [])) : W p l e room_1 S m ([.ref b] : List Value).toArray below meth c H locs cells slots Q (F0 m 1071 ls []) := by
  obtain ⟨hdr, hW, rx, rk, hT⟩ := hI
  have hq := hs_S hdr
  have ES := ev_S E hdr
  have hXS := xx_S hdr hX
  have hTH := hW.2.2.2
  obtain ⟨hx, hb, -, hml, hown, hts, -, -, -⟩ := id ES
  refine lv_aload_n hx hb dL_law_1071 rfl (lv_at hl 2 rfl) ?_
  refine law_arg (k := 1) hx hb hl hXS (by rw [hq]; exact hbl) hbA hW.2.2.1 hi rfl (by decide) dL_law_1072 dL_law_1073 dL_law_1074 dL_law_1075 dL_law_1076 ?_
  refine law_arg (k := 2) hx hb hl hXS (by rw [hq]; exact hbl) hbA hW.2.2.1 hi rfl (by decide) dL_law_1077 dL_law_1078 dL_law_1079 dL_law_1080 dL_law_1081 ?_
  refine law_arg (k := 3) hx hb hl hXS (by rw [hq]; exact hbl) hbA hW.2.2.1 hi rfl (by decide) dL_law_1082 dL_law_1083 dL_law_1084 dL_law_1085 dL_law_1086 ?_
  refine t_callV (As := [.int (ag xs i 1), .int (ag xs i 2), .int (ag xs i 3)]) (rest := []) ES hW (c_X11_deal l G cI cJ cZ cD cR cT kp L f hW.2.2.2 _ x (ag xs i 1) (ag xs i 2) (ag xs i 3) rx) rx (by decide) rfl wk_X11_deal tw_1176 rfl ⟨Nat.le_of_ble_eq_true rfl, Nat.le_of_ble_eq_true rfl⟩ ⟨rfl, rfl⟩ hl.1 rfl (Nat.le_of_ble_eq_true rfl) dL_law_1087 ⟨by omega, by omega⟩ (fun v f1 H locs q hW1 => ?_)
  obtain ⟨⟨r1, rfl, p1⟩, g1⟩ := q
  have hT1 := txi_fm hTH hT g1 rk rfl rfl rfl rfl
  refine lv_pop hx hb dL_law_1090 rfl ?_
  have hW := hW1
  refine lv_aload_n hx hb dL_law_1091 rfl (lv_at hl 1 rfl) ?_
  refine law_arg (k := 1) hx hb hl hXS (by rw [hq]; exact hbl) hbA hW.2.2.1 hi rfl (by decide) dL_law_1092 dL_law_1093 dL_law_1094 dL_law_1095 dL_law_1096 ?_
  refine law_arg (k := 2) hx hb hl hXS (by rw [hq]; exact hbl) hbA hW.2.2.1 hi rfl (by decide) dL_law_1097 dL_law_1098 dL_law_1099 dL_law_1100 dL_law_1101 ?_
  refine law_arg (k := 3) hx hb hl hXS (by rw [hq]; exact hbl) hbA hW.2.2.1 hi rfl (by decide) dL_law_1102 dL_law_1103 dL_law_1104 dL_law_1105 dL_law_1106 ?_
  refine t_callV (As := [.int (ag xs i 1), .int (ag xs i 2), .int (ag xs i 3)]) (rest := []) ES hW1 (c_X12_deal l G cI cJ cZ cD cR cT kp L f1 hW1.2.2.2 _ k (ag xs i 1) (ag xs i 2) (ag xs i 3) rk) rk (by decide) rfl wk_X12_deal tw_1966 rfl ⟨Nat.le_of_ble_eq_true rfl, Nat.le_of_ble_eq_true rfl⟩ ⟨rfl, rfl⟩ hl.1 rfl (Nat.le_of_ble_eq_true rfl) dL_law_1107 ⟨by omega, by omega⟩ (fun v f2 H locs q hW2 => ?_)
  obtain ⟨⟨r2, rfl, p2⟩, g2, hR⟩ := q
  have hT2 := txi_rf hW1.2.2.2 hT1 g2 rk rfl rfl rfl hR (by decide) (by decide)
  refine lv_pop hx hb dL_law_1110 rfl ?_
  refine lv_goto (tgt := 1677) hx hb dL_law_1111 (by decide) ?_
  refine W.more (c2 := cells + 8) (s2 := slots + 2810) (by omega) (by omega) ?_
  exact hend kp L f2 S ls H locs ⟨hdr, hW2, rx, rk, hT2⟩ hl
set_option maxHeartbeats 4000000 in
set_option maxRecDepth 100000 in
theorem law_case_26 (l : Launch) (G : va_G) (cI cJ cZ cD cR cT : ClassId) (σ : SE) (x k b Ls : Nat) (xs : Nat → Int32) (p : Program) (e : Env) (s : State) (m : MethodId) (below : List Frame) (meth : Method) (c : Code) (A : Nat → Prop) (Q : State → Prop) (i : Int32) (E : EV G cI cJ cZ cD cR cT A cL_law ret 4 RL p s m ([.ref b] : List Value).toArray meth c) (hSX : SX σ A s s.heap) (hCA : CA s) (hX : va_X b Ls xs s s.heap) (hbl : b < s.heap.size) (hbA : ¬ A b) (hi : 0 ≤ i.toInt ∧ i.toInt + 6 ≤ (Ls : Int) ∧ Ls ≤ 3072) (cells slots : Nat) (hc : cells + 8 ≤ room_1.cells) (hs : slots + 2810 ≤ room_1.slots) (kp : Nat → Nat) (L : List Nat) (f : Nat → va_E) (S : State) (ls : Array Slot) (H : Heap) (locs : List Loc) (hI : LWS G cI cJ cZ cD cR cT A kp L f x k s S H locs) (hl : lv_has ls 4 [(3, .int i), (2, .ref k), (1, .ref x), (0, .ref b)])
  (hend : ∀ (kp : Nat → Nat) (L : List Nat) (f : Nat → va_E) (S : State) (ls : Array Slot) (H : Heap) (locs : List Loc), LWS G cI cJ cZ cD cR cT A kp L f x k s S H locs → lv_has ls 4 [(3, .int i), (2, .ref k), (1, .ref x), (0, .ref b)] → W p l e room_1 S m ([.ref b] : List Value).toArray below meth c H locs (cells + 8) (slots + 2810) Q (F0 m 1677 ls [])) : W p l e room_1 S m ([.ref b] : List Value).toArray below meth c H locs cells slots Q (F0 m 1114 ls []) := by
  obtain ⟨hdr, hW, rx, rk, hT⟩ := hI
  have hq := hs_S hdr
  have ES := ev_S E hdr
  have hXS := xx_S hdr hX
  have hTH := hW.2.2.2
  obtain ⟨hx, hb, -, hml, hown, hts, -, -, -⟩ := id ES
  refine lv_aload_n hx hb dL_law_1114 rfl (lv_at hl 2 rfl) ?_
  refine law_arg (k := 1) hx hb hl hXS (by rw [hq]; exact hbl) hbA hW.2.2.1 hi rfl (by decide) dL_law_1115 dL_law_1116 dL_law_1117 dL_law_1118 dL_law_1119 ?_
  refine t_callV (As := [.int (ag xs i 1)]) (rest := []) ES hW (c_X11_brave l G cI cJ cZ cD cR cT kp L f hW.2.2.2 _ x (ag xs i 1) rx) rx (by decide) rfl wk_X11_brave tw_1189 rfl ⟨Nat.le_of_ble_eq_true rfl, Nat.le_of_ble_eq_true rfl⟩ ⟨rfl, rfl⟩ hl.1 rfl (Nat.le_of_ble_eq_true rfl) dL_law_1120 ⟨by omega, by omega⟩ (fun v f1 H locs q hW1 => ?_)
  obtain ⟨⟨r1, rfl, p1⟩, g1⟩ := q
  have hT1 := txi_fm hTH hT g1 rk rfl rfl rfl rfl
  refine lv_pop hx hb dL_law_1123 rfl ?_
  have hW := hW1
  refine lv_aload_n hx hb dL_law_1124 rfl (lv_at hl 1 rfl) ?_
  refine law_arg (k := 1) hx hb hl hXS (by rw [hq]; exact hbl) hbA hW.2.2.1 hi rfl (by decide) dL_law_1125 dL_law_1126 dL_law_1127 dL_law_1128 dL_law_1129 ?_
  refine t_callV (As := [.int (ag xs i 1)]) (rest := []) ES hW1 (c_X12_brave l G cI cJ cZ cD cR cT kp L f1 hW1.2.2.2 _ k (ag xs i 1) rk) rk (by decide) rfl wk_X12_brave tw_1978 rfl ⟨Nat.le_of_ble_eq_true rfl, Nat.le_of_ble_eq_true rfl⟩ ⟨rfl, rfl⟩ hl.1 rfl (Nat.le_of_ble_eq_true rfl) dL_law_1130 ⟨by omega, by omega⟩ (fun v f2 H locs q hW2 => ?_)
  obtain ⟨⟨r2, rfl, p2⟩, g2, hR⟩ := q
  have hT2 := txi_rf hW1.2.2.2 hT1 g2 rk rfl rfl rfl hR (by decide) (by decide)
  refine lv_pop hx hb dL_law_1133 rfl ?_
  refine lv_goto (tgt := 1677) hx hb dL_law_1134 (by decide) ?_
  refine W.more (c2 := cells + 8) (s2 := slots + 2810) (by omega) (by omega) ?_
  exact hend kp L f2 S ls H locs ⟨hdr, hW2, rx, rk, hT2⟩ hl
set_option maxHeartbeats 4000000 in
set_option maxRecDepth 100000 in
theorem law_case_27 (l : Launch) (G : va_G) (cI cJ cZ cD cR cT : ClassId) (σ : SE) (x k b Ls : Nat) (xs : Nat → Int32) (p : Program) (e : Env) (s : State) (m : MethodId) (below : List Frame) (meth : Method) (c : Code) (A : Nat → Prop) (Q : State → Prop) (i : Int32) (E : EV G cI cJ cZ cD cR cT A cL_law ret 4 RL p s m ([.ref b] : List Value).toArray meth c) (hSX : SX σ A s s.heap) (hCA : CA s) (hX : va_X b Ls xs s s.heap) (hbl : b < s.heap.size) (hbA : ¬ A b) (hi : 0 ≤ i.toInt ∧ i.toInt + 6 ≤ (Ls : Int) ∧ Ls ≤ 3072) (cells slots : Nat) (hc : cells + 8 ≤ room_1.cells) (hs : slots + 2810 ≤ room_1.slots) (kp : Nat → Nat) (L : List Nat) (f : Nat → va_E) (S : State) (ls : Array Slot) (H : Heap) (locs : List Loc) (hI : LWS G cI cJ cZ cD cR cT A kp L f x k s S H locs) (hl : lv_has ls 4 [(3, .int i), (2, .ref k), (1, .ref x), (0, .ref b)])
  (hend : ∀ (kp : Nat → Nat) (L : List Nat) (f : Nat → va_E) (S : State) (ls : Array Slot) (H : Heap) (locs : List Loc), LWS G cI cJ cZ cD cR cT A kp L f x k s S H locs → lv_has ls 4 [(3, .int i), (2, .ref k), (1, .ref x), (0, .ref b)] → W p l e room_1 S m ([.ref b] : List Value).toArray below meth c H locs (cells + 8) (slots + 2810) Q (F0 m 1677 ls [])) : W p l e room_1 S m ([.ref b] : List Value).toArray below meth c H locs cells slots Q (F0 m 1137 ls []) := by
  obtain ⟨hdr, hW, rx, rk, hT⟩ := hI
  have hq := hs_S hdr
  have ES := ev_S E hdr
  have hXS := xx_S hdr hX
  have hTH := hW.2.2.2
  obtain ⟨hx, hb, -, hml, hown, hts, -, -, -⟩ := id ES
  refine lv_aload_n hx hb dL_law_1137 rfl (lv_at hl 2 rfl) ?_
  refine law_arg (k := 1) hx hb hl hXS (by rw [hq]; exact hbl) hbA hW.2.2.1 hi rfl (by decide) dL_law_1138 dL_law_1139 dL_law_1140 dL_law_1141 dL_law_1142 ?_
  refine law_arg (k := 2) hx hb hl hXS (by rw [hq]; exact hbl) hbA hW.2.2.1 hi rfl (by decide) dL_law_1143 dL_law_1144 dL_law_1145 dL_law_1146 dL_law_1147 ?_
  refine t_callV (As := [.int (ag xs i 1), .int (ag xs i 2)]) (rest := []) ES hW (c_X11_keeps l G cI cJ cZ cD cR cT kp L f hW.2.2.2 _ x (ag xs i 1) (ag xs i 2) rx) rx (by decide) rfl wk_X11_keeps tw_1193 rfl ⟨Nat.le_of_ble_eq_true rfl, Nat.le_of_ble_eq_true rfl⟩ ⟨rfl, rfl⟩ hl.1 rfl (Nat.le_of_ble_eq_true rfl) dL_law_1148 ⟨by omega, by omega⟩ (fun v f1 H locs q hW1 => ?_)
  obtain ⟨⟨r1, rfl, p1⟩, g1⟩ := q
  have hT1 := txi_fm hTH hT g1 rk rfl rfl rfl rfl
  refine lv_pop hx hb dL_law_1151 rfl ?_
  have hW := hW1
  refine lv_aload_n hx hb dL_law_1152 rfl (lv_at hl 1 rfl) ?_
  refine law_arg (k := 1) hx hb hl hXS (by rw [hq]; exact hbl) hbA hW.2.2.1 hi rfl (by decide) dL_law_1153 dL_law_1154 dL_law_1155 dL_law_1156 dL_law_1157 ?_
  refine law_arg (k := 2) hx hb hl hXS (by rw [hq]; exact hbl) hbA hW.2.2.1 hi rfl (by decide) dL_law_1158 dL_law_1159 dL_law_1160 dL_law_1161 dL_law_1162 ?_
  refine t_callV (As := [.int (ag xs i 1), .int (ag xs i 2)]) (rest := []) ES hW1 (c_X12_keeps l G cI cJ cZ cD cR cT kp L f1 hW1.2.2.2 _ k (ag xs i 1) (ag xs i 2) rk) rk (by decide) rfl wk_X12_keeps tw_1983 rfl ⟨Nat.le_of_ble_eq_true rfl, Nat.le_of_ble_eq_true rfl⟩ ⟨rfl, rfl⟩ hl.1 rfl (Nat.le_of_ble_eq_true rfl) dL_law_1163 ⟨by omega, by omega⟩ (fun v f2 H locs q hW2 => ?_)
  obtain ⟨⟨r2, rfl, p2⟩, g2⟩ := q
  have hT2 := txi_fm hW1.2.2.2 hT1 g2 rk rfl rfl rfl rfl
  refine lv_pop hx hb dL_law_1166 rfl ?_
  refine lv_goto (tgt := 1677) hx hb dL_law_1167 (by decide) ?_
  refine W.more (c2 := cells + 8) (s2 := slots + 2810) (by omega) (by omega) ?_
  exact hend kp L f2 S ls H locs ⟨hdr, hW2, rx, rk, hT2⟩ hl
set_option maxHeartbeats 4000000 in
set_option maxRecDepth 100000 in
theorem law_case_28 (l : Launch) (G : va_G) (cI cJ cZ cD cR cT : ClassId) (σ : SE) (x k b Ls : Nat) (xs : Nat → Int32) (p : Program) (e : Env) (s : State) (m : MethodId) (below : List Frame) (meth : Method) (c : Code) (A : Nat → Prop) (Q : State → Prop) (i : Int32) (E : EV G cI cJ cZ cD cR cT A cL_law ret 4 RL p s m ([.ref b] : List Value).toArray meth c) (hSX : SX σ A s s.heap) (hCA : CA s) (hX : va_X b Ls xs s s.heap) (hbl : b < s.heap.size) (hbA : ¬ A b) (hi : 0 ≤ i.toInt ∧ i.toInt + 6 ≤ (Ls : Int) ∧ Ls ≤ 3072) (cells slots : Nat) (hc : cells + 8 ≤ room_1.cells) (hs : slots + 2810 ≤ room_1.slots) (kp : Nat → Nat) (L : List Nat) (f : Nat → va_E) (S : State) (ls : Array Slot) (H : Heap) (locs : List Loc) (hI : LWS G cI cJ cZ cD cR cT A kp L f x k s S H locs) (hl : lv_has ls 4 [(3, .int i), (2, .ref k), (1, .ref x), (0, .ref b)])
  (hend : ∀ (kp : Nat → Nat) (L : List Nat) (f : Nat → va_E) (S : State) (ls : Array Slot) (H : Heap) (locs : List Loc), LWS G cI cJ cZ cD cR cT A kp L f x k s S H locs → lv_has ls 4 [(3, .int i), (2, .ref k), (1, .ref x), (0, .ref b)] → W p l e room_1 S m ([.ref b] : List Value).toArray below meth c H locs (cells + 8) (slots + 2810) Q (F0 m 1677 ls [])) : W p l e room_1 S m ([.ref b] : List Value).toArray below meth c H locs cells slots Q (F0 m 1170 ls []) := by
  obtain ⟨hdr, hW, rx, rk, hT⟩ := hI
  have hq := hs_S hdr
  have ES := ev_S E hdr
  have hXS := xx_S hdr hX
  have hTH := hW.2.2.2
  obtain ⟨hx, hb, -, hml, hown, hts, -, -, -⟩ := id ES
  refine lv_aload_n hx hb dL_law_1170 rfl (lv_at hl 2 rfl) ?_
  refine law_arg (k := 1) hx hb hl hXS (by rw [hq]; exact hbl) hbA hW.2.2.1 hi rfl (by decide) dL_law_1171 dL_law_1172 dL_law_1173 dL_law_1174 dL_law_1175 ?_
  refine law_arg (k := 2) hx hb hl hXS (by rw [hq]; exact hbl) hbA hW.2.2.1 hi rfl (by decide) dL_law_1176 dL_law_1177 dL_law_1178 dL_law_1179 dL_law_1180 ?_
  refine law_arg (k := 3) hx hb hl hXS (by rw [hq]; exact hbl) hbA hW.2.2.1 hi rfl (by decide) dL_law_1181 dL_law_1182 dL_law_1183 dL_law_1184 dL_law_1185 ?_
  refine law_arg (k := 4) hx hb hl hXS (by rw [hq]; exact hbl) hbA hW.2.2.1 hi rfl (by decide) dL_law_1186 dL_law_1187 dL_law_1188 dL_law_1189 dL_law_1190 ?_
  refine t_callV (As := [.int (ag xs i 1), .int (ag xs i 2), .int (ag xs i 3), .int (ag xs i 4)]) (rest := []) ES hW (c_X11_broke l G cI cJ cZ cD cR cT kp L f hW.2.2.2 _ x (ag xs i 1) (ag xs i 2) (ag xs i 3) (ag xs i 4) rx) rx (by decide) rfl wk_X11_broke tw_1197 rfl ⟨Nat.le_of_ble_eq_true rfl, Nat.le_of_ble_eq_true rfl⟩ ⟨rfl, rfl⟩ hl.1 rfl (Nat.le_of_ble_eq_true rfl) dL_law_1191 ⟨by omega, by omega⟩ (fun v f1 H locs q hW1 => ?_)
  obtain ⟨⟨r1, rfl, p1⟩, g1⟩ := q
  have hT1 := txi_fm hTH hT g1 rk rfl rfl rfl rfl
  refine lv_pop hx hb dL_law_1194 rfl ?_
  have hW := hW1
  refine lv_aload_n hx hb dL_law_1195 rfl (lv_at hl 1 rfl) ?_
  refine law_arg (k := 1) hx hb hl hXS (by rw [hq]; exact hbl) hbA hW.2.2.1 hi rfl (by decide) dL_law_1196 dL_law_1197 dL_law_1198 dL_law_1199 dL_law_1200 ?_
  refine law_arg (k := 2) hx hb hl hXS (by rw [hq]; exact hbl) hbA hW.2.2.1 hi rfl (by decide) dL_law_1201 dL_law_1202 dL_law_1203 dL_law_1204 dL_law_1205 ?_
  refine law_arg (k := 3) hx hb hl hXS (by rw [hq]; exact hbl) hbA hW.2.2.1 hi rfl (by decide) dL_law_1206 dL_law_1207 dL_law_1208 dL_law_1209 dL_law_1210 ?_
  refine law_arg (k := 4) hx hb hl hXS (by rw [hq]; exact hbl) hbA hW.2.2.1 hi rfl (by decide) dL_law_1211 dL_law_1212 dL_law_1213 dL_law_1214 dL_law_1215 ?_
  refine t_callV (As := [.int (ag xs i 1), .int (ag xs i 2), .int (ag xs i 3), .int (ag xs i 4)]) (rest := []) ES hW1 (c_X12_broke l G cI cJ cZ cD cR cT kp L f1 hW1.2.2.2 _ k (ag xs i 1) (ag xs i 2) (ag xs i 3) (ag xs i 4) rk) rk (by decide) rfl wk_X12_broke tw_1987 rfl ⟨Nat.le_of_ble_eq_true rfl, Nat.le_of_ble_eq_true rfl⟩ ⟨rfl, rfl⟩ hl.1 rfl (Nat.le_of_ble_eq_true rfl) dL_law_1216 ⟨by omega, by omega⟩ (fun v f2 H locs q hW2 => ?_)
  obtain ⟨⟨r2, rfl, p2⟩, g2⟩ := q
  have hT2 := txi_fm hW1.2.2.2 hT1 g2 rk rfl rfl rfl rfl
  refine lv_pop hx hb dL_law_1219 rfl ?_
  refine lv_goto (tgt := 1677) hx hb dL_law_1220 (by decide) ?_
  refine W.more (c2 := cells + 8) (s2 := slots + 2810) (by omega) (by omega) ?_
  exact hend kp L f2 S ls H locs ⟨hdr, hW2, rx, rk, hT2⟩ hl
set_option maxHeartbeats 4000000 in
set_option maxRecDepth 100000 in
theorem law_case_29 (l : Launch) (G : va_G) (cI cJ cZ cD cR cT : ClassId) (σ : SE) (x k b Ls : Nat) (xs : Nat → Int32) (p : Program) (e : Env) (s : State) (m : MethodId) (below : List Frame) (meth : Method) (c : Code) (A : Nat → Prop) (Q : State → Prop) (i : Int32) (E : EV G cI cJ cZ cD cR cT A cL_law ret 4 RL p s m ([.ref b] : List Value).toArray meth c) (hSX : SX σ A s s.heap) (hCA : CA s) (hX : va_X b Ls xs s s.heap) (hbl : b < s.heap.size) (hbA : ¬ A b) (hi : 0 ≤ i.toInt ∧ i.toInt + 6 ≤ (Ls : Int) ∧ Ls ≤ 3072) (cells slots : Nat) (hc : cells + 8 ≤ room_1.cells) (hs : slots + 2810 ≤ room_1.slots) (kp : Nat → Nat) (L : List Nat) (f : Nat → va_E) (S : State) (ls : Array Slot) (H : Heap) (locs : List Loc) (hI : LWS G cI cJ cZ cD cR cT A kp L f x k s S H locs) (hl : lv_has ls 4 [(3, .int i), (2, .ref k), (1, .ref x), (0, .ref b)])
  (hend : ∀ (kp : Nat → Nat) (L : List Nat) (f : Nat → va_E) (S : State) (ls : Array Slot) (H : Heap) (locs : List Loc), LWS G cI cJ cZ cD cR cT A kp L f x k s S H locs → lv_has ls 4 [(3, .int i), (2, .ref k), (1, .ref x), (0, .ref b)] → W p l e room_1 S m ([.ref b] : List Value).toArray below meth c H locs (cells + 8) (slots + 2810) Q (F0 m 1677 ls [])) : W p l e room_1 S m ([.ref b] : List Value).toArray below meth c H locs cells slots Q (F0 m 1223 ls []) := by
  obtain ⟨hdr, hW, rx, rk, hT⟩ := hI
  have hq := hs_S hdr
  have ES := ev_S E hdr
  have hXS := xx_S hdr hX
  have hTH := hW.2.2.2
  obtain ⟨hx, hb, -, hml, hown, hts, -, -, -⟩ := id ES
  refine lv_aload_n hx hb dL_law_1223 rfl (lv_at hl 2 rfl) ?_
  refine law_arg (k := 1) hx hb hl hXS (by rw [hq]; exact hbl) hbA hW.2.2.1 hi rfl (by decide) dL_law_1224 dL_law_1225 dL_law_1226 dL_law_1227 dL_law_1228 ?_
  refine law_arg (k := 2) hx hb hl hXS (by rw [hq]; exact hbl) hbA hW.2.2.1 hi rfl (by decide) dL_law_1229 dL_law_1230 dL_law_1231 dL_law_1232 dL_law_1233 ?_
  refine law_arg (k := 3) hx hb hl hXS (by rw [hq]; exact hbl) hbA hW.2.2.1 hi rfl (by decide) dL_law_1234 dL_law_1235 dL_law_1236 dL_law_1237 dL_law_1238 ?_
  refine t_callV (As := [.int (ag xs i 1), .int (ag xs i 2), .int (ag xs i 3)]) (rest := []) ES hW (c_X11_last l G cI cJ cZ cD cR cT kp L f hW.2.2.2 _ x (ag xs i 1) (ag xs i 2) (ag xs i 3) rx) rx (by decide) rfl wk_X11_last tw_1207 rfl ⟨Nat.le_of_ble_eq_true rfl, Nat.le_of_ble_eq_true rfl⟩ ⟨rfl, rfl⟩ hl.1 rfl (Nat.le_of_ble_eq_true rfl) dL_law_1239 ⟨by omega, by omega⟩ (fun v f1 H locs q hW1 => ?_)
  obtain ⟨⟨r1, rfl, p1⟩, g1⟩ := q
  have hT1 := txi_fm hTH hT g1 rk rfl rfl rfl rfl
  refine lv_pop hx hb dL_law_1242 rfl ?_
  have hW := hW1
  refine lv_aload_n hx hb dL_law_1243 rfl (lv_at hl 1 rfl) ?_
  refine law_arg (k := 1) hx hb hl hXS (by rw [hq]; exact hbl) hbA hW.2.2.1 hi rfl (by decide) dL_law_1244 dL_law_1245 dL_law_1246 dL_law_1247 dL_law_1248 ?_
  refine law_arg (k := 2) hx hb hl hXS (by rw [hq]; exact hbl) hbA hW.2.2.1 hi rfl (by decide) dL_law_1249 dL_law_1250 dL_law_1251 dL_law_1252 dL_law_1253 ?_
  refine law_arg (k := 3) hx hb hl hXS (by rw [hq]; exact hbl) hbA hW.2.2.1 hi rfl (by decide) dL_law_1254 dL_law_1255 dL_law_1256 dL_law_1257 dL_law_1258 ?_
  refine t_callV (As := [.int (ag xs i 1), .int (ag xs i 2), .int (ag xs i 3)]) (rest := []) ES hW1 (c_X12_last l G cI cJ cZ cD cR cT kp L f1 hW1.2.2.2 _ k (ag xs i 1) (ag xs i 2) (ag xs i 3) rk) rk (by decide) rfl wk_X12_last tw_1992 rfl ⟨Nat.le_of_ble_eq_true rfl, Nat.le_of_ble_eq_true rfl⟩ ⟨rfl, rfl⟩ hl.1 rfl (Nat.le_of_ble_eq_true rfl) dL_law_1259 ⟨by omega, by omega⟩ (fun v f2 H locs q hW2 => ?_)
  obtain ⟨⟨r2, rfl, p2⟩, g2⟩ := q
  have hT2 := txi_fm hW1.2.2.2 hT1 g2 rk rfl rfl rfl rfl
  refine lv_pop hx hb dL_law_1262 rfl ?_
  refine lv_goto (tgt := 1677) hx hb dL_law_1263 (by decide) ?_
  refine W.more (c2 := cells + 8) (s2 := slots + 2810) (by omega) (by omega) ?_
  exact hend kp L f2 S ls H locs ⟨hdr, hW2, rx, rk, hT2⟩ hl
set_option maxHeartbeats 4000000 in
set_option maxRecDepth 100000 in
theorem law_case_30 (l : Launch) (G : va_G) (cI cJ cZ cD cR cT : ClassId) (σ : SE) (x k b Ls : Nat) (xs : Nat → Int32) (p : Program) (e : Env) (s : State) (m : MethodId) (below : List Frame) (meth : Method) (c : Code) (A : Nat → Prop) (Q : State → Prop) (i : Int32) (E : EV G cI cJ cZ cD cR cT A cL_law ret 4 RL p s m ([.ref b] : List Value).toArray meth c) (hSX : SX σ A s s.heap) (hCA : CA s) (hX : va_X b Ls xs s s.heap) (hbl : b < s.heap.size) (hbA : ¬ A b) (hi : 0 ≤ i.toInt ∧ i.toInt + 6 ≤ (Ls : Int) ∧ Ls ≤ 3072) (cells slots : Nat) (hc : cells + 8 ≤ room_1.cells) (hs : slots + 2810 ≤ room_1.slots) (kp : Nat → Nat) (L : List Nat) (f : Nat → va_E) (S : State) (ls : Array Slot) (H : Heap) (locs : List Loc) (hI : LWS G cI cJ cZ cD cR cT A kp L f x k s S H locs) (hl : lv_has ls 4 [(3, .int i), (2, .ref k), (1, .ref x), (0, .ref b)])
  (hend : ∀ (kp : Nat → Nat) (L : List Nat) (f : Nat → va_E) (S : State) (ls : Array Slot) (H : Heap) (locs : List Loc), LWS G cI cJ cZ cD cR cT A kp L f x k s S H locs → lv_has ls 4 [(3, .int i), (2, .ref k), (1, .ref x), (0, .ref b)] → W p l e room_1 S m ([.ref b] : List Value).toArray below meth c H locs (cells + 8) (slots + 2810) Q (F0 m 1677 ls [])) : W p l e room_1 S m ([.ref b] : List Value).toArray below meth c H locs cells slots Q (F0 m 1266 ls []) := by
  obtain ⟨hdr, hW, rx, rk, hT⟩ := hI
  have hq := hs_S hdr
  have ES := ev_S E hdr
  have hXS := xx_S hdr hX
  have hTH := hW.2.2.2
  obtain ⟨hx, hb, -, hml, hown, hts, -, -, -⟩ := id ES
  refine lv_aload_n hx hb dL_law_1266 rfl (lv_at hl 2 rfl) ?_
  refine law_arg (k := 1) hx hb hl hXS (by rw [hq]; exact hbl) hbA hW.2.2.1 hi rfl (by decide) dL_law_1267 dL_law_1268 dL_law_1269 dL_law_1270 dL_law_1271 ?_
  refine law_arg (k := 2) hx hb hl hXS (by rw [hq]; exact hbl) hbA hW.2.2.1 hi rfl (by decide) dL_law_1272 dL_law_1273 dL_law_1274 dL_law_1275 dL_law_1276 ?_
  refine t_callV (As := [.int (ag xs i 1), .int (ag xs i 2)]) (rest := []) ES hW (c_X11_least l G cI cJ cZ cD cR cT kp L f hW.2.2.2 _ x (ag xs i 1) (ag xs i 2) rx) rx (by decide) rfl wk_X11_least tw_1211 rfl ⟨Nat.le_of_ble_eq_true rfl, Nat.le_of_ble_eq_true rfl⟩ ⟨rfl, rfl⟩ hl.1 rfl (Nat.le_of_ble_eq_true rfl) dL_law_1277 ⟨by omega, by omega⟩ (fun v f1 H locs q hW1 => ?_)
  obtain ⟨⟨r1, rfl, p1⟩, g1⟩ := q
  have hT1 := txi_fm hTH hT g1 rk rfl rfl rfl rfl
  refine lv_pop hx hb dL_law_1280 rfl ?_
  have hW := hW1
  refine lv_aload_n hx hb dL_law_1281 rfl (lv_at hl 1 rfl) ?_
  refine law_arg (k := 1) hx hb hl hXS (by rw [hq]; exact hbl) hbA hW.2.2.1 hi rfl (by decide) dL_law_1282 dL_law_1283 dL_law_1284 dL_law_1285 dL_law_1286 ?_
  refine law_arg (k := 2) hx hb hl hXS (by rw [hq]; exact hbl) hbA hW.2.2.1 hi rfl (by decide) dL_law_1287 dL_law_1288 dL_law_1289 dL_law_1290 dL_law_1291 ?_
  refine t_callV (As := [.int (ag xs i 1), .int (ag xs i 2)]) (rest := []) ES hW1 (c_X12_least l G cI cJ cZ cD cR cT kp L f1 hW1.2.2.2 _ k (ag xs i 1) (ag xs i 2) rk hT1.1) rk (by decide) rfl wk_X12_least tw_1996 rfl ⟨Nat.le_of_ble_eq_true rfl, Nat.le_of_ble_eq_true rfl⟩ ⟨rfl, rfl⟩ hl.1 rfl (Nat.le_of_ble_eq_true rfl) dL_law_1292 ⟨by omega, by omega⟩ (fun v f2 H locs q hW2 => ?_)
  obtain ⟨⟨r2, rfl, p2⟩, g2⟩ := q
  have hT2 := txi_fm hW1.2.2.2 hT1 g2 rk rfl rfl rfl rfl
  refine lv_pop hx hb dL_law_1295 rfl ?_
  refine lv_goto (tgt := 1677) hx hb dL_law_1296 (by decide) ?_
  refine W.more (c2 := cells + 8) (s2 := slots + 2810) (by omega) (by omega) ?_
  exact hend kp L f2 S ls H locs ⟨hdr, hW2, rx, rk, hT2⟩ hl
set_option maxHeartbeats 4000000 in
set_option maxRecDepth 100000 in
theorem law_case_31 (l : Launch) (G : va_G) (cI cJ cZ cD cR cT : ClassId) (σ : SE) (x k b Ls : Nat) (xs : Nat → Int32) (p : Program) (e : Env) (s : State) (m : MethodId) (below : List Frame) (meth : Method) (c : Code) (A : Nat → Prop) (Q : State → Prop) (i : Int32) (E : EV G cI cJ cZ cD cR cT A cL_law ret 4 RL p s m ([.ref b] : List Value).toArray meth c) (hSX : SX σ A s s.heap) (hCA : CA s) (hX : va_X b Ls xs s s.heap) (hbl : b < s.heap.size) (hbA : ¬ A b) (hi : 0 ≤ i.toInt ∧ i.toInt + 6 ≤ (Ls : Int) ∧ Ls ≤ 3072) (cells slots : Nat) (hc : cells + 8 ≤ room_1.cells) (hs : slots + 2810 ≤ room_1.slots) (kp : Nat → Nat) (L : List Nat) (f : Nat → va_E) (S : State) (ls : Array Slot) (H : Heap) (locs : List Loc) (hI : LWS G cI cJ cZ cD cR cT A kp L f x k s S H locs) (hl : lv_has ls 4 [(3, .int i), (2, .ref k), (1, .ref x), (0, .ref b)])
  (hend : ∀ (kp : Nat → Nat) (L : List Nat) (f : Nat → va_E) (S : State) (ls : Array Slot) (H : Heap) (locs : List Loc), LWS G cI cJ cZ cD cR cT A kp L f x k s S H locs → lv_has ls 4 [(3, .int i), (2, .ref k), (1, .ref x), (0, .ref b)] → W p l e room_1 S m ([.ref b] : List Value).toArray below meth c H locs (cells + 8) (slots + 2810) Q (F0 m 1677 ls [])) : W p l e room_1 S m ([.ref b] : List Value).toArray below meth c H locs cells slots Q (F0 m 1299 ls []) := by
  obtain ⟨hdr, hW, rx, rk, hT⟩ := hI
  have hq := hs_S hdr
  have ES := ev_S E hdr
  have hXS := xx_S hdr hX
  have hTH := hW.2.2.2
  obtain ⟨hx, hb, -, hml, hown, hts, -, -, -⟩ := id ES
  refine lv_aload_n hx hb dL_law_1299 rfl (lv_at hl 2 rfl) ?_
  refine law_arg (k := 1) hx hb hl hXS (by rw [hq]; exact hbl) hbA hW.2.2.1 hi rfl (by decide) dL_law_1300 dL_law_1301 dL_law_1302 dL_law_1303 dL_law_1304 ?_
  refine law_arg (k := 2) hx hb hl hXS (by rw [hq]; exact hbl) hbA hW.2.2.1 hi rfl (by decide) dL_law_1305 dL_law_1306 dL_law_1307 dL_law_1308 dL_law_1309 ?_
  refine t_callV (As := [.int (ag xs i 1), .int (ag xs i 2)]) (rest := []) ES hW (c_X11_offer l G cI cJ cZ cD cR cT kp L f hW.2.2.2 _ x (ag xs i 1) (ag xs i 2) rx) rx (by decide) rfl wk_X11_offer tw_1226 rfl ⟨Nat.le_of_ble_eq_true rfl, Nat.le_of_ble_eq_true rfl⟩ ⟨rfl, rfl⟩ hl.1 rfl (Nat.le_of_ble_eq_true rfl) dL_law_1310 ⟨by omega, by omega⟩ (fun v f1 H locs q hW1 => ?_)
  obtain ⟨⟨r1, rfl, p1⟩, g1⟩ := q
  have hT1 := txi_fm hTH hT g1 rk rfl rfl rfl rfl
  refine lv_pop hx hb dL_law_1313 rfl ?_
  have hW := hW1
  refine lv_aload_n hx hb dL_law_1314 rfl (lv_at hl 1 rfl) ?_
  refine law_arg (k := 1) hx hb hl hXS (by rw [hq]; exact hbl) hbA hW.2.2.1 hi rfl (by decide) dL_law_1315 dL_law_1316 dL_law_1317 dL_law_1318 dL_law_1319 ?_
  refine law_arg (k := 2) hx hb hl hXS (by rw [hq]; exact hbl) hbA hW.2.2.1 hi rfl (by decide) dL_law_1320 dL_law_1321 dL_law_1322 dL_law_1323 dL_law_1324 ?_
  refine t_callV (As := [.int (ag xs i 1), .int (ag xs i 2)]) (rest := []) ES hW1 (c_X12_offer l G cI cJ cZ cD cR cT kp L f1 hW1.2.2.2 _ k (ag xs i 1) (ag xs i 2) rk) rk (by decide) rfl wk_X12_offer tw_2005 rfl ⟨Nat.le_of_ble_eq_true rfl, Nat.le_of_ble_eq_true rfl⟩ ⟨rfl, rfl⟩ hl.1 rfl (Nat.le_of_ble_eq_true rfl) dL_law_1325 ⟨by omega, by omega⟩ (fun v f2 H locs q hW2 => ?_)
  obtain ⟨⟨r2, rfl, p2⟩, g2, hR⟩ := q
  have hT2 := txi_rf hW1.2.2.2 hT1 g2 rk rfl rfl rfl hR (by decide) (by decide)
  refine lv_pop hx hb dL_law_1328 rfl ?_
  refine lv_goto (tgt := 1677) hx hb dL_law_1329 (by decide) ?_
  refine W.more (c2 := cells + 8) (s2 := slots + 2810) (by omega) (by omega) ?_
  exact hend kp L f2 S ls H locs ⟨hdr, hW2, rx, rk, hT2⟩ hl
