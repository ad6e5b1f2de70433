/-! decode rows of the law, by program: 2 -/
theorem dW_law_727 : decode (zby mW_law) 727 = .ok (.istore 7, 2) := by decide +kernel
theorem dW_law_729 : decode (zby mW_law) 729 = .ok (.aload_n 2, 1) := by decide +kernel
theorem dW_law_730 : decode (zby mW_law) 730 = .ok (.invokevirtual 183, 3) := by decide +kernel
theorem dW_law_733 : decode (zby mW_law) 733 = .ok (.iload 6, 2) := by decide +kernel
theorem dW_law_735 : decode (zby mW_law) 735 = .ok (.if_icmp .eq 5, 3) := by decide +kernel
theorem dW_law_740 : decode (zby mW_law) 740 = .ok (.iload 6, 2) := by decide +kernel
theorem dW_law_742 : decode (zby mW_law) 742 = .ok (.ifCond .ne 15, 3) := by decide +kernel
theorem dW_law_745 : decode (zby mW_law) 745 = .ok (.aload_n 3, 1) := by decide +kernel
theorem dW_law_746 : decode (zby mW_law) 746 = .ok (.iconst 0, 1) := by decide +kernel
theorem dW_law_747 : decode (zby mW_law) 747 = .ok (.laload, 1) := by decide +kernel
theorem dW_law_748 : decode (zby mW_law) 748 = .ok (.iload 7, 2) := by decide +kernel
theorem dW_law_750 : decode (zby mW_law) 750 = .ok (.i2l, 1) := by decide +kernel
theorem dW_law_751 : decode (zby mW_law) 751 = .ok (.lcmp, 1) := by decide +kernel
theorem dW_law_752 : decode (zby mW_law) 752 = .ok (.ifCond .eq 5, 3) := by decide +kernel
theorem dW_law_757 : decode (zby mW_law) 757 = .ok (.goto 2503, 3) := by decide +kernel
theorem dW_law_760 : decode (zby mW_law) 760 = .ok (.aload_n 1, 1) := by decide +kernel
theorem dW_law_761 : decode (zby mW_law) 761 = .ok (.aload_n 0, 1) := by decide +kernel
theorem dW_law_762 : decode (zby mW_law) 762 = .ok (.iload 5, 2) := by decide +kernel
theorem dW_law_764 : decode (zby mW_law) 764 = .ok (.iconst 1, 1) := by decide +kernel
theorem dW_law_765 : decode (zby mW_law) 765 = .ok (.iadd, 1) := by decide +kernel
theorem dW_law_766 : decode (zby mW_law) 766 = .ok (.iaload, 1) := by decide +kernel
theorem dW_law_767 : decode (zby mW_law) 767 = .ok (.aload_n 0, 1) := by decide +kernel
theorem dW_law_768 : decode (zby mW_law) 768 = .ok (.iload 5, 2) := by decide +kernel
theorem dW_law_770 : decode (zby mW_law) 770 = .ok (.iconst 2, 1) := by decide +kernel
theorem dW_law_771 : decode (zby mW_law) 771 = .ok (.iadd, 1) := by decide +kernel
theorem dW_law_772 : decode (zby mW_law) 772 = .ok (.iaload, 1) := by decide +kernel
theorem dW_law_773 : decode (zby mW_law) 773 = .ok (.aload_n 3, 1) := by decide +kernel
theorem dW_law_774 : decode (zby mW_law) 774 = .ok (.invokestatic 209, 3) := by decide +kernel
theorem dW_law_777 : decode (zby mW_law) 777 = .ok (.istore 6, 2) := by decide +kernel
theorem dW_law_779 : decode (zby mW_law) 779 = .ok (.aload_n 2, 1) := by decide +kernel
theorem dW_law_780 : decode (zby mW_law) 780 = .ok (.aload_n 0, 1) := by decide +kernel
theorem dW_law_781 : decode (zby mW_law) 781 = .ok (.iload 5, 2) := by decide +kernel
theorem dW_law_783 : decode (zby mW_law) 783 = .ok (.iconst 1, 1) := by decide +kernel
theorem dW_law_784 : decode (zby mW_law) 784 = .ok (.iadd, 1) := by decide +kernel
theorem dW_law_785 : decode (zby mW_law) 785 = .ok (.iaload, 1) := by decide +kernel
theorem dW_law_786 : decode (zby mW_law) 786 = .ok (.aload_n 0, 1) := by decide +kernel
theorem dW_law_787 : decode (zby mW_law) 787 = .ok (.iload 5, 2) := by decide +kernel
theorem dW_law_789 : decode (zby mW_law) 789 = .ok (.iconst 2, 1) := by decide +kernel
theorem dW_law_790 : decode (zby mW_law) 790 = .ok (.iadd, 1) := by decide +kernel
theorem dW_law_791 : decode (zby mW_law) 791 = .ok (.iaload, 1) := by decide +kernel
theorem dW_law_792 : decode (zby mW_law) 792 = .ok (.invokevirtual 211, 3) := by decide +kernel
theorem dW_law_795 : decode (zby mW_law) 795 = .ok (.istore 7, 2) := by decide +kernel
theorem dW_law_797 : decode (zby mW_law) 797 = .ok (.aload_n 2, 1) := by decide +kernel
theorem dW_law_798 : decode (zby mW_law) 798 = .ok (.invokevirtual 183, 3) := by decide +kernel
theorem dW_law_801 : decode (zby mW_law) 801 = .ok (.iload 6, 2) := by decide +kernel
theorem dW_law_803 : decode (zby mW_law) 803 = .ok (.if_icmp .eq 5, 3) := by decide +kernel
theorem dW_law_808 : decode (zby mW_law) 808 = .ok (.iload 6, 2) := by decide +kernel
theorem dW_law_810 : decode (zby mW_law) 810 = .ok (.ifCond .ne 15, 3) := by decide +kernel
theorem dW_law_813 : decode (zby mW_law) 813 = .ok (.aload_n 3, 1) := by decide +kernel
theorem dW_law_814 : decode (zby mW_law) 814 = .ok (.iconst 0, 1) := by decide +kernel
theorem dW_law_815 : decode (zby mW_law) 815 = .ok (.laload, 1) := by decide +kernel
theorem dW_law_816 : decode (zby mW_law) 816 = .ok (.iload 7, 2) := by decide +kernel
theorem dW_law_818 : decode (zby mW_law) 818 = .ok (.i2l, 1) := by decide +kernel
theorem dW_law_819 : decode (zby mW_law) 819 = .ok (.lcmp, 1) := by decide +kernel
theorem dW_law_820 : decode (zby mW_law) 820 = .ok (.ifCond .eq 5, 3) := by decide +kernel
theorem dW_law_825 : decode (zby mW_law) 825 = .ok (.goto 2435, 3) := by decide +kernel
theorem dW_law_828 : decode (zby mW_law) 828 = .ok (.aload_n 1, 1) := by decide +kernel
theorem dW_law_829 : decode (zby mW_law) 829 = .ok (.aload_n 0, 1) := by decide +kernel
theorem dW_law_830 : decode (zby mW_law) 830 = .ok (.iload 5, 2) := by decide +kernel
theorem dW_law_832 : decode (zby mW_law) 832 = .ok (.iconst 1, 1) := by decide +kernel
theorem dW_law_833 : decode (zby mW_law) 833 = .ok (.iadd, 1) := by decide +kernel
theorem dW_law_834 : decode (zby mW_law) 834 = .ok (.iaload, 1) := by decide +kernel
theorem dW_law_835 : decode (zby mW_law) 835 = .ok (.aload_n 3, 1) := by decide +kernel
theorem dW_law_836 : decode (zby mW_law) 836 = .ok (.invokestatic 212, 3) := by decide +kernel
theorem dW_law_839 : decode (zby mW_law) 839 = .ok (.istore 6, 2) := by decide +kernel
theorem dW_law_841 : decode (zby mW_law) 841 = .ok (.aload_n 2, 1) := by decide +kernel
theorem dW_law_842 : decode (zby mW_law) 842 = .ok (.aload_n 0, 1) := by decide +kernel
theorem dW_law_843 : decode (zby mW_law) 843 = .ok (.iload 5, 2) := by decide +kernel
theorem dW_law_845 : decode (zby mW_law) 845 = .ok (.iconst 1, 1) := by decide +kernel
theorem dW_law_846 : decode (zby mW_law) 846 = .ok (.iadd, 1) := by decide +kernel
theorem dW_law_847 : decode (zby mW_law) 847 = .ok (.iaload, 1) := by decide +kernel
theorem dW_law_848 : decode (zby mW_law) 848 = .ok (.invokevirtual 214, 3) := by decide +kernel
theorem dW_law_851 : decode (zby mW_law) 851 = .ok (.istore 7, 2) := by decide +kernel
theorem dW_law_853 : decode (zby mW_law) 853 = .ok (.aload_n 2, 1) := by decide +kernel
theorem dW_law_854 : decode (zby mW_law) 854 = .ok (.invokevirtual 183, 3) := by decide +kernel
theorem dW_law_857 : decode (zby mW_law) 857 = .ok (.iload 6, 2) := by decide +kernel
theorem dW_law_859 : decode (zby mW_law) 859 = .ok (.if_icmp .eq 5, 3) := by decide +kernel
theorem dW_law_864 : decode (zby mW_law) 864 = .ok (.iload 6, 2) := by decide +kernel
theorem dW_law_866 : decode (zby mW_law) 866 = .ok (.ifCond .ne 15, 3) := by decide +kernel
theorem dW_law_869 : decode (zby mW_law) 869 = .ok (.aload_n 3, 1) := by decide +kernel
theorem dW_law_870 : decode (zby mW_law) 870 = .ok (.iconst 0, 1) := by decide +kernel
theorem dW_law_871 : decode (zby mW_law) 871 = .ok (.laload, 1) := by decide +kernel
theorem dW_law_872 : decode (zby mW_law) 872 = .ok (.iload 7, 2) := by decide +kernel
theorem dW_law_874 : decode (zby mW_law) 874 = .ok (.i2l, 1) := by decide +kernel
theorem dW_law_875 : decode (zby mW_law) 875 = .ok (.lcmp, 1) := by decide +kernel
theorem dW_law_876 : decode (zby mW_law) 876 = .ok (.ifCond .eq 5, 3) := by decide +kernel
theorem dW_law_881 : decode (zby mW_law) 881 = .ok (.goto 2379, 3) := by decide +kernel
theorem dW_law_884 : decode (zby mW_law) 884 = .ok (.aload_n 1, 1) := by decide +kernel
theorem dW_law_885 : decode (zby mW_law) 885 = .ok (.invokevirtual 215, 3) := by decide +kernel
theorem dW_law_888 : decode (zby mW_law) 888 = .ok (.aload_n 2, 1) := by decide +kernel
theorem dW_law_889 : decode (zby mW_law) 889 = .ok (.invokevirtual 218, 3) := by decide +kernel
theorem dW_law_892 : decode (zby mW_law) 892 = .ok (.if_icmp .eq 2368, 3) := by decide +kernel
theorem dW_law_897 : decode (zby mW_law) 897 = .ok (.aload_n 1, 1) := by decide +kernel
theorem dW_law_898 : decode (zby mW_law) 898 = .ok (.aload_n 0, 1) := by decide +kernel
theorem dW_law_899 : decode (zby mW_law) 899 = .ok (.iload 5, 2) := by decide +kernel
theorem dW_law_901 : decode (zby mW_law) 901 = .ok (.iconst 1, 1) := by decide +kernel
theorem dW_law_902 : decode (zby mW_law) 902 = .ok (.iadd, 1) := by decide +kernel
theorem dW_law_903 : decode (zby mW_law) 903 = .ok (.iaload, 1) := by decide +kernel
theorem dW_law_904 : decode (zby mW_law) 904 = .ok (.aload_n 3, 1) := by decide +kernel
theorem dW_law_905 : decode (zby mW_law) 905 = .ok (.invokestatic 219, 3) := by decide +kernel
theorem dW_law_908 : decode (zby mW_law) 908 = .ok (.istore 6, 2) := by decide +kernel
theorem dW_law_910 : decode (zby mW_law) 910 = .ok (.aload_n 2, 1) := by decide +kernel
theorem dW_law_911 : decode (zby mW_law) 911 = .ok (.aload_n 0, 1) := by decide +kernel
theorem dW_law_912 : decode (zby mW_law) 912 = .ok (.iload 5, 2) := by decide +kernel
theorem dW_law_914 : decode (zby mW_law) 914 = .ok (.iconst 1, 1) := by decide +kernel
theorem dW_law_915 : decode (zby mW_law) 915 = .ok (.iadd, 1) := by decide +kernel
theorem dW_law_916 : decode (zby mW_law) 916 = .ok (.iaload, 1) := by decide +kernel
theorem dW_law_917 : decode (zby mW_law) 917 = .ok (.invokevirtual 221, 3) := by decide +kernel
theorem dW_law_920 : decode (zby mW_law) 920 = .ok (.istore 7, 2) := by decide +kernel
theorem dW_law_922 : decode (zby mW_law) 922 = .ok (.aload_n 2, 1) := by decide +kernel
theorem dW_law_923 : decode (zby mW_law) 923 = .ok (.invokevirtual 183, 3) := by decide +kernel
theorem dW_law_926 : decode (zby mW_law) 926 = .ok (.iload 6, 2) := by decide +kernel
theorem dW_law_928 : decode (zby mW_law) 928 = .ok (.if_icmp .eq 5, 3) := by decide +kernel
theorem dW_law_933 : decode (zby mW_law) 933 = .ok (.iload 6, 2) := by decide +kernel
theorem dW_law_935 : decode (zby mW_law) 935 = .ok (.ifCond .ne 15, 3) := by decide +kernel
theorem dW_law_938 : decode (zby mW_law) 938 = .ok (.aload_n 3, 1) := by decide +kernel
theorem dW_law_939 : decode (zby mW_law) 939 = .ok (.iconst 0, 1) := by decide +kernel
theorem dW_law_940 : decode (zby mW_law) 940 = .ok (.laload, 1) := by decide +kernel
theorem dW_law_941 : decode (zby mW_law) 941 = .ok (.iload 7, 2) := by decide +kernel
theorem dW_law_943 : decode (zby mW_law) 943 = .ok (.i2l, 1) := by decide +kernel
theorem dW_law_944 : decode (zby mW_law) 944 = .ok (.lcmp, 1) := by decide +kernel
theorem dW_law_945 : decode (zby mW_law) 945 = .ok (.ifCond .eq 5, 3) := by decide +kernel
theorem dW_law_950 : decode (zby mW_law) 950 = .ok (.goto 2310, 3) := by decide +kernel
theorem dW_law_953 : decode (zby mW_law) 953 = .ok (.aload_n 1, 1) := by decide +kernel
theorem dW_law_954 : decode (zby mW_law) 954 = .ok (.aload_n 0, 1) := by decide +kernel
theorem dW_law_955 : decode (zby mW_law) 955 = .ok (.iload 5, 2) := by decide +kernel
theorem dW_law_957 : decode (zby mW_law) 957 = .ok (.iconst 1, 1) := by decide +kernel
theorem dW_law_958 : decode (zby mW_law) 958 = .ok (.iadd, 1) := by decide +kernel
theorem dW_law_959 : decode (zby mW_law) 959 = .ok (.iaload, 1) := by decide +kernel
theorem dW_law_960 : decode (zby mW_law) 960 = .ok (.aload_n 3, 1) := by decide +kernel
theorem dW_law_961 : decode (zby mW_law) 961 = .ok (.invokestatic 222, 3) := by decide +kernel
theorem dW_law_964 : decode (zby mW_law) 964 = .ok (.istore 6, 2) := by decide +kernel
theorem dW_law_966 : decode (zby mW_law) 966 = .ok (.aload_n 2, 1) := by decide +kernel
theorem dW_law_967 : decode (zby mW_law) 967 = .ok (.aload_n 0, 1) := by decide +kernel
theorem dW_law_968 : decode (zby mW_law) 968 = .ok (.iload 5, 2) := by decide +kernel
theorem dW_law_970 : decode (zby mW_law) 970 = .ok (.iconst 1, 1) := by decide +kernel
theorem dW_law_971 : decode (zby mW_law) 971 = .ok (.iadd, 1) := by decide +kernel
theorem dW_law_972 : decode (zby mW_law) 972 = .ok (.iaload, 1) := by decide +kernel
theorem dW_law_973 : decode (zby mW_law) 973 = .ok (.invokevirtual 224, 3) := by decide +kernel
theorem dW_law_976 : decode (zby mW_law) 976 = .ok (.istore 7, 2) := by decide +kernel
theorem dW_law_978 : decode (zby mW_law) 978 = .ok (.aload_n 2, 1) := by decide +kernel
theorem dW_law_979 : decode (zby mW_law) 979 = .ok (.invokevirtual 183, 3) := by decide +kernel
theorem dW_law_982 : decode (zby mW_law) 982 = .ok (.iload 6, 2) := by decide +kernel
theorem dW_law_984 : decode (zby mW_law) 984 = .ok (.if_icmp .eq 5, 3) := by decide +kernel
theorem dW_law_989 : decode (zby mW_law) 989 = .ok (.iload 6, 2) := by decide +kernel
theorem dW_law_991 : decode (zby mW_law) 991 = .ok (.ifCond .ne 15, 3) := by decide +kernel
theorem dW_law_994 : decode (zby mW_law) 994 = .ok (.aload_n 3, 1) := by decide +kernel
theorem dW_law_995 : decode (zby mW_law) 995 = .ok (.iconst 0, 1) := by decide +kernel
theorem dW_law_996 : decode (zby mW_law) 996 = .ok (.laload, 1) := by decide +kernel
theorem dW_law_997 : decode (zby mW_law) 997 = .ok (.iload 7, 2) := by decide +kernel
theorem dW_law_999 : decode (zby mW_law) 999 = .ok (.i2l, 1) := by decide +kernel
theorem dW_law_1000 : decode (zby mW_law) 1000 = .ok (.lcmp, 1) := by decide +kernel
theorem dW_law_1001 : decode (zby mW_law) 1001 = .ok (.ifCond .eq 5, 3) := by decide +kernel
theorem dW_law_1006 : decode (zby mW_law) 1006 = .ok (.goto 2254, 3) := by decide +kernel
theorem dW_law_1009 : decode (zby mW_law) 1009 = .ok (.aload_n 1, 1) := by decide +kernel
theorem dW_law_1010 : decode (zby mW_law) 1010 = .ok (.aload_n 0, 1) := by decide +kernel
theorem dW_law_1011 : decode (zby mW_law) 1011 = .ok (.iload 5, 2) := by decide +kernel
theorem dW_law_1013 : decode (zby mW_law) 1013 = .ok (.iconst 1, 1) := by decide +kernel
theorem dW_law_1014 : decode (zby mW_law) 1014 = .ok (.iadd, 1) := by decide +kernel
theorem dW_law_1015 : decode (zby mW_law) 1015 = .ok (.iaload, 1) := by decide +kernel
theorem dW_law_1016 : decode (zby mW_law) 1016 = .ok (.aload_n 3, 1) := by decide +kernel
theorem dW_law_1017 : decode (zby mW_law) 1017 = .ok (.invokestatic 225, 3) := by decide +kernel
theorem dW_law_1020 : decode (zby mW_law) 1020 = .ok (.istore 6, 2) := by decide +kernel
theorem dW_law_1022 : decode (zby mW_law) 1022 = .ok (.aload_n 2, 1) := by decide +kernel
theorem dW_law_1023 : decode (zby mW_law) 1023 = .ok (.aload_n 0, 1) := by decide +kernel
theorem dW_law_1024 : decode (zby mW_law) 1024 = .ok (.iload 5, 2) := by decide +kernel
theorem dW_law_1026 : decode (zby mW_law) 1026 = .ok (.iconst 1, 1) := by decide +kernel
theorem dW_law_1027 : decode (zby mW_law) 1027 = .ok (.iadd, 1) := by decide +kernel
theorem dW_law_1028 : decode (zby mW_law) 1028 = .ok (.iaload, 1) := by decide +kernel
theorem dW_law_1029 : decode (zby mW_law) 1029 = .ok (.invokevirtual 227, 3) := by decide +kernel
theorem dW_law_1032 : decode (zby mW_law) 1032 = .ok (.istore 7, 2) := by decide +kernel
theorem dW_law_1034 : decode (zby mW_law) 1034 = .ok (.aload_n 2, 1) := by decide +kernel
theorem dW_law_1035 : decode (zby mW_law) 1035 = .ok (.invokevirtual 183, 3) := by decide +kernel
theorem dW_law_1038 : decode (zby mW_law) 1038 = .ok (.iload 6, 2) := by decide +kernel
theorem dW_law_1040 : decode (zby mW_law) 1040 = .ok (.if_icmp .eq 5, 3) := by decide +kernel
theorem dW_law_1045 : decode (zby mW_law) 1045 = .ok (.iload 6, 2) := by decide +kernel
theorem dW_law_1047 : decode (zby mW_law) 1047 = .ok (.ifCond .ne 15, 3) := by decide +kernel
theorem dW_law_1050 : decode (zby mW_law) 1050 = .ok (.aload_n 3, 1) := by decide +kernel
theorem dW_law_1051 : decode (zby mW_law) 1051 = .ok (.iconst 0, 1) := by decide +kernel
theorem dW_law_1052 : decode (zby mW_law) 1052 = .ok (.laload, 1) := by decide +kernel
theorem dW_law_1053 : decode (zby mW_law) 1053 = .ok (.iload 7, 2) := by decide +kernel
theorem dW_law_1055 : decode (zby mW_law) 1055 = .ok (.i2l, 1) := by decide +kernel
theorem dW_law_1056 : decode (zby mW_law) 1056 = .ok (.lcmp, 1) := by decide +kernel
theorem dW_law_1057 : decode (zby mW_law) 1057 = .ok (.ifCond .eq 5, 3) := by decide +kernel
theorem dW_law_1062 : decode (zby mW_law) 1062 = .ok (.goto 2198, 3) := by decide +kernel
theorem dW_law_1065 : decode (zby mW_law) 1065 = .ok (.aload_n 1, 1) := by decide +kernel
theorem dW_law_1066 : decode (zby mW_law) 1066 = .ok (.aload_n 0, 1) := by decide +kernel
theorem dW_law_1067 : decode (zby mW_law) 1067 = .ok (.iload 5, 2) := by decide +kernel
theorem dW_law_1069 : decode (zby mW_law) 1069 = .ok (.iconst 1, 1) := by decide +kernel
theorem dW_law_1070 : decode (zby mW_law) 1070 = .ok (.iadd, 1) := by decide +kernel
theorem dW_law_1071 : decode (zby mW_law) 1071 = .ok (.iaload, 1) := by decide +kernel
theorem dW_law_1072 : decode (zby mW_law) 1072 = .ok (.aload_n 3, 1) := by decide +kernel
theorem dW_law_1073 : decode (zby mW_law) 1073 = .ok (.invokestatic 228, 3) := by decide +kernel
theorem dW_law_1076 : decode (zby mW_law) 1076 = .ok (.istore 6, 2) := by decide +kernel
theorem dW_law_1078 : decode (zby mW_law) 1078 = .ok (.aload_n 2, 1) := by decide +kernel
theorem dW_law_1079 : decode (zby mW_law) 1079 = .ok (.aload_n 0, 1) := by decide +kernel
theorem dW_law_1080 : decode (zby mW_law) 1080 = .ok (.iload 5, 2) := by decide +kernel
theorem dW_law_1082 : decode (zby mW_law) 1082 = .ok (.iconst 1, 1) := by decide +kernel
theorem dW_law_1083 : decode (zby mW_law) 1083 = .ok (.iadd, 1) := by decide +kernel
theorem dW_law_1084 : decode (zby mW_law) 1084 = .ok (.iaload, 1) := by decide +kernel
theorem dW_law_1085 : decode (zby mW_law) 1085 = .ok (.invokevirtual 230, 3) := by decide +kernel
theorem dW_law_1088 : decode (zby mW_law) 1088 = .ok (.istore 7, 2) := by decide +kernel
theorem dW_law_1090 : decode (zby mW_law) 1090 = .ok (.aload_n 2, 1) := by decide +kernel
theorem dW_law_1091 : decode (zby mW_law) 1091 = .ok (.invokevirtual 183, 3) := by decide +kernel
theorem dW_law_1094 : decode (zby mW_law) 1094 = .ok (.iload 6, 2) := by decide +kernel
theorem dW_law_1096 : decode (zby mW_law) 1096 = .ok (.if_icmp .eq 5, 3) := by decide +kernel
theorem dW_law_1101 : decode (zby mW_law) 1101 = .ok (.iload 6, 2) := by decide +kernel
theorem dW_law_1103 : decode (zby mW_law) 1103 = .ok (.ifCond .ne 15, 3) := by decide +kernel
theorem dW_law_1106 : decode (zby mW_law) 1106 = .ok (.aload_n 3, 1) := by decide +kernel
theorem dW_law_1107 : decode (zby mW_law) 1107 = .ok (.iconst 0, 1) := by decide +kernel
theorem dW_law_1108 : decode (zby mW_law) 1108 = .ok (.laload, 1) := by decide +kernel
theorem dW_law_1109 : decode (zby mW_law) 1109 = .ok (.iload 7, 2) := by decide +kernel
theorem dW_law_1111 : decode (zby mW_law) 1111 = .ok (.i2l, 1) := by decide +kernel
theorem dW_law_1112 : decode (zby mW_law) 1112 = .ok (.lcmp, 1) := by decide +kernel
theorem dW_law_1113 : decode (zby mW_law) 1113 = .ok (.ifCond .eq 5, 3) := by decide +kernel
theorem dW_law_1118 : decode (zby mW_law) 1118 = .ok (.goto 2142, 3) := by decide +kernel
theorem dW_law_1121 : decode (zby mW_law) 1121 = .ok (.aload_n 1, 1) := by decide +kernel
theorem dW_law_1122 : decode (zby mW_law) 1122 = .ok (.aload_n 0, 1) := by decide +kernel
theorem dW_law_1123 : decode (zby mW_law) 1123 = .ok (.iload 5, 2) := by decide +kernel
theorem dW_law_1125 : decode (zby mW_law) 1125 = .ok (.iconst 1, 1) := by decide +kernel
theorem dW_law_1126 : decode (zby mW_law) 1126 = .ok (.iadd, 1) := by decide +kernel
theorem dW_law_1127 : decode (zby mW_law) 1127 = .ok (.iaload, 1) := by decide +kernel
theorem dW_law_1128 : decode (zby mW_law) 1128 = .ok (.aload_n 3, 1) := by decide +kernel
theorem dW_law_1129 : decode (zby mW_law) 1129 = .ok (.invokestatic 231, 3) := by decide +kernel
theorem dW_law_1132 : decode (zby mW_law) 1132 = .ok (.istore 6, 2) := by decide +kernel
theorem dW_law_1134 : decode (zby mW_law) 1134 = .ok (.aload_n 2, 1) := by decide +kernel
theorem dW_law_1135 : decode (zby mW_law) 1135 = .ok (.aload_n 0, 1) := by decide +kernel
theorem dW_law_1136 : decode (zby mW_law) 1136 = .ok (.iload 5, 2) := by decide +kernel
theorem dW_law_1138 : decode (zby mW_law) 1138 = .ok (.iconst 1, 1) := by decide +kernel
theorem dW_law_1139 : decode (zby mW_law) 1139 = .ok (.iadd, 1) := by decide +kernel
theorem dW_law_1140 : decode (zby mW_law) 1140 = .ok (.iaload, 1) := by decide +kernel
theorem dW_law_1141 : decode (zby mW_law) 1141 = .ok (.invokevirtual 233, 3) := by decide +kernel
theorem dW_law_1144 : decode (zby mW_law) 1144 = .ok (.istore 7, 2) := by decide +kernel
theorem dW_law_1146 : decode (zby mW_law) 1146 = .ok (.aload_n 2, 1) := by decide +kernel
theorem dW_law_1147 : decode (zby mW_law) 1147 = .ok (.invokevirtual 183, 3) := by decide +kernel
theorem dW_law_1150 : decode (zby mW_law) 1150 = .ok (.iload 6, 2) := by decide +kernel
theorem dW_law_1152 : decode (zby mW_law) 1152 = .ok (.if_icmp .eq 5, 3) := by decide +kernel
theorem dW_law_1157 : decode (zby mW_law) 1157 = .ok (.iload 6, 2) := by decide +kernel
theorem dW_law_1159 : decode (zby mW_law) 1159 = .ok (.ifCond .ne 15, 3) := by decide +kernel
theorem dW_law_1162 : decode (zby mW_law) 1162 = .ok (.aload_n 3, 1) := by decide +kernel
theorem dW_law_1163 : decode (zby mW_law) 1163 = .ok (.iconst 0, 1) := by decide +kernel
theorem dW_law_1164 : decode (zby mW_law) 1164 = .ok (.laload, 1) := by decide +kernel
theorem dW_law_1165 : decode (zby mW_law) 1165 = .ok (.iload 7, 2) := by decide +kernel
theorem dW_law_1167 : decode (zby mW_law) 1167 = .ok (.i2l, 1) := by decide +kernel
theorem dW_law_1168 : decode (zby mW_law) 1168 = .ok (.lcmp, 1) := by decide +kernel
theorem dW_law_1169 : decode (zby mW_law) 1169 = .ok (.ifCond .eq 5, 3) := by decide +kernel
theorem dW_law_1174 : decode (zby mW_law) 1174 = .ok (.goto 2086, 3) := by decide +kernel
theorem dW_law_1177 : decode (zby mW_law) 1177 = .ok (.aload_n 1, 1) := by decide +kernel
theorem dW_law_1178 : decode (zby mW_law) 1178 = .ok (.aload_n 0, 1) := by decide +kernel
theorem dW_law_1179 : decode (zby mW_law) 1179 = .ok (.iload 5, 2) := by decide +kernel
theorem dW_law_1181 : decode (zby mW_law) 1181 = .ok (.iconst 1, 1) := by decide +kernel
theorem dW_law_1182 : decode (zby mW_law) 1182 = .ok (.iadd, 1) := by decide +kernel
theorem dW_law_1183 : decode (zby mW_law) 1183 = .ok (.iaload, 1) := by decide +kernel
theorem dW_law_1184 : decode (zby mW_law) 1184 = .ok (.aload_n 3, 1) := by decide +kernel
theorem dW_law_1185 : decode (zby mW_law) 1185 = .ok (.invokestatic 234, 3) := by decide +kernel
theorem dW_law_1188 : decode (zby mW_law) 1188 = .ok (.istore 6, 2) := by decide +kernel
theorem dW_law_1190 : decode (zby mW_law) 1190 = .ok (.aload_n 2, 1) := by decide +kernel
theorem dW_law_1191 : decode (zby mW_law) 1191 = .ok (.aload_n 0, 1) := by decide +kernel
theorem dW_law_1192 : decode (zby mW_law) 1192 = .ok (.iload 5, 2) := by decide +kernel
theorem dW_law_1194 : decode (zby mW_law) 1194 = .ok (.iconst 1, 1) := by decide +kernel
theorem dW_law_1195 : decode (zby mW_law) 1195 = .ok (.iadd, 1) := by decide +kernel
theorem dW_law_1196 : decode (zby mW_law) 1196 = .ok (.iaload, 1) := by decide +kernel
theorem dW_law_1197 : decode (zby mW_law) 1197 = .ok (.invokevirtual 236, 3) := by decide +kernel
theorem dW_law_1200 : decode (zby mW_law) 1200 = .ok (.istore 7, 2) := by decide +kernel
theorem dW_law_1202 : decode (zby mW_law) 1202 = .ok (.aload_n 2, 1) := by decide +kernel
theorem dW_law_1203 : decode (zby mW_law) 1203 = .ok (.invokevirtual 183, 3) := by decide +kernel
theorem dW_law_1206 : decode (zby mW_law) 1206 = .ok (.iload 6, 2) := by decide +kernel
theorem dW_law_1208 : decode (zby mW_law) 1208 = .ok (.if_icmp .eq 5, 3) := by decide +kernel
theorem dW_law_1213 : decode (zby mW_law) 1213 = .ok (.iload 6, 2) := by decide +kernel
theorem dW_law_1215 : decode (zby mW_law) 1215 = .ok (.ifCond .ne 15, 3) := by decide +kernel
theorem dW_law_1218 : decode (zby mW_law) 1218 = .ok (.aload_n 3, 1) := by decide +kernel
theorem dW_law_1219 : decode (zby mW_law) 1219 = .ok (.iconst 0, 1) := by decide +kernel
theorem dW_law_1220 : decode (zby mW_law) 1220 = .ok (.laload, 1) := by decide +kernel
theorem dW_law_1221 : decode (zby mW_law) 1221 = .ok (.iload 7, 2) := by decide +kernel
theorem dW_law_1223 : decode (zby mW_law) 1223 = .ok (.i2l, 1) := by decide +kernel
theorem dW_law_1224 : decode (zby mW_law) 1224 = .ok (.lcmp, 1) := by decide +kernel
theorem dW_law_1225 : decode (zby mW_law) 1225 = .ok (.ifCond .eq 5, 3) := by decide +kernel
theorem dW_law_1230 : decode (zby mW_law) 1230 = .ok (.goto 2030, 3) := by decide +kernel
theorem dW_law_1233 : decode (zby mW_law) 1233 = .ok (.aload_n 1, 1) := by decide +kernel
theorem dW_law_1234 : decode (zby mW_law) 1234 = .ok (.aload_n 0, 1) := by decide +kernel
theorem dW_law_1235 : decode (zby mW_law) 1235 = .ok (.iload 5, 2) := by decide +kernel
