theorem d_Lw_law_795 : decode code 795 = .ok (.lcmp, 1) := by decide +kernel
theorem d_Lw_law_796 : decode code 796 = .ok (.ifCond .eq 5, 3) := by decide +kernel
theorem d_Lw_law_799 : decode code 799 = .ok (.iconst 0, 1) := by decide +kernel
theorem d_Lw_law_800 : decode code 800 = .ok (.ireturn, 1) := by decide +kernel
theorem d_Lw_law_801 : decode code 801 = .ok (.goto 732, 3) := by decide +kernel
theorem d_Lw_law_804 : decode code 804 = .ok (.aload_n 1, 1) := by decide +kernel
theorem d_Lw_law_805 : decode code 805 = .ok (.aload_n 0, 1) := by decide +kernel
theorem d_Lw_law_806 : decode code 806 = .ok (.iload 4, 2) := by decide +kernel
theorem d_Lw_law_808 : decode code 808 = .ok (.iconst 1, 1) := by decide +kernel
theorem d_Lw_law_809 : decode code 809 = .ok (.iadd, 1) := by decide +kernel
theorem d_Lw_law_810 : decode code 810 = .ok (.iaload, 1) := by decide +kernel
theorem d_Lw_law_811 : decode code 811 = .ok (.invokestatic 133, 3) := by decide +kernel
theorem d_Lw_law_814 : decode code 814 = .ok (.istore 5, 2) := by decide +kernel
theorem d_Lw_law_816 : decode code 816 = .ok (.aload_n 2, 1) := by decide +kernel
theorem d_Lw_law_817 : decode code 817 = .ok (.aload_n 0, 1) := by decide +kernel
theorem d_Lw_law_818 : decode code 818 = .ok (.iload 4, 2) := by decide +kernel
theorem d_Lw_law_820 : decode code 820 = .ok (.iconst 1, 1) := by decide +kernel
theorem d_Lw_law_821 : decode code 821 = .ok (.iadd, 1) := by decide +kernel
theorem d_Lw_law_822 : decode code 822 = .ok (.iaload, 1) := by decide +kernel
theorem d_Lw_law_823 : decode code 823 = .ok (.invokevirtual 135, 3) := by decide +kernel
theorem d_Lw_law_826 : decode code 826 = .ok (.aload_n 2, 1) := by decide +kernel
theorem d_Lw_law_827 : decode code 827 = .ok (.invokevirtual 96, 3) := by decide +kernel
theorem d_Lw_law_830 : decode code 830 = .ok (.iload 5, 2) := by decide +kernel
theorem d_Lw_law_832 : decode code 832 = .ok (.if_icmp .eq 5, 3) := by decide +kernel
theorem d_Lw_law_835 : decode code 835 = .ok (.iconst 0, 1) := by decide +kernel
theorem d_Lw_law_836 : decode code 836 = .ok (.ireturn, 1) := by decide +kernel
theorem d_Lw_law_837 : decode code 837 = .ok (.goto 696, 3) := by decide +kernel
theorem d_Lw_law_840 : decode code 840 = .ok (.aload_n 1, 1) := by decide +kernel
theorem d_Lw_law_841 : decode code 841 = .ok (.aload_n 0, 1) := by decide +kernel
theorem d_Lw_law_842 : decode code 842 = .ok (.iload 4, 2) := by decide +kernel
theorem d_Lw_law_844 : decode code 844 = .ok (.iconst 1, 1) := by decide +kernel
theorem d_Lw_law_845 : decode code 845 = .ok (.iadd, 1) := by decide +kernel
theorem d_Lw_law_846 : decode code 846 = .ok (.iaload, 1) := by decide +kernel
theorem d_Lw_law_847 : decode code 847 = .ok (.aload_n 0, 1) := by decide +kernel
theorem d_Lw_law_848 : decode code 848 = .ok (.iload 4, 2) := by decide +kernel
theorem d_Lw_law_850 : decode code 850 = .ok (.iconst 2, 1) := by decide +kernel
theorem d_Lw_law_851 : decode code 851 = .ok (.iadd, 1) := by decide +kernel
theorem d_Lw_law_852 : decode code 852 = .ok (.iaload, 1) := by decide +kernel
theorem d_Lw_law_853 : decode code 853 = .ok (.invokevirtual 136, 3) := by decide +kernel
theorem d_Lw_law_856 : decode code 856 = .ok (.aload_n 2, 1) := by decide +kernel
theorem d_Lw_law_857 : decode code 857 = .ok (.aload_n 0, 1) := by decide +kernel
theorem d_Lw_law_858 : decode code 858 = .ok (.iload 4, 2) := by decide +kernel
theorem d_Lw_law_860 : decode code 860 = .ok (.iconst 1, 1) := by decide +kernel
theorem d_Lw_law_861 : decode code 861 = .ok (.iadd, 1) := by decide +kernel
theorem d_Lw_law_862 : decode code 862 = .ok (.iaload, 1) := by decide +kernel
theorem d_Lw_law_863 : decode code 863 = .ok (.aload_n 0, 1) := by decide +kernel
theorem d_Lw_law_864 : decode code 864 = .ok (.iload 4, 2) := by decide +kernel
theorem d_Lw_law_866 : decode code 866 = .ok (.iconst 2, 1) := by decide +kernel
theorem d_Lw_law_867 : decode code 867 = .ok (.iadd, 1) := by decide +kernel
theorem d_Lw_law_868 : decode code 868 = .ok (.iaload, 1) := by decide +kernel
theorem d_Lw_law_869 : decode code 869 = .ok (.invokevirtual 139, 3) := by decide +kernel
theorem d_Lw_law_872 : decode code 872 = .ok (.if_icmp .eq 661, 3) := by decide +kernel
theorem d_Lw_law_875 : decode code 875 = .ok (.iconst 0, 1) := by decide +kernel
theorem d_Lw_law_876 : decode code 876 = .ok (.ireturn, 1) := by decide +kernel
theorem d_Lw_law_877 : decode code 877 = .ok (.aload_n 1, 1) := by decide +kernel
theorem d_Lw_law_878 : decode code 878 = .ok (.aload_n 0, 1) := by decide +kernel
theorem d_Lw_law_879 : decode code 879 = .ok (.iload 4, 2) := by decide +kernel
theorem d_Lw_law_881 : decode code 881 = .ok (.iconst 1, 1) := by decide +kernel
theorem d_Lw_law_882 : decode code 882 = .ok (.iadd, 1) := by decide +kernel
theorem d_Lw_law_883 : decode code 883 = .ok (.iaload, 1) := by decide +kernel
theorem d_Lw_law_884 : decode code 884 = .ok (.aload_n 0, 1) := by decide +kernel
theorem d_Lw_law_885 : decode code 885 = .ok (.iload 4, 2) := by decide +kernel
theorem d_Lw_law_887 : decode code 887 = .ok (.iconst 2, 1) := by decide +kernel
theorem d_Lw_law_888 : decode code 888 = .ok (.iadd, 1) := by decide +kernel
theorem d_Lw_law_889 : decode code 889 = .ok (.iaload, 1) := by decide +kernel
theorem d_Lw_law_890 : decode code 890 = .ok (.aload_n 3, 1) := by decide +kernel
theorem d_Lw_law_891 : decode code 891 = .ok (.invokestatic 140, 3) := by decide +kernel
theorem d_Lw_law_894 : decode code 894 = .ok (.istore 5, 2) := by decide +kernel
theorem d_Lw_law_896 : decode code 896 = .ok (.aload_n 2, 1) := by decide +kernel
theorem d_Lw_law_897 : decode code 897 = .ok (.aload_n 0, 1) := by decide +kernel
theorem d_Lw_law_898 : decode code 898 = .ok (.iload 4, 2) := by decide +kernel
theorem d_Lw_law_900 : decode code 900 = .ok (.iconst 1, 1) := by decide +kernel
theorem d_Lw_law_901 : decode code 901 = .ok (.iadd, 1) := by decide +kernel
theorem d_Lw_law_902 : decode code 902 = .ok (.iaload, 1) := by decide +kernel
theorem d_Lw_law_903 : decode code 903 = .ok (.aload_n 0, 1) := by decide +kernel
theorem d_Lw_law_904 : decode code 904 = .ok (.iload 4, 2) := by decide +kernel
theorem d_Lw_law_906 : decode code 906 = .ok (.iconst 2, 1) := by decide +kernel
theorem d_Lw_law_907 : decode code 907 = .ok (.iadd, 1) := by decide +kernel
theorem d_Lw_law_908 : decode code 908 = .ok (.iaload, 1) := by decide +kernel
theorem d_Lw_law_909 : decode code 909 = .ok (.invokevirtual 142, 3) := by decide +kernel
theorem d_Lw_law_912 : decode code 912 = .ok (.istore 6, 2) := by decide +kernel
theorem d_Lw_law_914 : decode code 914 = .ok (.aload_n 2, 1) := by decide +kernel
theorem d_Lw_law_915 : decode code 915 = .ok (.invokevirtual 96, 3) := by decide +kernel
theorem d_Lw_law_918 : decode code 918 = .ok (.iload 5, 2) := by decide +kernel
theorem d_Lw_law_920 : decode code 920 = .ok (.if_icmp .eq 5, 3) := by decide +kernel
theorem d_Lw_law_923 : decode code 923 = .ok (.iconst 0, 1) := by decide +kernel
theorem d_Lw_law_924 : decode code 924 = .ok (.ireturn, 1) := by decide +kernel
theorem d_Lw_law_925 : decode code 925 = .ok (.iload 5, 2) := by decide +kernel
theorem d_Lw_law_927 : decode code 927 = .ok (.ifCond .ne 15, 3) := by decide +kernel
theorem d_Lw_law_930 : decode code 930 = .ok (.aload_n 3, 1) := by decide +kernel
theorem d_Lw_law_931 : decode code 931 = .ok (.iconst 0, 1) := by decide +kernel
theorem d_Lw_law_932 : decode code 932 = .ok (.laload, 1) := by decide +kernel
theorem d_Lw_law_933 : decode code 933 = .ok (.iload 6, 2) := by decide +kernel
theorem d_Lw_law_935 : decode code 935 = .ok (.i2l, 1) := by decide +kernel
theorem d_Lw_law_936 : decode code 936 = .ok (.lcmp, 1) := by decide +kernel
theorem d_Lw_law_937 : decode code 937 = .ok (.ifCond .eq 5, 3) := by decide +kernel
theorem d_Lw_law_940 : decode code 940 = .ok (.iconst 0, 1) := by decide +kernel
theorem d_Lw_law_941 : decode code 941 = .ok (.ireturn, 1) := by decide +kernel
theorem d_Lw_law_942 : decode code 942 = .ok (.goto 591, 3) := by decide +kernel
theorem d_Lw_law_945 : decode code 945 = .ok (.aload_n 1, 1) := by decide +kernel
theorem d_Lw_law_946 : decode code 946 = .ok (.aload_n 0, 1) := by decide +kernel
theorem d_Lw_law_947 : decode code 947 = .ok (.iload 4, 2) := by decide +kernel
theorem d_Lw_law_949 : decode code 949 = .ok (.iconst 1, 1) := by decide +kernel
theorem d_Lw_law_950 : decode code 950 = .ok (.iadd, 1) := by decide +kernel
theorem d_Lw_law_951 : decode code 951 = .ok (.iaload, 1) := by decide +kernel
theorem d_Lw_law_952 : decode code 952 = .ok (.invokevirtual 143, 3) := by decide +kernel
theorem d_Lw_law_955 : decode code 955 = .ok (.aload_n 2, 1) := by decide +kernel
theorem d_Lw_law_956 : decode code 956 = .ok (.aload_n 0, 1) := by decide +kernel
theorem d_Lw_law_957 : decode code 957 = .ok (.iload 4, 2) := by decide +kernel
theorem d_Lw_law_959 : decode code 959 = .ok (.iconst 1, 1) := by decide +kernel
theorem d_Lw_law_960 : decode code 960 = .ok (.iadd, 1) := by decide +kernel
theorem d_Lw_law_961 : decode code 961 = .ok (.iaload, 1) := by decide +kernel
theorem d_Lw_law_962 : decode code 962 = .ok (.invokevirtual 146, 3) := by decide +kernel
theorem d_Lw_law_965 : decode code 965 = .ok (.if_icmp .eq 568, 3) := by decide +kernel
theorem d_Lw_law_968 : decode code 968 = .ok (.iconst 0, 1) := by decide +kernel
theorem d_Lw_law_969 : decode code 969 = .ok (.ireturn, 1) := by decide +kernel
theorem d_Lw_law_970 : decode code 970 = .ok (.aload_n 1, 1) := by decide +kernel
theorem d_Lw_law_971 : decode code 971 = .ok (.aload_n 0, 1) := by decide +kernel
theorem d_Lw_law_972 : decode code 972 = .ok (.iload 4, 2) := by decide +kernel
theorem d_Lw_law_974 : decode code 974 = .ok (.iconst 1, 1) := by decide +kernel
theorem d_Lw_law_975 : decode code 975 = .ok (.iadd, 1) := by decide +kernel
theorem d_Lw_law_976 : decode code 976 = .ok (.iaload, 1) := by decide +kernel
theorem d_Lw_law_977 : decode code 977 = .ok (.aload_n 0, 1) := by decide +kernel
theorem d_Lw_law_978 : decode code 978 = .ok (.iload 4, 2) := by decide +kernel
theorem d_Lw_law_980 : decode code 980 = .ok (.iconst 2, 1) := by decide +kernel
theorem d_Lw_law_981 : decode code 981 = .ok (.iadd, 1) := by decide +kernel
theorem d_Lw_law_982 : decode code 982 = .ok (.iaload, 1) := by decide +kernel
theorem d_Lw_law_983 : decode code 983 = .ok (.aload_n 3, 1) := by decide +kernel
theorem d_Lw_law_984 : decode code 984 = .ok (.invokestatic 147, 3) := by decide +kernel
theorem d_Lw_law_987 : decode code 987 = .ok (.istore 5, 2) := by decide +kernel
theorem d_Lw_law_989 : decode code 989 = .ok (.aload_n 2, 1) := by decide +kernel
theorem d_Lw_law_990 : decode code 990 = .ok (.aload_n 0, 1) := by decide +kernel
theorem d_Lw_law_991 : decode code 991 = .ok (.iload 4, 2) := by decide +kernel
theorem d_Lw_law_993 : decode code 993 = .ok (.iconst 1, 1) := by decide +kernel
theorem d_Lw_law_994 : decode code 994 = .ok (.iadd, 1) := by decide +kernel
theorem d_Lw_law_995 : decode code 995 = .ok (.iaload, 1) := by decide +kernel
theorem d_Lw_law_996 : decode code 996 = .ok (.aload_n 0, 1) := by decide +kernel
theorem d_Lw_law_997 : decode code 997 = .ok (.iload 4, 2) := by decide +kernel
theorem d_Lw_law_999 : decode code 999 = .ok (.iconst 2, 1) := by decide +kernel
theorem d_Lw_law_1000 : decode code 1000 = .ok (.iadd, 1) := by decide +kernel
theorem d_Lw_law_1001 : decode code 1001 = .ok (.iaload, 1) := by decide +kernel
theorem d_Lw_law_1002 : decode code 1002 = .ok (.invokevirtual 149, 3) := by decide +kernel
theorem d_Lw_law_1005 : decode code 1005 = .ok (.lstore 6, 2) := by decide +kernel
theorem d_Lw_law_1007 : decode code 1007 = .ok (.aload_n 2, 1) := by decide +kernel
theorem d_Lw_law_1008 : decode code 1008 = .ok (.invokevirtual 96, 3) := by decide +kernel
theorem d_Lw_law_1011 : decode code 1011 = .ok (.iload 5, 2) := by decide +kernel
theorem d_Lw_law_1013 : decode code 1013 = .ok (.if_icmp .eq 5, 3) := by decide +kernel
theorem d_Lw_law_1016 : decode code 1016 = .ok (.iconst 0, 1) := by decide +kernel
theorem d_Lw_law_1017 : decode code 1017 = .ok (.ireturn, 1) := by decide +kernel
theorem d_Lw_law_1018 : decode code 1018 = .ok (.iload 5, 2) := by decide +kernel
