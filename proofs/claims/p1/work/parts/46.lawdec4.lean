theorem dXL_law_793 : decode code 793 = .ok (.iload 4, 2) := by decide +kernel
theorem dXL_law_795 : decode code 795 = .ok (.iconst 2, 1) := by decide +kernel
theorem dXL_law_796 : decode code 796 = .ok (.iadd, 1) := by decide +kernel
theorem dXL_law_797 : decode code 797 = .ok (.iaload, 1) := by decide +kernel
theorem dXL_law_798 : decode code 798 = .ok (.invokevirtual 115, 3) := by decide +kernel
theorem dXL_law_801 : decode code 801 = .ok (.istore 6, 2) := by decide +kernel
theorem dXL_law_803 : decode code 803 = .ok (.aload_n 2, 1) := by decide +kernel
theorem dXL_law_804 : decode code 804 = .ok (.invokevirtual 76, 3) := by decide +kernel
theorem dXL_law_807 : decode code 807 = .ok (.iload 5, 2) := by decide +kernel
theorem dXL_law_809 : decode code 809 = .ok (.if_icmp .eq 5, 3) := by decide +kernel
theorem dXL_law_812 : decode code 812 = .ok (.iconst 0, 1) := by decide +kernel
theorem dXL_law_813 : decode code 813 = .ok (.ireturn, 1) := by decide +kernel
theorem dXL_law_814 : decode code 814 = .ok (.iload 5, 2) := by decide +kernel
theorem dXL_law_816 : decode code 816 = .ok (.ifCond .ne 15, 3) := by decide +kernel
theorem dXL_law_819 : decode code 819 = .ok (.aload_n 3, 1) := by decide +kernel
theorem dXL_law_820 : decode code 820 = .ok (.iconst 0, 1) := by decide +kernel
theorem dXL_law_821 : decode code 821 = .ok (.laload, 1) := by decide +kernel
theorem dXL_law_822 : decode code 822 = .ok (.iload 6, 2) := by decide +kernel
theorem dXL_law_824 : decode code 824 = .ok (.i2l, 1) := by decide +kernel
theorem dXL_law_825 : decode code 825 = .ok (.lcmp, 1) := by decide +kernel
theorem dXL_law_826 : decode code 826 = .ok (.ifCond .eq 5, 3) := by decide +kernel
theorem dXL_law_829 : decode code 829 = .ok (.iconst 0, 1) := by decide +kernel
theorem dXL_law_830 : decode code 830 = .ok (.ireturn, 1) := by decide +kernel
theorem dXL_law_831 : decode code 831 = .ok (.goto 206, 3) := by decide +kernel
theorem dXL_law_834 : decode code 834 = .ok (.aload_n 1, 1) := by decide +kernel
theorem dXL_law_835 : decode code 835 = .ok (.aload_n 0, 1) := by decide +kernel
theorem dXL_law_836 : decode code 836 = .ok (.iload 4, 2) := by decide +kernel
theorem dXL_law_838 : decode code 838 = .ok (.iconst 1, 1) := by decide +kernel
theorem dXL_law_839 : decode code 839 = .ok (.iadd, 1) := by decide +kernel
theorem dXL_law_840 : decode code 840 = .ok (.iaload, 1) := by decide +kernel
theorem dXL_law_841 : decode code 841 = .ok (.aload_n 0, 1) := by decide +kernel
theorem dXL_law_842 : decode code 842 = .ok (.iload 4, 2) := by decide +kernel
theorem dXL_law_844 : decode code 844 = .ok (.iconst 2, 1) := by decide +kernel
theorem dXL_law_845 : decode code 845 = .ok (.iadd, 1) := by decide +kernel
theorem dXL_law_846 : decode code 846 = .ok (.iaload, 1) := by decide +kernel
theorem dXL_law_847 : decode code 847 = .ok (.aload_n 0, 1) := by decide +kernel
theorem dXL_law_848 : decode code 848 = .ok (.iload 4, 2) := by decide +kernel
theorem dXL_law_850 : decode code 850 = .ok (.iconst 3, 1) := by decide +kernel
theorem dXL_law_851 : decode code 851 = .ok (.iadd, 1) := by decide +kernel
theorem dXL_law_852 : decode code 852 = .ok (.iaload, 1) := by decide +kernel
theorem dXL_law_853 : decode code 853 = .ok (.aload_n 3, 1) := by decide +kernel
theorem dXL_law_854 : decode code 854 = .ok (.invokestatic 116, 3) := by decide +kernel
theorem dXL_law_857 : decode code 857 = .ok (.istore 5, 2) := by decide +kernel
theorem dXL_law_859 : decode code 859 = .ok (.aload_n 2, 1) := by decide +kernel
theorem dXL_law_860 : decode code 860 = .ok (.aload_n 0, 1) := by decide +kernel
theorem dXL_law_861 : decode code 861 = .ok (.iload 4, 2) := by decide +kernel
theorem dXL_law_863 : decode code 863 = .ok (.iconst 1, 1) := by decide +kernel
theorem dXL_law_864 : decode code 864 = .ok (.iadd, 1) := by decide +kernel
theorem dXL_law_865 : decode code 865 = .ok (.iaload, 1) := by decide +kernel
theorem dXL_law_866 : decode code 866 = .ok (.aload_n 0, 1) := by decide +kernel
theorem dXL_law_867 : decode code 867 = .ok (.iload 4, 2) := by decide +kernel
theorem dXL_law_869 : decode code 869 = .ok (.iconst 2, 1) := by decide +kernel
theorem dXL_law_870 : decode code 870 = .ok (.iadd, 1) := by decide +kernel
theorem dXL_law_871 : decode code 871 = .ok (.iaload, 1) := by decide +kernel
theorem dXL_law_872 : decode code 872 = .ok (.aload_n 0, 1) := by decide +kernel
theorem dXL_law_873 : decode code 873 = .ok (.iload 4, 2) := by decide +kernel
theorem dXL_law_875 : decode code 875 = .ok (.iconst 3, 1) := by decide +kernel
theorem dXL_law_876 : decode code 876 = .ok (.iadd, 1) := by decide +kernel
theorem dXL_law_877 : decode code 877 = .ok (.iaload, 1) := by decide +kernel
theorem dXL_law_878 : decode code 878 = .ok (.invokevirtual 118, 3) := by decide +kernel
theorem dXL_law_881 : decode code 881 = .ok (.istore 6, 2) := by decide +kernel
theorem dXL_law_883 : decode code 883 = .ok (.aload_n 2, 1) := by decide +kernel
theorem dXL_law_884 : decode code 884 = .ok (.invokevirtual 76, 3) := by decide +kernel
theorem dXL_law_887 : decode code 887 = .ok (.iload 5, 2) := by decide +kernel
theorem dXL_law_889 : decode code 889 = .ok (.if_icmp .eq 5, 3) := by decide +kernel
theorem dXL_law_892 : decode code 892 = .ok (.iconst 0, 1) := by decide +kernel
theorem dXL_law_893 : decode code 893 = .ok (.ireturn, 1) := by decide +kernel
theorem dXL_law_894 : decode code 894 = .ok (.iload 5, 2) := by decide +kernel
theorem dXL_law_896 : decode code 896 = .ok (.ifCond .ne 15, 3) := by decide +kernel
theorem dXL_law_899 : decode code 899 = .ok (.aload_n 3, 1) := by decide +kernel
theorem dXL_law_900 : decode code 900 = .ok (.iconst 0, 1) := by decide +kernel
theorem dXL_law_901 : decode code 901 = .ok (.laload, 1) := by decide +kernel
theorem dXL_law_902 : decode code 902 = .ok (.iload 6, 2) := by decide +kernel
theorem dXL_law_904 : decode code 904 = .ok (.i2l, 1) := by decide +kernel
theorem dXL_law_905 : decode code 905 = .ok (.lcmp, 1) := by decide +kernel
theorem dXL_law_906 : decode code 906 = .ok (.ifCond .eq 5, 3) := by decide +kernel
theorem dXL_law_909 : decode code 909 = .ok (.iconst 0, 1) := by decide +kernel
theorem dXL_law_910 : decode code 910 = .ok (.ireturn, 1) := by decide +kernel
theorem dXL_law_911 : decode code 911 = .ok (.goto 126, 3) := by decide +kernel
theorem dXL_law_914 : decode code 914 = .ok (.aload_n 1, 1) := by decide +kernel
theorem dXL_law_915 : decode code 915 = .ok (.aload_n 0, 1) := by decide +kernel
theorem dXL_law_916 : decode code 916 = .ok (.iload 4, 2) := by decide +kernel
theorem dXL_law_918 : decode code 918 = .ok (.iconst 1, 1) := by decide +kernel
theorem dXL_law_919 : decode code 919 = .ok (.iadd, 1) := by decide +kernel
theorem dXL_law_920 : decode code 920 = .ok (.iaload, 1) := by decide +kernel
theorem dXL_law_921 : decode code 921 = .ok (.aload_n 3, 1) := by decide +kernel
theorem dXL_law_922 : decode code 922 = .ok (.invokestatic 119, 3) := by decide +kernel
theorem dXL_law_925 : decode code 925 = .ok (.istore 5, 2) := by decide +kernel
theorem dXL_law_927 : decode code 927 = .ok (.aload_n 2, 1) := by decide +kernel
theorem dXL_law_928 : decode code 928 = .ok (.aload_n 0, 1) := by decide +kernel
theorem dXL_law_929 : decode code 929 = .ok (.iload 4, 2) := by decide +kernel
theorem dXL_law_931 : decode code 931 = .ok (.iconst 1, 1) := by decide +kernel
theorem dXL_law_932 : decode code 932 = .ok (.iadd, 1) := by decide +kernel
theorem dXL_law_933 : decode code 933 = .ok (.iaload, 1) := by decide +kernel
theorem dXL_law_934 : decode code 934 = .ok (.invokevirtual 121, 3) := by decide +kernel
theorem dXL_law_937 : decode code 937 = .ok (.istore 6, 2) := by decide +kernel
theorem dXL_law_939 : decode code 939 = .ok (.aload_n 2, 1) := by decide +kernel
theorem dXL_law_940 : decode code 940 = .ok (.invokevirtual 76, 3) := by decide +kernel
theorem dXL_law_943 : decode code 943 = .ok (.iload 5, 2) := by decide +kernel
theorem dXL_law_945 : decode code 945 = .ok (.if_icmp .eq 5, 3) := by decide +kernel
theorem dXL_law_948 : decode code 948 = .ok (.iconst 0, 1) := by decide +kernel
theorem dXL_law_949 : decode code 949 = .ok (.ireturn, 1) := by decide +kernel
theorem dXL_law_950 : decode code 950 = .ok (.iload 5, 2) := by decide +kernel
theorem dXL_law_952 : decode code 952 = .ok (.ifCond .ne 15, 3) := by decide +kernel
theorem dXL_law_955 : decode code 955 = .ok (.aload_n 3, 1) := by decide +kernel
theorem dXL_law_956 : decode code 956 = .ok (.iconst 0, 1) := by decide +kernel
theorem dXL_law_957 : decode code 957 = .ok (.laload, 1) := by decide +kernel
theorem dXL_law_958 : decode code 958 = .ok (.iload 6, 2) := by decide +kernel
theorem dXL_law_960 : decode code 960 = .ok (.i2l, 1) := by decide +kernel
theorem dXL_law_961 : decode code 961 = .ok (.lcmp, 1) := by decide +kernel
theorem dXL_law_962 : decode code 962 = .ok (.ifCond .eq 5, 3) := by decide +kernel
theorem dXL_law_965 : decode code 965 = .ok (.iconst 0, 1) := by decide +kernel
theorem dXL_law_966 : decode code 966 = .ok (.ireturn, 1) := by decide +kernel
theorem dXL_law_967 : decode code 967 = .ok (.goto 70, 3) := by decide +kernel
theorem dXL_law_970 : decode code 970 = .ok (.aload_n 1, 1) := by decide +kernel
theorem dXL_law_971 : decode code 971 = .ok (.aload_n 0, 1) := by decide +kernel
theorem dXL_law_972 : decode code 972 = .ok (.iload 4, 2) := by decide +kernel
theorem dXL_law_974 : decode code 974 = .ok (.iconst 1, 1) := by decide +kernel
theorem dXL_law_975 : decode code 975 = .ok (.iadd, 1) := by decide +kernel
theorem dXL_law_976 : decode code 976 = .ok (.iaload, 1) := by decide +kernel
