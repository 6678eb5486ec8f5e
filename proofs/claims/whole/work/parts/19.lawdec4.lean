theorem d_L_law_797 : decode code 797 = .ok (.iaload, 1) := by decide +kernel
theorem d_L_law_798 : decode code 798 = .ok (.aload_n 0, 1) := by decide +kernel
theorem d_L_law_799 : decode code 799 = .ok (.iload 4, 2) := by decide +kernel
theorem d_L_law_801 : decode code 801 = .ok (.iconst 2, 1) := by decide +kernel
theorem d_L_law_802 : decode code 802 = .ok (.iadd, 1) := by decide +kernel
theorem d_L_law_803 : decode code 803 = .ok (.iaload, 1) := by decide +kernel
theorem d_L_law_804 : decode code 804 = .ok (.aload_n 3, 1) := by decide +kernel
theorem d_L_law_805 : decode code 805 = .ok (.invokestatic 130, 3) := by decide +kernel
theorem d_L_law_808 : decode code 808 = .ok (.istore 5, 2) := by decide +kernel
theorem d_L_law_810 : decode code 810 = .ok (.aload_n 2, 1) := by decide +kernel
theorem d_L_law_811 : decode code 811 = .ok (.aload_n 0, 1) := by decide +kernel
theorem d_L_law_812 : decode code 812 = .ok (.iload 4, 2) := by decide +kernel
theorem d_L_law_814 : decode code 814 = .ok (.iconst 1, 1) := by decide +kernel
theorem d_L_law_815 : decode code 815 = .ok (.iadd, 1) := by decide +kernel
theorem d_L_law_816 : decode code 816 = .ok (.iaload, 1) := by decide +kernel
theorem d_L_law_817 : decode code 817 = .ok (.aload_n 0, 1) := by decide +kernel
theorem d_L_law_818 : decode code 818 = .ok (.iload 4, 2) := by decide +kernel
theorem d_L_law_820 : decode code 820 = .ok (.iconst 2, 1) := by decide +kernel
theorem d_L_law_821 : decode code 821 = .ok (.iadd, 1) := by decide +kernel
theorem d_L_law_822 : decode code 822 = .ok (.iaload, 1) := by decide +kernel
theorem d_L_law_823 : decode code 823 = .ok (.invokevirtual 132, 3) := by decide +kernel
theorem d_L_law_826 : decode code 826 = .ok (.istore 6, 2) := by decide +kernel
theorem d_L_law_828 : decode code 828 = .ok (.aload_n 2, 1) := by decide +kernel
theorem d_L_law_829 : decode code 829 = .ok (.invokevirtual 79, 3) := by decide +kernel
theorem d_L_law_832 : decode code 832 = .ok (.iload 5, 2) := by decide +kernel
theorem d_L_law_834 : decode code 834 = .ok (.if_icmp .eq (5), 3) := by decide +kernel
theorem d_L_law_837 : decode code 837 = .ok (.iconst 0, 1) := by decide +kernel
theorem d_L_law_838 : decode code 838 = .ok (.ireturn, 1) := by decide +kernel
theorem d_L_law_839 : decode code 839 = .ok (.iload 5, 2) := by decide +kernel
theorem d_L_law_841 : decode code 841 = .ok (.ifCond .ne (15), 3) := by decide +kernel
theorem d_L_law_844 : decode code 844 = .ok (.aload_n 3, 1) := by decide +kernel
theorem d_L_law_845 : decode code 845 = .ok (.iconst 0, 1) := by decide +kernel
theorem d_L_law_846 : decode code 846 = .ok (.laload, 1) := by decide +kernel
theorem d_L_law_847 : decode code 847 = .ok (.iload 6, 2) := by decide +kernel
theorem d_L_law_849 : decode code 849 = .ok (.i2l, 1) := by decide +kernel
theorem d_L_law_850 : decode code 850 = .ok (.lcmp, 1) := by decide +kernel
theorem d_L_law_851 : decode code 851 = .ok (.ifCond .eq (5), 3) := by decide +kernel
theorem d_L_law_854 : decode code 854 = .ok (.iconst 0, 1) := by decide +kernel
theorem d_L_law_855 : decode code 855 = .ok (.ireturn, 1) := by decide +kernel
theorem d_L_law_856 : decode code 856 = .ok (.goto (297), 3) := by decide +kernel
theorem d_L_law_859 : decode code 859 = .ok (.aload_n 1, 1) := by decide +kernel
theorem d_L_law_860 : decode code 860 = .ok (.aload_n 0, 1) := by decide +kernel
theorem d_L_law_861 : decode code 861 = .ok (.iload 4, 2) := by decide +kernel
theorem d_L_law_863 : decode code 863 = .ok (.iconst 1, 1) := by decide +kernel
theorem d_L_law_864 : decode code 864 = .ok (.iadd, 1) := by decide +kernel
theorem d_L_law_865 : decode code 865 = .ok (.iaload, 1) := by decide +kernel
theorem d_L_law_866 : decode code 866 = .ok (.aload_n 0, 1) := by decide +kernel
theorem d_L_law_867 : decode code 867 = .ok (.iload 4, 2) := by decide +kernel
theorem d_L_law_869 : decode code 869 = .ok (.iconst 2, 1) := by decide +kernel
theorem d_L_law_870 : decode code 870 = .ok (.iadd, 1) := by decide +kernel
theorem d_L_law_871 : decode code 871 = .ok (.iaload, 1) := by decide +kernel
theorem d_L_law_872 : decode code 872 = .ok (.aload_n 3, 1) := by decide +kernel
theorem d_L_law_873 : decode code 873 = .ok (.invokestatic 133, 3) := by decide +kernel
theorem d_L_law_876 : decode code 876 = .ok (.istore 5, 2) := by decide +kernel
theorem d_L_law_878 : decode code 878 = .ok (.aload_n 2, 1) := by decide +kernel
theorem d_L_law_879 : decode code 879 = .ok (.aload_n 0, 1) := by decide +kernel
theorem d_L_law_880 : decode code 880 = .ok (.iload 4, 2) := by decide +kernel
theorem d_L_law_882 : decode code 882 = .ok (.iconst 1, 1) := by decide +kernel
theorem d_L_law_883 : decode code 883 = .ok (.iadd, 1) := by decide +kernel
theorem d_L_law_884 : decode code 884 = .ok (.iaload, 1) := by decide +kernel
theorem d_L_law_885 : decode code 885 = .ok (.aload_n 0, 1) := by decide +kernel
theorem d_L_law_886 : decode code 886 = .ok (.iload 4, 2) := by decide +kernel
theorem d_L_law_888 : decode code 888 = .ok (.iconst 2, 1) := by decide +kernel
theorem d_L_law_889 : decode code 889 = .ok (.iadd, 1) := by decide +kernel
theorem d_L_law_890 : decode code 890 = .ok (.iaload, 1) := by decide +kernel
theorem d_L_law_891 : decode code 891 = .ok (.invokevirtual 135, 3) := by decide +kernel
theorem d_L_law_894 : decode code 894 = .ok (.istore 6, 2) := by decide +kernel
theorem d_L_law_896 : decode code 896 = .ok (.aload_n 2, 1) := by decide +kernel
theorem d_L_law_897 : decode code 897 = .ok (.invokevirtual 79, 3) := by decide +kernel
theorem d_L_law_900 : decode code 900 = .ok (.iload 5, 2) := by decide +kernel
theorem d_L_law_902 : decode code 902 = .ok (.if_icmp .eq (5), 3) := by decide +kernel
theorem d_L_law_905 : decode code 905 = .ok (.iconst 0, 1) := by decide +kernel
theorem d_L_law_906 : decode code 906 = .ok (.ireturn, 1) := by decide +kernel
theorem d_L_law_907 : decode code 907 = .ok (.iload 5, 2) := by decide +kernel
theorem d_L_law_909 : decode code 909 = .ok (.ifCond .ne (15), 3) := by decide +kernel
theorem d_L_law_912 : decode code 912 = .ok (.aload_n 3, 1) := by decide +kernel
theorem d_L_law_913 : decode code 913 = .ok (.iconst 0, 1) := by decide +kernel
theorem d_L_law_914 : decode code 914 = .ok (.laload, 1) := by decide +kernel
theorem d_L_law_915 : decode code 915 = .ok (.iload 6, 2) := by decide +kernel
theorem d_L_law_917 : decode code 917 = .ok (.i2l, 1) := by decide +kernel
theorem d_L_law_918 : decode code 918 = .ok (.lcmp, 1) := by decide +kernel
theorem d_L_law_919 : decode code 919 = .ok (.ifCond .eq (5), 3) := by decide +kernel
theorem d_L_law_922 : decode code 922 = .ok (.iconst 0, 1) := by decide +kernel
theorem d_L_law_923 : decode code 923 = .ok (.ireturn, 1) := by decide +kernel
theorem d_L_law_924 : decode code 924 = .ok (.goto (229), 3) := by decide +kernel
theorem d_L_law_927 : decode code 927 = .ok (.aload_n 1, 1) := by decide +kernel
theorem d_L_law_928 : decode code 928 = .ok (.aload_n 0, 1) := by decide +kernel
theorem d_L_law_929 : decode code 929 = .ok (.iload 4, 2) := by decide +kernel
theorem d_L_law_931 : decode code 931 = .ok (.iconst 1, 1) := by decide +kernel
theorem d_L_law_932 : decode code 932 = .ok (.iadd, 1) := by decide +kernel
theorem d_L_law_933 : decode code 933 = .ok (.iaload, 1) := by decide +kernel
theorem d_L_law_934 : decode code 934 = .ok (.aload_n 0, 1) := by decide +kernel
theorem d_L_law_935 : decode code 935 = .ok (.iload 4, 2) := by decide +kernel
theorem d_L_law_937 : decode code 937 = .ok (.iconst 2, 1) := by decide +kernel
theorem d_L_law_938 : decode code 938 = .ok (.iadd, 1) := by decide +kernel
theorem d_L_law_939 : decode code 939 = .ok (.iaload, 1) := by decide +kernel
theorem d_L_law_940 : decode code 940 = .ok (.aload_n 0, 1) := by decide +kernel
theorem d_L_law_941 : decode code 941 = .ok (.iload 4, 2) := by decide +kernel
theorem d_L_law_943 : decode code 943 = .ok (.iconst 3, 1) := by decide +kernel
theorem d_L_law_944 : decode code 944 = .ok (.iadd, 1) := by decide +kernel
theorem d_L_law_945 : decode code 945 = .ok (.iaload, 1) := by decide +kernel
theorem d_L_law_946 : decode code 946 = .ok (.aload_n 0, 1) := by decide +kernel
theorem d_L_law_947 : decode code 947 = .ok (.iload 4, 2) := by decide +kernel
theorem d_L_law_949 : decode code 949 = .ok (.iconst 4, 1) := by decide +kernel
theorem d_L_law_950 : decode code 950 = .ok (.iadd, 1) := by decide +kernel
theorem d_L_law_951 : decode code 951 = .ok (.iaload, 1) := by decide +kernel
theorem d_L_law_952 : decode code 952 = .ok (.aload_n 3, 1) := by decide +kernel
theorem d_L_law_953 : decode code 953 = .ok (.invokestatic 136, 3) := by decide +kernel
theorem d_L_law_956 : decode code 956 = .ok (.istore 5, 2) := by decide +kernel
theorem d_L_law_958 : decode code 958 = .ok (.aload_n 2, 1) := by decide +kernel
theorem d_L_law_959 : decode code 959 = .ok (.aload_n 0, 1) := by decide +kernel
theorem d_L_law_960 : decode code 960 = .ok (.iload 4, 2) := by decide +kernel
theorem d_L_law_962 : decode code 962 = .ok (.iconst 1, 1) := by decide +kernel
theorem d_L_law_963 : decode code 963 = .ok (.iadd, 1) := by decide +kernel
theorem d_L_law_964 : decode code 964 = .ok (.iaload, 1) := by decide +kernel
theorem d_L_law_965 : decode code 965 = .ok (.aload_n 0, 1) := by decide +kernel
theorem d_L_law_966 : decode code 966 = .ok (.iload 4, 2) := by decide +kernel
theorem d_L_law_968 : decode code 968 = .ok (.iconst 2, 1) := by decide +kernel
theorem d_L_law_969 : decode code 969 = .ok (.iadd, 1) := by decide +kernel
theorem d_L_law_970 : decode code 970 = .ok (.iaload, 1) := by decide +kernel
