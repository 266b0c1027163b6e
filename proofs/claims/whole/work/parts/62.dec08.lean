/-! decode rows of the law, 8 -/
theorem dL_law_805 : decode cL_law 805 = .ok (.ifCond .eq 5, 3) := by decide +kernel
theorem dL_law_808 : decode cL_law 808 = .ok (.iconst 0, 1) := by decide +kernel
theorem dL_law_809 : decode cL_law 809 = .ok (.ireturn, 1) := by decide +kernel
theorem dL_law_810 : decode cL_law 810 = .ok (.goto 171, 3) := by decide +kernel
theorem dL_law_813 : decode cL_law 813 = .ok (.aload_n 1, 1) := by decide +kernel
theorem dL_law_814 : decode cL_law 814 = .ok (.aload_n 0, 1) := by decide +kernel
theorem dL_law_815 : decode cL_law 815 = .ok (.iload 4, 2) := by decide +kernel
theorem dL_law_817 : decode cL_law 817 = .ok (.iconst 1, 1) := by decide +kernel
theorem dL_law_818 : decode cL_law 818 = .ok (.iadd, 1) := by decide +kernel
theorem dL_law_819 : decode cL_law 819 = .ok (.iaload, 1) := by decide +kernel
theorem dL_law_820 : decode cL_law 820 = .ok (.aload_n 3, 1) := by decide +kernel
theorem dL_law_821 : decode cL_law 821 = .ok (.invokestatic 106, 3) := by decide +kernel
theorem dL_law_824 : decode cL_law 824 = .ok (.istore 5, 2) := by decide +kernel
theorem dL_law_826 : decode cL_law 826 = .ok (.aload_n 2, 1) := by decide +kernel
theorem dL_law_827 : decode cL_law 827 = .ok (.aload_n 0, 1) := by decide +kernel
theorem dL_law_828 : decode cL_law 828 = .ok (.iload 4, 2) := by decide +kernel
theorem dL_law_830 : decode cL_law 830 = .ok (.iconst 1, 1) := by decide +kernel
theorem dL_law_831 : decode cL_law 831 = .ok (.iadd, 1) := by decide +kernel
theorem dL_law_832 : decode cL_law 832 = .ok (.iaload, 1) := by decide +kernel
theorem dL_law_833 : decode cL_law 833 = .ok (.invokevirtual 108, 3) := by decide +kernel
theorem dL_law_836 : decode cL_law 836 = .ok (.istore 6, 2) := by decide +kernel
theorem dL_law_838 : decode cL_law 838 = .ok (.aload_n 2, 1) := by decide +kernel
theorem dL_law_839 : decode cL_law 839 = .ok (.invokevirtual 68, 3) := by decide +kernel
theorem dL_law_842 : decode cL_law 842 = .ok (.iload 5, 2) := by decide +kernel
theorem dL_law_844 : decode cL_law 844 = .ok (.if_icmp .eq 5, 3) := by decide +kernel
theorem dL_law_847 : decode cL_law 847 = .ok (.iconst 0, 1) := by decide +kernel
theorem dL_law_848 : decode cL_law 848 = .ok (.ireturn, 1) := by decide +kernel
theorem dL_law_849 : decode cL_law 849 = .ok (.iload 5, 2) := by decide +kernel
theorem dL_law_851 : decode cL_law 851 = .ok (.ifCond .ne 15, 3) := by decide +kernel
theorem dL_law_854 : decode cL_law 854 = .ok (.aload_n 3, 1) := by decide +kernel
theorem dL_law_855 : decode cL_law 855 = .ok (.iconst 0, 1) := by decide +kernel
theorem dL_law_856 : decode cL_law 856 = .ok (.laload, 1) := by decide +kernel
theorem dL_law_857 : decode cL_law 857 = .ok (.iload 6, 2) := by decide +kernel
theorem dL_law_859 : decode cL_law 859 = .ok (.i2l, 1) := by decide +kernel
theorem dL_law_860 : decode cL_law 860 = .ok (.lcmp, 1) := by decide +kernel
theorem dL_law_861 : decode cL_law 861 = .ok (.ifCond .eq 5, 3) := by decide +kernel
theorem dL_law_864 : decode cL_law 864 = .ok (.iconst 0, 1) := by decide +kernel
theorem dL_law_865 : decode cL_law 865 = .ok (.ireturn, 1) := by decide +kernel
theorem dL_law_866 : decode cL_law 866 = .ok (.goto 115, 3) := by decide +kernel
theorem dL_law_869 : decode cL_law 869 = .ok (.aload_n 1, 1) := by decide +kernel
theorem dL_law_870 : decode cL_law 870 = .ok (.aload_n 0, 1) := by decide +kernel
theorem dL_law_871 : decode cL_law 871 = .ok (.iload 4, 2) := by decide +kernel
theorem dL_law_873 : decode cL_law 873 = .ok (.iconst 1, 1) := by decide +kernel
theorem dL_law_874 : decode cL_law 874 = .ok (.iadd, 1) := by decide +kernel
theorem dL_law_875 : decode cL_law 875 = .ok (.iaload, 1) := by decide +kernel
theorem dL_law_876 : decode cL_law 876 = .ok (.aload_n 3, 1) := by decide +kernel
theorem dL_law_877 : decode cL_law 877 = .ok (.invokestatic 109, 3) := by decide +kernel
theorem dL_law_880 : decode cL_law 880 = .ok (.istore 5, 2) := by decide +kernel
theorem dL_law_882 : decode cL_law 882 = .ok (.aload_n 2, 1) := by decide +kernel
theorem dL_law_883 : decode cL_law 883 = .ok (.aload_n 0, 1) := by decide +kernel
theorem dL_law_884 : decode cL_law 884 = .ok (.iload 4, 2) := by decide +kernel
theorem dL_law_886 : decode cL_law 886 = .ok (.iconst 1, 1) := by decide +kernel
theorem dL_law_887 : decode cL_law 887 = .ok (.iadd, 1) := by decide +kernel
theorem dL_law_888 : decode cL_law 888 = .ok (.iaload, 1) := by decide +kernel
theorem dL_law_889 : decode cL_law 889 = .ok (.invokevirtual 111, 3) := by decide +kernel
theorem dL_law_892 : decode cL_law 892 = .ok (.istore 6, 2) := by decide +kernel
theorem dL_law_894 : decode cL_law 894 = .ok (.aload_n 2, 1) := by decide +kernel
theorem dL_law_895 : decode cL_law 895 = .ok (.invokevirtual 68, 3) := by decide +kernel
theorem dL_law_898 : decode cL_law 898 = .ok (.iload 5, 2) := by decide +kernel
theorem dL_law_900 : decode cL_law 900 = .ok (.if_icmp .eq 5, 3) := by decide +kernel
theorem dL_law_903 : decode cL_law 903 = .ok (.iconst 0, 1) := by decide +kernel
