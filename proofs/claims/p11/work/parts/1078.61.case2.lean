/-! 61.case2.lean.txt -/
theorem dL_law_748 : decode cL_law 748 = .ok (.aload_n 1, 1) := dk_o43 (by decide +kernel)
theorem dL_law_749 : decode cL_law 749 = .ok (.invokevirtual 91, 3) := dk_o182 (by decide +kernel)
theorem dL_law_752 : decode cL_law 752 = .ok (.pop, 1) := dk_o87 (by decide +kernel)
theorem dL_law_753 : decode cL_law 753 = .ok (.aload_n 2, 1) := dk_o44 (by decide +kernel)
theorem dL_law_754 : decode cL_law 754 = .ok (.invokevirtual 94, 3) := dk_o182 (by decide +kernel)
theorem dL_law_757 : decode cL_law 757 = .ok (.pop, 1) := dk_o87 (by decide +kernel)
theorem dL_law_758 : decode cL_law 758 = .ok (.goto 368, 3) := dk_o167 (by decide +kernel)
theorem dL_law_761 : decode cL_law 761 = .ok (.aload_n 1, 1) := dk_o43 (by decide +kernel)
theorem dL_law_762 : decode cL_law 762 = .ok (.invokevirtual 95, 3) := dk_o182 (by decide +kernel)
theorem dL_law_765 : decode cL_law 765 = .ok (.pop, 1) := dk_o87 (by decide +kernel)
theorem dL_law_766 : decode cL_law 766 = .ok (.aload_n 2, 1) := dk_o44 (by decide +kernel)
theorem dL_law_767 : decode cL_law 767 = .ok (.invokevirtual 98, 3) := dk_o182 (by decide +kernel)
theorem dL_law_770 : decode cL_law 770 = .ok (.pop, 1) := dk_o87 (by decide +kernel)
theorem dL_law_771 : decode cL_law 771 = .ok (.goto 355, 3) := dk_o167 (by decide +kernel)
theorem dL_law_774 : decode cL_law 774 = .ok (.aload_n 1, 1) := dk_o43 (by decide +kernel)
theorem dL_law_775 : decode cL_law 775 = .ok (.aload_n 0, 1) := dk_o42 (by decide +kernel)
theorem dL_law_776 : decode cL_law 776 = .ok (.iload_n 3, 1) := dk_o29 (by decide +kernel)
theorem dL_law_777 : decode cL_law 777 = .ok (.iconst 1, 1) := dk_o4 (by decide +kernel)
theorem dL_law_778 : decode cL_law 778 = .ok (.iadd, 1) := dk_o96 (by decide +kernel)
theorem dL_law_779 : decode cL_law 779 = .ok (.iaload, 1) := dk_o46 (by decide +kernel)
theorem dL_law_780 : decode cL_law 780 = .ok (.invokevirtual 99, 3) := dk_o182 (by decide +kernel)
theorem dL_law_783 : decode cL_law 783 = .ok (.pop, 1) := dk_o87 (by decide +kernel)
theorem dL_law_784 : decode cL_law 784 = .ok (.aload_n 2, 1) := dk_o44 (by decide +kernel)
theorem dL_law_785 : decode cL_law 785 = .ok (.aload_n 0, 1) := dk_o42 (by decide +kernel)
theorem dL_law_786 : decode cL_law 786 = .ok (.iload_n 3, 1) := dk_o29 (by decide +kernel)
theorem dL_law_787 : decode cL_law 787 = .ok (.iconst 1, 1) := dk_o4 (by decide +kernel)
theorem dL_law_788 : decode cL_law 788 = .ok (.iadd, 1) := dk_o96 (by decide +kernel)
theorem dL_law_789 : decode cL_law 789 = .ok (.iaload, 1) := dk_o46 (by decide +kernel)
theorem dL_law_790 : decode cL_law 790 = .ok (.invokevirtual 102, 3) := dk_o182 (by decide +kernel)
theorem dL_law_793 : decode cL_law 793 = .ok (.pop, 1) := dk_o87 (by decide +kernel)
theorem dL_law_794 : decode cL_law 794 = .ok (.goto 332, 3) := dk_o167 (by decide +kernel)
theorem dL_law_797 : decode cL_law 797 = .ok (.aload_n 1, 1) := dk_o43 (by decide +kernel)
theorem dL_law_798 : decode cL_law 798 = .ok (.aload_n 0, 1) := dk_o42 (by decide +kernel)
theorem dL_law_799 : decode cL_law 799 = .ok (.iload_n 3, 1) := dk_o29 (by decide +kernel)
theorem dL_law_800 : decode cL_law 800 = .ok (.iconst 1, 1) := dk_o4 (by decide +kernel)
theorem dL_law_801 : decode cL_law 801 = .ok (.iadd, 1) := dk_o96 (by decide +kernel)
theorem dL_law_802 : decode cL_law 802 = .ok (.iaload, 1) := dk_o46 (by decide +kernel)
theorem dL_law_803 : decode cL_law 803 = .ok (.invokevirtual 103, 3) := dk_o182 (by decide +kernel)
theorem dL_law_806 : decode cL_law 806 = .ok (.pop, 1) := dk_o87 (by decide +kernel)
theorem dL_law_807 : decode cL_law 807 = .ok (.aload_n 2, 1) := dk_o44 (by decide +kernel)
theorem dL_law_808 : decode cL_law 808 = .ok (.aload_n 0, 1) := dk_o42 (by decide +kernel)
theorem dL_law_809 : decode cL_law 809 = .ok (.iload_n 3, 1) := dk_o29 (by decide +kernel)
theorem dL_law_810 : decode cL_law 810 = .ok (.iconst 1, 1) := dk_o4 (by decide +kernel)
theorem dL_law_811 : decode cL_law 811 = .ok (.iadd, 1) := dk_o96 (by decide +kernel)
theorem dL_law_812 : decode cL_law 812 = .ok (.iaload, 1) := dk_o46 (by decide +kernel)
theorem dL_law_813 : decode cL_law 813 = .ok (.invokevirtual 106, 3) := dk_o182 (by decide +kernel)
theorem dL_law_816 : decode cL_law 816 = .ok (.pop, 1) := dk_o87 (by decide +kernel)
theorem dL_law_817 : decode cL_law 817 = .ok (.goto 309, 3) := dk_o167 (by decide +kernel)
theorem dL_law_820 : decode cL_law 820 = .ok (.aload_n 1, 1) := dk_o43 (by decide +kernel)
theorem dL_law_821 : decode cL_law 821 = .ok (.aload_n 0, 1) := dk_o42 (by decide +kernel)
theorem dL_law_822 : decode cL_law 822 = .ok (.iload_n 3, 1) := dk_o29 (by decide +kernel)
theorem dL_law_823 : decode cL_law 823 = .ok (.iconst 1, 1) := dk_o4 (by decide +kernel)
theorem dL_law_824 : decode cL_law 824 = .ok (.iadd, 1) := dk_o96 (by decide +kernel)
theorem dL_law_825 : decode cL_law 825 = .ok (.iaload, 1) := dk_o46 (by decide +kernel)
theorem dL_law_826 : decode cL_law 826 = .ok (.invokevirtual 107, 3) := dk_o182 (by decide +kernel)
theorem dL_law_829 : decode cL_law 829 = .ok (.pop, 1) := dk_o87 (by decide +kernel)
theorem dL_law_830 : decode cL_law 830 = .ok (.aload_n 2, 1) := dk_o44 (by decide +kernel)
theorem dL_law_831 : decode cL_law 831 = .ok (.aload_n 0, 1) := dk_o42 (by decide +kernel)
theorem dL_law_832 : decode cL_law 832 = .ok (.iload_n 3, 1) := dk_o29 (by decide +kernel)
theorem dL_law_833 : decode cL_law 833 = .ok (.iconst 1, 1) := dk_o4 (by decide +kernel)
theorem dL_law_834 : decode cL_law 834 = .ok (.iadd, 1) := dk_o96 (by decide +kernel)
theorem dL_law_835 : decode cL_law 835 = .ok (.iaload, 1) := dk_o46 (by decide +kernel)
theorem dL_law_836 : decode cL_law 836 = .ok (.invokevirtual 110, 3) := dk_o182 (by decide +kernel)
theorem dL_law_839 : decode cL_law 839 = .ok (.pop, 1) := dk_o87 (by decide +kernel)
theorem dL_law_840 : decode cL_law 840 = .ok (.goto 286, 3) := dk_o167 (by decide +kernel)
theorem dL_law_843 : decode cL_law 843 = .ok (.aload_n 1, 1) := dk_o43 (by decide +kernel)
theorem dL_law_844 : decode cL_law 844 = .ok (.aload_n 0, 1) := dk_o42 (by decide +kernel)
theorem dL_law_845 : decode cL_law 845 = .ok (.iload_n 3, 1) := dk_o29 (by decide +kernel)
theorem dL_law_846 : decode cL_law 846 = .ok (.iconst 1, 1) := dk_o4 (by decide +kernel)
theorem dL_law_847 : decode cL_law 847 = .ok (.iadd, 1) := dk_o96 (by decide +kernel)
theorem dL_law_848 : decode cL_law 848 = .ok (.iaload, 1) := dk_o46 (by decide +kernel)
theorem dL_law_849 : decode cL_law 849 = .ok (.aload_n 0, 1) := dk_o42 (by decide +kernel)
theorem dL_law_850 : decode cL_law 850 = .ok (.iload_n 3, 1) := dk_o29 (by decide +kernel)
theorem dL_law_851 : decode cL_law 851 = .ok (.iconst 2, 1) := dk_o5 (by decide +kernel)
theorem dL_law_852 : decode cL_law 852 = .ok (.iadd, 1) := dk_o96 (by decide +kernel)
theorem dL_law_853 : decode cL_law 853 = .ok (.iaload, 1) := dk_o46 (by decide +kernel)
theorem dL_law_854 : decode cL_law 854 = .ok (.aload_n 0, 1) := dk_o42 (by decide +kernel)
theorem dL_law_855 : decode cL_law 855 = .ok (.iload_n 3, 1) := dk_o29 (by decide +kernel)
theorem dL_law_856 : decode cL_law 856 = .ok (.iconst 3, 1) := dk_o6 (by decide +kernel)
theorem dL_law_857 : decode cL_law 857 = .ok (.iadd, 1) := dk_o96 (by decide +kernel)
theorem dL_law_858 : decode cL_law 858 = .ok (.iaload, 1) := dk_o46 (by decide +kernel)
theorem dL_law_859 : decode cL_law 859 = .ok (.invokevirtual 111, 3) := dk_o182 (by decide +kernel)
theorem dL_law_862 : decode cL_law 862 = .ok (.pop, 1) := dk_o87 (by decide +kernel)
theorem dL_law_863 : decode cL_law 863 = .ok (.aload_n 2, 1) := dk_o44 (by decide +kernel)
theorem dL_law_864 : decode cL_law 864 = .ok (.aload_n 0, 1) := dk_o42 (by decide +kernel)
theorem dL_law_865 : decode cL_law 865 = .ok (.iload_n 3, 1) := dk_o29 (by decide +kernel)
theorem dL_law_866 : decode cL_law 866 = .ok (.iconst 1, 1) := dk_o4 (by decide +kernel)
theorem dL_law_867 : decode cL_law 867 = .ok (.iadd, 1) := dk_o96 (by decide +kernel)
theorem dL_law_868 : decode cL_law 868 = .ok (.iaload, 1) := dk_o46 (by decide +kernel)
theorem dL_law_869 : decode cL_law 869 = .ok (.aload_n 0, 1) := dk_o42 (by decide +kernel)
theorem dL_law_870 : decode cL_law 870 = .ok (.iload_n 3, 1) := dk_o29 (by decide +kernel)
theorem dL_law_871 : decode cL_law 871 = .ok (.iconst 2, 1) := dk_o5 (by decide +kernel)
theorem dL_law_872 : decode cL_law 872 = .ok (.iadd, 1) := dk_o96 (by decide +kernel)
theorem dL_law_873 : decode cL_law 873 = .ok (.iaload, 1) := dk_o46 (by decide +kernel)
theorem dL_law_874 : decode cL_law 874 = .ok (.aload_n 0, 1) := dk_o42 (by decide +kernel)
theorem dL_law_875 : decode cL_law 875 = .ok (.iload_n 3, 1) := dk_o29 (by decide +kernel)
theorem dL_law_876 : decode cL_law 876 = .ok (.iconst 3, 1) := dk_o6 (by decide +kernel)
theorem dL_law_877 : decode cL_law 877 = .ok (.iadd, 1) := dk_o96 (by decide +kernel)
theorem dL_law_878 : decode cL_law 878 = .ok (.iaload, 1) := dk_o46 (by decide +kernel)
theorem dL_law_879 : decode cL_law 879 = .ok (.invokevirtual 115, 3) := dk_o182 (by decide +kernel)
theorem dL_law_882 : decode cL_law 882 = .ok (.pop, 1) := dk_o87 (by decide +kernel)
theorem dL_law_883 : decode cL_law 883 = .ok (.goto 243, 3) := dk_o167 (by decide +kernel)
theorem dL_law_886 : decode cL_law 886 = .ok (.aload_n 1, 1) := dk_o43 (by decide +kernel)
theorem dL_law_887 : decode cL_law 887 = .ok (.aload_n 0, 1) := dk_o42 (by decide +kernel)
theorem dL_law_888 : decode cL_law 888 = .ok (.iload_n 3, 1) := dk_o29 (by decide +kernel)
theorem dL_law_889 : decode cL_law 889 = .ok (.iconst 1, 1) := dk_o4 (by decide +kernel)
theorem dL_law_890 : decode cL_law 890 = .ok (.iadd, 1) := dk_o96 (by decide +kernel)
theorem dL_law_891 : decode cL_law 891 = .ok (.iaload, 1) := dk_o46 (by decide +kernel)
theorem dL_law_892 : decode cL_law 892 = .ok (.aload_n 0, 1) := dk_o42 (by decide +kernel)
theorem dL_law_893 : decode cL_law 893 = .ok (.iload_n 3, 1) := dk_o29 (by decide +kernel)
theorem dL_law_894 : decode cL_law 894 = .ok (.iconst 2, 1) := dk_o5 (by decide +kernel)
theorem dL_law_895 : decode cL_law 895 = .ok (.iadd, 1) := dk_o96 (by decide +kernel)
theorem dL_law_896 : decode cL_law 896 = .ok (.iaload, 1) := dk_o46 (by decide +kernel)
theorem dL_law_897 : decode cL_law 897 = .ok (.aload_n 0, 1) := dk_o42 (by decide +kernel)
theorem dL_law_898 : decode cL_law 898 = .ok (.iload_n 3, 1) := dk_o29 (by decide +kernel)
theorem dL_law_899 : decode cL_law 899 = .ok (.iconst 3, 1) := dk_o6 (by decide +kernel)
theorem dL_law_900 : decode cL_law 900 = .ok (.iadd, 1) := dk_o96 (by decide +kernel)
theorem dL_law_901 : decode cL_law 901 = .ok (.iaload, 1) := dk_o46 (by decide +kernel)
theorem dL_law_902 : decode cL_law 902 = .ok (.aload_n 0, 1) := dk_o42 (by decide +kernel)
theorem dL_law_903 : decode cL_law 903 = .ok (.iload_n 3, 1) := dk_o29 (by decide +kernel)
theorem dL_law_904 : decode cL_law 904 = .ok (.iconst 4, 1) := dk_o7 (by decide +kernel)
theorem dL_law_905 : decode cL_law 905 = .ok (.iadd, 1) := dk_o96 (by decide +kernel)
theorem dL_law_906 : decode cL_law 906 = .ok (.iaload, 1) := dk_o46 (by decide +kernel)
theorem dL_law_907 : decode cL_law 907 = .ok (.invokevirtual 116, 3) := dk_o182 (by decide +kernel)
theorem dL_law_910 : decode cL_law 910 = .ok (.pop, 1) := dk_o87 (by decide +kernel)
theorem dL_law_911 : decode cL_law 911 = .ok (.aload_n 2, 1) := dk_o44 (by decide +kernel)
theorem dL_law_912 : decode cL_law 912 = .ok (.aload_n 0, 1) := dk_o42 (by decide +kernel)
theorem dL_law_913 : decode cL_law 913 = .ok (.iload_n 3, 1) := dk_o29 (by decide +kernel)
theorem dL_law_914 : decode cL_law 914 = .ok (.iconst 1, 1) := dk_o4 (by decide +kernel)
theorem dL_law_915 : decode cL_law 915 = .ok (.iadd, 1) := dk_o96 (by decide +kernel)
theorem dL_law_916 : decode cL_law 916 = .ok (.iaload, 1) := dk_o46 (by decide +kernel)
theorem dL_law_917 : decode cL_law 917 = .ok (.aload_n 0, 1) := dk_o42 (by decide +kernel)
theorem dL_law_918 : decode cL_law 918 = .ok (.iload_n 3, 1) := dk_o29 (by decide +kernel)
theorem dL_law_919 : decode cL_law 919 = .ok (.iconst 2, 1) := dk_o5 (by decide +kernel)
theorem dL_law_920 : decode cL_law 920 = .ok (.iadd, 1) := dk_o96 (by decide +kernel)
theorem dL_law_921 : decode cL_law 921 = .ok (.iaload, 1) := dk_o46 (by decide +kernel)
theorem dL_law_922 : decode cL_law 922 = .ok (.aload_n 0, 1) := dk_o42 (by decide +kernel)
theorem dL_law_923 : decode cL_law 923 = .ok (.iload_n 3, 1) := dk_o29 (by decide +kernel)
theorem dL_law_924 : decode cL_law 924 = .ok (.iconst 3, 1) := dk_o6 (by decide +kernel)
theorem dL_law_925 : decode cL_law 925 = .ok (.iadd, 1) := dk_o96 (by decide +kernel)
theorem dL_law_926 : decode cL_law 926 = .ok (.iaload, 1) := dk_o46 (by decide +kernel)
theorem dL_law_927 : decode cL_law 927 = .ok (.aload_n 0, 1) := dk_o42 (by decide +kernel)
theorem dL_law_928 : decode cL_law 928 = .ok (.iload_n 3, 1) := dk_o29 (by decide +kernel)
theorem dL_law_929 : decode cL_law 929 = .ok (.iconst 4, 1) := dk_o7 (by decide +kernel)
theorem dL_law_930 : decode cL_law 930 = .ok (.iadd, 1) := dk_o96 (by decide +kernel)
theorem dL_law_931 : decode cL_law 931 = .ok (.iaload, 1) := dk_o46 (by decide +kernel)
theorem dL_law_932 : decode cL_law 932 = .ok (.invokevirtual 120, 3) := dk_o182 (by decide +kernel)
theorem dL_law_935 : decode cL_law 935 = .ok (.pop, 1) := dk_o87 (by decide +kernel)
theorem dL_law_936 : decode cL_law 936 = .ok (.goto 190, 3) := dk_o167 (by decide +kernel)
theorem dL_law_939 : decode cL_law 939 = .ok (.aload_n 1, 1) := dk_o43 (by decide +kernel)
theorem dL_law_940 : decode cL_law 940 = .ok (.aload_n 0, 1) := dk_o42 (by decide +kernel)
theorem dL_law_941 : decode cL_law 941 = .ok (.iload_n 3, 1) := dk_o29 (by decide +kernel)
theorem dL_law_942 : decode cL_law 942 = .ok (.iconst 1, 1) := dk_o4 (by decide +kernel)
theorem dL_law_943 : decode cL_law 943 = .ok (.iadd, 1) := dk_o96 (by decide +kernel)
theorem dL_law_944 : decode cL_law 944 = .ok (.iaload, 1) := dk_o46 (by decide +kernel)
theorem dL_law_945 : decode cL_law 945 = .ok (.invokevirtual 121, 3) := dk_o182 (by decide +kernel)
theorem dL_law_948 : decode cL_law 948 = .ok (.pop, 1) := dk_o87 (by decide +kernel)
theorem dL_law_949 : decode cL_law 949 = .ok (.aload_n 2, 1) := dk_o44 (by decide +kernel)
theorem dL_law_950 : decode cL_law 950 = .ok (.aload_n 0, 1) := dk_o42 (by decide +kernel)
theorem dL_law_951 : decode cL_law 951 = .ok (.iload_n 3, 1) := dk_o29 (by decide +kernel)
theorem dL_law_952 : decode cL_law 952 = .ok (.iconst 1, 1) := dk_o4 (by decide +kernel)
theorem dL_law_953 : decode cL_law 953 = .ok (.iadd, 1) := dk_o96 (by decide +kernel)
theorem dL_law_954 : decode cL_law 954 = .ok (.iaload, 1) := dk_o46 (by decide +kernel)
theorem dL_law_955 : decode cL_law 955 = .ok (.invokevirtual 124, 3) := dk_o182 (by decide +kernel)
theorem dL_law_958 : decode cL_law 958 = .ok (.pop, 1) := dk_o87 (by decide +kernel)
theorem dL_law_959 : decode cL_law 959 = .ok (.goto 167, 3) := dk_o167 (by decide +kernel)
theorem dL_law_962 : decode cL_law 962 = .ok (.aload_n 1, 1) := dk_o43 (by decide +kernel)
theorem dL_law_963 : decode cL_law 963 = .ok (.aload_n 0, 1) := dk_o42 (by decide +kernel)
theorem dL_law_964 : decode cL_law 964 = .ok (.iload_n 3, 1) := dk_o29 (by decide +kernel)
theorem dL_law_965 : decode cL_law 965 = .ok (.iconst 1, 1) := dk_o4 (by decide +kernel)
theorem dL_law_966 : decode cL_law 966 = .ok (.iadd, 1) := dk_o96 (by decide +kernel)
theorem dL_law_967 : decode cL_law 967 = .ok (.iaload, 1) := dk_o46 (by decide +kernel)
theorem dL_law_968 : decode cL_law 968 = .ok (.invokevirtual 125, 3) := dk_o182 (by decide +kernel)
theorem dL_law_971 : decode cL_law 971 = .ok (.pop, 1) := dk_o87 (by decide +kernel)
theorem dL_law_972 : decode cL_law 972 = .ok (.aload_n 2, 1) := dk_o44 (by decide +kernel)
theorem dL_law_973 : decode cL_law 973 = .ok (.aload_n 0, 1) := dk_o42 (by decide +kernel)
theorem dL_law_974 : decode cL_law 974 = .ok (.iload_n 3, 1) := dk_o29 (by decide +kernel)
theorem dL_law_975 : decode cL_law 975 = .ok (.iconst 1, 1) := dk_o4 (by decide +kernel)
theorem dL_law_976 : decode cL_law 976 = .ok (.iadd, 1) := dk_o96 (by decide +kernel)
theorem dL_law_977 : decode cL_law 977 = .ok (.iaload, 1) := dk_o46 (by decide +kernel)
theorem dL_law_978 : decode cL_law 978 = .ok (.invokevirtual 128, 3) := dk_o182 (by decide +kernel)
theorem dL_law_981 : decode cL_law 981 = .ok (.pop, 1) := dk_o87 (by decide +kernel)
theorem dL_law_982 : decode cL_law 982 = .ok (.goto 144, 3) := dk_o167 (by decide +kernel)
theorem wB_1546 : Cond.code yX11_feel cX11_feel 2 (some .int) ∈ dgB := List.mem_filter.mpr ⟨tbl_5 _ (List.mem_of_getElem? (i := 211) rfl), rfl⟩
theorem wB_1547 : Cond.methodLink RL 91 yX11_feel ∈ dgB := List.mem_filter.mpr ⟨tbl_5 _ (List.mem_of_getElem? (i := 208) (by decide +kernel)), by decide +kernel⟩
theorem wB_1548 : Cond.instanceMethod yX11_feel ∈ dgB := List.mem_filter.mpr ⟨tbl_5 _ (List.mem_of_getElem? (i := 209) (by decide +kernel)), by decide +kernel⟩
theorem wB_1549 : Cond.selects RX11 yX11_feel yX11_feel ∈ dgB := List.mem_filter.mpr ⟨tbl_5 _ (List.mem_of_getElem? (i := 210) (by decide +kernel)), by decide +kernel⟩
theorem wB_1550 : Cond.code yX12_feel cX12_feel 4 (some .int) ∈ dgB := List.mem_filter.mpr ⟨tbl_9 _ (List.mem_of_getElem? (i := 89) rfl), rfl⟩
theorem wB_1551 : Cond.methodLink RL 94 yX12_feel ∈ dgB := List.mem_filter.mpr ⟨tbl_9 _ (List.mem_of_getElem? (i := 86) (by decide +kernel)), by decide +kernel⟩
theorem wB_1552 : Cond.instanceMethod yX12_feel ∈ dgB := List.mem_filter.mpr ⟨tbl_9 _ (List.mem_of_getElem? (i := 87) (by decide +kernel)), by decide +kernel⟩
theorem wB_1553 : Cond.selects RX12 yX12_feel yX12_feel ∈ dgB := List.mem_filter.mpr ⟨tbl_9 _ (List.mem_of_getElem? (i := 88) (by decide +kernel)), by decide +kernel⟩
theorem wB_1554 : Cond.code yX11_reaches cX11_reaches 1 (some .int) ∈ dgB := List.mem_filter.mpr ⟨tbl_5 _ (List.mem_of_getElem? (i := 225) rfl), rfl⟩
theorem wB_1555 : Cond.methodLink RL 95 yX11_reaches ∈ dgB := List.mem_filter.mpr ⟨tbl_5 _ (List.mem_of_getElem? (i := 222) (by decide +kernel)), by decide +kernel⟩
theorem wB_1556 : Cond.instanceMethod yX11_reaches ∈ dgB := List.mem_filter.mpr ⟨tbl_5 _ (List.mem_of_getElem? (i := 223) (by decide +kernel)), by decide +kernel⟩
theorem wB_1557 : Cond.selects RX11 yX11_reaches yX11_reaches ∈ dgB := List.mem_filter.mpr ⟨tbl_5 _ (List.mem_of_getElem? (i := 224) (by decide +kernel)), by decide +kernel⟩
theorem wB_1558 : Cond.code yX12_reaches cX12_reaches 1 (some .int) ∈ dgB := List.mem_filter.mpr ⟨tbl_9 _ (List.mem_of_getElem? (i := 93) rfl), rfl⟩
theorem wB_1559 : Cond.methodLink RL 98 yX12_reaches ∈ dgB := List.mem_filter.mpr ⟨tbl_9 _ (List.mem_of_getElem? (i := 90) (by decide +kernel)), by decide +kernel⟩
theorem wB_1560 : Cond.instanceMethod yX12_reaches ∈ dgB := List.mem_filter.mpr ⟨tbl_9 _ (List.mem_of_getElem? (i := 91) (by decide +kernel)), by decide +kernel⟩
theorem wB_1561 : Cond.selects RX12 yX12_reaches yX12_reaches ∈ dgB := List.mem_filter.mpr ⟨tbl_9 _ (List.mem_of_getElem? (i := 92) (by decide +kernel)), by decide +kernel⟩
theorem wB_1562 : Cond.code yX11_tells cX11_tells 2 (some .int) ∈ dgB := List.mem_filter.mpr ⟨tbl_6 _ (List.mem_of_getElem? (i := 6) rfl), rfl⟩
theorem wB_1563 : Cond.methodLink RL 99 yX11_tells ∈ dgB := List.mem_filter.mpr ⟨tbl_6 _ (List.mem_of_getElem? (i := 3) (by decide +kernel)), by decide +kernel⟩
theorem wB_1564 : Cond.instanceMethod yX11_tells ∈ dgB := List.mem_filter.mpr ⟨tbl_6 _ (List.mem_of_getElem? (i := 4) (by decide +kernel)), by decide +kernel⟩
theorem wB_1565 : Cond.selects RX11 yX11_tells yX11_tells ∈ dgB := List.mem_filter.mpr ⟨tbl_6 _ (List.mem_of_getElem? (i := 5) (by decide +kernel)), by decide +kernel⟩
theorem wB_1566 : Cond.code yX12_tells cX12_tells 8 (some .int) ∈ dgB := List.mem_filter.mpr ⟨tbl_9 _ (List.mem_of_getElem? (i := 101) rfl), rfl⟩
theorem wB_1567 : Cond.methodLink RL 102 yX12_tells ∈ dgB := List.mem_filter.mpr ⟨tbl_9 _ (List.mem_of_getElem? (i := 98) (by decide +kernel)), by decide +kernel⟩
theorem wB_1568 : Cond.instanceMethod yX12_tells ∈ dgB := List.mem_filter.mpr ⟨tbl_9 _ (List.mem_of_getElem? (i := 99) (by decide +kernel)), by decide +kernel⟩
theorem wB_1569 : Cond.selects RX12 yX12_tells yX12_tells ∈ dgB := List.mem_filter.mpr ⟨tbl_9 _ (List.mem_of_getElem? (i := 100) (by decide +kernel)), by decide +kernel⟩
theorem wB_1570 : Cond.code yX11_shifts cX11_shifts 4 (some .int) ∈ dgB := List.mem_filter.mpr ⟨tbl_6 _ (List.mem_of_getElem? (i := 29) rfl), rfl⟩
theorem wB_1571 : Cond.methodLink RL 103 yX11_shifts ∈ dgB := List.mem_filter.mpr ⟨tbl_6 _ (List.mem_of_getElem? (i := 26) (by decide +kernel)), by decide +kernel⟩
theorem wB_1572 : Cond.instanceMethod yX11_shifts ∈ dgB := List.mem_filter.mpr ⟨tbl_6 _ (List.mem_of_getElem? (i := 27) (by decide +kernel)), by decide +kernel⟩
theorem wB_1573 : Cond.selects RX11 yX11_shifts yX11_shifts ∈ dgB := List.mem_filter.mpr ⟨tbl_6 _ (List.mem_of_getElem? (i := 28) (by decide +kernel)), by decide +kernel⟩
theorem wB_1574 : Cond.code yX12_shifts cX12_shifts 4 (some .int) ∈ dgB := List.mem_filter.mpr ⟨tbl_9 _ (List.mem_of_getElem? (i := 109) rfl), rfl⟩
theorem wB_1575 : Cond.methodLink RL 106 yX12_shifts ∈ dgB := List.mem_filter.mpr ⟨tbl_9 _ (List.mem_of_getElem? (i := 106) (by decide +kernel)), by decide +kernel⟩
theorem wB_1576 : Cond.instanceMethod yX12_shifts ∈ dgB := List.mem_filter.mpr ⟨tbl_9 _ (List.mem_of_getElem? (i := 107) (by decide +kernel)), by decide +kernel⟩
theorem wB_1577 : Cond.selects RX12 yX12_shifts yX12_shifts ∈ dgB := List.mem_filter.mpr ⟨tbl_9 _ (List.mem_of_getElem? (i := 108) (by decide +kernel)), by decide +kernel⟩
theorem wB_1578 : Cond.code yX11_chance cX11_chance 4 (some .int) ∈ dgB := List.mem_filter.mpr ⟨tbl_6 _ (List.mem_of_getElem? (i := 52) rfl), rfl⟩
theorem wB_1579 : Cond.methodLink RL 107 yX11_chance ∈ dgB := List.mem_filter.mpr ⟨tbl_6 _ (List.mem_of_getElem? (i := 49) (by decide +kernel)), by decide +kernel⟩
theorem wB_1580 : Cond.instanceMethod yX11_chance ∈ dgB := List.mem_filter.mpr ⟨tbl_6 _ (List.mem_of_getElem? (i := 50) (by decide +kernel)), by decide +kernel⟩
theorem wB_1581 : Cond.selects RX11 yX11_chance yX11_chance ∈ dgB := List.mem_filter.mpr ⟨tbl_6 _ (List.mem_of_getElem? (i := 51) (by decide +kernel)), by decide +kernel⟩
theorem wB_1582 : Cond.code yX12_chance cX12_chance 5 (some .int) ∈ dgB := List.mem_filter.mpr ⟨tbl_9 _ (List.mem_of_getElem? (i := 117) rfl), rfl⟩
theorem wB_1583 : Cond.methodLink RL 110 yX12_chance ∈ dgB := List.mem_filter.mpr ⟨tbl_9 _ (List.mem_of_getElem? (i := 114) (by decide +kernel)), by decide +kernel⟩
theorem wB_1584 : Cond.instanceMethod yX12_chance ∈ dgB := List.mem_filter.mpr ⟨tbl_9 _ (List.mem_of_getElem? (i := 115) (by decide +kernel)), by decide +kernel⟩
theorem wB_1585 : Cond.selects RX12 yX12_chance yX12_chance ∈ dgB := List.mem_filter.mpr ⟨tbl_9 _ (List.mem_of_getElem? (i := 116) (by decide +kernel)), by decide +kernel⟩
theorem wB_1586 : Cond.code yX11_hang cX11_hang 6 (some .boolean) ∈ dgB := List.mem_filter.mpr ⟨tbl_6 _ (List.mem_of_getElem? (i := 68) rfl), rfl⟩
theorem wB_1587 : Cond.methodLink RL 111 yX11_hang ∈ dgB := List.mem_filter.mpr ⟨tbl_6 _ (List.mem_of_getElem? (i := 65) (by decide +kernel)), by decide +kernel⟩
theorem wB_1588 : Cond.instanceMethod yX11_hang ∈ dgB := List.mem_filter.mpr ⟨tbl_6 _ (List.mem_of_getElem? (i := 66) (by decide +kernel)), by decide +kernel⟩
theorem wB_1589 : Cond.selects RX11 yX11_hang yX11_hang ∈ dgB := List.mem_filter.mpr ⟨tbl_6 _ (List.mem_of_getElem? (i := 67) (by decide +kernel)), by decide +kernel⟩
theorem wB_1590 : Cond.code yX12_hang cX12_hang 5 (some .boolean) ∈ dgB := List.mem_filter.mpr ⟨tbl_9 _ (List.mem_of_getElem? (i := 129) rfl), rfl⟩
theorem wB_1591 : Cond.methodLink RL 115 yX12_hang ∈ dgB := List.mem_filter.mpr ⟨tbl_9 _ (List.mem_of_getElem? (i := 126) (by decide +kernel)), by decide +kernel⟩
theorem wB_1592 : Cond.instanceMethod yX12_hang ∈ dgB := List.mem_filter.mpr ⟨tbl_9 _ (List.mem_of_getElem? (i := 127) (by decide +kernel)), by decide +kernel⟩
theorem wB_1593 : Cond.selects RX12 yX12_hang yX12_hang ∈ dgB := List.mem_filter.mpr ⟨tbl_9 _ (List.mem_of_getElem? (i := 128) (by decide +kernel)), by decide +kernel⟩
theorem wB_1594 : Cond.code yX11_send cX11_send 6 (some .boolean) ∈ dgB := List.mem_filter.mpr ⟨tbl_6 _ (List.mem_of_getElem? (i := 72) rfl), rfl⟩
theorem wB_1595 : Cond.methodLink RL 116 yX11_send ∈ dgB := List.mem_filter.mpr ⟨tbl_6 _ (List.mem_of_getElem? (i := 69) (by decide +kernel)), by decide +kernel⟩
theorem wB_1596 : Cond.instanceMethod yX11_send ∈ dgB := List.mem_filter.mpr ⟨tbl_6 _ (List.mem_of_getElem? (i := 70) (by decide +kernel)), by decide +kernel⟩
theorem wB_1597 : Cond.selects RX11 yX11_send yX11_send ∈ dgB := List.mem_filter.mpr ⟨tbl_6 _ (List.mem_of_getElem? (i := 71) (by decide +kernel)), by decide +kernel⟩
theorem wB_1598 : Cond.code yX12_send cX12_send 6 (some .boolean) ∈ dgB := List.mem_filter.mpr ⟨tbl_9 _ (List.mem_of_getElem? (i := 133) rfl), rfl⟩
theorem wB_1599 : Cond.methodLink RL 120 yX12_send ∈ dgB := List.mem_filter.mpr ⟨tbl_9 _ (List.mem_of_getElem? (i := 130) (by decide +kernel)), by decide +kernel⟩
theorem wB_1600 : Cond.instanceMethod yX12_send ∈ dgB := List.mem_filter.mpr ⟨tbl_9 _ (List.mem_of_getElem? (i := 131) (by decide +kernel)), by decide +kernel⟩
theorem wB_1601 : Cond.selects RX12 yX12_send yX12_send ∈ dgB := List.mem_filter.mpr ⟨tbl_9 _ (List.mem_of_getElem? (i := 132) (by decide +kernel)), by decide +kernel⟩
theorem wB_1602 : Cond.code yX11_heal cX11_heal 2 (some .boolean) ∈ dgB := List.mem_filter.mpr ⟨tbl_6 _ (List.mem_of_getElem? (i := 76) rfl), rfl⟩
theorem wB_1603 : Cond.methodLink RL 121 yX11_heal ∈ dgB := List.mem_filter.mpr ⟨tbl_6 _ (List.mem_of_getElem? (i := 73) (by decide +kernel)), by decide +kernel⟩
theorem wB_1604 : Cond.instanceMethod yX11_heal ∈ dgB := List.mem_filter.mpr ⟨tbl_6 _ (List.mem_of_getElem? (i := 74) (by decide +kernel)), by decide +kernel⟩
theorem wB_1605 : Cond.selects RX11 yX11_heal yX11_heal ∈ dgB := List.mem_filter.mpr ⟨tbl_6 _ (List.mem_of_getElem? (i := 75) (by decide +kernel)), by decide +kernel⟩
theorem wB_1606 : Cond.code yX12_heal cX12_heal 2 (some .boolean) ∈ dgB := List.mem_filter.mpr ⟨tbl_9 _ (List.mem_of_getElem? (i := 137) rfl), rfl⟩
theorem wB_1607 : Cond.methodLink RL 124 yX12_heal ∈ dgB := List.mem_filter.mpr ⟨tbl_9 _ (List.mem_of_getElem? (i := 134) (by decide +kernel)), by decide +kernel⟩
theorem wB_1608 : Cond.instanceMethod yX12_heal ∈ dgB := List.mem_filter.mpr ⟨tbl_9 _ (List.mem_of_getElem? (i := 135) (by decide +kernel)), by decide +kernel⟩
theorem wB_1609 : Cond.selects RX12 yX12_heal yX12_heal ∈ dgB := List.mem_filter.mpr ⟨tbl_9 _ (List.mem_of_getElem? (i := 136) (by decide +kernel)), by decide +kernel⟩
theorem wB_1610 : Cond.code yX11_sell cX11_sell 2 (some .int) ∈ dgB := List.mem_filter.mpr ⟨tbl_6 _ (List.mem_of_getElem? (i := 80) rfl), rfl⟩
theorem wB_1611 : Cond.methodLink RL 125 yX11_sell ∈ dgB := List.mem_filter.mpr ⟨tbl_6 _ (List.mem_of_getElem? (i := 77) (by decide +kernel)), by decide +kernel⟩
theorem wB_1612 : Cond.instanceMethod yX11_sell ∈ dgB := List.mem_filter.mpr ⟨tbl_6 _ (List.mem_of_getElem? (i := 78) (by decide +kernel)), by decide +kernel⟩
theorem wB_1613 : Cond.selects RX11 yX11_sell yX11_sell ∈ dgB := List.mem_filter.mpr ⟨tbl_6 _ (List.mem_of_getElem? (i := 79) (by decide +kernel)), by decide +kernel⟩
theorem wB_1614 : Cond.code yX12_sell cX12_sell 5 (some .int) ∈ dgB := List.mem_filter.mpr ⟨tbl_9 _ (List.mem_of_getElem? (i := 141) rfl), rfl⟩
theorem wB_1615 : Cond.methodLink RL 128 yX12_sell ∈ dgB := List.mem_filter.mpr ⟨tbl_9 _ (List.mem_of_getElem? (i := 138) (by decide +kernel)), by decide +kernel⟩
theorem wB_1616 : Cond.instanceMethod yX12_sell ∈ dgB := List.mem_filter.mpr ⟨tbl_9 _ (List.mem_of_getElem? (i := 139) (by decide +kernel)), by decide +kernel⟩
theorem wB_1617 : Cond.selects RX12 yX12_sell yX12_sell ∈ dgB := List.mem_filter.mpr ⟨tbl_9 _ (List.mem_of_getElem? (i := 140) (by decide +kernel)), by decide +kernel⟩
set_option maxHeartbeats 8000000 in
set_option maxRecDepth 100000 in
theorem law_case_18 {p : Program} {e : Env} {s : State} {m : MethodId} {below : List Frame} {meth : Method} {c : Code} (l : Launch) {b L : Nat} {xs : Nat → Int32} {g : Nat → ClassId} {D : va_G} {A : Nat → Prop} {oX oM : Nat} (C : law_St p s m meth c b L xs g D A) (ST : dk_ST A s s.heap) (hO : oX + 380 ≤ oM) (hoX : ∀ i, A (oX + i)) (hoM : ∀ i, A (oM + i)) {H : Heap} {locs : List Loc} {ls : Array Slot} {SX SM : dg_S} (hP : va_P D vwCl (dg_w g shX oX rfX SX) H) (hM : va_P D vwCl (dg_w g shM oM rfM SM) H) (hS : va_S A s.heap H locs) (IX : law_X oX SX) (IM : law_M oM SM) (IT : law_T SX SM) (IL : law_L oX SX SM) {x : Int32} (hx0 : 0 ≤ x.toInt) (hxL : x.toInt + 6 ≤ L) (hL : L ≤ 3072) (hl : lv_has ls 4 [(3, .int x), (2, .ref (oM + 0)), (1, .ref (oX + 0)), (0, .ref b)])
    (kk : ∀ (SX SM : dg_S) (H : Heap) (locs : List Loc) (ls : Array Slot), va_P D vwCl (dg_w g shX oX rfX SX) H → va_P D vwCl (dg_w g shM oM rfM SM) H → va_S A s.heap H locs → law_X oX SX → law_M oM SM → law_T SX SM → law_L oX SX SM → lv_has ls 4 [(3, .int x), (2, .ref (oM + 0)), (1, .ref (oX + 0)), (0, .ref b)] → W p l e room_1 s m #[Value.ref b] below meth c H locs 431 78943 (lw_Z below #[Value.ref b] s) (F0 m 1126 ls [])) : W p l e room_1 s m #[Value.ref b] below meth c H locs 431 78943 (lw_Z below #[Value.ref b] s) (F0 m 748 ls []) := by
  obtain ⟨hx, hb, hr, hml, hown, hts, hX, hbl, hlocks, K, hA, hAi⟩ := C
  have hbA : ¬ A b := fun q => Nat.not_le.mpr hbl (hAi b q)
  have F : CallFix p m c cL_law 4 s #[Value.ref b] lw_tbl RL := ⟨hx, hb, hml, hown, hts⟩
  obtain ⟨I0, Z1, Z2, Z3, Z4, Z6⟩ := IX
  obtain ⟨J0, ZB, ZS, ZW, ZD⟩ := IM
  obtain ⟨t, fX, fM, hBY⟩ := IT
  obtain ⟨gD, gE, LW0⟩ := IL
  have hgD := LW0.2.2.2.1.1.1
  have hgE := LW0.2.2.2.1.1.2.1
  have hgne := LW0.2.2.2.1.1.2.2
  have fgD := LW0.2.2.2.1.2.1
  have fgE := LW0.2.2.2.1.2.2
  have b_t : 0 ≤ (t).toInt ∧ (t).toInt ≤ 1600 := dg_I.intb (lo := 0) (hi := 1600) I0 sX_1 (by decide +kernel) fX
  refine lv_aload_n hx hb dL_law_748 rfl (lv_at hl 2 rfl) ?_
  refine lw_calli hS (fun i _ => hoX i) hA (va_runV (As := []) (rest := []) F (c_d_feel l g D oX SX Z1 Z2 Z3 Z4 Z6 I0 H.size) (cwV 0 hts (lw_V wB_1547 wB_1548 wB_1549 wB_610 wB_1546) rfl rfl rfl (by decide +kernel) ⟨Nat.le_of_ble_eq_true rfl, Nat.le_of_ble_eq_true rfl⟩) (dg_preV sX_0 rfl K ST hP hS (fun i _ => hoX i) hA) rfl rfl hl.1 rfl (lv_room (Nat.le_of_ble_eq_true rfl)) dL_law_749 ⟨Nat.le_of_ble_eq_true rfl, Nat.le_of_ble_eq_true rfl⟩) hM (lw_apX hO) (fun r1 S1 hw1 H locs hP hM hS => ?_)
  obtain ⟨I1, m1, w1_0, w1_1, w1_2, -⟩ := hw1
  have Z1_1 : Z1X S1 := (Z1X.keep Z1 m1 (dk_dq rfl) (dk_dq rfl) (dk_dq rfl))
  have Z2_1 : Z2X S1 := (Z2X.keep Z2 m1 (dk_dq rfl) (dk_dq rfl))
  have Z3_1 : Z3X oX S1 := (Z3X.keep Z3 m1 (dg_FG.sm m1 (dk_dq rfl)) (dk_dq rfl))
  have Z4_1 : Z4X S1 := (Z4X.keep Z4 m1 (dg_FG.sm m1 (dk_dq rfl)) (dk_dq rfl) (dk_dq rfl))
  have Z6_1 : Z6X S1 := (Z6X.keep Z6 m1 (dg_FG.sm m1 (dk_dq rfl)))
  have br1 : (-1) ≤ (r1).toInt ∧ (r1).toInt ≤ 16 := w1_0
  obtain ⟨yX, fyX, pyX⟩ := w1_1
  have pyX : (yX).toInt = 0 := pyX
  refine lv_pop hx hb dL_law_752 rfl ?_
  refine lv_aload_n hx hb dL_law_753 rfl (lv_at hl 1 rfl) ?_
  refine lw_calli hS (fun i _ => hoM i) hA (va_runV (As := []) (rest := []) F (c_m_feel l g D oM SM ZB J0 H.size) (cwV 0 hts (lw_V wB_1551 wB_1552 wB_1553 wB_297 wB_1550) rfl rfl rfl (by decide +kernel) ⟨Nat.le_of_ble_eq_true rfl, Nat.le_of_ble_eq_true rfl⟩) (dg_preV sM_0 rfl K ST hM hS (fun i _ => hoM i) hA) rfl rfl hl.1 rfl (lv_room (Nat.le_of_ble_eq_true rfl)) dL_law_754 ⟨Nat.le_of_ble_eq_true rfl, Nat.le_of_ble_eq_true rfl⟩) hP (lw_apM hO) (fun r2 S2 hw2 H locs hM hP hS => ?_)
  obtain ⟨I2, m2, w2_0, w2_1, w2_2, -⟩ := hw2
  have ZB_2 : ZBM S2 := (ZBM.keep ZB m2 (dk_dq rfl) (dk_dq rfl) (dk_dq rfl) (dk_dq rfl) (dk_dq rfl))
  have ZS_2 : ZSM S2 := (ZSM.keep ZS m2 (dk_dq rfl))
  have ZW_2 : ZWM S2 := (ZWM.keep ZW m2 (dk_dq rfl) (dk_dq rfl) (dk_dq rfl) (dk_dq rfl))
  have ZD_2 : ZDM S2 := (ZDM.keep ZD m2 (dk_dq rfl))
  have br2 : (-1) ≤ (r2).toInt ∧ (r2).toInt ≤ 16 := w2_0
  obtain ⟨yM, fyM, pyM⟩ := w2_1
  have pyM : (yM).toInt = 0 := pyM
  obtain ⟨eq9, LW1⟩ := W_feel LW0 w1_2 w2_2
  refine lv_pop hx hb dL_law_757 rfl ?_
  refine lv_goto (tgt := 1126) hx hb dL_law_758 (dk_dq rfl) ?_
  have hyy : yM = yX := Int32.toInt_inj.mp (by omega)
  have hct := dk_clN t
  have hcy := dk_clN yX
  exact kk S1 S2 H locs ls hP hM hS ⟨I1, Z1_1, Z2_1, Z3_1, Z4_1, Z6_1⟩ ⟨I2, ZB_2, ZS_2, ZW_2, ZD_2⟩ ⟨yX, fyX, (fyM).trans (by rw [hyy]), fun j hj => by rw [(m1.2 2 _ sX_2 (dk_dq rfl)).1, (m2.2 1 _ sM_1 (dk_dq rfl)).1]; exact hBY j (by omega)⟩ ⟨_, _, LW1⟩ hl
set_option maxHeartbeats 8000000 in
set_option maxRecDepth 100000 in
theorem law_case_19 {p : Program} {e : Env} {s : State} {m : MethodId} {below : List Frame} {meth : Method} {c : Code} (l : Launch) {b L : Nat} {xs : Nat → Int32} {g : Nat → ClassId} {D : va_G} {A : Nat → Prop} {oX oM : Nat} (C : law_St p s m meth c b L xs g D A) (ST : dk_ST A s s.heap) (hO : oX + 380 ≤ oM) (hoX : ∀ i, A (oX + i)) (hoM : ∀ i, A (oM + i)) {H : Heap} {locs : List Loc} {ls : Array Slot} {SX SM : dg_S} (hP : va_P D vwCl (dg_w g shX oX rfX SX) H) (hM : va_P D vwCl (dg_w g shM oM rfM SM) H) (hS : va_S A s.heap H locs) (IX : law_X oX SX) (IM : law_M oM SM) (IT : law_T SX SM) (IL : law_L oX SX SM) {x : Int32} (hx0 : 0 ≤ x.toInt) (hxL : x.toInt + 6 ≤ L) (hL : L ≤ 3072) (hl : lv_has ls 4 [(3, .int x), (2, .ref (oM + 0)), (1, .ref (oX + 0)), (0, .ref b)])
    (kk : ∀ (SX SM : dg_S) (H : Heap) (locs : List Loc) (ls : Array Slot), va_P D vwCl (dg_w g shX oX rfX SX) H → va_P D vwCl (dg_w g shM oM rfM SM) H → va_S A s.heap H locs → law_X oX SX → law_M oM SM → law_T SX SM → law_L oX SX SM → lv_has ls 4 [(3, .int x), (2, .ref (oM + 0)), (1, .ref (oX + 0)), (0, .ref b)] → W p l e room_1 s m #[Value.ref b] below meth c H locs 431 78943 (lw_Z below #[Value.ref b] s) (F0 m 1126 ls [])) : W p l e room_1 s m #[Value.ref b] below meth c H locs 431 78943 (lw_Z below #[Value.ref b] s) (F0 m 761 ls []) := by
  obtain ⟨hx, hb, hr, hml, hown, hts, hX, hbl, hlocks, K, hA, hAi⟩ := C
  have hbA : ¬ A b := fun q => Nat.not_le.mpr hbl (hAi b q)
  have F : CallFix p m c cL_law 4 s #[Value.ref b] lw_tbl RL := ⟨hx, hb, hml, hown, hts⟩
  obtain ⟨I0, Z1, Z2, Z3, Z4, Z6⟩ := IX
  obtain ⟨J0, ZB, ZS, ZW, ZD⟩ := IM
  obtain ⟨t, fX, fM, hBY⟩ := IT
  obtain ⟨gD, gE, LW0⟩ := IL
  have hgD := LW0.2.2.2.1.1.1
  have hgE := LW0.2.2.2.1.1.2.1
  have hgne := LW0.2.2.2.1.1.2.2
  have fgD := LW0.2.2.2.1.2.1
  have fgE := LW0.2.2.2.1.2.2
  have b_t : 0 ≤ (t).toInt ∧ (t).toInt ≤ 1600 := dg_I.intb (lo := 0) (hi := 1600) I0 sX_1 (by decide +kernel) fX
  refine lv_aload_n hx hb dL_law_761 rfl (lv_at hl 2 rfl) ?_
  refine lw_calli hS (fun i _ => hoX i) hA (va_runV (As := []) (rest := []) F (c_d_reaches l g D oX SX Z1 Z2 Z3 Z4 Z6 I0 H.size) (cwV 0 hts (lw_V wB_1555 wB_1556 wB_1557 wB_610 wB_1554) rfl rfl rfl (by decide +kernel) ⟨Nat.le_of_ble_eq_true rfl, Nat.le_of_ble_eq_true rfl⟩) (dg_preV sX_0 rfl K ST hP hS (fun i _ => hoX i) hA) rfl rfl hl.1 rfl (lv_room (Nat.le_of_ble_eq_true rfl)) dL_law_762 ⟨Nat.le_of_ble_eq_true rfl, Nat.le_of_ble_eq_true rfl⟩) hM (lw_apX hO) (fun r1 S1 hw1 H locs hP hM hS => ?_)
  obtain ⟨I1, m1, w1_0, w1_1, w1_2, w1_3, w1_4, w1_5, -⟩ := hw1
  have Z1_1 : Z1X S1 := (Z1X.keep Z1 m1 (dk_dq rfl) (dk_dq rfl) (dk_dq rfl))
  have Z2_1 : Z2X S1 := w1_0
  have Z3_1 : Z3X oX S1 := w1_1
  have Z4_1 : Z4X S1 := w1_2
  have Z6_1 : Z6X S1 := w1_3
  have fX_1 : S1.1 1 1 = .int t := (m1.1 1 1 _ sX_1 (dk_dq rfl)).trans fX
  refine lv_pop hx hb dL_law_765 rfl ?_
  refine lv_aload_n hx hb dL_law_766 rfl (lv_at hl 1 rfl) ?_
  refine lw_calli hS (fun i _ => hoM i) hA (va_runV (As := []) (rest := []) F (c_m_reaches l g D oM SM ZB ZS ZW J0 H.size) (cwV 0 hts (lw_V wB_1559 wB_1560 wB_1561 wB_297 wB_1558) rfl rfl rfl (by decide +kernel) ⟨Nat.le_of_ble_eq_true rfl, Nat.le_of_ble_eq_true rfl⟩) (dg_preV sM_0 rfl K ST hM hS (fun i _ => hoM i) hA) rfl rfl hl.1 rfl (lv_room (Nat.le_of_ble_eq_true rfl)) dL_law_767 ⟨Nat.le_of_ble_eq_true rfl, Nat.le_of_ble_eq_true rfl⟩) hP (lw_apM hO) (fun r2 S2 hw2 H locs hM hP hS => ?_)
  obtain ⟨I2, m2, w2_0, w2_1, -⟩ := hw2
  have ZB_2 : ZBM S2 := (ZBM.keep ZB m2 (dk_dq rfl) (dk_dq rfl) (dk_dq rfl) (dk_dq rfl) (dk_dq rfl))
  have ZS_2 : ZSM S2 := w2_0
  have ZW_2 : ZWM S2 := (ZWM.keep ZW m2 (dk_dq rfl) (dk_dq rfl) (dk_dq rfl) (dk_dq rfl))
  have ZD_2 : ZDM S2 := (ZDM.keep ZD m2 (dk_dq rfl))
  have fM_2 : S2.1 0 1 = .int t := (m2.1 0 1 _ sM_0 (dk_dq rfl)).trans fM
  obtain ⟨eq9, LW1⟩ := W_reaches LW0 m1 m2 (by (repeat' apply And.intro) <;> decide) w1_5 w2_1
  refine lv_pop hx hb dL_law_770 rfl ?_
  refine lv_goto (tgt := 1126) hx hb dL_law_771 (dk_dq rfl) ?_
  exact kk S1 S2 H locs ls hP hM hS ⟨I1, Z1_1, Z2_1, Z3_1, Z4_1, Z6_1⟩ ⟨I2, ZB_2, ZS_2, ZW_2, ZD_2⟩ ⟨t, fX_1, fM_2, fun j hj => by rw [(m1.2 2 _ sX_2 (dk_dq rfl)).1, (m2.2 1 _ sM_1 (dk_dq rfl)).1]; exact hBY j hj⟩ ⟨_, _, LW1⟩ hl
set_option maxHeartbeats 8000000 in
set_option maxRecDepth 100000 in
theorem law_case_20 {p : Program} {e : Env} {s : State} {m : MethodId} {below : List Frame} {meth : Method} {c : Code} (l : Launch) {b L : Nat} {xs : Nat → Int32} {g : Nat → ClassId} {D : va_G} {A : Nat → Prop} {oX oM : Nat} (C : law_St p s m meth c b L xs g D A) (ST : dk_ST A s s.heap) (hO : oX + 380 ≤ oM) (hoX : ∀ i, A (oX + i)) (hoM : ∀ i, A (oM + i)) {H : Heap} {locs : List Loc} {ls : Array Slot} {SX SM : dg_S} (hP : va_P D vwCl (dg_w g shX oX rfX SX) H) (hM : va_P D vwCl (dg_w g shM oM rfM SM) H) (hS : va_S A s.heap H locs) (IX : law_X oX SX) (IM : law_M oM SM) (IT : law_T SX SM) (IL : law_L oX SX SM) {x : Int32} (hx0 : 0 ≤ x.toInt) (hxL : x.toInt + 6 ≤ L) (hL : L ≤ 3072) (hl : lv_has ls 4 [(3, .int x), (2, .ref (oM + 0)), (1, .ref (oX + 0)), (0, .ref b)])
    (kk : ∀ (SX SM : dg_S) (H : Heap) (locs : List Loc) (ls : Array Slot), va_P D vwCl (dg_w g shX oX rfX SX) H → va_P D vwCl (dg_w g shM oM rfM SM) H → va_S A s.heap H locs → law_X oX SX → law_M oM SM → law_T SX SM → law_L oX SX SM → lv_has ls 4 [(3, .int x), (2, .ref (oM + 0)), (1, .ref (oX + 0)), (0, .ref b)] → W p l e room_1 s m #[Value.ref b] below meth c H locs 431 78943 (lw_Z below #[Value.ref b] s) (F0 m 1126 ls [])) : W p l e room_1 s m #[Value.ref b] below meth c H locs 431 78943 (lw_Z below #[Value.ref b] s) (F0 m 774 ls []) := by
  obtain ⟨hx, hb, hr, hml, hown, hts, hX, hbl, hlocks, K, hA, hAi⟩ := C
  have hbA : ¬ A b := fun q => Nat.not_le.mpr hbl (hAi b q)
  have F : CallFix p m c cL_law 4 s #[Value.ref b] lw_tbl RL := ⟨hx, hb, hml, hown, hts⟩
  obtain ⟨I0, Z1, Z2, Z3, Z4, Z6⟩ := IX
  obtain ⟨J0, ZB, ZS, ZW, ZD⟩ := IM
  obtain ⟨t, fX, fM, hBY⟩ := IT
  obtain ⟨gD, gE, LW0⟩ := IL
  have hgD := LW0.2.2.2.1.1.1
  have hgE := LW0.2.2.2.1.1.2.1
  have hgne := LW0.2.2.2.1.1.2.2
  have fgD := LW0.2.2.2.1.2.1
  have fgE := LW0.2.2.2.1.2.2
  have b_t : 0 ≤ (t).toInt ∧ (t).toInt ≤ 1600 := dg_I.intb (lo := 0) (hi := 1600) I0 sX_1 (by decide +kernel) fX
  have i1 : (x + 1).toInt = x.toInt + 1 := dk_addT2 rfl (by decide +kernel) (by omega)
  obtain ⟨a1, ha1⟩ : ∃ a, a = xs (x + 1).toNatClampNeg := ⟨_, rfl⟩
  refine lv_aload_n hx hb dL_law_774 rfl (lv_at hl 2 rfl) ?_
  refine lv_aload_n hx hb dL_law_775 rfl (lv_at hl 3 rfl) ?_
  refine lv_iload_n hx hb dL_law_776 rfl (lv_at hl 0 rfl) ?_
  refine lv_iconst (v := 1) hx hb dL_law_777 (by decide +kernel) ?_
  refine lv_iadd hx hb dL_law_778 ?_
  refine va_sld hx hb hX hbl hbA hS (dk_inv2 (by omega)) dL_law_779 ?_
  refine dk_top (y := a1) ha1.symm ?_
  refine lw_calli hS (fun i _ => hoX i) hA (va_runV (As := [.int a1]) (rest := []) F (c_d_tells l g D oX SX a1 Z1 Z2 Z3 Z4 Z6 I0 H.size) (cwV 1 hts (lw_V wB_1563 wB_1564 wB_1565 wB_610 wB_1562) rfl rfl rfl (by decide +kernel) ⟨Nat.le_of_ble_eq_true rfl, Nat.le_of_ble_eq_true rfl⟩) (dg_preV sX_0 rfl K ST hP hS (fun i _ => hoX i) hA) rfl rfl hl.1 rfl (lv_room (Nat.le_of_ble_eq_true rfl)) dL_law_780 ⟨Nat.le_of_ble_eq_true rfl, Nat.le_of_ble_eq_true rfl⟩) hM (lw_apX hO) (fun r1 S1 hw1 H locs hP hM hS => ?_)
  obtain ⟨I1, m1, w1_0, w1_1, w1_2, w1_3, w1_4, w1_5, -⟩ := hw1
  have Z1_1 : Z1X S1 := (Z1X.keep Z1 m1 (dk_dq rfl) (dk_dq rfl) (dk_dq rfl))
  have Z2_1 : Z2X S1 := w1_0
  have Z3_1 : Z3X oX S1 := w1_1
  have Z4_1 : Z4X S1 := w1_2
  have Z6_1 : Z6X S1 := w1_3
  have fX_1 : S1.1 1 1 = .int t := (m1.1 1 1 _ sX_1 (dk_dq rfl)).trans fX
  refine lv_pop hx hb dL_law_783 rfl ?_
  refine lv_aload_n hx hb dL_law_784 rfl (lv_at hl 1 rfl) ?_
  refine lv_aload_n hx hb dL_law_785 rfl (lv_at hl 3 rfl) ?_
  refine lv_iload_n hx hb dL_law_786 rfl (lv_at hl 0 rfl) ?_
  refine lv_iconst (v := 1) hx hb dL_law_787 (by decide +kernel) ?_
  refine lv_iadd hx hb dL_law_788 ?_
  refine va_sld hx hb hX hbl hbA hS (dk_inv2 (by omega)) dL_law_789 ?_
  refine dk_top (y := a1) ha1.symm ?_
  refine lw_calli hS (fun i _ => hoM i) hA (va_runV (As := [.int a1]) (rest := []) F (c_m_tells l g D oM SM a1 ZB ZS ZW J0 H.size) (cwV 1 hts (lw_V wB_1567 wB_1568 wB_1569 wB_297 wB_1566) rfl rfl rfl (by decide +kernel) ⟨Nat.le_of_ble_eq_true rfl, Nat.le_of_ble_eq_true rfl⟩) (dg_preV sM_0 rfl K ST hM hS (fun i _ => hoM i) hA) rfl rfl hl.1 rfl (lv_room (Nat.le_of_ble_eq_true rfl)) dL_law_790 ⟨Nat.le_of_ble_eq_true rfl, Nat.le_of_ble_eq_true rfl⟩) hP (lw_apM hO) (fun r2 S2 hw2 H locs hM hP hS => ?_)
  obtain ⟨I2, m2, w2_0, w2_1, w2_2, -⟩ := hw2
  have ZB_2 : ZBM S2 := (ZBM.keep ZB m2 (dk_dq rfl) (dk_dq rfl) (dk_dq rfl) (dk_dq rfl) (dk_dq rfl))
  have ZS_2 : ZSM S2 := w2_1
  have ZW_2 : ZWM S2 := (ZWM.keep ZW m2 (dk_dq rfl) (dk_dq rfl) (dk_dq rfl) (dk_dq rfl))
  have ZD_2 : ZDM S2 := (ZDM.keep ZD m2 (dk_dq rfl))
  have br2 : (-1) ≤ (r2).toInt ∧ (r2).toInt ≤ 100000000 := w2_0
  have fM_2 : S2.1 0 1 = .int t := (m2.1 0 1 _ sM_0 (dk_dq rfl)).trans fM
  obtain ⟨eq9, LW1⟩ := W_tells LW0 m1 m2 (by (repeat' apply And.intro) <;> decide) w1_5 w2_2
  refine lv_pop hx hb dL_law_793 rfl ?_
  refine lv_goto (tgt := 1126) hx hb dL_law_794 (dk_dq rfl) ?_
  exact kk S1 S2 H locs ls hP hM hS ⟨I1, Z1_1, Z2_1, Z3_1, Z4_1, Z6_1⟩ ⟨I2, ZB_2, ZS_2, ZW_2, ZD_2⟩ ⟨t, fX_1, fM_2, fun j hj => by rw [(m1.2 2 _ sX_2 (dk_dq rfl)).1, (m2.2 1 _ sM_1 (dk_dq rfl)).1]; exact hBY j hj⟩ ⟨_, _, LW1⟩ hl
set_option maxHeartbeats 8000000 in
set_option maxRecDepth 100000 in
theorem law_case_21 {p : Program} {e : Env} {s : State} {m : MethodId} {below : List Frame} {meth : Method} {c : Code} (l : Launch) {b L : Nat} {xs : Nat → Int32} {g : Nat → ClassId} {D : va_G} {A : Nat → Prop} {oX oM : Nat} (C : law_St p s m meth c b L xs g D A) (ST : dk_ST A s s.heap) (hO : oX + 380 ≤ oM) (hoX : ∀ i, A (oX + i)) (hoM : ∀ i, A (oM + i)) {H : Heap} {locs : List Loc} {ls : Array Slot} {SX SM : dg_S} (hP : va_P D vwCl (dg_w g shX oX rfX SX) H) (hM : va_P D vwCl (dg_w g shM oM rfM SM) H) (hS : va_S A s.heap H locs) (IX : law_X oX SX) (IM : law_M oM SM) (IT : law_T SX SM) (IL : law_L oX SX SM) {x : Int32} (hx0 : 0 ≤ x.toInt) (hxL : x.toInt + 6 ≤ L) (hL : L ≤ 3072) (hl : lv_has ls 4 [(3, .int x), (2, .ref (oM + 0)), (1, .ref (oX + 0)), (0, .ref b)])
    (kk : ∀ (SX SM : dg_S) (H : Heap) (locs : List Loc) (ls : Array Slot), va_P D vwCl (dg_w g shX oX rfX SX) H → va_P D vwCl (dg_w g shM oM rfM SM) H → va_S A s.heap H locs → law_X oX SX → law_M oM SM → law_T SX SM → law_L oX SX SM → lv_has ls 4 [(3, .int x), (2, .ref (oM + 0)), (1, .ref (oX + 0)), (0, .ref b)] → W p l e room_1 s m #[Value.ref b] below meth c H locs 431 78943 (lw_Z below #[Value.ref b] s) (F0 m 1126 ls [])) : W p l e room_1 s m #[Value.ref b] below meth c H locs 431 78943 (lw_Z below #[Value.ref b] s) (F0 m 797 ls []) := by
  obtain ⟨hx, hb, hr, hml, hown, hts, hX, hbl, hlocks, K, hA, hAi⟩ := C
  have hbA : ¬ A b := fun q => Nat.not_le.mpr hbl (hAi b q)
  have F : CallFix p m c cL_law 4 s #[Value.ref b] lw_tbl RL := ⟨hx, hb, hml, hown, hts⟩
  obtain ⟨I0, Z1, Z2, Z3, Z4, Z6⟩ := IX
  obtain ⟨J0, ZB, ZS, ZW, ZD⟩ := IM
  obtain ⟨t, fX, fM, hBY⟩ := IT
  obtain ⟨gD, gE, LW0⟩ := IL
  have hgD := LW0.2.2.2.1.1.1
  have hgE := LW0.2.2.2.1.1.2.1
  have hgne := LW0.2.2.2.1.1.2.2
  have fgD := LW0.2.2.2.1.2.1
  have fgE := LW0.2.2.2.1.2.2
  have b_t : 0 ≤ (t).toInt ∧ (t).toInt ≤ 1600 := dg_I.intb (lo := 0) (hi := 1600) I0 sX_1 (by decide +kernel) fX
  have i1 : (x + 1).toInt = x.toInt + 1 := dk_addT2 rfl (by decide +kernel) (by omega)
  obtain ⟨a1, ha1⟩ : ∃ a, a = xs (x + 1).toNatClampNeg := ⟨_, rfl⟩
  refine lv_aload_n hx hb dL_law_797 rfl (lv_at hl 2 rfl) ?_
  refine lv_aload_n hx hb dL_law_798 rfl (lv_at hl 3 rfl) ?_
  refine lv_iload_n hx hb dL_law_799 rfl (lv_at hl 0 rfl) ?_
  refine lv_iconst (v := 1) hx hb dL_law_800 (by decide +kernel) ?_
  refine lv_iadd hx hb dL_law_801 ?_
  refine va_sld hx hb hX hbl hbA hS (dk_inv2 (by omega)) dL_law_802 ?_
  refine dk_top (y := a1) ha1.symm ?_
  refine lw_calli hS (fun i _ => hoX i) hA (va_runV (As := [.int a1]) (rest := []) F (c_d_shifts l g D oX SX a1 Z1 Z2 Z3 Z4 Z6 I0 H.size) (cwV 1 hts (lw_V wB_1571 wB_1572 wB_1573 wB_610 wB_1570) rfl rfl rfl (by decide +kernel) ⟨Nat.le_of_ble_eq_true rfl, Nat.le_of_ble_eq_true rfl⟩) (dg_preV sX_0 rfl K ST hP hS (fun i _ => hoX i) hA) rfl rfl hl.1 rfl (lv_room (Nat.le_of_ble_eq_true rfl)) dL_law_803 ⟨Nat.le_of_ble_eq_true rfl, Nat.le_of_ble_eq_true rfl⟩) hM (lw_apX hO) (fun r1 S1 hw1 H locs hP hM hS => ?_)
  obtain ⟨I1, m1, w1_0, w1_1, w1_2, w1_3, w1_4, w1_5, w1_6, -⟩ := hw1
  have Z1_1 : Z1X S1 := (Z1X.keep Z1 m1 (dk_dq rfl) (dk_dq rfl) (dk_dq rfl))
  have Z2_1 : Z2X S1 := w1_1
  have Z3_1 : Z3X oX S1 := w1_2
  have Z4_1 : Z4X S1 := w1_3
  have Z6_1 : Z6X S1 := w1_4
  have fX_1 : S1.1 1 1 = .int t := (m1.1 1 1 _ sX_1 (dk_dq rfl)).trans fX
  refine lv_pop hx hb dL_law_806 rfl ?_
  refine lv_aload_n hx hb dL_law_807 rfl (lv_at hl 1 rfl) ?_
  refine lv_aload_n hx hb dL_law_808 rfl (lv_at hl 3 rfl) ?_
  refine lv_iload_n hx hb dL_law_809 rfl (lv_at hl 0 rfl) ?_
  refine lv_iconst (v := 1) hx hb dL_law_810 (by decide +kernel) ?_
  refine lv_iadd hx hb dL_law_811 ?_
  refine va_sld hx hb hX hbl hbA hS (dk_inv2 (by omega)) dL_law_812 ?_
  refine dk_top (y := a1) ha1.symm ?_
  refine lw_calli hS (fun i _ => hoM i) hA (va_runV (As := [.int a1]) (rest := []) F (c_m_shifts l g D oM SM a1 ZB ZS ZW J0 H.size) (cwV 1 hts (lw_V wB_1575 wB_1576 wB_1577 wB_297 wB_1574) rfl rfl rfl (by decide +kernel) ⟨Nat.le_of_ble_eq_true rfl, Nat.le_of_ble_eq_true rfl⟩) (dg_preV sM_0 rfl K ST hM hS (fun i _ => hoM i) hA) rfl rfl hl.1 rfl (lv_room (Nat.le_of_ble_eq_true rfl)) dL_law_813 ⟨Nat.le_of_ble_eq_true rfl, Nat.le_of_ble_eq_true rfl⟩) hP (lw_apM hO) (fun r2 S2 hw2 H locs hM hP hS => ?_)
  obtain ⟨I2, m2, w2_0, w2_1, w2_2, -⟩ := hw2
  have ZB_2 : ZBM S2 := (ZBM.keep ZB m2 (dk_dq rfl) (dk_dq rfl) (dk_dq rfl) (dk_dq rfl) (dk_dq rfl))
  have ZS_2 : ZSM S2 := w2_1
  have ZW_2 : ZWM S2 := (ZWM.keep ZW m2 (dk_dq rfl) (dk_dq rfl) (dk_dq rfl) (dk_dq rfl))
  have ZD_2 : ZDM S2 := (ZDM.keep ZD m2 (dk_dq rfl))
  have fM_2 : S2.1 0 1 = .int t := (m2.1 0 1 _ sM_0 (dk_dq rfl)).trans fM
  obtain ⟨eq9, LW1⟩ := W_shifts LW0 m1 m2 (by (repeat' apply And.intro) <;> decide) (by (repeat' apply And.intro) <;> decide) w1_0 w2_0 w1_6 w2_2
  refine lv_pop hx hb dL_law_816 rfl ?_
  refine lv_goto (tgt := 1126) hx hb dL_law_817 (dk_dq rfl) ?_
  exact kk S1 S2 H locs ls hP hM hS ⟨I1, Z1_1, Z2_1, Z3_1, Z4_1, Z6_1⟩ ⟨I2, ZB_2, ZS_2, ZW_2, ZD_2⟩ ⟨t, fX_1, fM_2, fun j hj => by rw [(m1.2 2 _ sX_2 (dk_dq rfl)).1, (m2.2 1 _ sM_1 (dk_dq rfl)).1]; exact hBY j hj⟩ ⟨_, _, LW1⟩ hl
set_option maxHeartbeats 8000000 in
set_option maxRecDepth 100000 in
theorem law_case_22 {p : Program} {e : Env} {s : State} {m : MethodId} {below : List Frame} {meth : Method} {c : Code} (l : Launch) {b L : Nat} {xs : Nat → Int32} {g : Nat → ClassId} {D : va_G} {A : Nat → Prop} {oX oM : Nat} (C : law_St p s m meth c b L xs g D A) (ST : dk_ST A s s.heap) (hO : oX + 380 ≤ oM) (hoX : ∀ i, A (oX + i)) (hoM : ∀ i, A (oM + i)) {H : Heap} {locs : List Loc} {ls : Array Slot} {SX SM : dg_S} (hP : va_P D vwCl (dg_w g shX oX rfX SX) H) (hM : va_P D vwCl (dg_w g shM oM rfM SM) H) (hS : va_S A s.heap H locs) (IX : law_X oX SX) (IM : law_M oM SM) (IT : law_T SX SM) (IL : law_L oX SX SM) {x : Int32} (hx0 : 0 ≤ x.toInt) (hxL : x.toInt + 6 ≤ L) (hL : L ≤ 3072) (hl : lv_has ls 4 [(3, .int x), (2, .ref (oM + 0)), (1, .ref (oX + 0)), (0, .ref b)])
    (kk : ∀ (SX SM : dg_S) (H : Heap) (locs : List Loc) (ls : Array Slot), va_P D vwCl (dg_w g shX oX rfX SX) H → va_P D vwCl (dg_w g shM oM rfM SM) H → va_S A s.heap H locs → law_X oX SX → law_M oM SM → law_T SX SM → law_L oX SX SM → lv_has ls 4 [(3, .int x), (2, .ref (oM + 0)), (1, .ref (oX + 0)), (0, .ref b)] → W p l e room_1 s m #[Value.ref b] below meth c H locs 431 78943 (lw_Z below #[Value.ref b] s) (F0 m 1126 ls [])) : W p l e room_1 s m #[Value.ref b] below meth c H locs 431 78943 (lw_Z below #[Value.ref b] s) (F0 m 820 ls []) := by
  obtain ⟨hx, hb, hr, hml, hown, hts, hX, hbl, hlocks, K, hA, hAi⟩ := C
  have hbA : ¬ A b := fun q => Nat.not_le.mpr hbl (hAi b q)
  have F : CallFix p m c cL_law 4 s #[Value.ref b] lw_tbl RL := ⟨hx, hb, hml, hown, hts⟩
  obtain ⟨I0, Z1, Z2, Z3, Z4, Z6⟩ := IX
  obtain ⟨J0, ZB, ZS, ZW, ZD⟩ := IM
  obtain ⟨t, fX, fM, hBY⟩ := IT
  obtain ⟨gD, gE, LW0⟩ := IL
  have hgD := LW0.2.2.2.1.1.1
  have hgE := LW0.2.2.2.1.1.2.1
  have hgne := LW0.2.2.2.1.1.2.2
  have fgD := LW0.2.2.2.1.2.1
  have fgE := LW0.2.2.2.1.2.2
  have b_t : 0 ≤ (t).toInt ∧ (t).toInt ≤ 1600 := dg_I.intb (lo := 0) (hi := 1600) I0 sX_1 (by decide +kernel) fX
  have i1 : (x + 1).toInt = x.toInt + 1 := dk_addT2 rfl (by decide +kernel) (by omega)
  obtain ⟨a1, ha1⟩ : ∃ a, a = xs (x + 1).toNatClampNeg := ⟨_, rfl⟩
  refine lv_aload_n hx hb dL_law_820 rfl (lv_at hl 2 rfl) ?_
  refine lv_aload_n hx hb dL_law_821 rfl (lv_at hl 3 rfl) ?_
  refine lv_iload_n hx hb dL_law_822 rfl (lv_at hl 0 rfl) ?_
  refine lv_iconst (v := 1) hx hb dL_law_823 (by decide +kernel) ?_
  refine lv_iadd hx hb dL_law_824 ?_
  refine va_sld hx hb hX hbl hbA hS (dk_inv2 (by omega)) dL_law_825 ?_
  refine dk_top (y := a1) ha1.symm ?_
  refine lw_calli hS (fun i _ => hoX i) hA (va_runV (As := [.int a1]) (rest := []) F (c_d_chance l g D oX SX a1 Z1 Z2 Z3 Z4 Z6 I0 H.size) (cwV 1 hts (lw_V wB_1579 wB_1580 wB_1581 wB_610 wB_1578) rfl rfl rfl (by decide +kernel) ⟨Nat.le_of_ble_eq_true rfl, Nat.le_of_ble_eq_true rfl⟩) (dg_preV sX_0 rfl K ST hP hS (fun i _ => hoX i) hA) rfl rfl hl.1 rfl (lv_room (Nat.le_of_ble_eq_true rfl)) dL_law_826 ⟨Nat.le_of_ble_eq_true rfl, Nat.le_of_ble_eq_true rfl⟩) hM (lw_apX hO) (fun r1 S1 hw1 H locs hP hM hS => ?_)
  obtain ⟨I1, m1, w1_0, w1_1, w1_2, w1_3, w1_4, w1_5, w1_6, -⟩ := hw1
  have Z1_1 : Z1X S1 := (Z1X.keep Z1 m1 (dk_dq rfl) (dk_dq rfl) (dk_dq rfl))
  have Z2_1 : Z2X S1 := w1_1
  have Z3_1 : Z3X oX S1 := w1_2
  have Z4_1 : Z4X S1 := w1_3
  have Z6_1 : Z6X S1 := w1_4
  have fX_1 : S1.1 1 1 = .int t := (m1.1 1 1 _ sX_1 (dk_dq rfl)).trans fX
  refine lv_pop hx hb dL_law_829 rfl ?_
  refine lv_aload_n hx hb dL_law_830 rfl (lv_at hl 1 rfl) ?_
  refine lv_aload_n hx hb dL_law_831 rfl (lv_at hl 3 rfl) ?_
  refine lv_iload_n hx hb dL_law_832 rfl (lv_at hl 0 rfl) ?_
  refine lv_iconst (v := 1) hx hb dL_law_833 (by decide +kernel) ?_
  refine lv_iadd hx hb dL_law_834 ?_
  refine va_sld hx hb hX hbl hbA hS (dk_inv2 (by omega)) dL_law_835 ?_
  refine dk_top (y := a1) ha1.symm ?_
  refine lw_calli hS (fun i _ => hoM i) hA (va_runV (As := [.int a1]) (rest := []) F (c_m_chance l g D oM SM a1 ZB ZS ZW ZD J0 H.size) (cwV 1 hts (lw_V wB_1583 wB_1584 wB_1585 wB_297 wB_1582) rfl rfl rfl (by decide +kernel) ⟨Nat.le_of_ble_eq_true rfl, Nat.le_of_ble_eq_true rfl⟩) (dg_preV sM_0 rfl K ST hM hS (fun i _ => hoM i) hA) rfl rfl hl.1 rfl (lv_room (Nat.le_of_ble_eq_true rfl)) dL_law_836 ⟨Nat.le_of_ble_eq_true rfl, Nat.le_of_ble_eq_true rfl⟩) hP (lw_apM hO) (fun r2 S2 hw2 H locs hM hP hS => ?_)
  obtain ⟨I2, m2, w2_0, w2_1, w2_2, w2_3, -⟩ := hw2
  have ZB_2 : ZBM S2 := (ZBM.keep ZB m2 (dk_dq rfl) (dk_dq rfl) (dk_dq rfl) (dk_dq rfl) (dk_dq rfl))
  have ZS_2 : ZSM S2 := w2_1
  have ZW_2 : ZWM S2 := (ZWM.keep ZW m2 (dk_dq rfl) (dk_dq rfl) (dk_dq rfl) (dk_dq rfl))
  have ZD_2 : ZDM S2 := w2_2
  have fM_2 : S2.1 0 1 = .int t := (m2.1 0 1 _ sM_0 (dk_dq rfl)).trans fM
  obtain ⟨eq9, LW1⟩ := W_chance LW0 m1 m2 (by (repeat' apply And.intro) <;> decide) (by (repeat' apply And.intro) <;> decide) w1_0 w2_0 w1_6 w2_3
  refine lv_pop hx hb dL_law_839 rfl ?_
  refine lv_goto (tgt := 1126) hx hb dL_law_840 (dk_dq rfl) ?_
  exact kk S1 S2 H locs ls hP hM hS ⟨I1, Z1_1, Z2_1, Z3_1, Z4_1, Z6_1⟩ ⟨I2, ZB_2, ZS_2, ZW_2, ZD_2⟩ ⟨t, fX_1, fM_2, fun j hj => by rw [(m1.2 2 _ sX_2 (dk_dq rfl)).1, (m2.2 1 _ sM_1 (dk_dq rfl)).1]; exact hBY j hj⟩ ⟨_, _, LW1⟩ hl
set_option maxHeartbeats 8000000 in
set_option maxRecDepth 100000 in
theorem law_case_23 {p : Program} {e : Env} {s : State} {m : MethodId} {below : List Frame} {meth : Method} {c : Code} (l : Launch) {b L : Nat} {xs : Nat → Int32} {g : Nat → ClassId} {D : va_G} {A : Nat → Prop} {oX oM : Nat} (C : law_St p s m meth c b L xs g D A) (ST : dk_ST A s s.heap) (hO : oX + 380 ≤ oM) (hoX : ∀ i, A (oX + i)) (hoM : ∀ i, A (oM + i)) {H : Heap} {locs : List Loc} {ls : Array Slot} {SX SM : dg_S} (hP : va_P D vwCl (dg_w g shX oX rfX SX) H) (hM : va_P D vwCl (dg_w g shM oM rfM SM) H) (hS : va_S A s.heap H locs) (IX : law_X oX SX) (IM : law_M oM SM) (IT : law_T SX SM) (IL : law_L oX SX SM) {x : Int32} (hx0 : 0 ≤ x.toInt) (hxL : x.toInt + 6 ≤ L) (hL : L ≤ 3072) (hl : lv_has ls 4 [(3, .int x), (2, .ref (oM + 0)), (1, .ref (oX + 0)), (0, .ref b)])
    (kk : ∀ (SX SM : dg_S) (H : Heap) (locs : List Loc) (ls : Array Slot), va_P D vwCl (dg_w g shX oX rfX SX) H → va_P D vwCl (dg_w g shM oM rfM SM) H → va_S A s.heap H locs → law_X oX SX → law_M oM SM → law_T SX SM → law_L oX SX SM → lv_has ls 4 [(3, .int x), (2, .ref (oM + 0)), (1, .ref (oX + 0)), (0, .ref b)] → W p l e room_1 s m #[Value.ref b] below meth c H locs 431 78943 (lw_Z below #[Value.ref b] s) (F0 m 1126 ls [])) : W p l e room_1 s m #[Value.ref b] below meth c H locs 431 78943 (lw_Z below #[Value.ref b] s) (F0 m 843 ls []) := by
  obtain ⟨hx, hb, hr, hml, hown, hts, hX, hbl, hlocks, K, hA, hAi⟩ := C
  have hbA : ¬ A b := fun q => Nat.not_le.mpr hbl (hAi b q)
  have F : CallFix p m c cL_law 4 s #[Value.ref b] lw_tbl RL := ⟨hx, hb, hml, hown, hts⟩
  obtain ⟨I0, Z1, Z2, Z3, Z4, Z6⟩ := IX
  obtain ⟨J0, ZB, ZS, ZW, ZD⟩ := IM
  obtain ⟨t, fX, fM, hBY⟩ := IT
  obtain ⟨gD, gE, LW0⟩ := IL
  have hgD := LW0.2.2.2.1.1.1
  have hgE := LW0.2.2.2.1.1.2.1
  have hgne := LW0.2.2.2.1.1.2.2
  have fgD := LW0.2.2.2.1.2.1
  have fgE := LW0.2.2.2.1.2.2
  have b_t : 0 ≤ (t).toInt ∧ (t).toInt ≤ 1600 := dg_I.intb (lo := 0) (hi := 1600) I0 sX_1 (by decide +kernel) fX
  have i1 : (x + 1).toInt = x.toInt + 1 := dk_addT2 rfl (by decide +kernel) (by omega)
  obtain ⟨a1, ha1⟩ : ∃ a, a = xs (x + 1).toNatClampNeg := ⟨_, rfl⟩
  have i2 : (x + 2).toInt = x.toInt + 2 := dk_addT2 rfl (by decide +kernel) (by omega)
  obtain ⟨a2, ha2⟩ : ∃ a, a = xs (x + 2).toNatClampNeg := ⟨_, rfl⟩
  have i3 : (x + 3).toInt = x.toInt + 3 := dk_addT2 rfl (by decide +kernel) (by omega)
  obtain ⟨a3, ha3⟩ : ∃ a, a = xs (x + 3).toNatClampNeg := ⟨_, rfl⟩
  refine lv_aload_n hx hb dL_law_843 rfl (lv_at hl 2 rfl) ?_
  refine lv_aload_n hx hb dL_law_844 rfl (lv_at hl 3 rfl) ?_
  refine lv_iload_n hx hb dL_law_845 rfl (lv_at hl 0 rfl) ?_
  refine lv_iconst (v := 1) hx hb dL_law_846 (by decide +kernel) ?_
  refine lv_iadd hx hb dL_law_847 ?_
  refine va_sld hx hb hX hbl hbA hS (dk_inv2 (by omega)) dL_law_848 ?_
  refine dk_top (y := a1) ha1.symm ?_
  refine lv_aload_n hx hb dL_law_849 rfl (lv_at hl 3 rfl) ?_
  refine lv_iload_n hx hb dL_law_850 rfl (lv_at hl 0 rfl) ?_
  refine lv_iconst (v := 2) hx hb dL_law_851 (by decide +kernel) ?_
  refine lv_iadd hx hb dL_law_852 ?_
  refine va_sld hx hb hX hbl hbA hS (dk_inv2 (by omega)) dL_law_853 ?_
  refine dk_top (y := a2) ha2.symm ?_
  refine lv_aload_n hx hb dL_law_854 rfl (lv_at hl 3 rfl) ?_
  refine lv_iload_n hx hb dL_law_855 rfl (lv_at hl 0 rfl) ?_
  refine lv_iconst (v := 3) hx hb dL_law_856 (by decide +kernel) ?_
  refine lv_iadd hx hb dL_law_857 ?_
  refine va_sld hx hb hX hbl hbA hS (dk_inv2 (by omega)) dL_law_858 ?_
  refine dk_top (y := a3) ha3.symm ?_
  refine lw_calli hS (fun i _ => hoX i) hA (va_runV (As := [.int a1, .int a2, .int a3]) (rest := []) F (c_d_hang l g D oX SX a1 a2 a3 Z1 Z2 Z3 Z4 Z6 I0 H.size) (cwV 3 hts (lw_V wB_1587 wB_1588 wB_1589 wB_610 wB_1586) rfl rfl rfl (by decide +kernel) ⟨Nat.le_of_ble_eq_true rfl, Nat.le_of_ble_eq_true rfl⟩) (dg_preV sX_0 rfl K ST hP hS (fun i _ => hoX i) hA) rfl rfl hl.1 rfl (lv_room (Nat.le_of_ble_eq_true rfl)) dL_law_859 ⟨Nat.le_of_ble_eq_true rfl, Nat.le_of_ble_eq_true rfl⟩) hM (lw_apX hO) (fun r1 S1 hw1 H locs hP hM hS => ?_)
  obtain ⟨I1, m1, w1_0, w1_1, w1_2, w1_3, w1_4, w1_5, w1_6, -⟩ := hw1
  have Z1_1 : Z1X S1 := (Z1X.keep Z1 m1 (dk_dq rfl) (dk_dq rfl) (dk_dq rfl))
  have Z2_1 : Z2X S1 := (Z2X.keep Z2 m1 (dk_dq rfl) (dk_dq rfl))
  have Z3_1 : Z3X oX S1 := w1_2
  have Z4_1 : Z4X S1 := w1_3
  have Z6_1 : Z6X S1 := w1_4
  have br1 : 0 ≤ (r1).toInt ∧ (r1).toInt ≤ 1 := w1_0
  have fX_1 : S1.1 1 1 = .int t := (m1.1 1 1 _ sX_1 (dk_dq rfl)).trans fX
  as_aux_lemma =>
    refine lv_pop hx hb dL_law_862 rfl ?_
    refine lv_aload_n hx hb dL_law_863 rfl (lv_at hl 1 rfl) ?_
    refine lv_aload_n hx hb dL_law_864 rfl (lv_at hl 3 rfl) ?_
    refine lv_iload_n hx hb dL_law_865 rfl (lv_at hl 0 rfl) ?_
    refine lv_iconst (v := 1) hx hb dL_law_866 (by decide +kernel) ?_
    refine lv_iadd hx hb dL_law_867 ?_
    refine va_sld hx hb hX hbl hbA hS (dk_inv2 (by omega)) dL_law_868 ?_
    refine dk_top (y := a1) ha1.symm ?_
    refine lv_aload_n hx hb dL_law_869 rfl (lv_at hl 3 rfl) ?_
    refine lv_iload_n hx hb dL_law_870 rfl (lv_at hl 0 rfl) ?_
    refine lv_iconst (v := 2) hx hb dL_law_871 (by decide +kernel) ?_
    refine lv_iadd hx hb dL_law_872 ?_
    refine va_sld hx hb hX hbl hbA hS (dk_inv2 (by omega)) dL_law_873 ?_
    refine dk_top (y := a2) ha2.symm ?_
    refine lv_aload_n hx hb dL_law_874 rfl (lv_at hl 3 rfl) ?_
    refine lv_iload_n hx hb dL_law_875 rfl (lv_at hl 0 rfl) ?_
    refine lv_iconst (v := 3) hx hb dL_law_876 (by decide +kernel) ?_
    refine lv_iadd hx hb dL_law_877 ?_
    refine va_sld hx hb hX hbl hbA hS (dk_inv2 (by omega)) dL_law_878 ?_
    refine dk_top (y := a3) ha3.symm ?_
    refine lw_calli hS (fun i _ => hoM i) hA (va_runV (As := [.int a1, .int a2, .int a3]) (rest := []) F (c_m_hang l g D oM SM a1 a2 a3 ZB ZS ZW J0 H.size) (cwV 3 hts (lw_V wB_1591 wB_1592 wB_1593 wB_297 wB_1590) rfl rfl rfl (by decide +kernel) ⟨Nat.le_of_ble_eq_true rfl, Nat.le_of_ble_eq_true rfl⟩) (dg_preV sM_0 rfl K ST hM hS (fun i _ => hoM i) hA) rfl rfl hl.1 rfl (lv_room (Nat.le_of_ble_eq_true rfl)) dL_law_879 ⟨Nat.le_of_ble_eq_true rfl, Nat.le_of_ble_eq_true rfl⟩) hP (lw_apM hO) (fun r2 S2 hw2 H locs hM hP hS => ?_)
    obtain ⟨I2, m2, w2_0, w2_1, w2_2, w2_3, -⟩ := hw2
    have ZB_2 : ZBM S2 := (ZBM.keep ZB m2 (dk_dq rfl) (dk_dq rfl) (dk_dq rfl) (dk_dq rfl) (dk_dq rfl))
    have ZS_2 : ZSM S2 := w2_2
    have ZW_2 : ZWM S2 := (ZWM.keep ZW m2 (dk_dq rfl) (dk_dq rfl) (dk_dq rfl) (dk_dq rfl))
    have ZD_2 : ZDM S2 := (ZDM.keep ZD m2 (dk_dq rfl))
    have br2 : 0 ≤ (r2).toInt ∧ (r2).toInt ≤ 1 := w2_0
    have fM_2 : S2.1 0 1 = .int t := (m2.1 0 1 _ sM_0 (dk_dq rfl)).trans fM
    obtain ⟨eq9, LW1⟩ := W_hang LW0 m1 m2 (by (repeat' apply And.intro) <;> decide) (by (repeat' apply And.intro) <;> decide) w1_1 w2_1 w1_6 w2_3
    refine lv_pop hx hb dL_law_882 rfl ?_
    refine lv_goto (tgt := 1126) hx hb dL_law_883 (dk_dq rfl) ?_
    exact kk S1 S2 H locs ls hP hM hS ⟨I1, Z1_1, Z2_1, Z3_1, Z4_1, Z6_1⟩ ⟨I2, ZB_2, ZS_2, ZW_2, ZD_2⟩ ⟨t, fX_1, fM_2, fun j hj => by rw [(m1.2 2 _ sX_2 (dk_dq rfl)).1, (m2.2 1 _ sM_1 (dk_dq rfl)).1]; exact hBY j hj⟩ ⟨_, _, LW1⟩ hl
set_option maxHeartbeats 8000000 in
set_option maxRecDepth 100000 in
theorem law_case_24 {p : Program} {e : Env} {s : State} {m : MethodId} {below : List Frame} {meth : Method} {c : Code} (l : Launch) {b L : Nat} {xs : Nat → Int32} {g : Nat → ClassId} {D : va_G} {A : Nat → Prop} {oX oM : Nat} (C : law_St p s m meth c b L xs g D A) (ST : dk_ST A s s.heap) (hO : oX + 380 ≤ oM) (hoX : ∀ i, A (oX + i)) (hoM : ∀ i, A (oM + i)) {H : Heap} {locs : List Loc} {ls : Array Slot} {SX SM : dg_S} (hP : va_P D vwCl (dg_w g shX oX rfX SX) H) (hM : va_P D vwCl (dg_w g shM oM rfM SM) H) (hS : va_S A s.heap H locs) (IX : law_X oX SX) (IM : law_M oM SM) (IT : law_T SX SM) (IL : law_L oX SX SM) {x : Int32} (hx0 : 0 ≤ x.toInt) (hxL : x.toInt + 6 ≤ L) (hL : L ≤ 3072) (hl : lv_has ls 4 [(3, .int x), (2, .ref (oM + 0)), (1, .ref (oX + 0)), (0, .ref b)])
    (kk : ∀ (SX SM : dg_S) (H : Heap) (locs : List Loc) (ls : Array Slot), va_P D vwCl (dg_w g shX oX rfX SX) H → va_P D vwCl (dg_w g shM oM rfM SM) H → va_S A s.heap H locs → law_X oX SX → law_M oM SM → law_T SX SM → law_L oX SX SM → lv_has ls 4 [(3, .int x), (2, .ref (oM + 0)), (1, .ref (oX + 0)), (0, .ref b)] → W p l e room_1 s m #[Value.ref b] below meth c H locs 431 78943 (lw_Z below #[Value.ref b] s) (F0 m 1126 ls [])) : W p l e room_1 s m #[Value.ref b] below meth c H locs 431 78943 (lw_Z below #[Value.ref b] s) (F0 m 886 ls []) := by
  obtain ⟨hx, hb, hr, hml, hown, hts, hX, hbl, hlocks, K, hA, hAi⟩ := C
  have hbA : ¬ A b := fun q => Nat.not_le.mpr hbl (hAi b q)
  have F : CallFix p m c cL_law 4 s #[Value.ref b] lw_tbl RL := ⟨hx, hb, hml, hown, hts⟩
  obtain ⟨I0, Z1, Z2, Z3, Z4, Z6⟩ := IX
  obtain ⟨J0, ZB, ZS, ZW, ZD⟩ := IM
  obtain ⟨t, fX, fM, hBY⟩ := IT
  obtain ⟨gD, gE, LW0⟩ := IL
  have hgD := LW0.2.2.2.1.1.1
  have hgE := LW0.2.2.2.1.1.2.1
  have hgne := LW0.2.2.2.1.1.2.2
  have fgD := LW0.2.2.2.1.2.1
  have fgE := LW0.2.2.2.1.2.2
  have b_t : 0 ≤ (t).toInt ∧ (t).toInt ≤ 1600 := dg_I.intb (lo := 0) (hi := 1600) I0 sX_1 (by decide +kernel) fX
  have i1 : (x + 1).toInt = x.toInt + 1 := dk_addT2 rfl (by decide +kernel) (by omega)
  obtain ⟨a1, ha1⟩ : ∃ a, a = xs (x + 1).toNatClampNeg := ⟨_, rfl⟩
  have i2 : (x + 2).toInt = x.toInt + 2 := dk_addT2 rfl (by decide +kernel) (by omega)
  obtain ⟨a2, ha2⟩ : ∃ a, a = xs (x + 2).toNatClampNeg := ⟨_, rfl⟩
  have i3 : (x + 3).toInt = x.toInt + 3 := dk_addT2 rfl (by decide +kernel) (by omega)
  obtain ⟨a3, ha3⟩ : ∃ a, a = xs (x + 3).toNatClampNeg := ⟨_, rfl⟩
  have i4 : (x + 4).toInt = x.toInt + 4 := dk_addT2 rfl (by decide +kernel) (by omega)
  obtain ⟨a4, ha4⟩ : ∃ a, a = xs (x + 4).toNatClampNeg := ⟨_, rfl⟩
  refine lv_aload_n hx hb dL_law_886 rfl (lv_at hl 2 rfl) ?_
  refine lv_aload_n hx hb dL_law_887 rfl (lv_at hl 3 rfl) ?_
  refine lv_iload_n hx hb dL_law_888 rfl (lv_at hl 0 rfl) ?_
  refine lv_iconst (v := 1) hx hb dL_law_889 (by decide +kernel) ?_
  refine lv_iadd hx hb dL_law_890 ?_
  refine va_sld hx hb hX hbl hbA hS (dk_inv2 (by omega)) dL_law_891 ?_
  refine dk_top (y := a1) ha1.symm ?_
  refine lv_aload_n hx hb dL_law_892 rfl (lv_at hl 3 rfl) ?_
  refine lv_iload_n hx hb dL_law_893 rfl (lv_at hl 0 rfl) ?_
  refine lv_iconst (v := 2) hx hb dL_law_894 (by decide +kernel) ?_
  refine lv_iadd hx hb dL_law_895 ?_
  refine va_sld hx hb hX hbl hbA hS (dk_inv2 (by omega)) dL_law_896 ?_
  refine dk_top (y := a2) ha2.symm ?_
  refine lv_aload_n hx hb dL_law_897 rfl (lv_at hl 3 rfl) ?_
  refine lv_iload_n hx hb dL_law_898 rfl (lv_at hl 0 rfl) ?_
  refine lv_iconst (v := 3) hx hb dL_law_899 (by decide +kernel) ?_
  refine lv_iadd hx hb dL_law_900 ?_
  refine va_sld hx hb hX hbl hbA hS (dk_inv2 (by omega)) dL_law_901 ?_
  refine dk_top (y := a3) ha3.symm ?_
  as_aux_lemma =>
    refine lv_aload_n hx hb dL_law_902 rfl (lv_at hl 3 rfl) ?_
    refine lv_iload_n hx hb dL_law_903 rfl (lv_at hl 0 rfl) ?_
    refine lv_iconst (v := 4) hx hb dL_law_904 (by decide +kernel) ?_
    refine lv_iadd hx hb dL_law_905 ?_
    refine va_sld hx hb hX hbl hbA hS (dk_inv2 (by omega)) dL_law_906 ?_
    refine dk_top (y := a4) ha4.symm ?_
    refine lw_calli hS (fun i _ => hoX i) hA (va_runV (As := [.int a1, .int a2, .int a3, .int a4]) (rest := []) F (c_d_send l g D oX SX a1 a2 a3 a4 Z1 Z2 Z3 Z4 Z6 I0 H.size) (cwV 4 hts (lw_V wB_1595 wB_1596 wB_1597 wB_610 wB_1594) rfl rfl rfl (by decide +kernel) ⟨Nat.le_of_ble_eq_true rfl, Nat.le_of_ble_eq_true rfl⟩) (dg_preV sX_0 rfl K ST hP hS (fun i _ => hoX i) hA) rfl rfl hl.1 rfl (lv_room (Nat.le_of_ble_eq_true rfl)) dL_law_907 ⟨Nat.le_of_ble_eq_true rfl, Nat.le_of_ble_eq_true rfl⟩) hM (lw_apX hO) (fun r1 S1 hw1 H locs hP hM hS => ?_)
    obtain ⟨I1, m1, w1_0, w1_1, w1_2, w1_3, w1_4, w1_5, w1_6, -⟩ := hw1
    have Z1_1 : Z1X S1 := (Z1X.keep Z1 m1 (dk_dq rfl) (dk_dq rfl) (dk_dq rfl))
    have Z2_1 : Z2X S1 := (Z2X.keep Z2 m1 (dk_dq rfl) (dk_dq rfl))
    have Z3_1 : Z3X oX S1 := w1_2
    have Z4_1 : Z4X S1 := w1_3
    have Z6_1 : Z6X S1 := w1_4
    have br1 : 0 ≤ (r1).toInt ∧ (r1).toInt ≤ 1 := w1_0
    have fX_1 : S1.1 1 1 = .int t := (m1.1 1 1 _ sX_1 (dk_dq rfl)).trans fX
    refine lv_pop hx hb dL_law_910 rfl ?_
    refine lv_aload_n hx hb dL_law_911 rfl (lv_at hl 1 rfl) ?_
    refine lv_aload_n hx hb dL_law_912 rfl (lv_at hl 3 rfl) ?_
    refine lv_iload_n hx hb dL_law_913 rfl (lv_at hl 0 rfl) ?_
    refine lv_iconst (v := 1) hx hb dL_law_914 (by decide +kernel) ?_
    refine lv_iadd hx hb dL_law_915 ?_
    refine va_sld hx hb hX hbl hbA hS (dk_inv2 (by omega)) dL_law_916 ?_
    refine dk_top (y := a1) ha1.symm ?_
    refine lv_aload_n hx hb dL_law_917 rfl (lv_at hl 3 rfl) ?_
    refine lv_iload_n hx hb dL_law_918 rfl (lv_at hl 0 rfl) ?_
    refine lv_iconst (v := 2) hx hb dL_law_919 (by decide +kernel) ?_
    refine lv_iadd hx hb dL_law_920 ?_
    refine va_sld hx hb hX hbl hbA hS (dk_inv2 (by omega)) dL_law_921 ?_
    refine dk_top (y := a2) ha2.symm ?_
    refine lv_aload_n hx hb dL_law_922 rfl (lv_at hl 3 rfl) ?_
    refine lv_iload_n hx hb dL_law_923 rfl (lv_at hl 0 rfl) ?_
    refine lv_iconst (v := 3) hx hb dL_law_924 (by decide +kernel) ?_
    refine lv_iadd hx hb dL_law_925 ?_
    refine va_sld hx hb hX hbl hbA hS (dk_inv2 (by omega)) dL_law_926 ?_
    refine dk_top (y := a3) ha3.symm ?_
    refine lv_aload_n hx hb dL_law_927 rfl (lv_at hl 3 rfl) ?_
    refine lv_iload_n hx hb dL_law_928 rfl (lv_at hl 0 rfl) ?_
    refine lv_iconst (v := 4) hx hb dL_law_929 (by decide +kernel) ?_
    refine lv_iadd hx hb dL_law_930 ?_
    refine va_sld hx hb hX hbl hbA hS (dk_inv2 (by omega)) dL_law_931 ?_
    refine dk_top (y := a4) ha4.symm ?_
    refine lw_calli hS (fun i _ => hoM i) hA (va_runV (As := [.int a1, .int a2, .int a3, .int a4]) (rest := []) F (c_m_send l g D oM SM a1 a2 a3 a4 ZB ZS ZW J0 H.size) (cwV 4 hts (lw_V wB_1599 wB_1600 wB_1601 wB_297 wB_1598) rfl rfl rfl (by decide +kernel) ⟨Nat.le_of_ble_eq_true rfl, Nat.le_of_ble_eq_true rfl⟩) (dg_preV sM_0 rfl K ST hM hS (fun i _ => hoM i) hA) rfl rfl hl.1 rfl (lv_room (Nat.le_of_ble_eq_true rfl)) dL_law_932 ⟨Nat.le_of_ble_eq_true rfl, Nat.le_of_ble_eq_true rfl⟩) hP (lw_apM hO) (fun r2 S2 hw2 H locs hM hP hS => ?_)
    obtain ⟨I2, m2, w2_0, w2_1, w2_2, w2_3, -⟩ := hw2
    have ZB_2 : ZBM S2 := (ZBM.keep ZB m2 (dk_dq rfl) (dk_dq rfl) (dk_dq rfl) (dk_dq rfl) (dk_dq rfl))
    have ZS_2 : ZSM S2 := w2_2
    have ZW_2 : ZWM S2 := (ZWM.keep ZW m2 (dk_dq rfl) (dk_dq rfl) (dk_dq rfl) (dk_dq rfl))
    have ZD_2 : ZDM S2 := (ZDM.keep ZD m2 (dk_dq rfl))
    have br2 : 0 ≤ (r2).toInt ∧ (r2).toInt ≤ 1 := w2_0
    have fM_2 : S2.1 0 1 = .int t := (m2.1 0 1 _ sM_0 (dk_dq rfl)).trans fM
    obtain ⟨eq9, LW1⟩ := W_send LW0 m1 m2 (by (repeat' apply And.intro) <;> decide) (by (repeat' apply And.intro) <;> decide) w1_1 w2_1 w1_6 w2_3
    refine lv_pop hx hb dL_law_935 rfl ?_
    refine lv_goto (tgt := 1126) hx hb dL_law_936 (dk_dq rfl) ?_
    exact kk S1 S2 H locs ls hP hM hS ⟨I1, Z1_1, Z2_1, Z3_1, Z4_1, Z6_1⟩ ⟨I2, ZB_2, ZS_2, ZW_2, ZD_2⟩ ⟨t, fX_1, fM_2, fun j hj => by rw [(m1.2 2 _ sX_2 (dk_dq rfl)).1, (m2.2 1 _ sM_1 (dk_dq rfl)).1]; exact hBY j hj⟩ ⟨_, _, LW1⟩ hl
set_option maxHeartbeats 8000000 in
set_option maxRecDepth 100000 in
theorem law_case_25 {p : Program} {e : Env} {s : State} {m : MethodId} {below : List Frame} {meth : Method} {c : Code} (l : Launch) {b L : Nat} {xs : Nat → Int32} {g : Nat → ClassId} {D : va_G} {A : Nat → Prop} {oX oM : Nat} (C : law_St p s m meth c b L xs g D A) (ST : dk_ST A s s.heap) (hO : oX + 380 ≤ oM) (hoX : ∀ i, A (oX + i)) (hoM : ∀ i, A (oM + i)) {H : Heap} {locs : List Loc} {ls : Array Slot} {SX SM : dg_S} (hP : va_P D vwCl (dg_w g shX oX rfX SX) H) (hM : va_P D vwCl (dg_w g shM oM rfM SM) H) (hS : va_S A s.heap H locs) (IX : law_X oX SX) (IM : law_M oM SM) (IT : law_T SX SM) (IL : law_L oX SX SM) {x : Int32} (hx0 : 0 ≤ x.toInt) (hxL : x.toInt + 6 ≤ L) (hL : L ≤ 3072) (hl : lv_has ls 4 [(3, .int x), (2, .ref (oM + 0)), (1, .ref (oX + 0)), (0, .ref b)])
    (kk : ∀ (SX SM : dg_S) (H : Heap) (locs : List Loc) (ls : Array Slot), va_P D vwCl (dg_w g shX oX rfX SX) H → va_P D vwCl (dg_w g shM oM rfM SM) H → va_S A s.heap H locs → law_X oX SX → law_M oM SM → law_T SX SM → law_L oX SX SM → lv_has ls 4 [(3, .int x), (2, .ref (oM + 0)), (1, .ref (oX + 0)), (0, .ref b)] → W p l e room_1 s m #[Value.ref b] below meth c H locs 431 78943 (lw_Z below #[Value.ref b] s) (F0 m 1126 ls [])) : W p l e room_1 s m #[Value.ref b] below meth c H locs 431 78943 (lw_Z below #[Value.ref b] s) (F0 m 939 ls []) := by
  obtain ⟨hx, hb, hr, hml, hown, hts, hX, hbl, hlocks, K, hA, hAi⟩ := C
  have hbA : ¬ A b := fun q => Nat.not_le.mpr hbl (hAi b q)
  have F : CallFix p m c cL_law 4 s #[Value.ref b] lw_tbl RL := ⟨hx, hb, hml, hown, hts⟩
  obtain ⟨I0, Z1, Z2, Z3, Z4, Z6⟩ := IX
  obtain ⟨J0, ZB, ZS, ZW, ZD⟩ := IM
  obtain ⟨t, fX, fM, hBY⟩ := IT
  obtain ⟨gD, gE, LW0⟩ := IL
  have hgD := LW0.2.2.2.1.1.1
  have hgE := LW0.2.2.2.1.1.2.1
  have hgne := LW0.2.2.2.1.1.2.2
  have fgD := LW0.2.2.2.1.2.1
  have fgE := LW0.2.2.2.1.2.2
  have b_t : 0 ≤ (t).toInt ∧ (t).toInt ≤ 1600 := dg_I.intb (lo := 0) (hi := 1600) I0 sX_1 (by decide +kernel) fX
  have i1 : (x + 1).toInt = x.toInt + 1 := dk_addT2 rfl (by decide +kernel) (by omega)
  obtain ⟨a1, ha1⟩ : ∃ a, a = xs (x + 1).toNatClampNeg := ⟨_, rfl⟩
  refine lv_aload_n hx hb dL_law_939 rfl (lv_at hl 2 rfl) ?_
  refine lv_aload_n hx hb dL_law_940 rfl (lv_at hl 3 rfl) ?_
  refine lv_iload_n hx hb dL_law_941 rfl (lv_at hl 0 rfl) ?_
  refine lv_iconst (v := 1) hx hb dL_law_942 (by decide +kernel) ?_
  refine lv_iadd hx hb dL_law_943 ?_
  refine va_sld hx hb hX hbl hbA hS (dk_inv2 (by omega)) dL_law_944 ?_
  refine dk_top (y := a1) ha1.symm ?_
  refine lw_calli hS (fun i _ => hoX i) hA (va_runV (As := [.int a1]) (rest := []) F (c_d_heal l g D oX SX a1 Z1 Z2 Z3 Z4 Z6 I0 H.size) (cwV 1 hts (lw_V wB_1603 wB_1604 wB_1605 wB_610 wB_1602) rfl rfl rfl (by decide +kernel) ⟨Nat.le_of_ble_eq_true rfl, Nat.le_of_ble_eq_true rfl⟩) (dg_preV sX_0 rfl K ST hP hS (fun i _ => hoX i) hA) rfl rfl hl.1 rfl (lv_room (Nat.le_of_ble_eq_true rfl)) dL_law_945 ⟨Nat.le_of_ble_eq_true rfl, Nat.le_of_ble_eq_true rfl⟩) hM (lw_apX hO) (fun r1 S1 hw1 H locs hP hM hS => ?_)
  obtain ⟨I1, m1, w1_0, w1_1, w1_2, w1_3, w1_4, w1_5, w1_6, -⟩ := hw1
  have Z1_1 : Z1X S1 := (Z1X.keep Z1 m1 (dk_dq rfl) (dk_dq rfl) (dk_dq rfl))
  have Z2_1 : Z2X S1 := (Z2X.keep Z2 m1 (dk_dq rfl) (dk_dq rfl))
  have Z3_1 : Z3X oX S1 := w1_2
  have Z4_1 : Z4X S1 := w1_3
  have Z6_1 : Z6X S1 := w1_4
  have br1 : 0 ≤ (r1).toInt ∧ (r1).toInt ≤ 1 := w1_0
  have fX_1 : S1.1 1 1 = .int t := (m1.1 1 1 _ sX_1 (dk_dq rfl)).trans fX
  refine lv_pop hx hb dL_law_948 rfl ?_
  refine lv_aload_n hx hb dL_law_949 rfl (lv_at hl 1 rfl) ?_
  refine lv_aload_n hx hb dL_law_950 rfl (lv_at hl 3 rfl) ?_
  refine lv_iload_n hx hb dL_law_951 rfl (lv_at hl 0 rfl) ?_
  refine lv_iconst (v := 1) hx hb dL_law_952 (by decide +kernel) ?_
  refine lv_iadd hx hb dL_law_953 ?_
  refine va_sld hx hb hX hbl hbA hS (dk_inv2 (by omega)) dL_law_954 ?_
  refine dk_top (y := a1) ha1.symm ?_
  refine lw_calli hS (fun i _ => hoM i) hA (va_runV (As := [.int a1]) (rest := []) F (c_m_heal l g D oM SM a1 ZB ZS ZW J0 H.size) (cwV 1 hts (lw_V wB_1607 wB_1608 wB_1609 wB_297 wB_1606) rfl rfl rfl (by decide +kernel) ⟨Nat.le_of_ble_eq_true rfl, Nat.le_of_ble_eq_true rfl⟩) (dg_preV sM_0 rfl K ST hM hS (fun i _ => hoM i) hA) rfl rfl hl.1 rfl (lv_room (Nat.le_of_ble_eq_true rfl)) dL_law_955 ⟨Nat.le_of_ble_eq_true rfl, Nat.le_of_ble_eq_true rfl⟩) hP (lw_apM hO) (fun r2 S2 hw2 H locs hM hP hS => ?_)
  obtain ⟨I2, m2, w2_0, w2_1, w2_2, w2_3, -⟩ := hw2
  have ZB_2 : ZBM S2 := (ZBM.keep ZB m2 (dk_dq rfl) (dk_dq rfl) (dk_dq rfl) (dk_dq rfl) (dk_dq rfl))
  have ZS_2 : ZSM S2 := w2_2
  have ZW_2 : ZWM S2 := (ZWM.keep ZW m2 (dk_dq rfl) (dk_dq rfl) (dk_dq rfl) (dk_dq rfl))
  have ZD_2 : ZDM S2 := (ZDM.keep ZD m2 (dk_dq rfl))
  have br2 : 0 ≤ (r2).toInt ∧ (r2).toInt ≤ 1 := w2_0
  have fM_2 : S2.1 0 1 = .int t := (m2.1 0 1 _ sM_0 (dk_dq rfl)).trans fM
  obtain ⟨eq9, LW1⟩ := W_heal LW0 m1 m2 (by (repeat' apply And.intro) <;> decide) (by (repeat' apply And.intro) <;> decide) w1_1 w2_1 w1_6 w2_3
  refine lv_pop hx hb dL_law_958 rfl ?_
  refine lv_goto (tgt := 1126) hx hb dL_law_959 (dk_dq rfl) ?_
  exact kk S1 S2 H locs ls hP hM hS ⟨I1, Z1_1, Z2_1, Z3_1, Z4_1, Z6_1⟩ ⟨I2, ZB_2, ZS_2, ZW_2, ZD_2⟩ ⟨t, fX_1, fM_2, fun j hj => by rw [(m1.2 2 _ sX_2 (dk_dq rfl)).1, (m2.2 1 _ sM_1 (dk_dq rfl)).1]; exact hBY j hj⟩ ⟨_, _, LW1⟩ hl
set_option maxHeartbeats 8000000 in
set_option maxRecDepth 100000 in
theorem law_case_26 {p : Program} {e : Env} {s : State} {m : MethodId} {below : List Frame} {meth : Method} {c : Code} (l : Launch) {b L : Nat} {xs : Nat → Int32} {g : Nat → ClassId} {D : va_G} {A : Nat → Prop} {oX oM : Nat} (C : law_St p s m meth c b L xs g D A) (ST : dk_ST A s s.heap) (hO : oX + 380 ≤ oM) (hoX : ∀ i, A (oX + i)) (hoM : ∀ i, A (oM + i)) {H : Heap} {locs : List Loc} {ls : Array Slot} {SX SM : dg_S} (hP : va_P D vwCl (dg_w g shX oX rfX SX) H) (hM : va_P D vwCl (dg_w g shM oM rfM SM) H) (hS : va_S A s.heap H locs) (IX : law_X oX SX) (IM : law_M oM SM) (IT : law_T SX SM) (IL : law_L oX SX SM) {x : Int32} (hx0 : 0 ≤ x.toInt) (hxL : x.toInt + 6 ≤ L) (hL : L ≤ 3072) (hl : lv_has ls 4 [(3, .int x), (2, .ref (oM + 0)), (1, .ref (oX + 0)), (0, .ref b)])
    (kk : ∀ (SX SM : dg_S) (H : Heap) (locs : List Loc) (ls : Array Slot), va_P D vwCl (dg_w g shX oX rfX SX) H → va_P D vwCl (dg_w g shM oM rfM SM) H → va_S A s.heap H locs → law_X oX SX → law_M oM SM → law_T SX SM → law_L oX SX SM → lv_has ls 4 [(3, .int x), (2, .ref (oM + 0)), (1, .ref (oX + 0)), (0, .ref b)] → W p l e room_1 s m #[Value.ref b] below meth c H locs 431 78943 (lw_Z below #[Value.ref b] s) (F0 m 1126 ls [])) : W p l e room_1 s m #[Value.ref b] below meth c H locs 431 78943 (lw_Z below #[Value.ref b] s) (F0 m 962 ls []) := by
  obtain ⟨hx, hb, hr, hml, hown, hts, hX, hbl, hlocks, K, hA, hAi⟩ := C
  have hbA : ¬ A b := fun q => Nat.not_le.mpr hbl (hAi b q)
  have F : CallFix p m c cL_law 4 s #[Value.ref b] lw_tbl RL := ⟨hx, hb, hml, hown, hts⟩
  obtain ⟨I0, Z1, Z2, Z3, Z4, Z6⟩ := IX
  obtain ⟨J0, ZB, ZS, ZW, ZD⟩ := IM
  obtain ⟨t, fX, fM, hBY⟩ := IT
  obtain ⟨gD, gE, LW0⟩ := IL
  have hgD := LW0.2.2.2.1.1.1
  have hgE := LW0.2.2.2.1.1.2.1
  have hgne := LW0.2.2.2.1.1.2.2
  have fgD := LW0.2.2.2.1.2.1
  have fgE := LW0.2.2.2.1.2.2
  have b_t : 0 ≤ (t).toInt ∧ (t).toInt ≤ 1600 := dg_I.intb (lo := 0) (hi := 1600) I0 sX_1 (by decide +kernel) fX
  have i1 : (x + 1).toInt = x.toInt + 1 := dk_addT2 rfl (by decide +kernel) (by omega)
  obtain ⟨a1, ha1⟩ : ∃ a, a = xs (x + 1).toNatClampNeg := ⟨_, rfl⟩
  refine lv_aload_n hx hb dL_law_962 rfl (lv_at hl 2 rfl) ?_
  refine lv_aload_n hx hb dL_law_963 rfl (lv_at hl 3 rfl) ?_
  refine lv_iload_n hx hb dL_law_964 rfl (lv_at hl 0 rfl) ?_
  refine lv_iconst (v := 1) hx hb dL_law_965 (by decide +kernel) ?_
  refine lv_iadd hx hb dL_law_966 ?_
  refine va_sld hx hb hX hbl hbA hS (dk_inv2 (by omega)) dL_law_967 ?_
  refine dk_top (y := a1) ha1.symm ?_
  refine lw_calli hS (fun i _ => hoX i) hA (va_runV (As := [.int a1]) (rest := []) F (c_d_sell l g D oX SX a1 Z1 Z2 Z3 Z4 Z6 I0 H.size) (cwV 1 hts (lw_V wB_1611 wB_1612 wB_1613 wB_610 wB_1610) rfl rfl rfl (by decide +kernel) ⟨Nat.le_of_ble_eq_true rfl, Nat.le_of_ble_eq_true rfl⟩) (dg_preV sX_0 rfl K ST hP hS (fun i _ => hoX i) hA) rfl rfl hl.1 rfl (lv_room (Nat.le_of_ble_eq_true rfl)) dL_law_968 ⟨Nat.le_of_ble_eq_true rfl, Nat.le_of_ble_eq_true rfl⟩) hM (lw_apX hO) (fun r1 S1 hw1 H locs hP hM hS => ?_)
  obtain ⟨I1, m1, w1_0, w1_1, w1_2, w1_3, w1_4, w1_5, w1_6, -⟩ := hw1
  have Z1_1 : Z1X S1 := (Z1X.keep Z1 m1 (dk_dq rfl) (dk_dq rfl) (dk_dq rfl))
  have Z2_1 : Z2X S1 := (Z2X.keep Z2 m1 (dk_dq rfl) (dk_dq rfl))
  have Z3_1 : Z3X oX S1 := w1_2
  have Z4_1 : Z4X S1 := w1_3
  have Z6_1 : Z6X S1 := w1_4
  have br1 : (-2147483648) ≤ (r1).toInt ∧ (r1).toInt ≤ 99999 := w1_0
  have fX_1 : S1.1 1 1 = .int t := (m1.1 1 1 _ sX_1 (dk_dq rfl)).trans fX
  refine lv_pop hx hb dL_law_971 rfl ?_
  refine lv_aload_n hx hb dL_law_972 rfl (lv_at hl 1 rfl) ?_
  refine lv_aload_n hx hb dL_law_973 rfl (lv_at hl 3 rfl) ?_
  refine lv_iload_n hx hb dL_law_974 rfl (lv_at hl 0 rfl) ?_
  refine lv_iconst (v := 1) hx hb dL_law_975 (by decide +kernel) ?_
  refine lv_iadd hx hb dL_law_976 ?_
  refine va_sld hx hb hX hbl hbA hS (dk_inv2 (by omega)) dL_law_977 ?_
  refine dk_top (y := a1) ha1.symm ?_
  refine lw_calli hS (fun i _ => hoM i) hA (va_runV (As := [.int a1]) (rest := []) F (c_m_sell l g D oM SM a1 ZB ZS ZW J0 H.size) (cwV 1 hts (lw_V wB_1615 wB_1616 wB_1617 wB_297 wB_1614) rfl rfl rfl (by decide +kernel) ⟨Nat.le_of_ble_eq_true rfl, Nat.le_of_ble_eq_true rfl⟩) (dg_preV sM_0 rfl K ST hM hS (fun i _ => hoM i) hA) rfl rfl hl.1 rfl (lv_room (Nat.le_of_ble_eq_true rfl)) dL_law_978 ⟨Nat.le_of_ble_eq_true rfl, Nat.le_of_ble_eq_true rfl⟩) hP (lw_apM hO) (fun r2 S2 hw2 H locs hM hP hS => ?_)
  obtain ⟨I2, m2, w2_0, w2_1, w2_2, w2_3, -⟩ := hw2
  have ZB_2 : ZBM S2 := (ZBM.keep ZB m2 (dk_dq rfl) (dk_dq rfl) (dk_dq rfl) (dk_dq rfl) (dk_dq rfl))
  have ZS_2 : ZSM S2 := w2_2
  have ZW_2 : ZWM S2 := (ZWM.keep ZW m2 (dk_dq rfl) (dk_dq rfl) (dk_dq rfl) (dk_dq rfl))
  have ZD_2 : ZDM S2 := (ZDM.keep ZD m2 (dk_dq rfl))
  have br2 : (-2147483648) ≤ (r2).toInt ∧ (r2).toInt ≤ 99999 := w2_0
  have fM_2 : S2.1 0 1 = .int t := (m2.1 0 1 _ sM_0 (dk_dq rfl)).trans fM
  obtain ⟨eq9, LW1⟩ := W_sell LW0 m1 m2 (by (repeat' apply And.intro) <;> decide) (by (repeat' apply And.intro) <;> decide) w1_1 w2_1 w1_6 w2_3
  refine lv_pop hx hb dL_law_981 rfl ?_
  refine lv_goto (tgt := 1126) hx hb dL_law_982 (dk_dq rfl) ?_
  exact kk S1 S2 H locs ls hP hM hS ⟨I1, Z1_1, Z2_1, Z3_1, Z4_1, Z6_1⟩ ⟨I2, ZB_2, ZS_2, ZW_2, ZD_2⟩ ⟨t, fX_1, fM_2, fun j hj => by rw [(m1.2 2 _ sX_2 (dk_dq rfl)).1, (m2.2 1 _ sM_1 (dk_dq rfl)).1]; exact hBY j hj⟩ ⟨_, _, LW1⟩ hl
