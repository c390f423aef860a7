theorem dL_law_827 : decode cL_law 827 = .ok (.iload 4, 2) := sh_15 (show cL_law.data.toList[827]? = some 0x15 by decide +kernel) (show cL_law.data.toList[828]? = some 0x04 by decide +kernel) rfl
theorem dL_law_829 : decode cL_law 829 = .ok (.iconst 3, 1) := sh_06 (show cL_law.data.toList[829]? = some 0x06 by decide +kernel)
theorem dL_law_830 : decode cL_law 830 = .ok (.iadd, 1) := sh_60 (show cL_law.data.toList[830]? = some 0x60 by decide +kernel)
theorem dL_law_831 : decode cL_law 831 = .ok (.iaload, 1) := sh_2e (show cL_law.data.toList[831]? = some 0x2e by decide +kernel)
theorem dL_law_832 : decode cL_law 832 = .ok (.ifCond .eq 7, 3) := sh_99 (n := 7) (show cL_law.data.toList[832]? = some 0x99 by decide +kernel) (show cL_law.data.toList[833]? = some 0x00 by decide +kernel) (show cL_law.data.toList[834]? = some 0x07 by decide +kernel) rfl (by decide)
theorem dL_law_835 : decode cL_law 835 = .ok (.iconst 1, 1) := sh_04 (show cL_law.data.toList[835]? = some 0x04 by decide +kernel)
theorem dL_law_836 : decode cL_law 836 = .ok (.goto 4, 3) := sh_a7 (n := 4) (show cL_law.data.toList[836]? = some 0xa7 by decide +kernel) (show cL_law.data.toList[837]? = some 0x00 by decide +kernel) (show cL_law.data.toList[838]? = some 0x04 by decide +kernel) rfl (by decide)
theorem dL_law_839 : decode cL_law 839 = .ok (.iconst 0, 1) := sh_03 (show cL_law.data.toList[839]? = some 0x03 by decide +kernel)
theorem dL_law_840 : decode cL_law 840 = .ok (.aload_n 3, 1) := sh_2d (show cL_law.data.toList[840]? = some 0x2d by decide +kernel)
theorem dL_law_841 : decode cL_law 841 = .ok (.invokestatic 157, 3) := sh_b8 (show cL_law.data.toList[841]? = some 0xb8 by decide +kernel) (show cL_law.data.toList[842]? = some 0x00 by decide +kernel) (show cL_law.data.toList[843]? = some 0x9d by decide +kernel) rfl
theorem dL_law_844 : decode cL_law 844 = .ok (.istore 5, 2) := sh_36 (show cL_law.data.toList[844]? = some 0x36 by decide +kernel) (show cL_law.data.toList[845]? = some 0x05 by decide +kernel) rfl
theorem dL_law_846 : decode cL_law 846 = .ok (.aload_n 2, 1) := sh_2c (show cL_law.data.toList[846]? = some 0x2c by decide +kernel)
theorem dL_law_847 : decode cL_law 847 = .ok (.aload_n 0, 1) := sh_2a (show cL_law.data.toList[847]? = some 0x2a by decide +kernel)
theorem dL_law_848 : decode cL_law 848 = .ok (.iload 4, 2) := sh_15 (show cL_law.data.toList[848]? = some 0x15 by decide +kernel) (show cL_law.data.toList[849]? = some 0x04 by decide +kernel) rfl
theorem dL_law_850 : decode cL_law 850 = .ok (.iconst 1, 1) := sh_04 (show cL_law.data.toList[850]? = some 0x04 by decide +kernel)
theorem dL_law_851 : decode cL_law 851 = .ok (.iadd, 1) := sh_60 (show cL_law.data.toList[851]? = some 0x60 by decide +kernel)
theorem dL_law_852 : decode cL_law 852 = .ok (.iaload, 1) := sh_2e (show cL_law.data.toList[852]? = some 0x2e by decide +kernel)
theorem dL_law_853 : decode cL_law 853 = .ok (.aload_n 0, 1) := sh_2a (show cL_law.data.toList[853]? = some 0x2a by decide +kernel)
theorem dL_law_854 : decode cL_law 854 = .ok (.iload 4, 2) := sh_15 (show cL_law.data.toList[854]? = some 0x15 by decide +kernel) (show cL_law.data.toList[855]? = some 0x04 by decide +kernel) rfl
theorem dL_law_856 : decode cL_law 856 = .ok (.iconst 2, 1) := sh_05 (show cL_law.data.toList[856]? = some 0x05 by decide +kernel)
theorem dL_law_857 : decode cL_law 857 = .ok (.iadd, 1) := sh_60 (show cL_law.data.toList[857]? = some 0x60 by decide +kernel)
theorem dL_law_858 : decode cL_law 858 = .ok (.iaload, 1) := sh_2e (show cL_law.data.toList[858]? = some 0x2e by decide +kernel)
theorem dL_law_859 : decode cL_law 859 = .ok (.ifCond .eq 7, 3) := sh_99 (n := 7) (show cL_law.data.toList[859]? = some 0x99 by decide +kernel) (show cL_law.data.toList[860]? = some 0x00 by decide +kernel) (show cL_law.data.toList[861]? = some 0x07 by decide +kernel) rfl (by decide)
theorem dL_law_862 : decode cL_law 862 = .ok (.iconst 1, 1) := sh_04 (show cL_law.data.toList[862]? = some 0x04 by decide +kernel)
theorem dL_law_863 : decode cL_law 863 = .ok (.goto 4, 3) := sh_a7 (n := 4) (show cL_law.data.toList[863]? = some 0xa7 by decide +kernel) (show cL_law.data.toList[864]? = some 0x00 by decide +kernel) (show cL_law.data.toList[865]? = some 0x04 by decide +kernel) rfl (by decide)
theorem dL_law_866 : decode cL_law 866 = .ok (.iconst 0, 1) := sh_03 (show cL_law.data.toList[866]? = some 0x03 by decide +kernel)
theorem dL_law_867 : decode cL_law 867 = .ok (.aload_n 0, 1) := sh_2a (show cL_law.data.toList[867]? = some 0x2a by decide +kernel)
theorem dL_law_868 : decode cL_law 868 = .ok (.iload 4, 2) := sh_15 (show cL_law.data.toList[868]? = some 0x15 by decide +kernel) (show cL_law.data.toList[869]? = some 0x04 by decide +kernel) rfl
theorem dL_law_870 : decode cL_law 870 = .ok (.iconst 3, 1) := sh_06 (show cL_law.data.toList[870]? = some 0x06 by decide +kernel)
theorem dL_law_871 : decode cL_law 871 = .ok (.iadd, 1) := sh_60 (show cL_law.data.toList[871]? = some 0x60 by decide +kernel)
theorem dL_law_872 : decode cL_law 872 = .ok (.iaload, 1) := sh_2e (show cL_law.data.toList[872]? = some 0x2e by decide +kernel)
theorem dL_law_873 : decode cL_law 873 = .ok (.ifCond .eq 7, 3) := sh_99 (n := 7) (show cL_law.data.toList[873]? = some 0x99 by decide +kernel) (show cL_law.data.toList[874]? = some 0x00 by decide +kernel) (show cL_law.data.toList[875]? = some 0x07 by decide +kernel) rfl (by decide)
theorem dL_law_876 : decode cL_law 876 = .ok (.iconst 1, 1) := sh_04 (show cL_law.data.toList[876]? = some 0x04 by decide +kernel)
theorem dL_law_877 : decode cL_law 877 = .ok (.goto 4, 3) := sh_a7 (n := 4) (show cL_law.data.toList[877]? = some 0xa7 by decide +kernel) (show cL_law.data.toList[878]? = some 0x00 by decide +kernel) (show cL_law.data.toList[879]? = some 0x04 by decide +kernel) rfl (by decide)
theorem dL_law_880 : decode cL_law 880 = .ok (.iconst 0, 1) := sh_03 (show cL_law.data.toList[880]? = some 0x03 by decide +kernel)
theorem dL_law_881 : decode cL_law 881 = .ok (.invokevirtual 159, 3) := sh_b6 (show cL_law.data.toList[881]? = some 0xb6 by decide +kernel) (show cL_law.data.toList[882]? = some 0x00 by decide +kernel) (show cL_law.data.toList[883]? = some 0x9f by decide +kernel) rfl
theorem dL_law_884 : decode cL_law 884 = .ok (.istore 6, 2) := sh_36 (show cL_law.data.toList[884]? = some 0x36 by decide +kernel) (show cL_law.data.toList[885]? = some 0x06 by decide +kernel) rfl
theorem dL_law_886 : decode cL_law 886 = .ok (.goto 652, 3) := sh_a7 (n := 652) (show cL_law.data.toList[886]? = some 0xa7 by decide +kernel) (show cL_law.data.toList[887]? = some 0x02 by decide +kernel) (show cL_law.data.toList[888]? = some 0x8c by decide +kernel) rfl (by decide)
theorem dL_law_889 : decode cL_law 889 = .ok (.aload_n 1, 1) := sh_2b (show cL_law.data.toList[889]? = some 0x2b by decide +kernel)
theorem dL_law_890 : decode cL_law 890 = .ok (.aload_n 0, 1) := sh_2a (show cL_law.data.toList[890]? = some 0x2a by decide +kernel)
theorem dL_law_891 : decode cL_law 891 = .ok (.iload 4, 2) := sh_15 (show cL_law.data.toList[891]? = some 0x15 by decide +kernel) (show cL_law.data.toList[892]? = some 0x04 by decide +kernel) rfl
theorem dL_law_893 : decode cL_law 893 = .ok (.iconst 1, 1) := sh_04 (show cL_law.data.toList[893]? = some 0x04 by decide +kernel)
theorem dL_law_894 : decode cL_law 894 = .ok (.iadd, 1) := sh_60 (show cL_law.data.toList[894]? = some 0x60 by decide +kernel)
theorem dL_law_895 : decode cL_law 895 = .ok (.iaload, 1) := sh_2e (show cL_law.data.toList[895]? = some 0x2e by decide +kernel)
theorem dL_law_896 : decode cL_law 896 = .ok (.aload_n 0, 1) := sh_2a (show cL_law.data.toList[896]? = some 0x2a by decide +kernel)
theorem dL_law_897 : decode cL_law 897 = .ok (.iload 4, 2) := sh_15 (show cL_law.data.toList[897]? = some 0x15 by decide +kernel) (show cL_law.data.toList[898]? = some 0x04 by decide +kernel) rfl
theorem dL_law_899 : decode cL_law 899 = .ok (.iconst 2, 1) := sh_05 (show cL_law.data.toList[899]? = some 0x05 by decide +kernel)
theorem dL_law_900 : decode cL_law 900 = .ok (.iadd, 1) := sh_60 (show cL_law.data.toList[900]? = some 0x60 by decide +kernel)
theorem dL_law_901 : decode cL_law 901 = .ok (.iaload, 1) := sh_2e (show cL_law.data.toList[901]? = some 0x2e by decide +kernel)
theorem dL_law_902 : decode cL_law 902 = .ok (.aload_n 0, 1) := sh_2a (show cL_law.data.toList[902]? = some 0x2a by decide +kernel)
theorem dL_law_903 : decode cL_law 903 = .ok (.iload 4, 2) := sh_15 (show cL_law.data.toList[903]? = some 0x15 by decide +kernel) (show cL_law.data.toList[904]? = some 0x04 by decide +kernel) rfl
theorem dL_law_905 : decode cL_law 905 = .ok (.iconst 3, 1) := sh_06 (show cL_law.data.toList[905]? = some 0x06 by decide +kernel)
theorem dL_law_906 : decode cL_law 906 = .ok (.iadd, 1) := sh_60 (show cL_law.data.toList[906]? = some 0x60 by decide +kernel)
theorem dL_law_907 : decode cL_law 907 = .ok (.iaload, 1) := sh_2e (show cL_law.data.toList[907]? = some 0x2e by decide +kernel)
theorem dL_law_908 : decode cL_law 908 = .ok (.aload_n 0, 1) := sh_2a (show cL_law.data.toList[908]? = some 0x2a by decide +kernel)
theorem dL_law_909 : decode cL_law 909 = .ok (.iload 4, 2) := sh_15 (show cL_law.data.toList[909]? = some 0x15 by decide +kernel) (show cL_law.data.toList[910]? = some 0x04 by decide +kernel) rfl
theorem dL_law_911 : decode cL_law 911 = .ok (.iconst 4, 1) := sh_07 (show cL_law.data.toList[911]? = some 0x07 by decide +kernel)
theorem dL_law_912 : decode cL_law 912 = .ok (.iadd, 1) := sh_60 (show cL_law.data.toList[912]? = some 0x60 by decide +kernel)
theorem dL_law_913 : decode cL_law 913 = .ok (.iaload, 1) := sh_2e (show cL_law.data.toList[913]? = some 0x2e by decide +kernel)
theorem dL_law_914 : decode cL_law 914 = .ok (.ifCond .eq 7, 3) := sh_99 (n := 7) (show cL_law.data.toList[914]? = some 0x99 by decide +kernel) (show cL_law.data.toList[915]? = some 0x00 by decide +kernel) (show cL_law.data.toList[916]? = some 0x07 by decide +kernel) rfl (by decide)
theorem dL_law_917 : decode cL_law 917 = .ok (.iconst 1, 1) := sh_04 (show cL_law.data.toList[917]? = some 0x04 by decide +kernel)
theorem dL_law_918 : decode cL_law 918 = .ok (.goto 4, 3) := sh_a7 (n := 4) (show cL_law.data.toList[918]? = some 0xa7 by decide +kernel) (show cL_law.data.toList[919]? = some 0x00 by decide +kernel) (show cL_law.data.toList[920]? = some 0x04 by decide +kernel) rfl (by decide)
theorem dL_law_921 : decode cL_law 921 = .ok (.iconst 0, 1) := sh_03 (show cL_law.data.toList[921]? = some 0x03 by decide +kernel)
theorem dL_law_922 : decode cL_law 922 = .ok (.aload_n 3, 1) := sh_2d (show cL_law.data.toList[922]? = some 0x2d by decide +kernel)
theorem dL_law_923 : decode cL_law 923 = .ok (.invokestatic 160, 3) := sh_b8 (show cL_law.data.toList[923]? = some 0xb8 by decide +kernel) (show cL_law.data.toList[924]? = some 0x00 by decide +kernel) (show cL_law.data.toList[925]? = some 0xa0 by decide +kernel) rfl
theorem dL_law_926 : decode cL_law 926 = .ok (.istore 5, 2) := sh_36 (show cL_law.data.toList[926]? = some 0x36 by decide +kernel) (show cL_law.data.toList[927]? = some 0x05 by decide +kernel) rfl
theorem dL_law_928 : decode cL_law 928 = .ok (.aload_n 2, 1) := sh_2c (show cL_law.data.toList[928]? = some 0x2c by decide +kernel)
theorem dL_law_929 : decode cL_law 929 = .ok (.aload_n 0, 1) := sh_2a (show cL_law.data.toList[929]? = some 0x2a by decide +kernel)
theorem dL_law_930 : decode cL_law 930 = .ok (.iload 4, 2) := sh_15 (show cL_law.data.toList[930]? = some 0x15 by decide +kernel) (show cL_law.data.toList[931]? = some 0x04 by decide +kernel) rfl
theorem dL_law_932 : decode cL_law 932 = .ok (.iconst 1, 1) := sh_04 (show cL_law.data.toList[932]? = some 0x04 by decide +kernel)
theorem dL_law_933 : decode cL_law 933 = .ok (.iadd, 1) := sh_60 (show cL_law.data.toList[933]? = some 0x60 by decide +kernel)
theorem dL_law_934 : decode cL_law 934 = .ok (.iaload, 1) := sh_2e (show cL_law.data.toList[934]? = some 0x2e by decide +kernel)
theorem dL_law_935 : decode cL_law 935 = .ok (.aload_n 0, 1) := sh_2a (show cL_law.data.toList[935]? = some 0x2a by decide +kernel)
theorem dL_law_936 : decode cL_law 936 = .ok (.iload 4, 2) := sh_15 (show cL_law.data.toList[936]? = some 0x15 by decide +kernel) (show cL_law.data.toList[937]? = some 0x04 by decide +kernel) rfl
theorem dL_law_938 : decode cL_law 938 = .ok (.iconst 2, 1) := sh_05 (show cL_law.data.toList[938]? = some 0x05 by decide +kernel)
theorem dL_law_939 : decode cL_law 939 = .ok (.iadd, 1) := sh_60 (show cL_law.data.toList[939]? = some 0x60 by decide +kernel)
theorem dL_law_940 : decode cL_law 940 = .ok (.iaload, 1) := sh_2e (show cL_law.data.toList[940]? = some 0x2e by decide +kernel)
theorem dL_law_941 : decode cL_law 941 = .ok (.aload_n 0, 1) := sh_2a (show cL_law.data.toList[941]? = some 0x2a by decide +kernel)
theorem dL_law_942 : decode cL_law 942 = .ok (.iload 4, 2) := sh_15 (show cL_law.data.toList[942]? = some 0x15 by decide +kernel) (show cL_law.data.toList[943]? = some 0x04 by decide +kernel) rfl
theorem dL_law_944 : decode cL_law 944 = .ok (.iconst 3, 1) := sh_06 (show cL_law.data.toList[944]? = some 0x06 by decide +kernel)
theorem dL_law_945 : decode cL_law 945 = .ok (.iadd, 1) := sh_60 (show cL_law.data.toList[945]? = some 0x60 by decide +kernel)
theorem dL_law_946 : decode cL_law 946 = .ok (.iaload, 1) := sh_2e (show cL_law.data.toList[946]? = some 0x2e by decide +kernel)
theorem dL_law_947 : decode cL_law 947 = .ok (.aload_n 0, 1) := sh_2a (show cL_law.data.toList[947]? = some 0x2a by decide +kernel)
theorem dL_law_948 : decode cL_law 948 = .ok (.iload 4, 2) := sh_15 (show cL_law.data.toList[948]? = some 0x15 by decide +kernel) (show cL_law.data.toList[949]? = some 0x04 by decide +kernel) rfl
theorem dL_law_950 : decode cL_law 950 = .ok (.iconst 4, 1) := sh_07 (show cL_law.data.toList[950]? = some 0x07 by decide +kernel)
theorem dL_law_951 : decode cL_law 951 = .ok (.iadd, 1) := sh_60 (show cL_law.data.toList[951]? = some 0x60 by decide +kernel)
theorem dL_law_952 : decode cL_law 952 = .ok (.iaload, 1) := sh_2e (show cL_law.data.toList[952]? = some 0x2e by decide +kernel)
theorem dL_law_953 : decode cL_law 953 = .ok (.ifCond .eq 7, 3) := sh_99 (n := 7) (show cL_law.data.toList[953]? = some 0x99 by decide +kernel) (show cL_law.data.toList[954]? = some 0x00 by decide +kernel) (show cL_law.data.toList[955]? = some 0x07 by decide +kernel) rfl (by decide)
theorem dL_law_956 : decode cL_law 956 = .ok (.iconst 1, 1) := sh_04 (show cL_law.data.toList[956]? = some 0x04 by decide +kernel)
theorem dL_law_957 : decode cL_law 957 = .ok (.goto 4, 3) := sh_a7 (n := 4) (show cL_law.data.toList[957]? = some 0xa7 by decide +kernel) (show cL_law.data.toList[958]? = some 0x00 by decide +kernel) (show cL_law.data.toList[959]? = some 0x04 by decide +kernel) rfl (by decide)
theorem dL_law_960 : decode cL_law 960 = .ok (.iconst 0, 1) := sh_03 (show cL_law.data.toList[960]? = some 0x03 by decide +kernel)
theorem dL_law_961 : decode cL_law 961 = .ok (.invokevirtual 163, 3) := sh_b6 (show cL_law.data.toList[961]? = some 0xb6 by decide +kernel) (show cL_law.data.toList[962]? = some 0x00 by decide +kernel) (show cL_law.data.toList[963]? = some 0xa3 by decide +kernel) rfl
theorem dL_law_964 : decode cL_law 964 = .ok (.istore 6, 2) := sh_36 (show cL_law.data.toList[964]? = some 0x36 by decide +kernel) (show cL_law.data.toList[965]? = some 0x06 by decide +kernel) rfl
theorem dL_law_966 : decode cL_law 966 = .ok (.goto 572, 3) := sh_a7 (n := 572) (show cL_law.data.toList[966]? = some 0xa7 by decide +kernel) (show cL_law.data.toList[967]? = some 0x02 by decide +kernel) (show cL_law.data.toList[968]? = some 0x3c by decide +kernel) rfl (by decide)
theorem dL_law_969 : decode cL_law 969 = .ok (.aload_n 1, 1) := sh_2b (show cL_law.data.toList[969]? = some 0x2b by decide +kernel)
theorem dL_law_970 : decode cL_law 970 = .ok (.invokevirtual 164, 3) := sh_b6 (show cL_law.data.toList[970]? = some 0xb6 by decide +kernel) (show cL_law.data.toList[971]? = some 0x00 by decide +kernel) (show cL_law.data.toList[972]? = some 0xa4 by decide +kernel) rfl
theorem dL_law_973 : decode cL_law 973 = .ok (.pop, 1) := sh_57 (show cL_law.data.toList[973]? = some 0x57 by decide +kernel)
theorem dL_law_974 : decode cL_law 974 = .ok (.aload_n 2, 1) := sh_2c (show cL_law.data.toList[974]? = some 0x2c by decide +kernel)
theorem dL_law_975 : decode cL_law 975 = .ok (.invokevirtual 167, 3) := sh_b6 (show cL_law.data.toList[975]? = some 0xb6 by decide +kernel) (show cL_law.data.toList[976]? = some 0x00 by decide +kernel) (show cL_law.data.toList[977]? = some 0xa7 by decide +kernel) rfl
theorem dL_law_978 : decode cL_law 978 = .ok (.pop, 1) := sh_57 (show cL_law.data.toList[978]? = some 0x57 by decide +kernel)
theorem dL_law_979 : decode cL_law 979 = .ok (.goto 559, 3) := sh_a7 (n := 559) (show cL_law.data.toList[979]? = some 0xa7 by decide +kernel) (show cL_law.data.toList[980]? = some 0x02 by decide +kernel) (show cL_law.data.toList[981]? = some 0x2f by decide +kernel) rfl (by decide)
theorem dL_law_982 : decode cL_law 982 = .ok (.aload_n 1, 1) := sh_2b (show cL_law.data.toList[982]? = some 0x2b by decide +kernel)
theorem dL_law_983 : decode cL_law 983 = .ok (.aload_n 0, 1) := sh_2a (show cL_law.data.toList[983]? = some 0x2a by decide +kernel)
theorem dL_law_984 : decode cL_law 984 = .ok (.iload 4, 2) := sh_15 (show cL_law.data.toList[984]? = some 0x15 by decide +kernel) (show cL_law.data.toList[985]? = some 0x04 by decide +kernel) rfl
theorem dL_law_986 : decode cL_law 986 = .ok (.iconst 1, 1) := sh_04 (show cL_law.data.toList[986]? = some 0x04 by decide +kernel)
theorem dL_law_987 : decode cL_law 987 = .ok (.iadd, 1) := sh_60 (show cL_law.data.toList[987]? = some 0x60 by decide +kernel)
theorem dL_law_988 : decode cL_law 988 = .ok (.iaload, 1) := sh_2e (show cL_law.data.toList[988]? = some 0x2e by decide +kernel)
theorem dL_law_989 : decode cL_law 989 = .ok (.aload_n 3, 1) := sh_2d (show cL_law.data.toList[989]? = some 0x2d by decide +kernel)
theorem dL_law_990 : decode cL_law 990 = .ok (.invokestatic 168, 3) := sh_b8 (show cL_law.data.toList[990]? = some 0xb8 by decide +kernel) (show cL_law.data.toList[991]? = some 0x00 by decide +kernel) (show cL_law.data.toList[992]? = some 0xa8 by decide +kernel) rfl
theorem dL_law_993 : decode cL_law 993 = .ok (.istore 5, 2) := sh_36 (show cL_law.data.toList[993]? = some 0x36 by decide +kernel) (show cL_law.data.toList[994]? = some 0x05 by decide +kernel) rfl
theorem dL_law_995 : decode cL_law 995 = .ok (.aload_n 2, 1) := sh_2c (show cL_law.data.toList[995]? = some 0x2c by decide +kernel)
theorem dL_law_996 : decode cL_law 996 = .ok (.aload_n 0, 1) := sh_2a (show cL_law.data.toList[996]? = some 0x2a by decide +kernel)
theorem dL_law_997 : decode cL_law 997 = .ok (.iload 4, 2) := sh_15 (show cL_law.data.toList[997]? = some 0x15 by decide +kernel) (show cL_law.data.toList[998]? = some 0x04 by decide +kernel) rfl
theorem dL_law_999 : decode cL_law 999 = .ok (.iconst 1, 1) := sh_04 (show cL_law.data.toList[999]? = some 0x04 by decide +kernel)
theorem dL_law_1000 : decode cL_law 1000 = .ok (.iadd, 1) := sh_60 (show cL_law.data.toList[1000]? = some 0x60 by decide +kernel)
theorem dL_law_1001 : decode cL_law 1001 = .ok (.iaload, 1) := sh_2e (show cL_law.data.toList[1001]? = some 0x2e by decide +kernel)
theorem dL_law_1002 : decode cL_law 1002 = .ok (.invokevirtual 171, 3) := sh_b6 (show cL_law.data.toList[1002]? = some 0xb6 by decide +kernel) (show cL_law.data.toList[1003]? = some 0x00 by decide +kernel) (show cL_law.data.toList[1004]? = some 0xab by decide +kernel) rfl
theorem dL_law_1005 : decode cL_law 1005 = .ok (.istore 6, 2) := sh_36 (show cL_law.data.toList[1005]? = some 0x36 by decide +kernel) (show cL_law.data.toList[1006]? = some 0x06 by decide +kernel) rfl
theorem dL_law_1007 : decode cL_law 1007 = .ok (.goto 531, 3) := sh_a7 (n := 531) (show cL_law.data.toList[1007]? = some 0xa7 by decide +kernel) (show cL_law.data.toList[1008]? = some 0x02 by decide +kernel) (show cL_law.data.toList[1009]? = some 0x13 by decide +kernel) rfl (by decide)
theorem dL_law_1010 : decode cL_law 1010 = .ok (.aload_n 1, 1) := sh_2b (show cL_law.data.toList[1010]? = some 0x2b by decide +kernel)
theorem dL_law_1011 : decode cL_law 1011 = .ok (.aload_n 0, 1) := sh_2a (show cL_law.data.toList[1011]? = some 0x2a by decide +kernel)
theorem dL_law_1012 : decode cL_law 1012 = .ok (.iload 4, 2) := sh_15 (show cL_law.data.toList[1012]? = some 0x15 by decide +kernel) (show cL_law.data.toList[1013]? = some 0x04 by decide +kernel) rfl
theorem dL_law_1014 : decode cL_law 1014 = .ok (.iconst 1, 1) := sh_04 (show cL_law.data.toList[1014]? = some 0x04 by decide +kernel)
theorem dL_law_1015 : decode cL_law 1015 = .ok (.iadd, 1) := sh_60 (show cL_law.data.toList[1015]? = some 0x60 by decide +kernel)
theorem dL_law_1016 : decode cL_law 1016 = .ok (.iaload, 1) := sh_2e (show cL_law.data.toList[1016]? = some 0x2e by decide +kernel)
theorem dL_law_1017 : decode cL_law 1017 = .ok (.aload_n 3, 1) := sh_2d (show cL_law.data.toList[1017]? = some 0x2d by decide +kernel)
theorem dL_law_1018 : decode cL_law 1018 = .ok (.invokestatic 172, 3) := sh_b8 (show cL_law.data.toList[1018]? = some 0xb8 by decide +kernel) (show cL_law.data.toList[1019]? = some 0x00 by decide +kernel) (show cL_law.data.toList[1020]? = some 0xac by decide +kernel) rfl
theorem dL_law_1021 : decode cL_law 1021 = .ok (.istore 5, 2) := sh_36 (show cL_law.data.toList[1021]? = some 0x36 by decide +kernel) (show cL_law.data.toList[1022]? = some 0x05 by decide +kernel) rfl
theorem dL_law_1023 : decode cL_law 1023 = .ok (.aload_n 2, 1) := sh_2c (show cL_law.data.toList[1023]? = some 0x2c by decide +kernel)
theorem dL_law_1024 : decode cL_law 1024 = .ok (.aload_n 0, 1) := sh_2a (show cL_law.data.toList[1024]? = some 0x2a by decide +kernel)
theorem dL_law_1025 : decode cL_law 1025 = .ok (.iload 4, 2) := sh_15 (show cL_law.data.toList[1025]? = some 0x15 by decide +kernel) (show cL_law.data.toList[1026]? = some 0x04 by decide +kernel) rfl
theorem dL_law_1027 : decode cL_law 1027 = .ok (.iconst 1, 1) := sh_04 (show cL_law.data.toList[1027]? = some 0x04 by decide +kernel)
theorem dL_law_1028 : decode cL_law 1028 = .ok (.iadd, 1) := sh_60 (show cL_law.data.toList[1028]? = some 0x60 by decide +kernel)
theorem dL_law_1029 : decode cL_law 1029 = .ok (.iaload, 1) := sh_2e (show cL_law.data.toList[1029]? = some 0x2e by decide +kernel)
theorem dL_law_1030 : decode cL_law 1030 = .ok (.invokevirtual 174, 3) := sh_b6 (show cL_law.data.toList[1030]? = some 0xb6 by decide +kernel) (show cL_law.data.toList[1031]? = some 0x00 by decide +kernel) (show cL_law.data.toList[1032]? = some 0xae by decide +kernel) rfl
theorem dL_law_1033 : decode cL_law 1033 = .ok (.istore 6, 2) := sh_36 (show cL_law.data.toList[1033]? = some 0x36 by decide +kernel) (show cL_law.data.toList[1034]? = some 0x06 by decide +kernel) rfl
theorem dL_law_1035 : decode cL_law 1035 = .ok (.goto 503, 3) := sh_a7 (n := 503) (show cL_law.data.toList[1035]? = some 0xa7 by decide +kernel) (show cL_law.data.toList[1036]? = some 0x01 by decide +kernel) (show cL_law.data.toList[1037]? = some 0xf7 by decide +kernel) rfl (by decide)
theorem dL_law_1038 : decode cL_law 1038 = .ok (.aload_n 1, 1) := sh_2b (show cL_law.data.toList[1038]? = some 0x2b by decide +kernel)
theorem dL_law_1039 : decode cL_law 1039 = .ok (.aload_n 0, 1) := sh_2a (show cL_law.data.toList[1039]? = some 0x2a by decide +kernel)
theorem dL_law_1040 : decode cL_law 1040 = .ok (.iload 4, 2) := sh_15 (show cL_law.data.toList[1040]? = some 0x15 by decide +kernel) (show cL_law.data.toList[1041]? = some 0x04 by decide +kernel) rfl
theorem dL_law_1042 : decode cL_law 1042 = .ok (.iconst 1, 1) := sh_04 (show cL_law.data.toList[1042]? = some 0x04 by decide +kernel)
theorem dL_law_1043 : decode cL_law 1043 = .ok (.iadd, 1) := sh_60 (show cL_law.data.toList[1043]? = some 0x60 by decide +kernel)
theorem dL_law_1044 : decode cL_law 1044 = .ok (.iaload, 1) := sh_2e (show cL_law.data.toList[1044]? = some 0x2e by decide +kernel)
theorem dL_law_1045 : decode cL_law 1045 = .ok (.aload_n 0, 1) := sh_2a (show cL_law.data.toList[1045]? = some 0x2a by decide +kernel)
theorem dL_law_1046 : decode cL_law 1046 = .ok (.iload 4, 2) := sh_15 (show cL_law.data.toList[1046]? = some 0x15 by decide +kernel) (show cL_law.data.toList[1047]? = some 0x04 by decide +kernel) rfl
theorem dL_law_1048 : decode cL_law 1048 = .ok (.iconst 2, 1) := sh_05 (show cL_law.data.toList[1048]? = some 0x05 by decide +kernel)
theorem dL_law_1049 : decode cL_law 1049 = .ok (.iadd, 1) := sh_60 (show cL_law.data.toList[1049]? = some 0x60 by decide +kernel)
theorem dL_law_1050 : decode cL_law 1050 = .ok (.iaload, 1) := sh_2e (show cL_law.data.toList[1050]? = some 0x2e by decide +kernel)
theorem dL_law_1051 : decode cL_law 1051 = .ok (.aload_n 0, 1) := sh_2a (show cL_law.data.toList[1051]? = some 0x2a by decide +kernel)
theorem dL_law_1052 : decode cL_law 1052 = .ok (.iload 4, 2) := sh_15 (show cL_law.data.toList[1052]? = some 0x15 by decide +kernel) (show cL_law.data.toList[1053]? = some 0x04 by decide +kernel) rfl
theorem dL_law_1054 : decode cL_law 1054 = .ok (.iconst 3, 1) := sh_06 (show cL_law.data.toList[1054]? = some 0x06 by decide +kernel)
theorem dL_law_1055 : decode cL_law 1055 = .ok (.iadd, 1) := sh_60 (show cL_law.data.toList[1055]? = some 0x60 by decide +kernel)
theorem dL_law_1056 : decode cL_law 1056 = .ok (.iaload, 1) := sh_2e (show cL_law.data.toList[1056]? = some 0x2e by decide +kernel)
theorem dL_law_1057 : decode cL_law 1057 = .ok (.ifCond .eq 7, 3) := sh_99 (n := 7) (show cL_law.data.toList[1057]? = some 0x99 by decide +kernel) (show cL_law.data.toList[1058]? = some 0x00 by decide +kernel) (show cL_law.data.toList[1059]? = some 0x07 by decide +kernel) rfl (by decide)
theorem dL_law_1060 : decode cL_law 1060 = .ok (.iconst 1, 1) := sh_04 (show cL_law.data.toList[1060]? = some 0x04 by decide +kernel)
theorem dL_law_1061 : decode cL_law 1061 = .ok (.goto 4, 3) := sh_a7 (n := 4) (show cL_law.data.toList[1061]? = some 0xa7 by decide +kernel) (show cL_law.data.toList[1062]? = some 0x00 by decide +kernel) (show cL_law.data.toList[1063]? = some 0x04 by decide +kernel) rfl (by decide)
theorem dL_law_1064 : decode cL_law 1064 = .ok (.iconst 0, 1) := sh_03 (show cL_law.data.toList[1064]? = some 0x03 by decide +kernel)
theorem dL_law_1065 : decode cL_law 1065 = .ok (.aload_n 3, 1) := sh_2d (show cL_law.data.toList[1065]? = some 0x2d by decide +kernel)
theorem dL_law_1066 : decode cL_law 1066 = .ok (.invokestatic 175, 3) := sh_b8 (show cL_law.data.toList[1066]? = some 0xb8 by decide +kernel) (show cL_law.data.toList[1067]? = some 0x00 by decide +kernel) (show cL_law.data.toList[1068]? = some 0xaf by decide +kernel) rfl
theorem dL_law_1069 : decode cL_law 1069 = .ok (.istore 5, 2) := sh_36 (show cL_law.data.toList[1069]? = some 0x36 by decide +kernel) (show cL_law.data.toList[1070]? = some 0x05 by decide +kernel) rfl
theorem dL_law_1071 : decode cL_law 1071 = .ok (.aload_n 2, 1) := sh_2c (show cL_law.data.toList[1071]? = some 0x2c by decide +kernel)
theorem dL_law_1072 : decode cL_law 1072 = .ok (.aload_n 0, 1) := sh_2a (show cL_law.data.toList[1072]? = some 0x2a by decide +kernel)
theorem dL_law_1073 : decode cL_law 1073 = .ok (.iload 4, 2) := sh_15 (show cL_law.data.toList[1073]? = some 0x15 by decide +kernel) (show cL_law.data.toList[1074]? = some 0x04 by decide +kernel) rfl
theorem dL_law_1075 : decode cL_law 1075 = .ok (.iconst 1, 1) := sh_04 (show cL_law.data.toList[1075]? = some 0x04 by decide +kernel)
theorem dL_law_1076 : decode cL_law 1076 = .ok (.iadd, 1) := sh_60 (show cL_law.data.toList[1076]? = some 0x60 by decide +kernel)
theorem dL_law_1077 : decode cL_law 1077 = .ok (.iaload, 1) := sh_2e (show cL_law.data.toList[1077]? = some 0x2e by decide +kernel)
theorem dL_law_1078 : decode cL_law 1078 = .ok (.aload_n 0, 1) := sh_2a (show cL_law.data.toList[1078]? = some 0x2a by decide +kernel)
theorem dL_law_1079 : decode cL_law 1079 = .ok (.iload 4, 2) := sh_15 (show cL_law.data.toList[1079]? = some 0x15 by decide +kernel) (show cL_law.data.toList[1080]? = some 0x04 by decide +kernel) rfl
theorem dL_law_1081 : decode cL_law 1081 = .ok (.iconst 2, 1) := sh_05 (show cL_law.data.toList[1081]? = some 0x05 by decide +kernel)
theorem dL_law_1082 : decode cL_law 1082 = .ok (.iadd, 1) := sh_60 (show cL_law.data.toList[1082]? = some 0x60 by decide +kernel)
theorem dL_law_1083 : decode cL_law 1083 = .ok (.iaload, 1) := sh_2e (show cL_law.data.toList[1083]? = some 0x2e by decide +kernel)
theorem dL_law_1084 : decode cL_law 1084 = .ok (.aload_n 0, 1) := sh_2a (show cL_law.data.toList[1084]? = some 0x2a by decide +kernel)
theorem dL_law_1085 : decode cL_law 1085 = .ok (.iload 4, 2) := sh_15 (show cL_law.data.toList[1085]? = some 0x15 by decide +kernel) (show cL_law.data.toList[1086]? = some 0x04 by decide +kernel) rfl
theorem dL_law_1087 : decode cL_law 1087 = .ok (.iconst 3, 1) := sh_06 (show cL_law.data.toList[1087]? = some 0x06 by decide +kernel)
theorem dL_law_1088 : decode cL_law 1088 = .ok (.iadd, 1) := sh_60 (show cL_law.data.toList[1088]? = some 0x60 by decide +kernel)
theorem dL_law_1089 : decode cL_law 1089 = .ok (.iaload, 1) := sh_2e (show cL_law.data.toList[1089]? = some 0x2e by decide +kernel)
theorem dL_law_1090 : decode cL_law 1090 = .ok (.ifCond .eq 7, 3) := sh_99 (n := 7) (show cL_law.data.toList[1090]? = some 0x99 by decide +kernel) (show cL_law.data.toList[1091]? = some 0x00 by decide +kernel) (show cL_law.data.toList[1092]? = some 0x07 by decide +kernel) rfl (by decide)
theorem dL_law_1093 : decode cL_law 1093 = .ok (.iconst 1, 1) := sh_04 (show cL_law.data.toList[1093]? = some 0x04 by decide +kernel)
theorem dL_law_1094 : decode cL_law 1094 = .ok (.goto 4, 3) := sh_a7 (n := 4) (show cL_law.data.toList[1094]? = some 0xa7 by decide +kernel) (show cL_law.data.toList[1095]? = some 0x00 by decide +kernel) (show cL_law.data.toList[1096]? = some 0x04 by decide +kernel) rfl (by decide)
theorem dL_law_1097 : decode cL_law 1097 = .ok (.iconst 0, 1) := sh_03 (show cL_law.data.toList[1097]? = some 0x03 by decide +kernel)
theorem dL_law_1098 : decode cL_law 1098 = .ok (.invokevirtual 177, 3) := sh_b6 (show cL_law.data.toList[1098]? = some 0xb6 by decide +kernel) (show cL_law.data.toList[1099]? = some 0x00 by decide +kernel) (show cL_law.data.toList[1100]? = some 0xb1 by decide +kernel) rfl
theorem dL_law_1101 : decode cL_law 1101 = .ok (.istore 6, 2) := sh_36 (show cL_law.data.toList[1101]? = some 0x36 by decide +kernel) (show cL_law.data.toList[1102]? = some 0x06 by decide +kernel) rfl
theorem dL_law_1103 : decode cL_law 1103 = .ok (.goto 435, 3) := sh_a7 (n := 435) (show cL_law.data.toList[1103]? = some 0xa7 by decide +kernel) (show cL_law.data.toList[1104]? = some 0x01 by decide +kernel) (show cL_law.data.toList[1105]? = some 0xb3 by decide +kernel) rfl (by decide)
theorem dL_law_1106 : decode cL_law 1106 = .ok (.aload_n 1, 1) := sh_2b (show cL_law.data.toList[1106]? = some 0x2b by decide +kernel)
theorem dL_law_1107 : decode cL_law 1107 = .ok (.aload_n 0, 1) := sh_2a (show cL_law.data.toList[1107]? = some 0x2a by decide +kernel)
theorem dL_law_1108 : decode cL_law 1108 = .ok (.iload 4, 2) := sh_15 (show cL_law.data.toList[1108]? = some 0x15 by decide +kernel) (show cL_law.data.toList[1109]? = some 0x04 by decide +kernel) rfl
theorem dL_law_1110 : decode cL_law 1110 = .ok (.iconst 1, 1) := sh_04 (show cL_law.data.toList[1110]? = some 0x04 by decide +kernel)
theorem dL_law_1111 : decode cL_law 1111 = .ok (.iadd, 1) := sh_60 (show cL_law.data.toList[1111]? = some 0x60 by decide +kernel)
theorem dL_law_1112 : decode cL_law 1112 = .ok (.iaload, 1) := sh_2e (show cL_law.data.toList[1112]? = some 0x2e by decide +kernel)
theorem dL_law_1113 : decode cL_law 1113 = .ok (.aload_n 0, 1) := sh_2a (show cL_law.data.toList[1113]? = some 0x2a by decide +kernel)
theorem dL_law_1114 : decode cL_law 1114 = .ok (.iload 4, 2) := sh_15 (show cL_law.data.toList[1114]? = some 0x15 by decide +kernel) (show cL_law.data.toList[1115]? = some 0x04 by decide +kernel) rfl
theorem dL_law_1116 : decode cL_law 1116 = .ok (.iconst 2, 1) := sh_05 (show cL_law.data.toList[1116]? = some 0x05 by decide +kernel)
theorem dL_law_1117 : decode cL_law 1117 = .ok (.iadd, 1) := sh_60 (show cL_law.data.toList[1117]? = some 0x60 by decide +kernel)
theorem dL_law_1118 : decode cL_law 1118 = .ok (.iaload, 1) := sh_2e (show cL_law.data.toList[1118]? = some 0x2e by decide +kernel)
theorem dL_law_1119 : decode cL_law 1119 = .ok (.aload_n 0, 1) := sh_2a (show cL_law.data.toList[1119]? = some 0x2a by decide +kernel)
theorem dL_law_1120 : decode cL_law 1120 = .ok (.iload 4, 2) := sh_15 (show cL_law.data.toList[1120]? = some 0x15 by decide +kernel) (show cL_law.data.toList[1121]? = some 0x04 by decide +kernel) rfl
theorem dL_law_1122 : decode cL_law 1122 = .ok (.iconst 3, 1) := sh_06 (show cL_law.data.toList[1122]? = some 0x06 by decide +kernel)
theorem dL_law_1123 : decode cL_law 1123 = .ok (.iadd, 1) := sh_60 (show cL_law.data.toList[1123]? = some 0x60 by decide +kernel)
theorem dL_law_1124 : decode cL_law 1124 = .ok (.iaload, 1) := sh_2e (show cL_law.data.toList[1124]? = some 0x2e by decide +kernel)
theorem dL_law_1125 : decode cL_law 1125 = .ok (.ifCond .eq 7, 3) := sh_99 (n := 7) (show cL_law.data.toList[1125]? = some 0x99 by decide +kernel) (show cL_law.data.toList[1126]? = some 0x00 by decide +kernel) (show cL_law.data.toList[1127]? = some 0x07 by decide +kernel) rfl (by decide)
theorem dL_law_1128 : decode cL_law 1128 = .ok (.iconst 1, 1) := sh_04 (show cL_law.data.toList[1128]? = some 0x04 by decide +kernel)
theorem dL_law_1129 : decode cL_law 1129 = .ok (.goto 4, 3) := sh_a7 (n := 4) (show cL_law.data.toList[1129]? = some 0xa7 by decide +kernel) (show cL_law.data.toList[1130]? = some 0x00 by decide +kernel) (show cL_law.data.toList[1131]? = some 0x04 by decide +kernel) rfl (by decide)
theorem dL_law_1132 : decode cL_law 1132 = .ok (.iconst 0, 1) := sh_03 (show cL_law.data.toList[1132]? = some 0x03 by decide +kernel)
theorem dL_law_1133 : decode cL_law 1133 = .ok (.aload_n 0, 1) := sh_2a (show cL_law.data.toList[1133]? = some 0x2a by decide +kernel)
theorem dL_law_1134 : decode cL_law 1134 = .ok (.iload 4, 2) := sh_15 (show cL_law.data.toList[1134]? = some 0x15 by decide +kernel) (show cL_law.data.toList[1135]? = some 0x04 by decide +kernel) rfl
theorem dL_law_1136 : decode cL_law 1136 = .ok (.iconst 4, 1) := sh_07 (show cL_law.data.toList[1136]? = some 0x07 by decide +kernel)
theorem dL_law_1137 : decode cL_law 1137 = .ok (.iadd, 1) := sh_60 (show cL_law.data.toList[1137]? = some 0x60 by decide +kernel)
theorem dL_law_1138 : decode cL_law 1138 = .ok (.iaload, 1) := sh_2e (show cL_law.data.toList[1138]? = some 0x2e by decide +kernel)
theorem dL_law_1139 : decode cL_law 1139 = .ok (.ifCond .eq 7, 3) := sh_99 (n := 7) (show cL_law.data.toList[1139]? = some 0x99 by decide +kernel) (show cL_law.data.toList[1140]? = some 0x00 by decide +kernel) (show cL_law.data.toList[1141]? = some 0x07 by decide +kernel) rfl (by decide)
theorem dL_law_1142 : decode cL_law 1142 = .ok (.iconst 1, 1) := sh_04 (show cL_law.data.toList[1142]? = some 0x04 by decide +kernel)
theorem dL_law_1143 : decode cL_law 1143 = .ok (.goto 4, 3) := sh_a7 (n := 4) (show cL_law.data.toList[1143]? = some 0xa7 by decide +kernel) (show cL_law.data.toList[1144]? = some 0x00 by decide +kernel) (show cL_law.data.toList[1145]? = some 0x04 by decide +kernel) rfl (by decide)
theorem dL_law_1146 : decode cL_law 1146 = .ok (.iconst 0, 1) := sh_03 (show cL_law.data.toList[1146]? = some 0x03 by decide +kernel)
theorem dL_law_1147 : decode cL_law 1147 = .ok (.aload_n 3, 1) := sh_2d (show cL_law.data.toList[1147]? = some 0x2d by decide +kernel)
theorem dL_law_1148 : decode cL_law 1148 = .ok (.invokestatic 178, 3) := sh_b8 (show cL_law.data.toList[1148]? = some 0xb8 by decide +kernel) (show cL_law.data.toList[1149]? = some 0x00 by decide +kernel) (show cL_law.data.toList[1150]? = some 0xb2 by decide +kernel) rfl
theorem dL_law_1151 : decode cL_law 1151 = .ok (.istore 5, 2) := sh_36 (show cL_law.data.toList[1151]? = some 0x36 by decide +kernel) (show cL_law.data.toList[1152]? = some 0x05 by decide +kernel) rfl
theorem dL_law_1153 : decode cL_law 1153 = .ok (.aload_n 2, 1) := sh_2c (show cL_law.data.toList[1153]? = some 0x2c by decide +kernel)
theorem dL_law_1154 : decode cL_law 1154 = .ok (.aload_n 0, 1) := sh_2a (show cL_law.data.toList[1154]? = some 0x2a by decide +kernel)
theorem dL_law_1155 : decode cL_law 1155 = .ok (.iload 4, 2) := sh_15 (show cL_law.data.toList[1155]? = some 0x15 by decide +kernel) (show cL_law.data.toList[1156]? = some 0x04 by decide +kernel) rfl
theorem dL_law_1157 : decode cL_law 1157 = .ok (.iconst 1, 1) := sh_04 (show cL_law.data.toList[1157]? = some 0x04 by decide +kernel)
theorem dL_law_1158 : decode cL_law 1158 = .ok (.iadd, 1) := sh_60 (show cL_law.data.toList[1158]? = some 0x60 by decide +kernel)
theorem dL_law_1159 : decode cL_law 1159 = .ok (.iaload, 1) := sh_2e (show cL_law.data.toList[1159]? = some 0x2e by decide +kernel)
theorem dL_law_1160 : decode cL_law 1160 = .ok (.aload_n 0, 1) := sh_2a (show cL_law.data.toList[1160]? = some 0x2a by decide +kernel)
theorem dL_law_1161 : decode cL_law 1161 = .ok (.iload 4, 2) := sh_15 (show cL_law.data.toList[1161]? = some 0x15 by decide +kernel) (show cL_law.data.toList[1162]? = some 0x04 by decide +kernel) rfl
theorem dL_law_1163 : decode cL_law 1163 = .ok (.iconst 2, 1) := sh_05 (show cL_law.data.toList[1163]? = some 0x05 by decide +kernel)
theorem dL_law_1164 : decode cL_law 1164 = .ok (.iadd, 1) := sh_60 (show cL_law.data.toList[1164]? = some 0x60 by decide +kernel)
theorem dL_law_1165 : decode cL_law 1165 = .ok (.iaload, 1) := sh_2e (show cL_law.data.toList[1165]? = some 0x2e by decide +kernel)
theorem dL_law_1166 : decode cL_law 1166 = .ok (.aload_n 0, 1) := sh_2a (show cL_law.data.toList[1166]? = some 0x2a by decide +kernel)
theorem dL_law_1167 : decode cL_law 1167 = .ok (.iload 4, 2) := sh_15 (show cL_law.data.toList[1167]? = some 0x15 by decide +kernel) (show cL_law.data.toList[1168]? = some 0x04 by decide +kernel) rfl
theorem dL_law_1169 : decode cL_law 1169 = .ok (.iconst 3, 1) := sh_06 (show cL_law.data.toList[1169]? = some 0x06 by decide +kernel)
theorem dL_law_1170 : decode cL_law 1170 = .ok (.iadd, 1) := sh_60 (show cL_law.data.toList[1170]? = some 0x60 by decide +kernel)
theorem dL_law_1171 : decode cL_law 1171 = .ok (.iaload, 1) := sh_2e (show cL_law.data.toList[1171]? = some 0x2e by decide +kernel)
theorem dL_law_1172 : decode cL_law 1172 = .ok (.ifCond .eq 7, 3) := sh_99 (n := 7) (show cL_law.data.toList[1172]? = some 0x99 by decide +kernel) (show cL_law.data.toList[1173]? = some 0x00 by decide +kernel) (show cL_law.data.toList[1174]? = some 0x07 by decide +kernel) rfl (by decide)
theorem dL_law_1175 : decode cL_law 1175 = .ok (.iconst 1, 1) := sh_04 (show cL_law.data.toList[1175]? = some 0x04 by decide +kernel)
theorem dL_law_1176 : decode cL_law 1176 = .ok (.goto 4, 3) := sh_a7 (n := 4) (show cL_law.data.toList[1176]? = some 0xa7 by decide +kernel) (show cL_law.data.toList[1177]? = some 0x00 by decide +kernel) (show cL_law.data.toList[1178]? = some 0x04 by decide +kernel) rfl (by decide)
theorem dL_law_1179 : decode cL_law 1179 = .ok (.iconst 0, 1) := sh_03 (show cL_law.data.toList[1179]? = some 0x03 by decide +kernel)
theorem dL_law_1180 : decode cL_law 1180 = .ok (.aload_n 0, 1) := sh_2a (show cL_law.data.toList[1180]? = some 0x2a by decide +kernel)
theorem dL_law_1181 : decode cL_law 1181 = .ok (.iload 4, 2) := sh_15 (show cL_law.data.toList[1181]? = some 0x15 by decide +kernel) (show cL_law.data.toList[1182]? = some 0x04 by decide +kernel) rfl
theorem dL_law_1183 : decode cL_law 1183 = .ok (.iconst 4, 1) := sh_07 (show cL_law.data.toList[1183]? = some 0x07 by decide +kernel)
theorem dL_law_1184 : decode cL_law 1184 = .ok (.iadd, 1) := sh_60 (show cL_law.data.toList[1184]? = some 0x60 by decide +kernel)
theorem dL_law_1185 : decode cL_law 1185 = .ok (.iaload, 1) := sh_2e (show cL_law.data.toList[1185]? = some 0x2e by decide +kernel)
theorem dL_law_1186 : decode cL_law 1186 = .ok (.ifCond .eq 7, 3) := sh_99 (n := 7) (show cL_law.data.toList[1186]? = some 0x99 by decide +kernel) (show cL_law.data.toList[1187]? = some 0x00 by decide +kernel) (show cL_law.data.toList[1188]? = some 0x07 by decide +kernel) rfl (by decide)
theorem dL_law_1189 : decode cL_law 1189 = .ok (.iconst 1, 1) := sh_04 (show cL_law.data.toList[1189]? = some 0x04 by decide +kernel)
theorem dL_law_1190 : decode cL_law 1190 = .ok (.goto 4, 3) := sh_a7 (n := 4) (show cL_law.data.toList[1190]? = some 0xa7 by decide +kernel) (show cL_law.data.toList[1191]? = some 0x00 by decide +kernel) (show cL_law.data.toList[1192]? = some 0x04 by decide +kernel) rfl (by decide)
theorem dL_law_1193 : decode cL_law 1193 = .ok (.iconst 0, 1) := sh_03 (show cL_law.data.toList[1193]? = some 0x03 by decide +kernel)
theorem dL_law_1194 : decode cL_law 1194 = .ok (.invokevirtual 181, 3) := sh_b6 (show cL_law.data.toList[1194]? = some 0xb6 by decide +kernel) (show cL_law.data.toList[1195]? = some 0x00 by decide +kernel) (show cL_law.data.toList[1196]? = some 0xb5 by decide +kernel) rfl
theorem dL_law_1197 : decode cL_law 1197 = .ok (.istore 6, 2) := sh_36 (show cL_law.data.toList[1197]? = some 0x36 by decide +kernel) (show cL_law.data.toList[1198]? = some 0x06 by decide +kernel) rfl
theorem dL_law_1199 : decode cL_law 1199 = .ok (.goto 339, 3) := sh_a7 (n := 339) (show cL_law.data.toList[1199]? = some 0xa7 by decide +kernel) (show cL_law.data.toList[1200]? = some 0x01 by decide +kernel) (show cL_law.data.toList[1201]? = some 0x53 by decide +kernel) rfl (by decide)
theorem dL_law_1202 : decode cL_law 1202 = .ok (.aload_n 1, 1) := sh_2b (show cL_law.data.toList[1202]? = some 0x2b by decide +kernel)
theorem dL_law_1203 : decode cL_law 1203 = .ok (.invokevirtual 182, 3) := sh_b6 (show cL_law.data.toList[1203]? = some 0xb6 by decide +kernel) (show cL_law.data.toList[1204]? = some 0x00 by decide +kernel) (show cL_law.data.toList[1205]? = some 0xb6 by decide +kernel) rfl
theorem dL_law_1206 : decode cL_law 1206 = .ok (.pop, 1) := sh_57 (show cL_law.data.toList[1206]? = some 0x57 by decide +kernel)
theorem dL_law_1207 : decode cL_law 1207 = .ok (.aload_n 2, 1) := sh_2c (show cL_law.data.toList[1207]? = some 0x2c by decide +kernel)
theorem dL_law_1208 : decode cL_law 1208 = .ok (.invokevirtual 186, 3) := sh_b6 (show cL_law.data.toList[1208]? = some 0xb6 by decide +kernel) (show cL_law.data.toList[1209]? = some 0x00 by decide +kernel) (show cL_law.data.toList[1210]? = some 0xba by decide +kernel) rfl
theorem dL_law_1211 : decode cL_law 1211 = .ok (.pop, 1) := sh_57 (show cL_law.data.toList[1211]? = some 0x57 by decide +kernel)
theorem dL_law_1212 : decode cL_law 1212 = .ok (.goto 326, 3) := sh_a7 (n := 326) (show cL_law.data.toList[1212]? = some 0xa7 by decide +kernel) (show cL_law.data.toList[1213]? = some 0x01 by decide +kernel) (show cL_law.data.toList[1214]? = some 0x46 by decide +kernel) rfl (by decide)
theorem dL_law_1215 : decode cL_law 1215 = .ok (.aload_n 1, 1) := sh_2b (show cL_law.data.toList[1215]? = some 0x2b by decide +kernel)
theorem dL_law_1216 : decode cL_law 1216 = .ok (.aload_n 0, 1) := sh_2a (show cL_law.data.toList[1216]? = some 0x2a by decide +kernel)
theorem dL_law_1217 : decode cL_law 1217 = .ok (.iload 4, 2) := sh_15 (show cL_law.data.toList[1217]? = some 0x15 by decide +kernel) (show cL_law.data.toList[1218]? = some 0x04 by decide +kernel) rfl
theorem dL_law_1219 : decode cL_law 1219 = .ok (.iconst 1, 1) := sh_04 (show cL_law.data.toList[1219]? = some 0x04 by decide +kernel)
theorem dL_law_1220 : decode cL_law 1220 = .ok (.iadd, 1) := sh_60 (show cL_law.data.toList[1220]? = some 0x60 by decide +kernel)
theorem dL_law_1221 : decode cL_law 1221 = .ok (.iaload, 1) := sh_2e (show cL_law.data.toList[1221]? = some 0x2e by decide +kernel)
theorem dL_law_1222 : decode cL_law 1222 = .ok (.aload_n 0, 1) := sh_2a (show cL_law.data.toList[1222]? = some 0x2a by decide +kernel)
theorem dL_law_1223 : decode cL_law 1223 = .ok (.iload 4, 2) := sh_15 (show cL_law.data.toList[1223]? = some 0x15 by decide +kernel) (show cL_law.data.toList[1224]? = some 0x04 by decide +kernel) rfl
theorem dL_law_1225 : decode cL_law 1225 = .ok (.iconst 2, 1) := sh_05 (show cL_law.data.toList[1225]? = some 0x05 by decide +kernel)
theorem dL_law_1226 : decode cL_law 1226 = .ok (.iadd, 1) := sh_60 (show cL_law.data.toList[1226]? = some 0x60 by decide +kernel)
theorem dL_law_1227 : decode cL_law 1227 = .ok (.iaload, 1) := sh_2e (show cL_law.data.toList[1227]? = some 0x2e by decide +kernel)
theorem dL_law_1228 : decode cL_law 1228 = .ok (.aload_n 3, 1) := sh_2d (show cL_law.data.toList[1228]? = some 0x2d by decide +kernel)
theorem dL_law_1229 : decode cL_law 1229 = .ok (.invokestatic 187, 3) := sh_b8 (show cL_law.data.toList[1229]? = some 0xb8 by decide +kernel) (show cL_law.data.toList[1230]? = some 0x00 by decide +kernel) (show cL_law.data.toList[1231]? = some 0xbb by decide +kernel) rfl
theorem dL_law_1232 : decode cL_law 1232 = .ok (.istore 5, 2) := sh_36 (show cL_law.data.toList[1232]? = some 0x36 by decide +kernel) (show cL_law.data.toList[1233]? = some 0x05 by decide +kernel) rfl
theorem dL_law_1234 : decode cL_law 1234 = .ok (.aload_n 2, 1) := sh_2c (show cL_law.data.toList[1234]? = some 0x2c by decide +kernel)
theorem dL_law_1235 : decode cL_law 1235 = .ok (.aload_n 0, 1) := sh_2a (show cL_law.data.toList[1235]? = some 0x2a by decide +kernel)
theorem dL_law_1236 : decode cL_law 1236 = .ok (.iload 4, 2) := sh_15 (show cL_law.data.toList[1236]? = some 0x15 by decide +kernel) (show cL_law.data.toList[1237]? = some 0x04 by decide +kernel) rfl
theorem dL_law_1238 : decode cL_law 1238 = .ok (.iconst 1, 1) := sh_04 (show cL_law.data.toList[1238]? = some 0x04 by decide +kernel)
theorem dL_law_1239 : decode cL_law 1239 = .ok (.iadd, 1) := sh_60 (show cL_law.data.toList[1239]? = some 0x60 by decide +kernel)
theorem dL_law_1240 : decode cL_law 1240 = .ok (.iaload, 1) := sh_2e (show cL_law.data.toList[1240]? = some 0x2e by decide +kernel)
theorem dL_law_1241 : decode cL_law 1241 = .ok (.aload_n 0, 1) := sh_2a (show cL_law.data.toList[1241]? = some 0x2a by decide +kernel)
theorem dL_law_1242 : decode cL_law 1242 = .ok (.iload 4, 2) := sh_15 (show cL_law.data.toList[1242]? = some 0x15 by decide +kernel) (show cL_law.data.toList[1243]? = some 0x04 by decide +kernel) rfl
theorem dL_law_1244 : decode cL_law 1244 = .ok (.iconst 2, 1) := sh_05 (show cL_law.data.toList[1244]? = some 0x05 by decide +kernel)
theorem dL_law_1245 : decode cL_law 1245 = .ok (.iadd, 1) := sh_60 (show cL_law.data.toList[1245]? = some 0x60 by decide +kernel)
theorem dL_law_1246 : decode cL_law 1246 = .ok (.iaload, 1) := sh_2e (show cL_law.data.toList[1246]? = some 0x2e by decide +kernel)
theorem dL_law_1247 : decode cL_law 1247 = .ok (.invokevirtual 189, 3) := sh_b6 (show cL_law.data.toList[1247]? = some 0xb6 by decide +kernel) (show cL_law.data.toList[1248]? = some 0x00 by decide +kernel) (show cL_law.data.toList[1249]? = some 0xbd by decide +kernel) rfl
theorem dL_law_1250 : decode cL_law 1250 = .ok (.istore 6, 2) := sh_36 (show cL_law.data.toList[1250]? = some 0x36 by decide +kernel) (show cL_law.data.toList[1251]? = some 0x06 by decide +kernel) rfl
theorem dL_law_1252 : decode cL_law 1252 = .ok (.goto 286, 3) := sh_a7 (n := 286) (show cL_law.data.toList[1252]? = some 0xa7 by decide +kernel) (show cL_law.data.toList[1253]? = some 0x01 by decide +kernel) (show cL_law.data.toList[1254]? = some 0x1e by decide +kernel) rfl (by decide)
theorem dL_law_1255 : decode cL_law 1255 = .ok (.aload_n 1, 1) := sh_2b (show cL_law.data.toList[1255]? = some 0x2b by decide +kernel)
theorem dL_law_1256 : decode cL_law 1256 = .ok (.aload_n 0, 1) := sh_2a (show cL_law.data.toList[1256]? = some 0x2a by decide +kernel)
theorem dL_law_1257 : decode cL_law 1257 = .ok (.iload 4, 2) := sh_15 (show cL_law.data.toList[1257]? = some 0x15 by decide +kernel) (show cL_law.data.toList[1258]? = some 0x04 by decide +kernel) rfl
theorem dL_law_1259 : decode cL_law 1259 = .ok (.iconst 1, 1) := sh_04 (show cL_law.data.toList[1259]? = some 0x04 by decide +kernel)
theorem dL_law_1260 : decode cL_law 1260 = .ok (.iadd, 1) := sh_60 (show cL_law.data.toList[1260]? = some 0x60 by decide +kernel)
theorem dL_law_1261 : decode cL_law 1261 = .ok (.iaload, 1) := sh_2e (show cL_law.data.toList[1261]? = some 0x2e by decide +kernel)
theorem dL_law_1262 : decode cL_law 1262 = .ok (.aload_n 3, 1) := sh_2d (show cL_law.data.toList[1262]? = some 0x2d by decide +kernel)
theorem dL_law_1263 : decode cL_law 1263 = .ok (.invokestatic 190, 3) := sh_b8 (show cL_law.data.toList[1263]? = some 0xb8 by decide +kernel) (show cL_law.data.toList[1264]? = some 0x00 by decide +kernel) (show cL_law.data.toList[1265]? = some 0xbe by decide +kernel) rfl
theorem dL_law_1266 : decode cL_law 1266 = .ok (.istore 5, 2) := sh_36 (show cL_law.data.toList[1266]? = some 0x36 by decide +kernel) (show cL_law.data.toList[1267]? = some 0x05 by decide +kernel) rfl
theorem dL_law_1268 : decode cL_law 1268 = .ok (.aload_n 2, 1) := sh_2c (show cL_law.data.toList[1268]? = some 0x2c by decide +kernel)
theorem dL_law_1269 : decode cL_law 1269 = .ok (.aload_n 0, 1) := sh_2a (show cL_law.data.toList[1269]? = some 0x2a by decide +kernel)
theorem dL_law_1270 : decode cL_law 1270 = .ok (.iload 4, 2) := sh_15 (show cL_law.data.toList[1270]? = some 0x15 by decide +kernel) (show cL_law.data.toList[1271]? = some 0x04 by decide +kernel) rfl
theorem dL_law_1272 : decode cL_law 1272 = .ok (.iconst 1, 1) := sh_04 (show cL_law.data.toList[1272]? = some 0x04 by decide +kernel)
theorem dL_law_1273 : decode cL_law 1273 = .ok (.iadd, 1) := sh_60 (show cL_law.data.toList[1273]? = some 0x60 by decide +kernel)
theorem dL_law_1274 : decode cL_law 1274 = .ok (.iaload, 1) := sh_2e (show cL_law.data.toList[1274]? = some 0x2e by decide +kernel)
theorem dL_law_1275 : decode cL_law 1275 = .ok (.invokevirtual 192, 3) := sh_b6 (show cL_law.data.toList[1275]? = some 0xb6 by decide +kernel) (show cL_law.data.toList[1276]? = some 0x00 by decide +kernel) (show cL_law.data.toList[1277]? = some 0xc0 by decide +kernel) rfl
theorem dL_law_1278 : decode cL_law 1278 = .ok (.istore 6, 2) := sh_36 (show cL_law.data.toList[1278]? = some 0x36 by decide +kernel) (show cL_law.data.toList[1279]? = some 0x06 by decide +kernel) rfl
theorem dL_law_1280 : decode cL_law 1280 = .ok (.goto 258, 3) := sh_a7 (n := 258) (show cL_law.data.toList[1280]? = some 0xa7 by decide +kernel) (show cL_law.data.toList[1281]? = some 0x01 by decide +kernel) (show cL_law.data.toList[1282]? = some 0x02 by decide +kernel) rfl (by decide)
theorem dL_law_1283 : decode cL_law 1283 = .ok (.aload_n 1, 1) := sh_2b (show cL_law.data.toList[1283]? = some 0x2b by decide +kernel)
theorem dL_law_1284 : decode cL_law 1284 = .ok (.aload_n 0, 1) := sh_2a (show cL_law.data.toList[1284]? = some 0x2a by decide +kernel)
theorem dL_law_1285 : decode cL_law 1285 = .ok (.iload 4, 2) := sh_15 (show cL_law.data.toList[1285]? = some 0x15 by decide +kernel) (show cL_law.data.toList[1286]? = some 0x04 by decide +kernel) rfl
theorem dL_law_1287 : decode cL_law 1287 = .ok (.iconst 1, 1) := sh_04 (show cL_law.data.toList[1287]? = some 0x04 by decide +kernel)
theorem dL_law_1288 : decode cL_law 1288 = .ok (.iadd, 1) := sh_60 (show cL_law.data.toList[1288]? = some 0x60 by decide +kernel)
theorem dL_law_1289 : decode cL_law 1289 = .ok (.iaload, 1) := sh_2e (show cL_law.data.toList[1289]? = some 0x2e by decide +kernel)
theorem dL_law_1290 : decode cL_law 1290 = .ok (.aload_n 0, 1) := sh_2a (show cL_law.data.toList[1290]? = some 0x2a by decide +kernel)
theorem dL_law_1291 : decode cL_law 1291 = .ok (.iload 4, 2) := sh_15 (show cL_law.data.toList[1291]? = some 0x15 by decide +kernel) (show cL_law.data.toList[1292]? = some 0x04 by decide +kernel) rfl
theorem dL_law_1293 : decode cL_law 1293 = .ok (.iconst 2, 1) := sh_05 (show cL_law.data.toList[1293]? = some 0x05 by decide +kernel)
theorem dL_law_1294 : decode cL_law 1294 = .ok (.iadd, 1) := sh_60 (show cL_law.data.toList[1294]? = some 0x60 by decide +kernel)
theorem dL_law_1295 : decode cL_law 1295 = .ok (.iaload, 1) := sh_2e (show cL_law.data.toList[1295]? = some 0x2e by decide +kernel)
theorem dL_law_1296 : decode cL_law 1296 = .ok (.aload_n 3, 1) := sh_2d (show cL_law.data.toList[1296]? = some 0x2d by decide +kernel)
theorem dL_law_1297 : decode cL_law 1297 = .ok (.invokestatic 193, 3) := sh_b8 (show cL_law.data.toList[1297]? = some 0xb8 by decide +kernel) (show cL_law.data.toList[1298]? = some 0x00 by decide +kernel) (show cL_law.data.toList[1299]? = some 0xc1 by decide +kernel) rfl
theorem dL_law_1300 : decode cL_law 1300 = .ok (.istore 5, 2) := sh_36 (show cL_law.data.toList[1300]? = some 0x36 by decide +kernel) (show cL_law.data.toList[1301]? = some 0x05 by decide +kernel) rfl
theorem dL_law_1302 : decode cL_law 1302 = .ok (.aload_n 2, 1) := sh_2c (show cL_law.data.toList[1302]? = some 0x2c by decide +kernel)
theorem dL_law_1303 : decode cL_law 1303 = .ok (.aload_n 0, 1) := sh_2a (show cL_law.data.toList[1303]? = some 0x2a by decide +kernel)
theorem dL_law_1304 : decode cL_law 1304 = .ok (.iload 4, 2) := sh_15 (show cL_law.data.toList[1304]? = some 0x15 by decide +kernel) (show cL_law.data.toList[1305]? = some 0x04 by decide +kernel) rfl
theorem dL_law_1306 : decode cL_law 1306 = .ok (.iconst 1, 1) := sh_04 (show cL_law.data.toList[1306]? = some 0x04 by decide +kernel)
theorem dL_law_1307 : decode cL_law 1307 = .ok (.iadd, 1) := sh_60 (show cL_law.data.toList[1307]? = some 0x60 by decide +kernel)
theorem dL_law_1308 : decode cL_law 1308 = .ok (.iaload, 1) := sh_2e (show cL_law.data.toList[1308]? = some 0x2e by decide +kernel)
theorem dL_law_1309 : decode cL_law 1309 = .ok (.aload_n 0, 1) := sh_2a (show cL_law.data.toList[1309]? = some 0x2a by decide +kernel)
theorem dL_law_1310 : decode cL_law 1310 = .ok (.iload 4, 2) := sh_15 (show cL_law.data.toList[1310]? = some 0x15 by decide +kernel) (show cL_law.data.toList[1311]? = some 0x04 by decide +kernel) rfl
theorem dL_law_1312 : decode cL_law 1312 = .ok (.iconst 2, 1) := sh_05 (show cL_law.data.toList[1312]? = some 0x05 by decide +kernel)
theorem dL_law_1313 : decode cL_law 1313 = .ok (.iadd, 1) := sh_60 (show cL_law.data.toList[1313]? = some 0x60 by decide +kernel)
theorem dL_law_1314 : decode cL_law 1314 = .ok (.iaload, 1) := sh_2e (show cL_law.data.toList[1314]? = some 0x2e by decide +kernel)
theorem dL_law_1315 : decode cL_law 1315 = .ok (.invokevirtual 195, 3) := sh_b6 (show cL_law.data.toList[1315]? = some 0xb6 by decide +kernel) (show cL_law.data.toList[1316]? = some 0x00 by decide +kernel) (show cL_law.data.toList[1317]? = some 0xc3 by decide +kernel) rfl
theorem dL_law_1318 : decode cL_law 1318 = .ok (.istore 6, 2) := sh_36 (show cL_law.data.toList[1318]? = some 0x36 by decide +kernel) (show cL_law.data.toList[1319]? = some 0x06 by decide +kernel) rfl
theorem dL_law_1320 : decode cL_law 1320 = .ok (.goto 218, 3) := sh_a7 (n := 218) (show cL_law.data.toList[1320]? = some 0xa7 by decide +kernel) (show cL_law.data.toList[1321]? = some 0x00 by decide +kernel) (show cL_law.data.toList[1322]? = some 0xda by decide +kernel) rfl (by decide)
theorem dL_law_1323 : decode cL_law 1323 = .ok (.aload_n 1, 1) := sh_2b (show cL_law.data.toList[1323]? = some 0x2b by decide +kernel)
theorem dL_law_1324 : decode cL_law 1324 = .ok (.aload_n 0, 1) := sh_2a (show cL_law.data.toList[1324]? = some 0x2a by decide +kernel)
theorem dL_law_1325 : decode cL_law 1325 = .ok (.iload 4, 2) := sh_15 (show cL_law.data.toList[1325]? = some 0x15 by decide +kernel) (show cL_law.data.toList[1326]? = some 0x04 by decide +kernel) rfl
theorem dL_law_1327 : decode cL_law 1327 = .ok (.iconst 1, 1) := sh_04 (show cL_law.data.toList[1327]? = some 0x04 by decide +kernel)
theorem dL_law_1328 : decode cL_law 1328 = .ok (.iadd, 1) := sh_60 (show cL_law.data.toList[1328]? = some 0x60 by decide +kernel)
theorem dL_law_1329 : decode cL_law 1329 = .ok (.iaload, 1) := sh_2e (show cL_law.data.toList[1329]? = some 0x2e by decide +kernel)
theorem dL_law_1330 : decode cL_law 1330 = .ok (.aload_n 0, 1) := sh_2a (show cL_law.data.toList[1330]? = some 0x2a by decide +kernel)
theorem dL_law_1331 : decode cL_law 1331 = .ok (.iload 4, 2) := sh_15 (show cL_law.data.toList[1331]? = some 0x15 by decide +kernel) (show cL_law.data.toList[1332]? = some 0x04 by decide +kernel) rfl
theorem dL_law_1333 : decode cL_law 1333 = .ok (.iconst 2, 1) := sh_05 (show cL_law.data.toList[1333]? = some 0x05 by decide +kernel)
theorem dL_law_1334 : decode cL_law 1334 = .ok (.iadd, 1) := sh_60 (show cL_law.data.toList[1334]? = some 0x60 by decide +kernel)
theorem dL_law_1335 : decode cL_law 1335 = .ok (.iaload, 1) := sh_2e (show cL_law.data.toList[1335]? = some 0x2e by decide +kernel)
theorem dL_law_1336 : decode cL_law 1336 = .ok (.aload_n 0, 1) := sh_2a (show cL_law.data.toList[1336]? = some 0x2a by decide +kernel)
theorem dL_law_1337 : decode cL_law 1337 = .ok (.iload 4, 2) := sh_15 (show cL_law.data.toList[1337]? = some 0x15 by decide +kernel) (show cL_law.data.toList[1338]? = some 0x04 by decide +kernel) rfl
theorem dL_law_1339 : decode cL_law 1339 = .ok (.iconst 3, 1) := sh_06 (show cL_law.data.toList[1339]? = some 0x06 by decide +kernel)
theorem dL_law_1340 : decode cL_law 1340 = .ok (.iadd, 1) := sh_60 (show cL_law.data.toList[1340]? = some 0x60 by decide +kernel)
theorem dL_law_1341 : decode cL_law 1341 = .ok (.iaload, 1) := sh_2e (show cL_law.data.toList[1341]? = some 0x2e by decide +kernel)
theorem dL_law_1342 : decode cL_law 1342 = .ok (.ifCond .eq 7, 3) := sh_99 (n := 7) (show cL_law.data.toList[1342]? = some 0x99 by decide +kernel) (show cL_law.data.toList[1343]? = some 0x00 by decide +kernel) (show cL_law.data.toList[1344]? = some 0x07 by decide +kernel) rfl (by decide)
theorem dL_law_1345 : decode cL_law 1345 = .ok (.iconst 1, 1) := sh_04 (show cL_law.data.toList[1345]? = some 0x04 by decide +kernel)
theorem dL_law_1346 : decode cL_law 1346 = .ok (.goto 4, 3) := sh_a7 (n := 4) (show cL_law.data.toList[1346]? = some 0xa7 by decide +kernel) (show cL_law.data.toList[1347]? = some 0x00 by decide +kernel) (show cL_law.data.toList[1348]? = some 0x04 by decide +kernel) rfl (by decide)
theorem dL_law_1349 : decode cL_law 1349 = .ok (.iconst 0, 1) := sh_03 (show cL_law.data.toList[1349]? = some 0x03 by decide +kernel)
theorem dL_law_1350 : decode cL_law 1350 = .ok (.aload_n 3, 1) := sh_2d (show cL_law.data.toList[1350]? = some 0x2d by decide +kernel)
theorem dL_law_1351 : decode cL_law 1351 = .ok (.invokestatic 196, 3) := sh_b8 (show cL_law.data.toList[1351]? = some 0xb8 by decide +kernel) (show cL_law.data.toList[1352]? = some 0x00 by decide +kernel) (show cL_law.data.toList[1353]? = some 0xc4 by decide +kernel) rfl
theorem dL_law_1354 : decode cL_law 1354 = .ok (.istore 5, 2) := sh_36 (show cL_law.data.toList[1354]? = some 0x36 by decide +kernel) (show cL_law.data.toList[1355]? = some 0x05 by decide +kernel) rfl
theorem dL_law_1356 : decode cL_law 1356 = .ok (.aload_n 2, 1) := sh_2c (show cL_law.data.toList[1356]? = some 0x2c by decide +kernel)
theorem dL_law_1357 : decode cL_law 1357 = .ok (.aload_n 0, 1) := sh_2a (show cL_law.data.toList[1357]? = some 0x2a by decide +kernel)
theorem dL_law_1358 : decode cL_law 1358 = .ok (.iload 4, 2) := sh_15 (show cL_law.data.toList[1358]? = some 0x15 by decide +kernel) (show cL_law.data.toList[1359]? = some 0x04 by decide +kernel) rfl
theorem dL_law_1360 : decode cL_law 1360 = .ok (.iconst 1, 1) := sh_04 (show cL_law.data.toList[1360]? = some 0x04 by decide +kernel)
theorem dL_law_1361 : decode cL_law 1361 = .ok (.iadd, 1) := sh_60 (show cL_law.data.toList[1361]? = some 0x60 by decide +kernel)
theorem dL_law_1362 : decode cL_law 1362 = .ok (.iaload, 1) := sh_2e (show cL_law.data.toList[1362]? = some 0x2e by decide +kernel)
theorem dL_law_1363 : decode cL_law 1363 = .ok (.aload_n 0, 1) := sh_2a (show cL_law.data.toList[1363]? = some 0x2a by decide +kernel)
theorem dL_law_1364 : decode cL_law 1364 = .ok (.iload 4, 2) := sh_15 (show cL_law.data.toList[1364]? = some 0x15 by decide +kernel) (show cL_law.data.toList[1365]? = some 0x04 by decide +kernel) rfl
theorem dL_law_1366 : decode cL_law 1366 = .ok (.iconst 2, 1) := sh_05 (show cL_law.data.toList[1366]? = some 0x05 by decide +kernel)
theorem dL_law_1367 : decode cL_law 1367 = .ok (.iadd, 1) := sh_60 (show cL_law.data.toList[1367]? = some 0x60 by decide +kernel)
theorem dL_law_1368 : decode cL_law 1368 = .ok (.iaload, 1) := sh_2e (show cL_law.data.toList[1368]? = some 0x2e by decide +kernel)
theorem dL_law_1369 : decode cL_law 1369 = .ok (.aload_n 0, 1) := sh_2a (show cL_law.data.toList[1369]? = some 0x2a by decide +kernel)
theorem dL_law_1370 : decode cL_law 1370 = .ok (.iload 4, 2) := sh_15 (show cL_law.data.toList[1370]? = some 0x15 by decide +kernel) (show cL_law.data.toList[1371]? = some 0x04 by decide +kernel) rfl
theorem dL_law_1372 : decode cL_law 1372 = .ok (.iconst 3, 1) := sh_06 (show cL_law.data.toList[1372]? = some 0x06 by decide +kernel)
theorem dL_law_1373 : decode cL_law 1373 = .ok (.iadd, 1) := sh_60 (show cL_law.data.toList[1373]? = some 0x60 by decide +kernel)
theorem dL_law_1374 : decode cL_law 1374 = .ok (.iaload, 1) := sh_2e (show cL_law.data.toList[1374]? = some 0x2e by decide +kernel)
theorem dL_law_1375 : decode cL_law 1375 = .ok (.ifCond .eq 7, 3) := sh_99 (n := 7) (show cL_law.data.toList[1375]? = some 0x99 by decide +kernel) (show cL_law.data.toList[1376]? = some 0x00 by decide +kernel) (show cL_law.data.toList[1377]? = some 0x07 by decide +kernel) rfl (by decide)
theorem dL_law_1378 : decode cL_law 1378 = .ok (.iconst 1, 1) := sh_04 (show cL_law.data.toList[1378]? = some 0x04 by decide +kernel)
theorem dL_law_1379 : decode cL_law 1379 = .ok (.goto 4, 3) := sh_a7 (n := 4) (show cL_law.data.toList[1379]? = some 0xa7 by decide +kernel) (show cL_law.data.toList[1380]? = some 0x00 by decide +kernel) (show cL_law.data.toList[1381]? = some 0x04 by decide +kernel) rfl (by decide)
theorem dL_law_1382 : decode cL_law 1382 = .ok (.iconst 0, 1) := sh_03 (show cL_law.data.toList[1382]? = some 0x03 by decide +kernel)
theorem dL_law_1383 : decode cL_law 1383 = .ok (.invokevirtual 198, 3) := sh_b6 (show cL_law.data.toList[1383]? = some 0xb6 by decide +kernel) (show cL_law.data.toList[1384]? = some 0x00 by decide +kernel) (show cL_law.data.toList[1385]? = some 0xc6 by decide +kernel) rfl
theorem dL_law_1386 : decode cL_law 1386 = .ok (.istore 6, 2) := sh_36 (show cL_law.data.toList[1386]? = some 0x36 by decide +kernel) (show cL_law.data.toList[1387]? = some 0x06 by decide +kernel) rfl
theorem dL_law_1388 : decode cL_law 1388 = .ok (.goto 150, 3) := sh_a7 (n := 150) (show cL_law.data.toList[1388]? = some 0xa7 by decide +kernel) (show cL_law.data.toList[1389]? = some 0x00 by decide +kernel) (show cL_law.data.toList[1390]? = some 0x96 by decide +kernel) rfl (by decide)
theorem dL_law_1391 : decode cL_law 1391 = .ok (.aload_n 1, 1) := sh_2b (show cL_law.data.toList[1391]? = some 0x2b by decide +kernel)
theorem dL_law_1392 : decode cL_law 1392 = .ok (.aload_n 0, 1) := sh_2a (show cL_law.data.toList[1392]? = some 0x2a by decide +kernel)
theorem dL_law_1393 : decode cL_law 1393 = .ok (.iload 4, 2) := sh_15 (show cL_law.data.toList[1393]? = some 0x15 by decide +kernel) (show cL_law.data.toList[1394]? = some 0x04 by decide +kernel) rfl
theorem dL_law_1395 : decode cL_law 1395 = .ok (.iconst 1, 1) := sh_04 (show cL_law.data.toList[1395]? = some 0x04 by decide +kernel)
theorem dL_law_1396 : decode cL_law 1396 = .ok (.iadd, 1) := sh_60 (show cL_law.data.toList[1396]? = some 0x60 by decide +kernel)
theorem dL_law_1397 : decode cL_law 1397 = .ok (.iaload, 1) := sh_2e (show cL_law.data.toList[1397]? = some 0x2e by decide +kernel)
theorem dL_law_1398 : decode cL_law 1398 = .ok (.aload_n 0, 1) := sh_2a (show cL_law.data.toList[1398]? = some 0x2a by decide +kernel)
theorem dL_law_1399 : decode cL_law 1399 = .ok (.iload 4, 2) := sh_15 (show cL_law.data.toList[1399]? = some 0x15 by decide +kernel) (show cL_law.data.toList[1400]? = some 0x04 by decide +kernel) rfl
theorem dL_law_1401 : decode cL_law 1401 = .ok (.iconst 2, 1) := sh_05 (show cL_law.data.toList[1401]? = some 0x05 by decide +kernel)
theorem dL_law_1402 : decode cL_law 1402 = .ok (.iadd, 1) := sh_60 (show cL_law.data.toList[1402]? = some 0x60 by decide +kernel)
theorem dL_law_1403 : decode cL_law 1403 = .ok (.iaload, 1) := sh_2e (show cL_law.data.toList[1403]? = some 0x2e by decide +kernel)
theorem dL_law_1404 : decode cL_law 1404 = .ok (.aload_n 0, 1) := sh_2a (show cL_law.data.toList[1404]? = some 0x2a by decide +kernel)
theorem dL_law_1405 : decode cL_law 1405 = .ok (.iload 4, 2) := sh_15 (show cL_law.data.toList[1405]? = some 0x15 by decide +kernel) (show cL_law.data.toList[1406]? = some 0x04 by decide +kernel) rfl
theorem dL_law_1407 : decode cL_law 1407 = .ok (.iconst 3, 1) := sh_06 (show cL_law.data.toList[1407]? = some 0x06 by decide +kernel)
theorem dL_law_1408 : decode cL_law 1408 = .ok (.iadd, 1) := sh_60 (show cL_law.data.toList[1408]? = some 0x60 by decide +kernel)
theorem dL_law_1409 : decode cL_law 1409 = .ok (.iaload, 1) := sh_2e (show cL_law.data.toList[1409]? = some 0x2e by decide +kernel)
theorem dL_law_1410 : decode cL_law 1410 = .ok (.aload_n 3, 1) := sh_2d (show cL_law.data.toList[1410]? = some 0x2d by decide +kernel)
theorem dL_law_1411 : decode cL_law 1411 = .ok (.invokestatic 199, 3) := sh_b8 (show cL_law.data.toList[1411]? = some 0xb8 by decide +kernel) (show cL_law.data.toList[1412]? = some 0x00 by decide +kernel) (show cL_law.data.toList[1413]? = some 0xc7 by decide +kernel) rfl
theorem dL_law_1414 : decode cL_law 1414 = .ok (.istore 5, 2) := sh_36 (show cL_law.data.toList[1414]? = some 0x36 by decide +kernel) (show cL_law.data.toList[1415]? = some 0x05 by decide +kernel) rfl
theorem dL_law_1416 : decode cL_law 1416 = .ok (.aload_n 2, 1) := sh_2c (show cL_law.data.toList[1416]? = some 0x2c by decide +kernel)
theorem dL_law_1417 : decode cL_law 1417 = .ok (.aload_n 0, 1) := sh_2a (show cL_law.data.toList[1417]? = some 0x2a by decide +kernel)
theorem dL_law_1418 : decode cL_law 1418 = .ok (.iload 4, 2) := sh_15 (show cL_law.data.toList[1418]? = some 0x15 by decide +kernel) (show cL_law.data.toList[1419]? = some 0x04 by decide +kernel) rfl
theorem dL_law_1420 : decode cL_law 1420 = .ok (.iconst 1, 1) := sh_04 (show cL_law.data.toList[1420]? = some 0x04 by decide +kernel)
theorem dL_law_1421 : decode cL_law 1421 = .ok (.iadd, 1) := sh_60 (show cL_law.data.toList[1421]? = some 0x60 by decide +kernel)
theorem dL_law_1422 : decode cL_law 1422 = .ok (.iaload, 1) := sh_2e (show cL_law.data.toList[1422]? = some 0x2e by decide +kernel)
theorem dL_law_1423 : decode cL_law 1423 = .ok (.aload_n 0, 1) := sh_2a (show cL_law.data.toList[1423]? = some 0x2a by decide +kernel)
theorem dL_law_1424 : decode cL_law 1424 = .ok (.iload 4, 2) := sh_15 (show cL_law.data.toList[1424]? = some 0x15 by decide +kernel) (show cL_law.data.toList[1425]? = some 0x04 by decide +kernel) rfl
theorem dL_law_1426 : decode cL_law 1426 = .ok (.iconst 2, 1) := sh_05 (show cL_law.data.toList[1426]? = some 0x05 by decide +kernel)
theorem dL_law_1427 : decode cL_law 1427 = .ok (.iadd, 1) := sh_60 (show cL_law.data.toList[1427]? = some 0x60 by decide +kernel)
theorem dL_law_1428 : decode cL_law 1428 = .ok (.iaload, 1) := sh_2e (show cL_law.data.toList[1428]? = some 0x2e by decide +kernel)
theorem dL_law_1429 : decode cL_law 1429 = .ok (.aload_n 0, 1) := sh_2a (show cL_law.data.toList[1429]? = some 0x2a by decide +kernel)
theorem dL_law_1430 : decode cL_law 1430 = .ok (.iload 4, 2) := sh_15 (show cL_law.data.toList[1430]? = some 0x15 by decide +kernel) (show cL_law.data.toList[1431]? = some 0x04 by decide +kernel) rfl
theorem dL_law_1432 : decode cL_law 1432 = .ok (.iconst 3, 1) := sh_06 (show cL_law.data.toList[1432]? = some 0x06 by decide +kernel)
theorem dL_law_1433 : decode cL_law 1433 = .ok (.iadd, 1) := sh_60 (show cL_law.data.toList[1433]? = some 0x60 by decide +kernel)
theorem dL_law_1434 : decode cL_law 1434 = .ok (.iaload, 1) := sh_2e (show cL_law.data.toList[1434]? = some 0x2e by decide +kernel)
theorem dL_law_1435 : decode cL_law 1435 = .ok (.invokevirtual 201, 3) := sh_b6 (show cL_law.data.toList[1435]? = some 0xb6 by decide +kernel) (show cL_law.data.toList[1436]? = some 0x00 by decide +kernel) (show cL_law.data.toList[1437]? = some 0xc9 by decide +kernel) rfl
theorem dL_law_1438 : decode cL_law 1438 = .ok (.astore 6, 2) := sh_3a (show cL_law.data.toList[1438]? = some 0x3a by decide +kernel) (show cL_law.data.toList[1439]? = some 0x06 by decide +kernel) rfl
theorem dL_law_1440 : decode cL_law 1440 = .ok (.goto 98, 3) := sh_a7 (n := 98) (show cL_law.data.toList[1440]? = some 0xa7 by decide +kernel) (show cL_law.data.toList[1441]? = some 0x00 by decide +kernel) (show cL_law.data.toList[1442]? = some 0x62 by decide +kernel) rfl (by decide)
theorem dL_law_1443 : decode cL_law 1443 = .ok (.aload_n 1, 1) := sh_2b (show cL_law.data.toList[1443]? = some 0x2b by decide +kernel)
theorem dL_law_1444 : decode cL_law 1444 = .ok (.aload_n 0, 1) := sh_2a (show cL_law.data.toList[1444]? = some 0x2a by decide +kernel)
theorem dL_law_1445 : decode cL_law 1445 = .ok (.iload 4, 2) := sh_15 (show cL_law.data.toList[1445]? = some 0x15 by decide +kernel) (show cL_law.data.toList[1446]? = some 0x04 by decide +kernel) rfl
theorem dL_law_1447 : decode cL_law 1447 = .ok (.iconst 1, 1) := sh_04 (show cL_law.data.toList[1447]? = some 0x04 by decide +kernel)
theorem dL_law_1448 : decode cL_law 1448 = .ok (.iadd, 1) := sh_60 (show cL_law.data.toList[1448]? = some 0x60 by decide +kernel)
theorem dL_law_1449 : decode cL_law 1449 = .ok (.iaload, 1) := sh_2e (show cL_law.data.toList[1449]? = some 0x2e by decide +kernel)
theorem dL_law_1450 : decode cL_law 1450 = .ok (.aload_n 0, 1) := sh_2a (show cL_law.data.toList[1450]? = some 0x2a by decide +kernel)
theorem dL_law_1451 : decode cL_law 1451 = .ok (.iload 4, 2) := sh_15 (show cL_law.data.toList[1451]? = some 0x15 by decide +kernel) (show cL_law.data.toList[1452]? = some 0x04 by decide +kernel) rfl
theorem dL_law_1453 : decode cL_law 1453 = .ok (.iconst 2, 1) := sh_05 (show cL_law.data.toList[1453]? = some 0x05 by decide +kernel)
theorem dL_law_1454 : decode cL_law 1454 = .ok (.iadd, 1) := sh_60 (show cL_law.data.toList[1454]? = some 0x60 by decide +kernel)
theorem dL_law_1455 : decode cL_law 1455 = .ok (.iaload, 1) := sh_2e (show cL_law.data.toList[1455]? = some 0x2e by decide +kernel)
theorem dL_law_1456 : decode cL_law 1456 = .ok (.aload_n 3, 1) := sh_2d (show cL_law.data.toList[1456]? = some 0x2d by decide +kernel)
theorem dL_law_1457 : decode cL_law 1457 = .ok (.invokestatic 202, 3) := sh_b8 (show cL_law.data.toList[1457]? = some 0xb8 by decide +kernel) (show cL_law.data.toList[1458]? = some 0x00 by decide +kernel) (show cL_law.data.toList[1459]? = some 0xca by decide +kernel) rfl
theorem dL_law_1460 : decode cL_law 1460 = .ok (.istore 5, 2) := sh_36 (show cL_law.data.toList[1460]? = some 0x36 by decide +kernel) (show cL_law.data.toList[1461]? = some 0x05 by decide +kernel) rfl
theorem dL_law_1462 : decode cL_law 1462 = .ok (.aload_n 2, 1) := sh_2c (show cL_law.data.toList[1462]? = some 0x2c by decide +kernel)
theorem dL_law_1463 : decode cL_law 1463 = .ok (.aload_n 0, 1) := sh_2a (show cL_law.data.toList[1463]? = some 0x2a by decide +kernel)
theorem dL_law_1464 : decode cL_law 1464 = .ok (.iload 4, 2) := sh_15 (show cL_law.data.toList[1464]? = some 0x15 by decide +kernel) (show cL_law.data.toList[1465]? = some 0x04 by decide +kernel) rfl
theorem dL_law_1466 : decode cL_law 1466 = .ok (.iconst 1, 1) := sh_04 (show cL_law.data.toList[1466]? = some 0x04 by decide +kernel)
theorem dL_law_1467 : decode cL_law 1467 = .ok (.iadd, 1) := sh_60 (show cL_law.data.toList[1467]? = some 0x60 by decide +kernel)
theorem dL_law_1468 : decode cL_law 1468 = .ok (.iaload, 1) := sh_2e (show cL_law.data.toList[1468]? = some 0x2e by decide +kernel)
theorem dL_law_1469 : decode cL_law 1469 = .ok (.aload_n 0, 1) := sh_2a (show cL_law.data.toList[1469]? = some 0x2a by decide +kernel)
theorem dL_law_1470 : decode cL_law 1470 = .ok (.iload 4, 2) := sh_15 (show cL_law.data.toList[1470]? = some 0x15 by decide +kernel) (show cL_law.data.toList[1471]? = some 0x04 by decide +kernel) rfl
theorem dL_law_1472 : decode cL_law 1472 = .ok (.iconst 2, 1) := sh_05 (show cL_law.data.toList[1472]? = some 0x05 by decide +kernel)
theorem dL_law_1473 : decode cL_law 1473 = .ok (.iadd, 1) := sh_60 (show cL_law.data.toList[1473]? = some 0x60 by decide +kernel)
theorem dL_law_1474 : decode cL_law 1474 = .ok (.iaload, 1) := sh_2e (show cL_law.data.toList[1474]? = some 0x2e by decide +kernel)
theorem dL_law_1475 : decode cL_law 1475 = .ok (.invokevirtual 204, 3) := sh_b6 (show cL_law.data.toList[1475]? = some 0xb6 by decide +kernel) (show cL_law.data.toList[1476]? = some 0x00 by decide +kernel) (show cL_law.data.toList[1477]? = some 0xcc by decide +kernel) rfl
theorem dL_law_1478 : decode cL_law 1478 = .ok (.istore 6, 2) := sh_36 (show cL_law.data.toList[1478]? = some 0x36 by decide +kernel) (show cL_law.data.toList[1479]? = some 0x06 by decide +kernel) rfl
theorem dL_law_1480 : decode cL_law 1480 = .ok (.aload_n 2, 1) := sh_2c (show cL_law.data.toList[1480]? = some 0x2c by decide +kernel)
theorem dL_law_1481 : decode cL_law 1481 = .ok (.invokevirtual 205, 3) := sh_b6 (show cL_law.data.toList[1481]? = some 0xb6 by decide +kernel) (show cL_law.data.toList[1482]? = some 0x00 by decide +kernel) (show cL_law.data.toList[1483]? = some 0xcd by decide +kernel) rfl
theorem dL_law_1484 : decode cL_law 1484 = .ok (.iload 5, 2) := sh_15 (show cL_law.data.toList[1484]? = some 0x15 by decide +kernel) (show cL_law.data.toList[1485]? = some 0x05 by decide +kernel) rfl
theorem dL_law_1486 : decode cL_law 1486 = .ok (.if_icmp .eq 5, 3) := sh_9f (n := 5) (show cL_law.data.toList[1486]? = some 0x9f by decide +kernel) (show cL_law.data.toList[1487]? = some 0x00 by decide +kernel) (show cL_law.data.toList[1488]? = some 0x05 by decide +kernel) rfl (by decide)
theorem dL_law_1489 : decode cL_law 1489 = .ok (.iconst 0, 1) := sh_03 (show cL_law.data.toList[1489]? = some 0x03 by decide +kernel)
theorem dL_law_1490 : decode cL_law 1490 = .ok (.ireturn, 1) := sh_ac (show cL_law.data.toList[1490]? = some 0xac by decide +kernel)
theorem dL_law_1491 : decode cL_law 1491 = .ok (.iload 5, 2) := sh_15 (show cL_law.data.toList[1491]? = some 0x15 by decide +kernel) (show cL_law.data.toList[1492]? = some 0x05 by decide +kernel) rfl
theorem dL_law_1493 : decode cL_law 1493 = .ok (.ifCond .ne 16, 3) := sh_9a (n := 16) (show cL_law.data.toList[1493]? = some 0x9a by decide +kernel) (show cL_law.data.toList[1494]? = some 0x00 by decide +kernel) (show cL_law.data.toList[1495]? = some 0x10 by decide +kernel) rfl (by decide)
theorem dL_law_1496 : decode cL_law 1496 = .ok (.aload_n 3, 1) := sh_2d (show cL_law.data.toList[1496]? = some 0x2d by decide +kernel)
theorem dL_law_1497 : decode cL_law 1497 = .ok (.getfield 13, 3) := sh_b4 (show cL_law.data.toList[1497]? = some 0xb4 by decide +kernel) (show cL_law.data.toList[1498]? = some 0x00 by decide +kernel) (show cL_law.data.toList[1499]? = some 0x0d by decide +kernel) rfl
theorem dL_law_1500 : decode cL_law 1500 = .ok (.iload 6, 2) := sh_15 (show cL_law.data.toList[1500]? = some 0x15 by decide +kernel) (show cL_law.data.toList[1501]? = some 0x06 by decide +kernel) rfl
theorem dL_law_1502 : decode cL_law 1502 = .ok (.i2l, 1) := sh_85 (show cL_law.data.toList[1502]? = some 0x85 by decide +kernel)
theorem dL_law_1503 : decode cL_law 1503 = .ok (.lcmp, 1) := sh_94 (show cL_law.data.toList[1503]? = some 0x94 by decide +kernel)
theorem dL_law_1504 : decode cL_law 1504 = .ok (.ifCond .eq 5, 3) := sh_99 (n := 5) (show cL_law.data.toList[1504]? = some 0x99 by decide +kernel) (show cL_law.data.toList[1505]? = some 0x00 by decide +kernel) (show cL_law.data.toList[1506]? = some 0x05 by decide +kernel) rfl (by decide)
theorem dL_law_1507 : decode cL_law 1507 = .ok (.iconst 0, 1) := sh_03 (show cL_law.data.toList[1507]? = some 0x03 by decide +kernel)
theorem dL_law_1508 : decode cL_law 1508 = .ok (.ireturn, 1) := sh_ac (show cL_law.data.toList[1508]? = some 0xac by decide +kernel)
theorem dL_law_1509 : decode cL_law 1509 = .ok (.goto 29, 3) := sh_a7 (n := 29) (show cL_law.data.toList[1509]? = some 0xa7 by decide +kernel) (show cL_law.data.toList[1510]? = some 0x00 by decide +kernel) (show cL_law.data.toList[1511]? = some 0x1d by decide +kernel) rfl (by decide)
theorem dL_law_1512 : decode cL_law 1512 = .ok (.aload_n 1, 1) := sh_2b (show cL_law.data.toList[1512]? = some 0x2b by decide +kernel)
theorem dL_law_1513 : decode cL_law 1513 = .ok (.invokevirtual 208, 3) := sh_b6 (show cL_law.data.toList[1513]? = some 0xb6 by decide +kernel) (show cL_law.data.toList[1514]? = some 0x00 by decide +kernel) (show cL_law.data.toList[1515]? = some 0xd0 by decide +kernel) rfl
theorem dL_law_1516 : decode cL_law 1516 = .ok (.pop, 1) := sh_57 (show cL_law.data.toList[1516]? = some 0x57 by decide +kernel)
theorem dL_law_1517 : decode cL_law 1517 = .ok (.aload_n 2, 1) := sh_2c (show cL_law.data.toList[1517]? = some 0x2c by decide +kernel)
theorem dL_law_1518 : decode cL_law 1518 = .ok (.invokevirtual 212, 3) := sh_b6 (show cL_law.data.toList[1518]? = some 0xb6 by decide +kernel) (show cL_law.data.toList[1519]? = some 0x00 by decide +kernel) (show cL_law.data.toList[1520]? = some 0xd4 by decide +kernel) rfl
theorem dL_law_1521 : decode cL_law 1521 = .ok (.pop, 1) := sh_57 (show cL_law.data.toList[1521]? = some 0x57 by decide +kernel)
theorem dL_law_1522 : decode cL_law 1522 = .ok (.goto 16, 3) := sh_a7 (n := 16) (show cL_law.data.toList[1522]? = some 0xa7 by decide +kernel) (show cL_law.data.toList[1523]? = some 0x00 by decide +kernel) (show cL_law.data.toList[1524]? = some 0x10 by decide +kernel) rfl (by decide)
theorem dL_law_1525 : decode cL_law 1525 = .ok (.aload_n 1, 1) := sh_2b (show cL_law.data.toList[1525]? = some 0x2b by decide +kernel)
theorem dL_law_1526 : decode cL_law 1526 = .ok (.invokevirtual 213, 3) := sh_b6 (show cL_law.data.toList[1526]? = some 0xb6 by decide +kernel) (show cL_law.data.toList[1527]? = some 0x00 by decide +kernel) (show cL_law.data.toList[1528]? = some 0xd5 by decide +kernel) rfl
theorem dL_law_1529 : decode cL_law 1529 = .ok (.pop2, 1) := sh_58 (show cL_law.data.toList[1529]? = some 0x58 by decide +kernel)
theorem dL_law_1530 : decode cL_law 1530 = .ok (.aload_n 2, 1) := sh_2c (show cL_law.data.toList[1530]? = some 0x2c by decide +kernel)
theorem dL_law_1531 : decode cL_law 1531 = .ok (.invokevirtual 217, 3) := sh_b6 (show cL_law.data.toList[1531]? = some 0xb6 by decide +kernel) (show cL_law.data.toList[1532]? = some 0x00 by decide +kernel) (show cL_law.data.toList[1533]? = some 0xd9 by decide +kernel) rfl
theorem dL_law_1534 : decode cL_law 1534 = .ok (.pop2, 1) := sh_58 (show cL_law.data.toList[1534]? = some 0x58 by decide +kernel)
theorem dL_law_1535 : decode cL_law 1535 = .ok (.goto 3, 3) := sh_a7 (n := 3) (show cL_law.data.toList[1535]? = some 0xa7 by decide +kernel) (show cL_law.data.toList[1536]? = some 0x00 by decide +kernel) (show cL_law.data.toList[1537]? = some 0x03 by decide +kernel) rfl (by decide)
theorem dL_law_1538 : decode cL_law 1538 = .ok (.iinc 4 5, 3) := sh_84 (show cL_law.data.toList[1538]? = some 0x84 by decide +kernel) (show cL_law.data.toList[1539]? = some 0x04 by decide +kernel) (show cL_law.data.toList[1540]? = some 0x05 by decide +kernel) rfl (by decide)
theorem dL_law_1541 : decode cL_law 1541 = .ok (.goto (-1514), 3) := sh_a7 (n := 64022) (show cL_law.data.toList[1541]? = some 0xa7 by decide +kernel) (show cL_law.data.toList[1542]? = some 0xfa by decide +kernel) (show cL_law.data.toList[1543]? = some 0x16 by decide +kernel) rfl (by decide)
theorem dL_law_1544 : decode cL_law 1544 = .ok (.iconst 1, 1) := sh_04 (show cL_law.data.toList[1544]? = some 0x04 by decide +kernel)
theorem dL_law_1545 : decode cL_law 1545 = .ok (.ireturn, 1) := sh_ac (show cL_law.data.toList[1545]? = some 0xac by decide +kernel)
